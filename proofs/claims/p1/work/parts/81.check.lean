/-! ===== Int32 by its bits: bt x i ===== -/
def bt (x : Int32) (i : Nat) : Bool := x.toBitVec.getLsbD i
theorem b_ext {x y : Int32} (h : ∀ i, i < 32 → bt x i = bt y i) : x = y := Int32.toBitVec_inj.mp (BitVec.eq_of_getLsbD_eq (fun i hi => h i hi))
theorem b_or (x y : Int32) (i : Nat) : bt (x ||| y) i = (bt x i || bt y i) := by unfold bt; rw [Int32.toBitVec_or, BitVec.getLsbD_or]
theorem b_and (x y : Int32) (i : Nat) : bt (x &&& y) i = (bt x i && bt y i) := by unfold bt; rw [Int32.toBitVec_and, BitVec.getLsbD_and]
theorem b_xor (x y : Int32) (i : Nat) : bt (x ^^^ y) i = (bt x i ^^ bt y i) := by unfold bt; rw [Int32.toBitVec_xor, BitVec.getLsbD_xor]
theorem b_big {x : Int32} {i : Nat} (h : 32 ≤ i) : bt x i = false := BitVec.getLsbD_of_ge _ _ h
theorem b_255 (i : Nat) : bt 255 i = decide (i < 8) := by
  rcases Nat.lt_or_ge i 32 with h | h
  · exact (by decide +kernel : ∀ i, i < 32 → bt 255 i = decide (i < 8)) i h
  · rw [b_big h, decide_eq_false (by omega)]
theorem b_65535 (i : Nat) : bt 65535 i = decide (i < 16) := by
  rcases Nat.lt_or_ge i 32 with h | h
  · exact (by decide +kernel : ∀ i, i < 32 → bt 65535 i = decide (i < 16)) i h
  · rw [b_big h, decide_eq_false (by omega)]
theorem b_m1 : ∀ i, i < 32 → bt (-1) i = true := by decide +kernel
theorem b_0 (i : Nat) : bt 0 i = false := BitVec.getLsbD_zero
theorem s_l : ∀ n, n < 32 → ((nI n &&& 31).toBitVec.smod 32).toNat = n := by decide +kernel
theorem s_u : ∀ n, n < 32 → (((nI n).toUInt32 &&& Int32.toUInt32 31).toBitVec % 32).toNat = n := by decide +kernel
theorem b_shl (n : Nat) (hn : n < 32) (x : Int32) {i : Nat} (hi : i < 32) : bt (x <<< (nI n &&& 31)) i = (decide (n ≤ i) && bt x (i - n)) := by
  unfold bt
  rw [Int32.toBitVec_shiftLeft]
  show (x.toBitVec <<< ((nI n &&& 31).toBitVec.smod 32).toNat).getLsbD i = _
  rw [s_l n hn, BitVec.getLsbD_shiftLeft]
  rcases Nat.lt_or_ge i n with h | h
  · simp [h, Nat.not_le.mpr h]
  · simp [hi, h, Nat.not_lt.mpr h]
theorem b_ushr (n : Nat) (hn : n < 32) (x : Int32) (i : Nat) : bt ((x.toUInt32 >>> ((nI n).toUInt32 &&& Int32.toUInt32 31)).toInt32) i = bt x (n + i) := by
  show (x.toUInt32 >>> ((nI n).toUInt32 &&& Int32.toUInt32 31)).toBitVec.getLsbD i = x.toUInt32.toBitVec.getLsbD (n + i)
  rw [UInt32.toBitVec_shiftRight]
  show (x.toUInt32.toBitVec >>> (((nI n).toUInt32 &&& Int32.toUInt32 31).toBitVec % 32).toNat).getLsbD i = _
  rw [s_u n hn, BitVec.getLsbD_ushiftRight]
theorem b_sshr (n : Nat) (hn : n < 32) (x : Int32) {i : Nat} (hi : i < 32) : bt (x >>> (nI n &&& 31)) i = if n + i < 32 then bt x (n + i) else bt x 31 := by
  unfold bt
  rw [Int32.toBitVec_shiftRight]
  show (x.toBitVec.sshiftRight ((nI n &&& 31).toBitVec.smod 32).toNat).getLsbD i = _
  rw [s_l n hn, BitVec.getLsbD_sshiftRight, BitVec.msb_eq_getLsbD_last]
  simp [hi]
theorem b_shl8 (x : Int32) {i : Nat} (hi : i < 32) : bt (x <<< ((8 : Int32) &&& 31)) i = (decide (8 ≤ i) && bt x (i - 8)) := b_shl 8 (by omega) x hi
theorem b_shl16 (x : Int32) {i : Nat} (hi : i < 32) : bt (x <<< ((16 : Int32) &&& 31)) i = (decide (16 ≤ i) && bt x (i - 16)) := b_shl 16 (by omega) x hi
theorem b_shl24 (x : Int32) {i : Nat} (hi : i < 32) : bt (x <<< ((24 : Int32) &&& 31)) i = (decide (24 ≤ i) && bt x (i - 24)) := b_shl 24 (by omega) x hi
theorem b_sshr8 (x : Int32) {i : Nat} (hi : i < 32) : bt (x >>> ((8 : Int32) &&& 31)) i = if 8 + i < 32 then bt x (8 + i) else bt x 31 := b_sshr 8 (by omega) x hi
/-! THE CHECK: one step, eight steps, the table -/
theorem bt_sign (x : Int32) : 0 ≤ x ↔ bt x 31 = false := by
  have h1 : bt x 31 = x.toBitVec.msb := by
    unfold bt
    rw [BitVec.msb_eq_getLsbD_last]
  rw [h1, BitVec.msb_eq_toInt, Int32.le_iff_toInt_le]
  show (0 : Int) ≤ x.toBitVec.toInt ↔ _
  simp
def cs (x : Int32) : Int32 := if 0 ≤ x then x <<< ((1 : Int32) &&& 31) else (x <<< ((1 : Int32) &&& 31)) ^^^ (79764919 : Int32)
theorem cs_bt (x : Int32) {i : Nat} (hi : i < 32) : bt (cs x) i = ((decide (1 ≤ i) && bt x (i - 1)) ^^ (bt x 31 && bt 79764919 i)) := by
  unfold cs
  have hs : bt (x <<< ((1 : Int32) &&& 31)) i = (decide (1 ≤ i) && bt x (i - 1)) := b_shl 1 (by omega) x hi
  by_cases h : 0 ≤ x
  · rw [if_pos h, hs, (bt_sign x).mp h]
    simp
  · have h2 : bt x 31 = true := by
      cases h3 : bt x 31 with
      | true => rfl
      | false => exact absurd ((bt_sign x).mpr h3) h
    rw [if_neg h, b_xor, hs, h2]
    simp
theorem cs_xor (x y : Int32) : cs (x ^^^ y) = cs x ^^^ cs y := by
  apply b_ext
  intro i hi
  rw [b_xor, cs_bt _ hi, cs_bt _ hi, cs_bt _ hi, b_xor, b_xor]
  cases decide (1 ≤ i) <;> cases bt x (i - 1) <;> cases bt y (i - 1) <;> cases bt x 31 <;> cases bt y 31 <;> cases bt 79764919 i <;> rfl
def csi : Nat → Int32 → Int32
  | 0, x => x
  | n + 1, x => cs (csi n x)
theorem csi_xor (n : Nat) (x y : Int32) : csi n (x ^^^ y) = csi n x ^^^ csi n y := by
  induction n with
  | zero => rfl
  | succ n ih => show cs (csi n (x ^^^ y)) = cs (csi n x) ^^^ cs (csi n y); rw [ih, cs_xor]
/-- the table's inner loop: eight steps -/
theorem chk_inner (x : Int32) : lpF Check_init_tail_L34 gas (x, nI 0) = some (csi 8 x) := by
  refine lp_gas (fun i => (csi i x, nI i)) (N := 8) (Nat.zero_le 8) (by omega) ?_ ?_
  · intro i _ hi
    show (if nI 8 ≤ nI i then _ else (if 0 ≤ csi i x then Check_init_tail_J56 (csi i x, nI i) (csi i x <<< ((1 : Int32) &&& 31)) else Check_init_tail_J56 (csi i x, nI i) ((csi i x <<< ((1 : Int32) &&& 31)) ^^^ (79764919 : Int32)))) = _
    rw [if_neg (nI_ge hi (by omega))]
    show _ = some (Sum.inl (cs (csi i x), nI (i + 1)))
    unfold Check_init_tail_J56 cs
    by_cases h : 0 ≤ csi i x
    · rw [if_pos h, if_pos h]
      show some (Sum.inl (_, nI i + 1)) = _
      rw [nI_1]
    · rw [if_neg h, if_neg h]
      show some (Sum.inl (_, nI i + 1)) = _
      rw [nI_1]
  · show (if nI 8 ≤ nI 8 then _ else _) = _
    rw [if_pos (nI_le (Nat.le_refl 8) (by omega))]
/-- the table -/
def chkT : Nat → Int32 := fun j => csi 8 (nI j <<< ((24 : Int32) &&& 31))
def tbr (T f : Nat → Int32) (c : Nat) : Nat → Int32 := fun j => if j < c then T j else f j
theorem tbr_s (T f : Nat → Int32) (c : Nat) : upd (tbr T f c) c (T c) = tbr T f (c + 1) := by
  funext j
  unfold upd tbr
  by_cases h1 : j = c
  · subst h1
    rw [if_pos rfl, if_pos (by omega)]
  · rw [if_neg h1]
    by_cases h2 : j < c
    · rw [if_pos h2, if_pos (by omega)]
    · rw [if_neg h2, if_neg (by omega)]
theorem tbr_0 (T f : Nat → Int32) : tbr T f 0 = f := by
  funext j
  exact if_neg (by omega)
theorem chk_init : Check_init_f = some (tbr chkT (fun _ => 0) 256) := by
  have key : lpF Check_init_tail_L20 gas (nI 0, tbr chkT (fun _ => 0) 0) = some (tbr chkT (fun _ => 0) 256) := by
    refine lp_gas (fun i => (nI i, tbr chkT (fun _ => 0) i)) (N := 256) (Nat.zero_le _) (by omega) ?_ ?_
    · intro i _ hi
      show (if nI 256 ≤ nI i then _ else bd (lpF Check_init_tail_L34 gas (nI i <<< ((24 : Int32) &&& 31), nI 0)) _) = _
      rw [if_neg (nI_ge hi (by omega)), chk_inner]
      show gd (ix (nI i) 256) (some (Sum.inl (nI i + 1, upd _ (nI i).toNatClampNeg (chkT i)))) = _
      rw [ixN hi (by omega), nI_1, nI_clamp (by omega), tbr_s]
      rfl
    · show (if nI 256 ≤ nI 256 then _ else _) = _
      rw [if_pos (nI_le (Nat.le_refl 256) (by omega))]
  rw [tbr_0] at key
  show bd (lpF Check_init_tail_L20 gas (nI 0, fun _ => 0)) _ = _
  rw [key]
  rfl
/-- one byte joined to the check -/
def chk (c : Int32) (b : Nat) : Int32 := csi 8 (c ^^^ (nI b <<< ((24 : Int32) &&& 31)))
theorem csi_low (x : Int32) (hx : ∀ j, 24 ≤ j → j < 32 → bt x j = false) : ∀ n, n ≤ 8 → ∀ j, j < 32 → bt (csi n x) j = (decide (n ≤ j) && bt x (j - n)) := by
  intro n
  induction n with
  | zero => intro _ j _; simp [csi]
  | succ n ih =>
    intro hn j hj
    show bt (cs (csi n x)) j = _
    rw [cs_bt _ hj, ih (by omega) 31 (by omega), hx (31 - n) (by omega) (by omega)]
    by_cases h1 : 1 ≤ j
    · rw [ih (by omega) (j - 1) (by omega)]
      by_cases h2 : n + 1 ≤ j
      · simp [h1, h2, show n ≤ j - 1 by omega, show j - 1 - n = j - (n + 1) by omega]
      · simp [h2, show ¬ n ≤ j - 1 by omega]
    · simp [h1, show ¬ n + 1 ≤ j by omega]
/-- Check.add, with the table -/
theorem chk_add (c : Int32) {b : Nat} (hb : b < 256) (f : Nat → Int32) (hf : ∀ j, j < 256 → f j = chkT j) : Check_add_f c (nI b) f = some (chk c b) := by
  obtain ⟨m, hm, em⟩ := pk_andE ((ush c (24 : Int32)) ^^^ nI b) (m := (255 : Int32)) 8 (by decide)
  unfold Check_add_f
  rw [em]
  refine gd_of (ixN hm (by omega)) ?_
  rw [nI_clamp (by omega), hf m hm]
  refine congrArg some ?_
  unfold chk chkT
  rw [← em]
  generalize hh : ((ush c (24 : Int32) ^^^ nI b) &&& (255 : Int32)) <<< ((24 : Int32) &&& 31) = hi
  have hhi : ∀ j, j < 32 → bt hi j = (decide (24 ≤ j) && (bt c j ^^ bt (nI b) (j - 24))) := by
    intro j hj
    rw [← hh, b_shl24 _ hj, b_and, b_xor, b_255]
    have hu : bt (ush c (24 : Int32)) (j - 24) = bt c (24 + (j - 24)) := b_ushr 24 (by omega) c (j - 24)
    rw [hu]
    by_cases h : 24 ≤ j
    · simp [h, show j - 24 < 8 by omega, show 24 + (j - 24) = j by omega]
    · simp [h]
  have hlo : csi 8 (c ^^^ (nI b <<< ((24 : Int32) &&& 31)) ^^^ hi) = c <<< ((8 : Int32) &&& 31) := by
    have hbits : ∀ j, j < 32 → bt (c ^^^ (nI b <<< ((24 : Int32) &&& 31)) ^^^ hi) j = (decide (j < 24) && bt c j) := by
      intro j hj
      rw [b_xor, b_xor, b_shl24 _ hj, hhi j hj]
      by_cases h : 24 ≤ j
      · have h2 : ¬ j < 24 := by omega
        simp only [h, h2, decide_true, decide_false, Bool.true_and, Bool.false_and]
        cases bt c j <;> cases bt (nI b) (j - 24) <;> rfl
      · have h2 : j < 24 := by omega
        simp [h, h2]
    apply b_ext
    intro j hj
    rw [csi_low _ (fun j h1 h2 => by rw [hbits j h2]; simp [show ¬ j < 24 by omega]) 8 (by omega) j hj, b_shl8 _ hj]
    by_cases h : 8 ≤ j
    · rw [hbits (j - 8) (by omega)]
      simp [h, show j - 8 < 24 by omega]
    · simp [h]
  rw [← hlo, ← csi_xor]
  refine congrArg (csi 8) ?_
  rw [Int32.xor_assoc, Int32.xor_self, Int32.xor_zero]
