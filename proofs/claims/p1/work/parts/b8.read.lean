/-! BITS, reading -/
def xb (tp : Nat → Nat) (q : Nat) : Bool := bt (nI (tp (q / 8))) (7 - q % 8)
def bvI (x : Nat → Bool) (q : Nat) : Nat → Int32
  | 0 => 0
  | k + 1 => (bvI x q k <<< ((1 : Int32) &&& 31)) ||| nI (x (q + k)).toNat
theorem bvI_bt (x : Nat → Bool) (q : Nat) : ∀ k, k ≤ 32 → ∀ i, i < 32 → bt (bvI x q k) i = (decide (i < k) && x (q + (k - 1 - i))) := by
  intro k
  induction k with
  | zero => intro _ i _; rw [decide_eq_false (by omega), Bool.false_and]; exact b_0 i
  | succ k ih =>
    intro hk i hi
    show bt ((bvI x q k <<< ((1 : Int32) &&& 31)) ||| nI (x (q + k)).toNat) i = _
    rw [b_or, show bt (bvI x q k <<< ((1 : Int32) &&& 31)) i = (decide (1 ≤ i) && bt (bvI x q k) (i - 1)) from b_shl 1 (by omega) _ hi, btb]
    by_cases h0 : i = 0
    · subst h0
      rw [decide_eq_false (show ¬ 1 ≤ 0 by omega), Bool.false_and, Bool.false_or, decide_eq_true rfl, Bool.and_true, decide_eq_true (show 0 < k + 1 by omega), Bool.true_and, show k + 1 - 1 - 0 = k by omega]
    · rw [decide_eq_true (show 1 ≤ i by omega), Bool.true_and, decide_eq_false h0, Bool.and_false, Bool.or_false, ih (by omega) (i - 1) (by omega)]
      by_cases h1 : i < k + 1
      · rw [decide_eq_true h1, decide_eq_true (show i - 1 < k by omega), show k - 1 - (i - 1) = k + 1 - 1 - i by omega]
      · rw [decide_eq_false h1, decide_eq_false (show ¬ i - 1 < k by omega), Bool.false_and, Bool.false_and]
theorem bvI_32 (x : Nat → Bool) (q : Nat) : bvI x q 32 = (bvI x q 16 <<< ((16 : Int32) &&& 31)) ||| bvI x (q + 16) 16 := by
  apply b_ext
  intro i hi
  rw [b_or, b_shl16 _ hi, bvI_bt x q 32 (by omega) i hi, bvI_bt x (q + 16) 16 (by omega) i hi]
  by_cases h : i < 16
  · rw [decide_eq_false (show ¬ 16 ≤ i by omega), Bool.false_and, Bool.false_or, decide_eq_true hi, decide_eq_true h, show q + (32 - 1 - i) = q + 16 + (16 - 1 - i) by omega]
  · rw [decide_eq_true (show 16 ≤ i by omega), Bool.true_and, bvI_bt x q 16 (by omega) (i - 16) (by omega), decide_eq_true hi, decide_eq_false h, Bool.false_and, Bool.or_false, decide_eq_true (show i - 16 < 16 by omega), show 16 - 1 - (i - 16) = 32 - 1 - i by omega]
def bvN (x : Nat → Bool) (q : Nat) : Nat → Nat
  | 0 => 0
  | k + 1 => 2 * bvN x q k + (x (q + k)).toNat
theorem bvN_lt (x : Nat → Bool) (q k : Nat) : bvN x q k < 2 ^ k := by
  induction k with
  | zero => exact Nat.zero_lt_one
  | succ k ih =>
    have := tN_le (x (q + k))
    rw [Nat.pow_succ]
    show 2 * bvN x q k + _ < _
    omega
theorem or_2N {n b : Nat} (hb : b < 2) : nI (2 * n) ||| nI b = nI (2 * n + b) := by
  have h : b = 0 ∨ b = 1 := by omega
  rcases h with rfl | rfl
  · show nI (2 * n) ||| 0 = _
    rw [Int32.or_zero]
    rfl
  · apply b_ext
    intro i hi
    rw [b_or]
    show (bt (nI (2 * n)) i || bt 1 i) = _
    rw [bt1]
    have e1 : ∀ m, bt (nI m) i = m.testBit i := by
      intro m
      unfold bt
      show (BitVec.ofNat 32 m).getLsbD i = _
      rw [BitVec.getLsbD_ofNat]
      simp [hi]
    rw [e1, e1]
    by_cases h0 : i = 0
    · subst h0
      simp [Nat.testBit_zero]
    · obtain ⟨j, rfl⟩ : ∃ j, i = j + 1 := ⟨i - 1, by omega⟩
      rw [decide_eq_false (by omega), Bool.or_false, Nat.testBit_succ, Nat.testBit_succ, show (2 * n + 1) / 2 = 2 * n / 2 by omega]
theorem bvI_N (x : Nat → Bool) (q : Nat) : ∀ k, k ≤ 30 → bvI x q k = nI (bvN x q k) := by
  intro k
  induction k with
  | zero => intro _; rfl
  | succ k ih =>
    intro hk
    have h1 := bvN_lt x q k
    have h2 : 2 ^ k ≤ 2 ^ 29 := Nat.pow_le_pow_right (by omega) (by omega)
    have h3 := tN_le (x (q + k))
    show (bvI x q k <<< ((1 : Int32) &&& 31)) ||| nI (x (q + k)).toNat = nI (2 * bvN x q k + (x (q + k)).toNat)
    rw [ih (by omega), shl1 (by omega), Nat.mul_comm, or_2N (by omega)]
theorem bit_c {tp : Nat → Nat} {F nb q : Nat} {f : Nat → Int32} {flt fa : Int32} (hF : F ≤ nb) (hnb : nb < 1000000) (hf : ∀ j, j < F → f j = nI (tp j)) (hq : q < 8 * F) : BitReader_bit_f (nI q) (nI (8 * F)) (nI F) nb f flt fa = some (nI (xb tp q).toNat, flt, fa, nI (q + 1)) := by
  unfold BitReader_bit_f
  have e1 : nI q >>> ((3 : Int32) &&& 31) = nI (q / 8) := pk_shrN (show q < 2 ^ 31 by omega) ((3 : Int32) &&& 31) 3 (by decide)
  have e2 : nI q &&& (7 : Int32) = nI (q % 8) := pk_andN (show q < 2 ^ 32 by omega) (m := (7 : Int32)) 3 (by decide)
  have e3 : (7 : Int32) - nI (q % 8) = nI (7 - q % 8) := pk_sub (show q % 8 ≤ 7 by omega)
  rw [if_pos (nI_lt hq (by omega)), e1, e2, e3, row_get (show q / 8 < F by omega) hF (by omega), bd_s, hf _ (show q / 8 < F by omega), sshr1 _ (by omega), nI_1]
  rfl
theorem bit_ce {F nb : Nat} {f : Nat → Int32} {flt fa : Int32} (hF : F ≤ 1000000) : BitReader_bit_f (nI (8 * F)) (nI (8 * F)) (nI F) nb f flt fa = some ((-1 : Int32), nI 2, nI (8 * F), nI (8 * F)) := by
  unfold BitReader_bit_f
  rw [if_neg (nI_nlt (Nat.le_refl _) (by omega))]
  rfl
theorem b2n_ne (b : Bool) : ¬ nI b.toNat = (-1 : Int32) := by cases b <;> decide
theorem take_c {tp : Nat → Nat} {F nb q k : Nat} {f : Nat → Int32} {flt fa : Int32} (hF : F ≤ nb) (hnb : nb < 1000000) (hf : ∀ j, j < F → f j = nI (tp j)) (hk : k ≤ 32) (hq : q + k ≤ 8 * F) : BitReader_take_f (nI k) (nI (8 * F)) (nI F) nb f flt fa (nI q) = some ((1 : Int32), bvI (xb tp) q k, flt, fa, nI (q + k)) := by
  have key : lpF (BitReader_take_L7 (nI k) (nI (8 * F)) (nI F) nb f) gas (nI 0, bvI (xb tp) q 0, flt, fa, nI (q + 0)) = some (Sum.inr (bvI (xb tp) q k, flt, fa, nI (q + k))) := by
    refine lp_gas (fun i => (nI i, bvI (xb tp) q i, flt, fa, nI (q + i))) (i0 := 0) (N := k) (Nat.zero_le _) (by omega) ?_ ?_
    · intro i _ hi
      show (if nI k ≤ nI i then _ else bd (BitReader_bit_f (nI (q + i)) (nI (8 * F)) (nI F) nb f flt fa) (fun u7 => (if u7.1 = (-1 : Int32) then _ else some (Sum.inl (nI i + (1 : Int32), (bvI (xb tp) q i <<< ((1 : Int32) &&& 31)) ||| u7.1, u7.2.1, u7.2.2.1, u7.2.2.2))))) = _
      rw [if_neg (nI_ge hi (by omega)), bit_c hF hnb hf (by omega), bd_s]
      show (if nI (xb tp (q + i)).toNat = (-1 : Int32) then _ else some (Sum.inl (nI i + (1 : Int32), (bvI (xb tp) q i <<< ((1 : Int32) &&& 31)) ||| nI (xb tp (q + i)).toNat, flt, fa, nI (q + i + 1)))) = _
      rw [if_neg (b2n_ne _), nI_1]
      rfl
    · show (if nI k ≤ nI k then _ else _) = _
      rw [if_pos (nI_le (Nat.le_refl _) (by omega))]
  unfold BitReader_take_f
  rw [show lpF (BitReader_take_L7 (nI k) (nI (8 * F)) (nI F) nb f) gas ((0 : Int32), (0 : Int32), flt, fa, nI q) = some (Sum.inr (bvI (xb tp) q k, flt, fa, nI (q + k))) from key, bd_s]
  rfl
theorem take_ce {tp : Nat → Nat} {F nb q k : Nat} {f : Nat → Int32} {flt fa : Int32} (hF : F ≤ nb) (hnb : nb < 1000000) (hf : ∀ j, j < F → f j = nI (tp j)) (hk : k ≤ 32) (hq0 : q ≤ 8 * F) (hq : 8 * F < q + k) : ∃ tk, BitReader_take_f (nI k) (nI (8 * F)) (nI F) nb f flt fa (nI q) = some ((0 : Int32), tk, nI 2, nI (8 * F), nI (8 * F)) := by
  have key : lpF (BitReader_take_L7 (nI k) (nI (8 * F)) (nI F) nb f) gas (nI 0, bvI (xb tp) q 0, flt, fa, nI (q + 0)) = some (Sum.inl (bvI (xb tp) q (8 * F - q), nI 2, nI (8 * F), nI (8 * F))) := by
    refine lp_gas (fun i => (nI i, bvI (xb tp) q i, flt, fa, nI (q + i))) (i0 := 0) (N := 8 * F - q) (Nat.zero_le _) (by omega) ?_ ?_
    · intro i _ hi
      show (if nI k ≤ nI i then _ else bd (BitReader_bit_f (nI (q + i)) (nI (8 * F)) (nI F) nb f flt fa) (fun u7 => (if u7.1 = (-1 : Int32) then _ else some (Sum.inl (nI i + (1 : Int32), (bvI (xb tp) q i <<< ((1 : Int32) &&& 31)) ||| u7.1, u7.2.1, u7.2.2.1, u7.2.2.2))))) = _
      rw [if_neg (nI_ge (by omega) (by omega)), bit_c hF hnb hf (by omega), bd_s]
      show (if nI (xb tp (q + i)).toNat = (-1 : Int32) then _ else some (Sum.inl (nI i + (1 : Int32), (bvI (xb tp) q i <<< ((1 : Int32) &&& 31)) ||| nI (xb tp (q + i)).toNat, flt, fa, nI (q + i + 1)))) = _
      rw [if_neg (b2n_ne _), nI_1]
      rfl
    · rw [show q + (8 * F - q) = 8 * F by omega]
      show (if nI k ≤ nI (8 * F - q) then _ else bd (BitReader_bit_f (nI (8 * F)) (nI (8 * F)) (nI F) nb f flt fa) (fun u7 => (if u7.1 = (-1 : Int32) then some (Sum.inr (Sum.inl (bvI (xb tp) q (8 * F - q), u7.2.1, u7.2.2.1, u7.2.2.2))) else _))) = _
      rw [if_neg (nI_ge (by omega) (by omega)), bit_ce (by omega), bd_s, if_pos rfl]
  refine ⟨bvI (xb tp) q (8 * F - q), ?_⟩
  unfold BitReader_take_f
  rw [show lpF (BitReader_take_L7 (nI k) (nI (8 * F)) (nI F) nb f) gas ((0 : Int32), (0 : Int32), flt, fa, nI q) = some (Sum.inl (bvI (xb tp) q (8 * F - q), nI 2, nI (8 * F), nI (8 * F))) from key, bd_s]
  rfl
theorem nb_bt : ∀ v, v < 256 → ∀ i, i < 8 → bt ((nI v).toInt8.toInt32) i = bt (nI v) i := by decide +kernel
theorem mbit {tp : Nat → Nat} {F q : Nat} {tape : Nat → Int32} (hF : F ≤ 10240) (ht : ∀ j, j < F → tape j = nb (tp j) ∧ tp j < 256) (hq : q < 8 * F) : ((tape (nI q / (8 : Int32)).toNatClampNeg) >>> (((7 : Int32) - (nI q - nI q / (8 : Int32) * (8 : Int32))) &&& 31)) &&& (1 : Int32) = nI (xb tp q).toNat ∧ ix (nI q / (8 : Int32)) 10240 = true := by
  have e1 : nI q / (8 : Int32) = nI (q / 8) := pk_div (a := q) (d := 8) (by omega) (by omega) (by omega)
  have e2 : nI q - nI q / (8 : Int32) * (8 : Int32) = nI (q % 8) := pk_rem (a := q) (d := 8) (by omega) (by omega) (by omega)
  have e3 : (7 : Int32) - nI (q % 8) = nI (7 - q % 8) := pk_sub (show q % 8 ≤ 7 by omega)
  obtain ⟨t1, t2⟩ := ht (q / 8) (by omega)
  refine ⟨?_, by rw [e1]; exact ixN (by omega) (by omega)⟩
  rw [e2, e3, e1, nI_clamp (by omega), t1, sshr1 _ (by omega)]
  unfold nb
  rw [vp_nar_byte, nb_bt _ t2 _ (by omega)]
  rfl
theorem read_m {tp : Nat → Nat} {F q k : Nat} {tape : Nat → Int32} {pl : Int32} (hF : F ≤ 10240) (ht : ∀ j, j < F → tape j = nb (tp j) ∧ tp j < 256) (hk : k ≤ 32) (hq : q + k ≤ 8 * F) : Model_read_f (0 : Int32) (nI k) (nI (8 * F)) tape (nI q) pl = some (bvI (xb tp) q k, (0 : Int32), pl, nI (q + k)) := by
  have key : lpF (Model_read_L13 (nI k) (nI (8 * F)) tape) gas (bvI (xb tp) q 0, nI 0, nI (q + 0)) = some (Sum.inr (bvI (xb tp) q k, nI (q + k))) := by
    refine lp_gas (fun i => (bvI (xb tp) q i, nI i, nI (q + i))) (i0 := 0) (N := k) (Nat.zero_le _) (by omega) ?_ ?_
    · intro i _ hi
      obtain ⟨b1, b2⟩ := mbit hF ht (show q + i < 8 * F by omega)
      show (if nI k ≤ nI i then _ else (if nI (q + i) = nI (8 * F) then _ else gd (ix (nI (q + i) / (8 : Int32)) 10240) (some (Sum.inl ((bvI (xb tp) q i <<< ((1 : Int32) &&& 31)) ||| (((tape (nI (q + i) / (8 : Int32)).toNatClampNeg) >>> (((7 : Int32) - (nI (q + i) - nI (q + i) / (8 : Int32) * (8 : Int32))) &&& 31)) &&& (1 : Int32)), nI i + (1 : Int32), nI (q + i) + (1 : Int32)))))) = _
      rw [if_neg (nI_ge hi (by omega)), if_neg (by rw [nI_eq (by omega) (by omega)]; omega), b2, gd_t, b1, nI_1, nI_1]
      rfl
    · show (if nI k ≤ nI k then _ else _) = _
      rw [if_pos (nI_le (Nat.le_refl _) (by omega))]
  unfold Model_read_f
  rw [if_pos rfl, show lpF (Model_read_L13 (nI k) (nI (8 * F)) tape) gas ((0 : Int32), (0 : Int32), nI q) = some (Sum.inr (bvI (xb tp) q k, nI (q + k))) from key, bd_s]
  rfl
theorem read_me {tp : Nat → Nat} {F q k : Nat} {tape : Nat → Int32} {pl : Int32} (hF : F ≤ 10240) (ht : ∀ j, j < F → tape j = nb (tp j) ∧ tp j < 256) (hk : k ≤ 32) (hq0 : q ≤ 8 * F) (hq : 8 * F < q + k) : Model_read_f (0 : Int32) (nI k) (nI (8 * F)) tape (nI q) pl = some ((0 : Int32), nI 2, nI (8 * F), nI (8 * F)) := by
  have key : lpF (Model_read_L13 (nI k) (nI (8 * F)) tape) gas (bvI (xb tp) q 0, nI 0, nI (q + 0)) = some (Sum.inl (nI (8 * F))) := by
    refine lp_gas (fun i => (bvI (xb tp) q i, nI i, nI (q + i))) (i0 := 0) (N := 8 * F - q) (Nat.zero_le _) (by omega) ?_ ?_
    · intro i _ hi
      obtain ⟨b1, b2⟩ := mbit hF ht (show q + i < 8 * F by omega)
      show (if nI k ≤ nI i then _ else (if nI (q + i) = nI (8 * F) then _ else gd (ix (nI (q + i) / (8 : Int32)) 10240) (some (Sum.inl ((bvI (xb tp) q i <<< ((1 : Int32) &&& 31)) ||| (((tape (nI (q + i) / (8 : Int32)).toNatClampNeg) >>> (((7 : Int32) - (nI (q + i) - nI (q + i) / (8 : Int32) * (8 : Int32))) &&& 31)) &&& (1 : Int32)), nI i + (1 : Int32), nI (q + i) + (1 : Int32)))))) = _
      rw [if_neg (nI_ge (by omega) (by omega)), if_neg (by rw [nI_eq (by omega) (by omega)]; omega), b2, gd_t, b1, nI_1, nI_1]
      rfl
    · rw [show q + (8 * F - q) = 8 * F by omega]
      show (if nI k ≤ nI (8 * F - q) then _ else (if nI (8 * F) = nI (8 * F) then some (Sum.inr (Sum.inl (nI (8 * F)))) else _)) = _
      rw [if_neg (nI_ge (by omega) (by omega)), if_pos rfl]
  unfold Model_read_f
  rw [if_pos rfl, show lpF (Model_read_L13 (nI k) (nI (8 * F)) tape) gas ((0 : Int32), (0 : Int32), nI q) = some (Sum.inl (nI (8 * F))) from key, bd_s]
  rfl
theorem read_mf {k tot : Int32} {tape : Nat → Int32} {flt bit pl : Int32} (h : ¬ flt = 0) : Model_read_f flt k tot tape bit pl = some ((0 : Int32), flt, pl, bit) := by
  unfold Model_read_f
  rw [if_neg h]
theorem fine_0 : Model_isFine_f (0 : Int32) = some (1 : Int32) := by
  unfold Model_isFine_f Model_isFine_J12
  rw [if_pos rfl]
  rfl
theorem fine_n {flt : Int32} (h : ¬ flt = 0) : Model_isFine_f flt = some (0 : Int32) := by
  unfold Model_isFine_f Model_isFine_J12
  rw [if_neg h]
  rfl
theorem stop_0 (k at' pl : Int32) : Model_stop_f (0 : Int32) k at' pl = some ((0 : Int32), k, at') := by
  unfold Model_stop_f Model_stop_J17
  rw [if_pos rfl]
theorem stop_n {flt : Int32} (k at' pl : Int32) (h : ¬ flt = 0) : Model_stop_f flt k at' pl = some ((0 : Int32), flt, pl) := by
  unfold Model_stop_f Model_stop_J17
  rw [if_neg h]
