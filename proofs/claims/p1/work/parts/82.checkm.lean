/-! THE CHECK, the reference's: bit by bit -/
theorem b_1 : ∀ j, j < 32 → bt 1 j = decide (j = 0) := by decide +kernel
theorem bt_one {x : Int32} (h : ∀ j, 1 ≤ j → j < 32 → bt x j = false) : x = 1 ↔ bt x 0 = true := by
  constructor
  · intro e
    rw [e]; rfl
  · intro e
    apply b_ext
    intro j hj
    rw [b_1 j hj]
    by_cases h0 : j = 0
    · subst h0; rw [e]; rfl
    · rw [h j (by omega) hj]; simp [h0]
def mv (c : Int32) (b : Nat) : Nat → Int32
  | 0 => c
  | i + 1 => (mv c b i <<< ((1 : Int32) &&& 31)) ^^^ (if ((ush (mv c b i) (31 : Int32)) ^^^ ((nI b >>> (nI (7 - i) &&& 31)) &&& (1 : Int32))) = (1 : Int32) then (79764919 : Int32) else (0 : Int32))
theorem mv_s (c : Int32) (b i : Nat) : mv c b (i + 1) = (mv c b i <<< ((1 : Int32) &&& 31)) ^^^ (if ((ush (mv c b i) (31 : Int32)) ^^^ ((nI b >>> (nI (7 - i) &&& 31)) &&& (1 : Int32))) = (1 : Int32) then (79764919 : Int32) else (0 : Int32)) := rfl
def sbb (b : Nat) : Nat → Int32
  | 0 => nI b <<< ((24 : Int32) &&& 31)
  | i + 1 => sbb b i <<< ((1 : Int32) &&& 31)
theorem sbb_bt (b : Nat) : ∀ i j, j < 32 → bt (sbb b i) j = (decide (24 + i ≤ j) && bt (nI b) (j - (24 + i))) := by
  intro i
  induction i with
  | zero => intro j hj; exact b_shl24 _ hj
  | succ i ih =>
    intro j hj
    have hs : bt (sbb b i <<< ((1 : Int32) &&& 31)) j = (decide (1 ≤ j) && bt (sbb b i) (j - 1)) := b_shl 1 (by omega) _ hj
    show bt (sbb b i <<< ((1 : Int32) &&& 31)) j = _
    rw [hs, ih (j - 1) (by omega)]
    by_cases h : 24 + (i + 1) ≤ j
    · simp [h, show 1 ≤ j by omega, show 24 + i ≤ j - 1 by omega, show j - 1 - (24 + i) = j - (24 + (i + 1)) by omega]
    · have h2 : ¬ 24 + i ≤ j - 1 := by omega
      simp only [h, h2, decide_false, Bool.false_and, Bool.and_false]
theorem mv_goes (c : Int32) (b i : Nat) (hi : i < 8) : ((ush (mv c b i) (31 : Int32)) ^^^ ((nI b >>> (nI (7 - i) &&& 31)) &&& (1 : Int32))) = (1 : Int32) ↔ (bt (mv c b i) 31 ^^ bt (nI b) (7 - i)) = true := by
  have hu : ∀ j, bt (ush (mv c b i) (31 : Int32)) j = bt (mv c b i) (31 + j) := fun j => b_ushr 31 (by omega) _ j
  have hz : ∀ j, j < 32 → bt ((ush (mv c b i) (31 : Int32)) ^^^ ((nI b >>> (nI (7 - i) &&& 31)) &&& (1 : Int32))) j = (decide (j = 0) && (bt (mv c b i) 31 ^^ bt (nI b) (7 - i))) := by
    intro j hj
    rw [b_xor, b_and, hu, b_1 j hj, b_sshr (7 - i) (by omega) _ hj]
    by_cases h0 : j = 0
    · subst h0
      rw [if_pos (show 7 - i + 0 < 32 by omega)]
      simp
    · rw [b_big (show 32 ≤ 31 + j by omega)]
      simp [h0]
  rw [bt_one (fun j h1 h2 => by rw [hz j h2]; simp [show ¬ j = 0 by omega]), hz 0 (by omega)]
  simp
theorem mv_csi (c : Int32) (b : Nat) : ∀ i, i ≤ 8 → mv c b i ^^^ sbb b i = csi i (c ^^^ sbb b 0) := by
  intro i
  induction i with
  | zero => intro _; rfl
  | succ i ih =>
    intro hi
    show _ = cs (csi i (c ^^^ sbb b 0))
    rw [← ih (by omega)]
    apply b_ext
    intro j hj
    have hm : bt (mv c b (i + 1)) j = ((decide (1 ≤ j) && bt (mv c b i) (j - 1)) ^^ ((bt (mv c b i) 31 ^^ bt (nI b) (7 - i)) && bt 79764919 j)) := by
      have hs : bt (mv c b i <<< ((1 : Int32) &&& 31)) j = (decide (1 ≤ j) && bt (mv c b i) (j - 1)) := b_shl 1 (by omega) _ hj
      rw [mv_s, b_xor, hs]
      by_cases h : ((ush (mv c b i) (31 : Int32)) ^^^ ((nI b >>> (nI (7 - i) &&& 31)) &&& (1 : Int32))) = (1 : Int32)
      · rw [if_pos h, (mv_goes c b i (by omega)).mp h]
        simp
      · have h2 : (bt (mv c b i) 31 ^^ bt (nI b) (7 - i)) = false := by
          cases h3 : (bt (mv c b i) 31 ^^ bt (nI b) (7 - i)) with
          | false => rfl
          | true => exact absurd ((mv_goes c b i (by omega)).mpr h3) h
        rw [if_neg h, h2, b_0]
        simp
    have hs2 : bt (sbb b (i + 1)) j = (decide (1 ≤ j) && bt (sbb b i) (j - 1)) := b_shl 1 (by omega) _ hj
    have h31 : bt (sbb b i) 31 = bt (nI b) (7 - i) := by
      rw [sbb_bt b i 31 (by omega)]
      simp [show 24 + i ≤ 31 by omega, show 31 - (24 + i) = 7 - i by omega]
    rw [b_xor, hm, hs2, cs_bt _ hj, b_xor, b_xor, h31]
    cases decide (1 ≤ j) <;> cases bt (mv c b i) (j - 1) <;> cases bt (sbb b i) (j - 1) <;> cases bt (mv c b i) 31 <;> cases bt (nI b) (7 - i) <;> cases bt 79764919 j <;> rfl
theorem mv_8 (c : Int32) (b : Nat) : mv c b 8 = chk c b := by
  have h := mv_csi c b 8 (Nat.le_refl 8)
  have h0 : sbb b 8 = 0 := by
    apply b_ext
    intro j hj
    rw [sbb_bt b 8 j hj, b_0]
    simp [show ¬ 32 ≤ j by omega]
  rw [h0, Int32.xor_zero] at h
  exact h
/-- the reference's check of a byte -/
theorem checked_eq (c : Int32) (b : Nat) : Model_checked_f (nI b) c = some (chk c b) := by
  have key : lpF (Model_checked_L5 (nI b)) gas (mv c b 0, nI 7) = some (mv c b 8) := by
    refine lp_gas (fun i => (mv c b i, if i ≤ 7 then nI (7 - i) else (-1 : Int32))) (N := 8) (i0 := 0) (Nat.zero_le 8) (by omega) ?_ ?_
    · intro i _ hi
      have h7 : i ≤ 7 := by omega
      show Model_checked_L5 (nI b) (mv c b i, if i ≤ 7 then nI (7 - i) else (-1 : Int32)) = some (Sum.inl (mv c b (i + 1), if i + 1 ≤ 7 then nI (7 - (i + 1)) else (-1 : Int32)))
      rw [if_pos h7]
      have hk : nI (7 - i) + (-1 : Int32) = if i + 1 ≤ 7 then nI (7 - (i + 1)) else (-1 : Int32) := by
        by_cases h : i + 1 ≤ 7
        · rw [if_pos h, show 7 - i = (7 - (i + 1)) + 1 by omega]
          exact pk_m1 _
        · rw [if_neg h, show 7 - i = 0 by omega]
          decide
      unfold Model_checked_L5 Model_checked_J36
      show (if nI (7 - i) < 0 then _ else _) = _
      rw [if_neg (nI_pos (by omega)), ← hk]
      rw [mv_s]
      by_cases h : ((ush (mv c b i) (31 : Int32)) ^^^ ((nI b >>> (nI (7 - i) &&& 31)) &&& (1 : Int32))) = (1 : Int32)
      · rw [if_pos h, if_pos h]
      · rw [if_neg h, if_neg h]
    · show (if (-1 : Int32) < 0 then _ else _) = _
      rw [if_pos (by decide)]
  show bd (lpF (Model_checked_L5 (nI b)) gas (c, nI 7)) _ = _
  rw [show (c, nI 7) = (mv c b 0, nI 7) from rfl, key]
  show some (mv c b 8) = _
  rw [mv_8]
