/-! the bytes of a number; feed -/
def bN (x : Int32) (k : Nat) : Nat := x.toBitVec.toNat / 2 ^ (24 - 8 * k) % 256
theorem sh8 (x : BitVec 32) (s : Nat) (hs : s ≤ 24) : (x.sshiftRight s).setWidth 8 = (BitVec.ofNat 32 (x.toNat / 2 ^ s % 256)).setWidth 8 := by
  apply BitVec.eq_of_getLsbD_eq
  intro i hi
  rw [BitVec.getLsbD_setWidth, BitVec.getLsbD_setWidth, BitVec.getLsbD_sshiftRight, BitVec.getLsbD_ofNat]
  rw [show (256:Nat) = 2 ^ 8 from rfl, Nat.testBit_mod_two_pow, Nat.testBit_div_two_pow]
  have h1 : i < 32 := by omega
  have h2 : s + i < 32 := by omega
  simp [hi, h1, h2, BitVec.getLsbD, Nat.add_comm]
theorem shB (x : Int32) (s : Nat) (hs : s = 0 ∨ s = 8 ∨ s = 16 ∨ s = 24) : (x >>> nI s).toInt8 = (nI (x.toBitVec.toNat / 2 ^ s % 256)).toInt8 := by
  rw [← Int8.toBitVec_inj]
  show ((x >>> nI s).toBitVec).signExtend 8 = ((nI (x.toBitVec.toNat / 2 ^ s % 256)).toBitVec).signExtend 8
  have h : (x >>> nI s).toBitVec = x.toBitVec.sshiftRight s := by
    rcases hs with rfl | rfl | rfl | rfl <;> rfl
  rw [h, BitVec.signExtend_eq_setWidth_of_le _ (by decide), BitVec.signExtend_eq_setWidth_of_le _ (by decide)]
  exact sh8 _ s (by omega)
theorem i32_ext {a b : Int32} (h : a.toBitVec.toNat = b.toBitVec.toNat) : a = b := by
  rw [← Int32.toBitVec_inj]; exact BitVec.eq_of_toNat_eq h
theorem nI_bvn {v : Nat} (h : v < 2 ^ 32) : (nI v).toBitVec.toNat = v := by
  show (BitVec.ofNat 32 v).toNat = v
  rw [BitVec.toNat_ofNat, Nat.mod_eq_of_lt h]
theorem ush_n (x : Int32) (s : Nat) (hs : s = 8 ∨ s = 16 ∨ s = 24) : (ush x (nI s)).toBitVec.toNat = x.toBitVec.toNat / 2 ^ s := by
  have h : (ush x (nI s)).toBitVec = x.toBitVec >>> s := by
    rcases hs with rfl | rfl | rfl <;> rfl
  rw [h, BitVec.toNat_ushiftRight, Nat.shiftRight_eq_div_pow]
theorem and_n (x : Int32) : (x &&& (255 : Int32)).toBitVec.toNat = x.toBitVec.toNat % 256 := by
  rw [Int32.toBitVec_and, BitVec.toNat_and]
  show x.toBitVec.toNat &&& (2 ^ 8 - 1) = _
  rw [Nat.and_two_pow_sub_one_eq_mod]
theorem bN_lt (x : Int32) (k : Nat) : bN x k < 256 := Nat.mod_lt _ (by decide)
theorem by0 (x : Int32) : ush x (24 : Int32) = nI (bN x 0) := by
  apply i32_ext
  rw [nI_bvn (Nat.lt_trans (bN_lt x 0) (by decide)), show (24 : Int32) = nI 24 from rfl, ush_n x 24 (by omega)]
  unfold bN
  have h := x.toBitVec.isLt
  show _ / 2 ^ 24 = _ / 2 ^ 24 % 256
  rw [Nat.mod_eq_of_lt (by omega)]
theorem by1 (x : Int32) : (ush x (16 : Int32)) &&& (255 : Int32) = nI (bN x 1) := by
  apply i32_ext
  rw [nI_bvn (Nat.lt_trans (bN_lt x 1) (by decide)), and_n, show (16 : Int32) = nI 16 from rfl, ush_n x 16 (by omega)]
  rfl
theorem by2 (x : Int32) : (ush x (8 : Int32)) &&& (255 : Int32) = nI (bN x 2) := by
  apply i32_ext
  rw [nI_bvn (Nat.lt_trans (bN_lt x 2) (by decide)), and_n, show (8 : Int32) = nI 8 from rfl, ush_n x 8 (by omega)]
  rfl
theorem by3 (x : Int32) : x &&& (255 : Int32) = nI (bN x 3) := by
  apply i32_ext
  rw [nI_bvn (Nat.lt_trans (bN_lt x 3) (by decide)), and_n]
  show _ = _ / 2 ^ 0 % 256
  rw [Nat.pow_zero, Nat.div_one]
theorem nar_sh (x : Int32) (r : Nat) (hr : r < 4) : vp_nar .byte (vp_nar .byte (x >>> nI (24 - 8 * r))) = nb (bN x r) := by
  have h : (x >>> nI (24 - 8 * r)).toInt8 = (nI (bN x r)).toInt8 := shB x (24 - 8 * r) (by omega)
  show ((x >>> nI (24 - 8 * r)).toInt8.toInt32).toInt8.toInt32 = (nI (bN x r)).toInt8.toInt32
  rw [Int8.toInt8_toInt32, h]
theorem addN_c {c n : Nat} {f : Nat → Int32} {x : Int32} (hc : c + 4 ≤ n) (hn : n ≤ 67108864) : ∃ f2 : Nat → Int32, ByteRow_addNumber_f (nI c) n x f = some (n, f2, nI (c + 4)) ∧ (∀ j, j < c → f2 j = f j) ∧ ∀ k, k < 4 → f2 (c + k) = nI (bN x k) := by
  obtain ⟨f1, e1, a1, b1⟩ := row_add (n := n) (c := c) (f := f) (v := ush x (24 : Int32)) (by omega) (by omega) hn
  rw [if_pos (by omega)] at e1
  obtain ⟨f2, e2, a2, b2⟩ := row_add (n := n) (c := c + 1) (f := f1) (v := (ush x (16 : Int32)) &&& (255 : Int32)) (by omega) (by omega) hn
  rw [if_pos (by omega)] at e2
  obtain ⟨f3, e3, a3, b3⟩ := row_add (n := n) (c := c + 1 + 1) (f := f2) (v := (ush x (8 : Int32)) &&& (255 : Int32)) (by omega) (by omega) hn
  rw [if_pos (by omega)] at e3
  obtain ⟨f4, e4, a4, b4⟩ := row_add (n := n) (c := c + 1 + 1 + 1) (f := f3) (v := x &&& (255 : Int32)) (by omega) (by omega) hn
  rw [if_pos (by omega)] at e4
  refine ⟨f4, ?_, fun j hj => by rw [a4 j (by omega), a3 j (by omega), a2 j (by omega), a1 j hj], fun k hk => ?_⟩
  · unfold ByteRow_addNumber_f
    rw [e1, bd_s]
    dsimp only
    rw [e2, bd_s]
    dsimp only
    rw [e3, bd_s]
    dsimp only
    rw [e4, bd_s]
  · rcases (by omega : k = 0 ∨ k = 1 ∨ k = 2 ∨ k = 3) with rfl | rfl | rfl | rfl
    · rw [Nat.add_zero, a4 c (by omega), a3 c (by omega), a2 c (by omega), b1]
      exact by0 x
    · rw [a4 _ (by omega), a3 _ (by omega), b2]
      exact by1 x
    · rw [a4 (c + 2) (by omega), show c + 2 = c + 1 + 1 from rfl, b3]
      exact by2 x
    · rw [show c + 3 = c + 1 + 1 + 1 from rfl, b4]
      exact by3 x
noncomputable def fdW (p1 p2 p3 p4 p5 : Int32) (k : Nat) : Int32 := if k < 4 then p1 else if k < 8 then p2 else if k < 12 then p3 else if k < 16 then p4 else p5
noncomputable def fdB (p1 p2 p3 p4 p5 : Int32) (k : Nat) : Nat := bN (fdW p1 p2 p3 p4 p5 k) (k % 4)
theorem fdB_lt (p1 p2 p3 p4 p5 : Int32) (k : Nat) : fdB p1 p2 p3 p4 p5 k < 256 := bN_lt _ _
theorem feed_c {c : Nat} {f : Nat → Int32} {p1 p2 p3 p4 p5 : Int32} (hc : c ≤ 10220) : ∃ f2 : Nat → Int32, Press_feed_f (nI c) 10240 p1 f p2 p3 p4 p5 = some (nI (c + 20), 10240, f2, nI (c + 20)) ∧ (∀ j, j < c → f2 j = f j) ∧ ∀ k, k < 20 → f2 (c + k) = nI (fdB p1 p2 p3 p4 p5 k) := by
  obtain ⟨f1, e1, a1, b1⟩ := addN_c (c := c) (n := 10240) (f := f) (x := p1) (by omega) (by omega)
  obtain ⟨f2, e2, a2, b2⟩ := addN_c (c := c + 4) (n := 10240) (f := f1) (x := p2) (by omega) (by omega)
  obtain ⟨f3, e3, a3, b3⟩ := addN_c (c := c + 4 + 4) (n := 10240) (f := f2) (x := p3) (by omega) (by omega)
  obtain ⟨f4, e4, a4, b4⟩ := addN_c (c := c + 4 + 4 + 4) (n := 10240) (f := f3) (x := p4) (by omega) (by omega)
  obtain ⟨f5, e5, a5, b5⟩ := addN_c (c := c + 4 + 4 + 4 + 4) (n := 10240) (f := f4) (x := p5) (by omega) (by omega)
  refine ⟨f5, ?_, fun j hj => by rw [a5 j (by omega), a4 j (by omega), a3 j (by omega), a2 j (by omega), a1 j hj], fun k hk => ?_⟩
  · unfold Press_feed_f
    rw [if_pos (show nI c ≤ (10220 : Int32) from nI_le (b := 10220) hc (by omega)), e1, bd_s]
    dsimp only
    rw [e2, bd_s]
    dsimp only
    rw [e3, bd_s]
    dsimp only
    rw [e4, bd_s]
    dsimp only
    rw [e5, bd_s]
  · unfold fdB fdW
    by_cases h1 : k < 4
    · rw [if_pos h1, a5 _ (by omega), a4 _ (by omega), a3 _ (by omega), a2 _ (by omega), b1 k h1, Nat.mod_eq_of_lt h1]
    rw [if_neg h1]
    by_cases h2 : k < 8
    · rw [if_pos h2, a5 _ (by omega), a4 _ (by omega), a3 _ (by omega), show c + k = c + 4 + (k - 4) by omega, b2 _ (by omega), show k - 4 = k % 4 by omega]
    rw [if_neg h2]
    by_cases h3 : k < 12
    · rw [if_pos h3, a5 _ (by omega), a4 _ (by omega), show c + k = c + 4 + 4 + (k - 8) by omega, b3 _ (by omega), show k - 8 = k % 4 by omega]
    rw [if_neg h3]
    by_cases h4 : k < 16
    · rw [if_pos h4, a5 _ (by omega), show c + k = c + 4 + 4 + 4 + (k - 12) by omega, b4 _ (by omega), show k - 12 = k % 4 by omega]
    rw [if_neg h4, show c + k = c + 4 + 4 + 4 + 4 + (k - 16) by omega, b5 _ (by omega), show k - 16 = k % 4 by omega]
theorem fd_sh : ∀ i, i < 20 → ((24 : Int32) - ((8 : Int32) * (nI i - nI i / (4 : Int32) * (4 : Int32)))) &&& 31 = nI (24 - 8 * (i % 4)) := by decide +kernel
theorem feed_J84 {c i : Nat} {g : Nat → Int32} {w : Int32} (hc : c ≤ 10220) (hi : i < 20) : Model_feed_J84 (nI c) (nI i, g) w = some (Sum.inl (nI (i + 1), upd g (c + i) (nb (bN w (i % 4))))) := by
  unfold Model_feed_J84
  dsimp only
  rw [show nI c + nI i = nI (c + i) from nI_add c i, ixN (i := c + i) (n := 10240) (by omega) (by omega), fd_sh i hi, nar_sh w (i % 4) (by omega), nI_clamp (by omega), show nI i + (1 : Int32) = nI (i + 1) from nI_add i 1]
  rfl
theorem feed_m {c : Nat} {tape : Nat → Int32} {p1 p2 p3 p4 p5 : Int32} (hc : c ≤ 10220) : ∃ t2 : Nat → Int32, Model_feed_f (nI c) p5 p4 p3 p2 p1 tape = some (nI (c + 20), (0 : Int32), t2, nI (c + 20)) ∧ (∀ j, j < c → t2 j = tape j) ∧ ∀ k, k < 20 → t2 (c + k) = nb (fdB p1 p2 p3 p4 p5 k) := by
  let st : Nat → Int32 × (Nat → Int32) := fun i => (nI i, fun j => if c ≤ j ∧ j < c + i then nb (fdB p1 p2 p3 p4 p5 (j - c)) else tape j)
  have hup : ∀ i, i < 20 → upd (st i).2 (c + i) (nb (bN (fdW p1 p2 p3 p4 p5 i) (i % 4))) = (st (i + 1)).2 := by
    intro i hi
    funext j
    by_cases hj : j = c + i
    · subst hj
      rw [pk_us]
      show _ = if c ≤ c + i ∧ c + i < c + (i + 1) then _ else _
      rw [if_pos ⟨by omega, by omega⟩, show c + i - c = i by omega]
      rfl
    · rw [pk_un hj]
      show (if c ≤ j ∧ j < c + i then _ else _) = if c ≤ j ∧ j < c + (i + 1) then _ else _
      by_cases h : c ≤ j ∧ j < c + i
      · rw [if_pos h, if_pos ⟨h.1, by omega⟩]
      · rw [if_neg h, if_neg (by omega)]
  have hl : lpF (Model_feed_L31 (nI c) p5 p4 p3 p2 p1) gas (st 0) = some (st 20).2 := by
    refine lp_gas st (N := 20) (Nat.zero_le _) (by omega) ?_ ?_
    · intro i _ hi
      show (if (20 : Int32) ≤ nI i then _ else _) = _
      rw [if_neg (show ¬ (20 : Int32) ≤ nI i from nI_ge (a := i) (b := 20) hi (by omega))]
      have key : ∀ w, w = fdW p1 p2 p3 p4 p5 i → Model_feed_J84 (nI c) (st i) w = some (Sum.inl (st (i + 1))) := by
        intro w hw
        rw [show st i = (nI i, (st i).2) from rfl, feed_J84 hc hi, hw, hup i hi]
      by_cases h1 : i < 4
      · rw [if_neg (show ¬ (4 : Int32) ≤ (st i).1 from nI_ge (a := i) (b := 4) h1 (by omega))]
        exact key _ (by unfold fdW; rw [if_pos h1])
      rw [if_pos (show (4 : Int32) ≤ (st i).1 from nI_le (a := 4) (b := i) (by omega) (by omega))]
      by_cases h2 : i < 8
      · rw [if_neg (show ¬ (8 : Int32) ≤ (st i).1 from nI_ge (a := i) (b := 8) h2 (by omega))]
        exact key _ (by unfold fdW; rw [if_neg h1, if_pos h2])
      rw [if_pos (show (8 : Int32) ≤ (st i).1 from nI_le (a := 8) (b := i) (by omega) (by omega))]
      by_cases h3 : i < 12
      · rw [if_neg (show ¬ (12 : Int32) ≤ (st i).1 from nI_ge (a := i) (b := 12) h3 (by omega))]
        exact key _ (by unfold fdW; rw [if_neg h1, if_neg h2, if_pos h3])
      rw [if_pos (show (12 : Int32) ≤ (st i).1 from nI_le (a := 12) (b := i) (by omega) (by omega))]
      by_cases h4 : i < 16
      · rw [if_neg (show ¬ (16 : Int32) ≤ (st i).1 from nI_ge (a := i) (b := 16) h4 (by omega))]
        exact key _ (by unfold fdW; rw [if_neg h1, if_neg h2, if_neg h3, if_pos h4])
      rw [if_pos (show (16 : Int32) ≤ (st i).1 from nI_le (a := 16) (b := i) (by omega) (by omega))]
      exact key _ (by unfold fdW; rw [if_neg h1, if_neg h2, if_neg h3, if_neg h4])
    · show (if (20 : Int32) ≤ nI 20 then _ else _) = _
      rw [if_pos (by decide)]
  have h0 : st 0 = ((0 : Int32), tape) := by
    show (nI 0, _) = _
    refine congrArg (Prod.mk _) ?_
    funext j
    exact if_neg (by omega)
  rw [h0] at hl
  refine ⟨(st 20).2, ?_, fun j hj => if_neg (by omega), fun k hk => ?_⟩
  · unfold Model_feed_f Model_feed_J19
    rw [if_pos (show nI c + (20 : Int32) ≤ (10240 : Int32) from by rw [show nI c + (20 : Int32) = nI (c + 20) from nI_add c 20]; exact nI_le (b := 10240) (by omega) (by omega)), show Model_fails_f (0 : Int32) (1 : Int32) = some ((0 : Int32), (0 : Int32)) from rfl, bd_s]
    dsimp only
    rw [if_pos rfl, hl, bd_s, show nI c + (20 : Int32) = nI (c + 20) from nI_add c 20]
  · show (if c ≤ c + k ∧ c + k < c + 20 then _ else _) = _
    rw [if_pos ⟨by omega, by omega⟩, show c + k - c = k by omega]
theorem feed_mr {c : Nat} {tape : Nat → Int32} {p1 p2 p3 p4 p5 : Int32} (hc : 10220 < c) (hc2 : c ≤ 10240) : Model_feed_f (nI c) p5 p4 p3 p2 p1 tape = some ((0 : Int32), (1 : Int32), tape, nI c) := by
  unfold Model_feed_f Model_feed_J19
  rw [if_neg (show ¬ nI c + (20 : Int32) ≤ (10240 : Int32) from by rw [show nI c + (20 : Int32) = nI (c + 20) from nI_add c 20]; exact nI_ge (a := 10240) (b := c + 20) (by omega) (by omega)), show Model_fails_f (1 : Int32) (1 : Int32) = some ((1 : Int32), (1 : Int32)) from rfl, bd_s]
  rfl
