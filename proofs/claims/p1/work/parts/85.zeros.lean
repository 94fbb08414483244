/-! SYMBOLS: a row of z zeros is told by digits -/
def tz (f : Nat → Int32) (c z : Nat) : (Nat → Int32) × Nat := if h : z = 0 then (f, c) else tz (upd f c (nI ((z - 1) % 2))) (c + 1) ((z - 1) / 2)
termination_by z
decreasing_by omega
theorem tz_0 (f : Nat → Int32) (c : Nat) : tz f c 0 = (f, c) := by
  rw [tz]; exact dif_pos rfl
theorem tz_s (f : Nat → Int32) (c : Nat) {z : Nat} (h : 0 < z) : tz f c z = tz (upd f c (nI ((z - 1) % 2))) (c + 1) ((z - 1) / 2) := by
  rw [tz]; exact dif_neg (by omega)
theorem block_zeros_l : ∀ (n z c : Nat) (f : Nat → Int32), z < n → c + z ≤ 2251 → lpF Block_tellZeros_L2 n (nI z, f, nI c) = some ((tz f c z).1, nI (tz f c z).2) := by
  intro n
  induction n with
  | zero => intro z c f h; omega
  | succ n ih =>
    intro z c f hn hc
    rw [lpF_s]
    rcases Nat.eq_zero_or_pos z with h0 | h0
    · subst h0
      have hb : Block_tellZeros_L2 (nI 0, f, nI c) = some (Sum.inr (f, nI c)) := by
        show (if nI 0 ≤ 0 then _ else _) = _
        rw [if_pos (by decide)]
      rw [hb, tz_0]
      rfl
    · have hb : Block_tellZeros_L2 (nI z, f, nI c) = some (Sum.inl (nI ((z - 1) / 2), upd f c (nI ((z - 1) % 2)), nI (c + 1))) := by
        show (if nI z ≤ 0 then _ else gd (ix (nI c) 2251) _) = _
        rw [if_neg (nI_nle h0 (by omega))]
        refine gd_of (ixN (by omega) (by omega)) ?_
        have e1 : nI z - (1 : Int32) = nI (z - 1) := by
          have := nI_pred (z - 1)
          rwa [show z - 1 + 1 = z by omega] at this
        show some (Sum.inl ((nI z - (1 : Int32)) >>> ((1 : Int32) &&& 31), upd f (nI c).toNatClampNeg ((nI z - (1 : Int32)) &&& (1 : Int32)), nI c + (1 : Int32))) = _
        rw [e1, pk_shrN (show z - 1 < 2 ^ 31 by omega) ((1 : Int32) &&& 31) 1 (by decide), pk_andN (show z - 1 < 2 ^ 32 by omega) (m := (1 : Int32)) 1 (by decide), nI_clamp (show c < 2 ^ 31 by omega), nI_1]
      rw [hb, tz_s f c h0]
      exact ih ((z - 1) / 2) (c + 1) _ (by omega) (by omega)
theorem block_zeros {z c : Nat} {f : Nat → Int32} (hz : c + z ≤ 2251) : Block_tellZeros_f (nI z) f (nI c) = some ((tz f c z).1, nI (tz f c z).2) := by
  unfold Block_tellZeros_f
  rw [block_zeros_l gas z c f (Nat.lt_of_lt_of_le (by omega) gas_le) hz]
  rfl
theorem model_zeros_l : ∀ (n z c : Nat) (f : Nat → Int32), z < n → c + z ≤ 2251 → lpF Model_tellZeros_L2 n (nI z, nI c, f) = some (nI (tz f c z).2, (tz f c z).1) := by
  intro n
  induction n with
  | zero => intro z c f h; omega
  | succ n ih =>
    intro z c f hn hc
    rw [lpF_s]
    rcases Nat.eq_zero_or_pos z with h0 | h0
    · subst h0
      have hb : Model_tellZeros_L2 (nI 0, nI c, f) = some (Sum.inr (nI c, f)) := by
        show (if nI 0 ≤ 0 then _ else _) = _
        rw [if_pos (by decide)]
      rw [hb, tz_0]
      rfl
    · have hb : Model_tellZeros_L2 (nI z, nI c, f) = some (Sum.inl (nI ((z - 1) / 2), nI (c + 1), upd f c (nI ((z - 1) % 2)))) := by
        show (if nI z ≤ 0 then _ else (if (nI z - nI z / nI 2 * nI 2) = nI 1 then Model_tellZeros_J18 (nI z, nI c, f) (nI 1) else Model_tellZeros_J18 (nI z, nI c, f) (nI 2))) = _
        rw [if_neg (nI_nle h0 (by omega)), pk_rem (show z < 2 ^ 31 by omega) (by omega) (by omega)]
        by_cases h1 : z % 2 = 1
        · rw [if_pos (by rw [h1])]
          refine gd_of (ixN (by omega) (by omega)) ?_
          show some (Sum.inl ((nI z - nI 1) / nI 2, nI c + (1 : Int32), upd f (nI c).toNatClampNeg (nI 1 - nI 1))) = _
          rw [pk_sub (show 1 ≤ z by omega), pk_div (show z - 1 < 2 ^ 31 by omega) (by omega) (by omega), nI_clamp (show c < 2 ^ 31 by omega), nI_1, pk_sub (Nat.le_refl 1), show (z - 1) % 2 = 1 - 1 by omega]
        · rw [if_neg (by rw [nI_eq (by omega) (by omega)]; exact h1)]
          refine gd_of (ixN (by omega) (by omega)) ?_
          show some (Sum.inl ((nI z - nI 2) / nI 2, nI c + (1 : Int32), upd f (nI c).toNatClampNeg (nI 2 - nI 1))) = _
          rw [pk_sub (show 2 ≤ z by omega), pk_div (show z - 2 < 2 ^ 31 by omega) (by omega) (by omega), nI_clamp (show c < 2 ^ 31 by omega), nI_1, pk_sub (show 1 ≤ 2 by omega), show (z - 1) % 2 = 2 - 1 by omega, show (z - 1) / 2 = (z - 2) / 2 by omega]
      rw [hb, tz_s f c h0]
      exact ih ((z - 1) / 2) (c + 1) _ (by omega) (by omega)
theorem model_zeros {z c : Nat} {f : Nat → Int32} (hz : c + z ≤ 2251) : Model_tellZeros_f (nI z) (nI c) f = some (nI (tz f c z).2, (tz f c z).1) := by
  unfold Model_tellZeros_f
  rw [model_zeros_l gas z c f (Nat.lt_of_lt_of_le (by omega) gas_le) hz]
  rfl
