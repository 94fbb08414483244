/-! CODES: how many bits a group has by a table -/
def bsm (L : Nat → Int32) (s : Nat → Nat) (a : Nat) : Nat → Int32
  | 0 => 0
  | i + 1 => bsm L s a i + L (s (a + i))
theorem jmin_nI {a b : Nat} (ha : a < 2 ^ 31) (hb : b < 2 ^ 31) : jmin (nI a) (nI b) = nI (min a b) := by
  unfold jmin
  by_cases h : b < a
  · rw [if_pos ((nI_ltI hb ha).mpr h), Nat.min_eq_right (by omega)]
  · rw [if_neg (fun q => h ((nI_ltI hb ha).mp q)), Nat.min_eq_left (by omega)]
theorem endOf_eq {m g : Nat} (hm : m ≤ 2251) (hg : g < 100) : Coder_endOf_f (nI m) (nI g) = some (nI (min m ((g + 1) * 50))) := by
  show some (jmin (nI m) ((nI g + 1) * nI 50)) = _
  rw [nI_1, pk_mul, jmin_nI (by omega) (by omega)]
theorem bitsOf_c {m g n : Nat} {fS fL : Nat → Int32} {s : Nat → Nat} (hm : m ≤ 2251) (hg : 50 * g < m) (hS : ∀ j, j < m → fS j = nI (s j) ∧ s j < n) (hn : n ≤ 258) :
    Coder_bitsOf_f (nI m) (nI g) fS n fL = some (bsm fL s (50 * g) (min m (50 * g + 50) - 50 * g)) := by
  generalize he : min m (50 * g + 50) = e
  have he2 : min m ((g + 1) * 50) = e := by rw [← he]; congr 1; omega
  have hee : e ≤ m ∧ 50 * g ≤ e := by omega
  have key : lpF (Coder_bitsOf_L15 (nI e) fS n fL) gas (bsm fL s (50 * g) 0, nI (50 * g + 0)) = some (bsm fL s (50 * g) (e - 50 * g)) := by
    refine lp_gas (fun i => (bsm fL s (50 * g) i, nI (50 * g + i))) (i0 := 0) (N := e - 50 * g) (Nat.zero_le _) (by omega) ?_ ?_
    · intro i _ hi
      obtain ⟨h1, h2⟩ := hS (50 * g + i) (by omega)
      show (if nI e ≤ nI (50 * g + i) then _ else gd (ix (nI (50 * g + i)) 2251) (gd (ix (fS (nI (50 * g + i)).toNatClampNeg) n) _)) = _
      rw [if_neg (nI_ge (by omega) (by omega))]
      refine gd_of (ixN (by omega) (by omega)) ?_
      rw [nI_clamp (show 50 * g + i < 2 ^ 31 by omega), h1]
      refine gd_of (ixN h2 (by omega)) ?_
      rw [nI_clamp (show s (50 * g + i) < 2 ^ 31 by omega)]
      show some (Sum.inl (bsm fL s (50 * g) i + fL (s (50 * g + i)), nI (50 * g + i) + 1)) = _
      rw [nI_1]
      rfl
    · show (if nI e ≤ nI (50 * g + (e - 50 * g)) then _ else _) = _
      rw [if_pos (nI_le (by omega) (by omega))]
  unfold Coder_bitsOf_f
  rw [endOf_eq hm (by omega), he2]
  show bd (lpF (Coder_bitsOf_L15 (nI e) fS n fL) gas (0, nI g * nI 50)) _ = _
  rw [pk_mul, show g * 50 = 50 * g + 0 by omega, show ((0 : Int32), nI (50 * g + 0)) = (bsm fL s (50 * g) 0, nI (50 * g + 0)) from rfl, key]
  rfl
theorem bitsOf_m {m g t : Nat} {fS fL : Nat → Int32} {s : Nat → Nat} (hm : m ≤ 2251) (hg : 50 * g < m) (hS : ∀ j, j < m → fS j = nI (s j) ∧ s j < 258) (ht : t < 6) :
    Model_bitsOf_f (nI m) (nI g) (nI t) fS fL = some (bsm (fun k => fL (258 * t + k)) s (50 * g) (min m (50 * g + 50) - 50 * g)) := by
  generalize he : min m (50 * g + 50) = e
  have hee : e ≤ m ∧ 50 * g ≤ e ∧ e ≤ 50 * g + 50 := by omega
  have key : lpF (Model_bitsOf_L8 (nI m) (nI g) (nI t) fS fL) gas (bsm (fun k => fL (258 * t + k)) s (50 * g) 0, nI (50 * g + 0)) = some (bsm (fun k => fL (258 * t + k)) s (50 * g) (e - 50 * g)) := by
    refine lp_gas (fun i => (bsm (fun k => fL (258 * t + k)) s (50 * g) i, nI (50 * g + i))) (i0 := 0) (N := e - 50 * g) (Nat.zero_le _) (by omega) ?_ ?_
    · intro i _ hi
      obtain ⟨h1, h2⟩ := hS (50 * g + i) (by omega)
      show (if nI m ≤ nI (50 * g + i) then _ else (if nI 50 * nI g + nI 50 ≤ nI (50 * g + i) then _ else gd (ix (nI (50 * g + i)) 2251) (gd (ix (nI 258 * nI t + fS (nI (50 * g + i)).toNatClampNeg) 1548) _))) = _
      rw [if_neg (nI_ge (by omega) (by omega)), pk_mul, nI_add, if_neg (nI_ge (by omega) (by omega))]
      refine gd_of (ixN (by omega) (by omega)) ?_
      rw [nI_clamp (show 50 * g + i < 2 ^ 31 by omega), h1, pk_mul, nI_add]
      refine gd_of (ixN (by omega) (by omega)) ?_
      show some (Sum.inl (bsm (fun k => fL (258 * t + k)) s (50 * g) i + fL (nI 258 * nI t + nI (s (50 * g + i))).toNatClampNeg, nI (50 * g + i) + 1)) = _
      rw [pk_mul, nI_add, nI_clamp (show 258 * t + s (50 * g + i) < 2 ^ 31 by omega), nI_1]
      rfl
    · show (if nI m ≤ nI (50 * g + (e - 50 * g)) then _ else (if nI 50 * nI g + nI 50 ≤ nI (50 * g + (e - 50 * g)) then _ else _)) = _
      by_cases h : m ≤ 50 * g + (e - 50 * g)
      · rw [if_pos (nI_le h (by omega))]
      · rw [if_neg (nI_ge (by omega) (by omega)), pk_mul, nI_add, if_pos (nI_le (by omega) (by omega))]
  unfold Model_bitsOf_f
  show bd (lpF (Model_bitsOf_L8 (nI m) (nI g) (nI t) fS fL) gas (0, nI 50 * nI g)) _ = _
  rw [pk_mul, show 50 * g = 50 * g + 0 by omega, show ((0 : Int32), nI (50 * g + 0)) = (bsm (fun k => fL (258 * t + k)) s (50 * g) 0, nI (50 * g + 0)) from rfl, key]
  rfl
