/-! LISTED, the reference's -/
def shf (f : Nat → Int32) (a k : Nat) : Nat → Int32 := fun j => if k < j ∧ j ≤ a then f (j - 1) else f j
theorem shf_a (f : Nat → Int32) (a : Nat) : shf f a a = f := by
  funext j
  exact if_neg (by omega)
theorem shf_s (f : Nat → Int32) {a k : Nat} (h : k + 1 ≤ a) : upd (shf f a (k + 1)) (k + 1) (shf f a (k + 1) k) = shf f a k := by
  have hv : shf f a (k + 1) k = f k := if_neg (by omega)
  rw [hv]
  funext j
  unfold upd shf
  by_cases h1 : j = k + 1
  · subst h1
    rw [if_pos rfl, if_pos (by omega)]
    rfl
  · rw [if_neg h1]
    by_cases h2 : k + 1 < j ∧ j ≤ a
    · rw [if_pos h2, if_pos (by omega)]
    · rw [if_neg h2, if_neg (by omega)]
theorem shf_mtf (f : Nat → Int32) (a : Nat) : upd (shf f a 0) 0 (f a) = mtf f a := by
  funext j
  unfold upd shf mtf
  by_cases h0 : j = 0
  · rw [if_pos h0, if_pos h0]
  · rw [if_neg h0, if_neg h0]
    by_cases h1 : j ≤ a
    · rw [if_pos (show 0 < j ∧ j ≤ a by omega), if_pos h1]
    · rw [if_neg (show ¬ (0 < j ∧ j ≤ a) by omega), if_neg h1]
theorem toFront_eq {a : Nat} {f : Nat → Int32} (h : a < 256) : Model_toFront_f (nI a) f = some (f a, mtf f a) := by
  have key : lpF Model_toFront_L9 gas (nI (a - 0), shf f a (a - 0)) = some (shf f a 0) := by
    refine lp_gas (fun i => (nI (a - i), shf f a (a - i))) (i0 := 0) (N := a) (Nat.zero_le a) (by omega) ?_ ?_
    · intro i _ hi
      obtain ⟨k, hk⟩ : ∃ k, a - i = k + 1 := ⟨a - i - 1, by omega⟩
      show Model_toFront_L9 (nI (a - i), shf f a (a - i)) = some (Sum.inl (nI (a - (i + 1)), shf f a (a - (i + 1))))
      rw [hk, show a - (i + 1) = k by omega]
      show (if nI (k + 1) ≤ 0 then _ else gd (ix (nI (k + 1) - (1 : Int32)) 256) (gd (ix (nI (k + 1)) 256) _)) = _
      rw [if_neg (nI_nle (by omega) (by omega)), nI_pred]
      refine gd_of (ixN (by omega) (by omega)) (gd_of (ixN (by omega) (by omega)) ?_)
      rw [nI_clamp (show k < 2 ^ 31 by omega), nI_clamp (show k + 1 < 2 ^ 31 by omega), shf_s f (by omega), pk_m1]
    · show Model_toFront_L9 (nI (a - a), shf f a (a - a)) = _
      rw [Nat.sub_self]
      show (if nI 0 ≤ 0 then _ else _) = _
      rw [if_pos (by decide)]
  rw [Nat.sub_zero, shf_a] at key
  unfold Model_toFront_f
  refine gd_of (ixN h (by omega)) ?_
  rw [key]
  show gd (ix (0 : Int32) 256) (some (f (nI a).toNatClampNeg, upd (shf f a 0) (0 : Int32).toNatClampNeg (f (nI a).toNatClampNeg))) = _
  rw [show ix (0 : Int32) 256 = true by decide, c0, nI_clamp (show a < 2 ^ 31 by omega), shf_mtf]
  rfl
