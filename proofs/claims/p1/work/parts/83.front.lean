/-! LISTED: a member goes to the front -/
def mtf (f : Nat → Int32) (a : Nat) : Nat → Int32 := fun j => if j = 0 then f a else if j ≤ a then f (j - 1) else f j
theorem mtf_cpy (f : Nat → Int32) (a : Nat) : upd (va_cpy f f 0 1 a) 0 (f a) = mtf f a := by
  funext j
  unfold upd mtf va_cpy
  by_cases h0 : j = 0
  · rw [if_pos h0, if_pos h0]
  · rw [if_neg h0, if_neg h0]
    by_cases h1 : j ≤ a
    · rw [if_pos (show 1 ≤ j ∧ j < 1 + a by omega), if_pos h1, Nat.zero_add]
    · rw [if_neg (show ¬ (1 ≤ j ∧ j < 1 + a) by omega), if_neg h1]
theorem c0 : (0 : Int32).toNatClampNeg = 0 := by decide
theorem c1 : (1 : Int32).toNatClampNeg = 1 := by decide
theorem fl_raiseAt {a c : Nat} {f : Nat → Int32} (h : a < c) (hc : c ≤ 256) : FrontList_raiseAt_f (nI a) f (nI c) = some (f a, mtf f a) := by
  unfold FrontList_raiseAt_f
  rw [if_neg (nI_pos (by omega)), if_pos (nI_lt h (by omega))]
  refine gd_of (ixN (by omega) (by omega)) ?_
  have hk : cpk (0 : Int32) (1 : Int32) (nI a) 256 256 = true := by
    simp only [cpk, Bool.and_eq_true, decide_eq_true_eq]
    rw [c0, c1, nI_clamp (show a < 2 ^ 31 by omega)]
    exact ⟨⟨⟨⟨by decide, by decide⟩, nI_pos (by omega)⟩, by omega⟩, by omega⟩
  refine gd_of hk ?_
  refine gd_of (by decide) ?_
  rw [c0, c1, nI_clamp (show a < 2 ^ 31 by omega), mtf_cpy]
/-- FrontList.raise of a member that is there: a is the first place where it stands -/
theorem fl_raise {a c : Nat} {f : Nat → Int32} {v : Int32} (h : a < c) (hc : c ≤ 256) (hv : f a = v) (hf : ∀ j, j < a → f j ≠ v) : FrontList_raise_f (nI c) f v = some (nI a, mtf f a) := by
  have key : lpF (FrontList_raise_L2 (nI c) f v) gas (nI 0) = some (Sum.inl (nI a)) := by
    refine lp_gas (fun i => nI i) (N := a) (Nat.zero_le a) (by omega) ?_ ?_
    · intro i _ hi
      show (if nI c ≤ nI i then _ else _) = _
      rw [if_neg (nI_ge (by omega) (by omega))]
      refine gd_of (ixN (by omega) (by omega)) ?_
      rw [nI_clamp (show i < 2 ^ 31 by omega), if_neg (hf i hi)]
      show some (Sum.inl (nI i + 1)) = _
      rw [nI_1]
    · show (if nI c ≤ nI a then _ else _) = _
      rw [if_neg (nI_ge h (by omega))]
      refine gd_of (ixN (by omega) (by omega)) ?_
      rw [nI_clamp (show a < 2 ^ 31 by omega), if_pos hv]
  show bd (lpF (FrontList_raise_L2 (nI c) f v) gas (nI 0)) _ = _
  rw [key]
  show bd (FrontList_raiseAt_f (nI a) f (nI c)) _ = _
  rw [fl_raiseAt h hc]
  rfl
