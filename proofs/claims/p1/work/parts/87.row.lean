/-! a row of bytes takes one more -/
theorem row_add {n c : Nat} {f : Nat → Int32} {v : Int32} (hc : c ≤ n) (h1 : 1 ≤ n) (hn : n ≤ 67108864) :
    ∃ f2 : Nat → Int32, ByteRow_add_f (nI c) n v f = some ((if c < n then n else 2 * n), f2, nI (c + 1)) ∧ (∀ j, j < c → f2 j = f j) ∧ f2 c = v := by
  by_cases h : c < n
  · refine ⟨upd f c v, ?_, fun j hj => pk_un (by omega), pk_us⟩
    rw [if_pos h]
    show (if nI c < nI n then ByteRow_add_J30 (nI c) v n f else _) = _
    rw [if_pos (nI_lt h (by omega))]
    refine gd_of (ixN h (by omega)) ?_
    rw [nI_clamp (show c < 2 ^ 31 by omega), nI_1]
  · have e : c = n := by omega
    refine ⟨upd (va_cpy f (fun _ => 0) 0 0 n) c v, ?_, fun j hj => ?_, pk_us⟩
    · rw [if_neg h]
      have hL : (2 : Int32) * Int32.ofNat n = nI (2 * n) := pk_mul 2 n
      show (if nI c < nI n then _ else gd (cok n ((2 : Int32) * Int32.ofNat n)) (ByteRow_add_J30 (nI c) v ((2 : Int32) * Int32.ofNat n).toNatClampNeg (va_cpy f (fun _ => 0) 0 0 n))) = _
      rw [if_neg (nI_nlt (by omega) (by omega)), hL, nI_clamp (show 2 * n < 2 ^ 31 by omega)]
      have hk : cok n (nI (2 * n)) = true := by
        simp only [cok, Bool.and_eq_true, decide_eq_true_eq]
        rw [nI_clamp (show 2 * n < 2 ^ 31 by omega)]
        exact ⟨⟨⟨nI_pos (by omega), h1⟩, Nat.le_refl _⟩, by omega⟩
      refine gd_of hk ?_
      refine gd_of (ixN (show c < 2 * n by omega) (by omega)) ?_
      rw [nI_clamp (show c < 2 ^ 31 by omega), nI_1]
    · rw [pk_un (show j ≠ c by omega)]
      unfold va_cpy
      rw [if_pos (show 0 ≤ j ∧ j < 0 + n by omega)]
      congr 1
      omega
