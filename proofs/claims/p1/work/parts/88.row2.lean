/-! a row of bytes: is there such a byte; one byte becomes another -/
theorem row_has {x : Int32} {c : Nat} (hc : c < 2 ^ 31) : ByteRow_has_f x (nI c) = some (if 0 ≤ x.toInt ∧ x.toInt < (c : Int) then (1 : Int32) else (0 : Int32)) := by
  unfold ByteRow_has_f ByteRow_has_J16 ByteRow_has_J17
  rw [show gd (bl (0 : Int32)) (some (0 : Int32)) = some (0 : Int32) from rfl, show gd (bl (1 : Int32)) (some (1 : Int32)) = some (1 : Int32) from rfl]
  rcases pk_ix x hc with h | h | ⟨j, hj, rfl⟩
  · rw [if_pos h, if_neg]
    rw [Int32.lt_iff_toInt_lt] at h
    have h2 : x.toInt < 0 := h
    omega
  · have h2 : ¬ x < 0 := by
      intro q
      have h3 := Int32.lt_iff_toInt_lt.mp q
      have h4 := Int32.le_iff_toInt_le.mp h
      rw [nI_toInt hc] at h4
      have h5 : x.toInt < 0 := h3
      omega
    rw [if_neg h2, if_pos h, if_neg]
    have h4 := Int32.le_iff_toInt_le.mp h
    rw [nI_toInt hc] at h4
    omega
  · rw [if_neg (nI_pos (by omega)), if_neg (nI_ge hj hc), if_pos]
    rw [nI_toInt (show j < 2 ^ 31 by omega)]
    omega
