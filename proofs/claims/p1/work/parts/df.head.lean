/-! UNPACKING: the first bytes, and what ends the file -/
noncomputable def ryN (E : Nat) (x : Nat → Bool) (q lo hi : Nat) : (Nat × Nat) ⊕ Nat := if q + 8 ≤ E then (if lo ≤ bvN x q 8 ∧ bvN x q 8 ≤ hi then Sum.inr (bvN x q 8) else Sum.inl (1, q)) else Sum.inl (2, E)
noncomputable def hdN (E : Nat) (x : Nat → Bool) : (Nat × Nat) ⊕ Nat := Sum.elim (fun e => Sum.inl e) (fun _ => Sum.elim (fun e => Sum.inl e) (fun _ => Sum.elim (fun e => Sum.inl e) (fun b => Sum.inr ((b - 48) * 250)) (ryN E x 16 49 57)) (ryN E x 8 80 80)) (ryN E x 0 82 82)
noncomputable def fnN (E : Nat) (x : Nat → Bool) (q : Nat) (coa : Int32) : (Nat × Nat) ⊕ Unit := if q + 32 ≤ E then (if bvI x q 32 = coa then (if q + 40 ≤ E then Sum.inl (15, q + 32) else if bvN x (q + 32) (E - (q + 32)) = 0 then Sum.inr () else Sum.inl (15, q + 32)) else Sum.inl (14, q)) else Sum.inl (2, E)
theorem ryN_r {E q lo hi b : Nat} {x : Nat → Bool} (h : ryN E x q lo hi = Sum.inr b) : q + 8 ≤ E ∧ b = bvN x q 8 ∧ lo ≤ b ∧ b ≤ hi := by
  unfold ryN at h
  by_cases h1 : q + 8 ≤ E
  · rw [if_pos h1] at h
    by_cases h2 : lo ≤ bvN x q 8 ∧ bvN x q 8 ≤ hi
    · rw [if_pos h2] at h
      have := Sum.inr.inj h
      omega
    · rw [if_neg h2] at h; cases h
  · rw [if_neg h1] at h; cases h
theorem hdN_r {E m : Nat} {x : Nat → Bool} (h : hdN E x = Sum.inr m) : 24 ≤ E ∧ m ≤ 2250 := by
  unfold hdN at h
  cases h1 : ryN E x 0 82 82 with
  | inl e => rw [h1] at h; cases h
  | inr b1 =>
    rw [h1] at h
    have h : Sum.elim (fun e => Sum.inl e) (fun _ => Sum.elim (fun e => Sum.inl e) (fun b => Sum.inr ((b - 48) * 250)) (ryN E x 16 49 57)) (ryN E x 8 80 80) = (Sum.inr m : (Nat × Nat) ⊕ Nat) := h
    cases h2 : ryN E x 8 80 80 with
    | inl e => rw [h2] at h; cases h
    | inr b2 =>
      rw [h2] at h
      have h : Sum.elim (fun e => Sum.inl e) (fun b => Sum.inr ((b - 48) * 250)) (ryN E x 16 49 57) = (Sum.inr m : (Nat × Nat) ⊕ Nat) := h
      cases h3 : ryN E x 16 49 57 with
      | inl e => rw [h3] at h; cases h
      | inr b3 =>
        rw [h3] at h
        have h5 : (b3 - 48) * 250 = m := Sum.inr.inj h
        have h6 := ryN_r h3
        omega
theorem readByte_c {tp : Nat → Nat} {F nb q lo hi : Nat} {f : Nat → Int32} (hF : F ≤ nb) (hF2 : F ≤ 10240) (hnb : nb < 1000000) (hf : ∀ j, j < F → f j = nI (tp j)) (hq : q ≤ 8 * F) (hlo : lo < 1000) (hhi : hi < 1000) : ∃ tk at2, Unpacker_readByte_f (nI (8 * F)) (nI F) nb f (0 : Int32) (-1 : Int32) (nI q) (nI lo) (nI hi) = some (Sum.elim (fun e => ((0 : Int32), tk, nI e.1, nI e.2, at2)) (fun b => ((1 : Int32), nI b, (0 : Int32), (-1 : Int32), nI (q + 8))) (ryN (8 * F) (xb tp) q lo hi)) := by
  unfold Unpacker_readByte_f ryN
  by_cases h1 : q + 8 ≤ 8 * F
  · rw [show BitReader_take_f (8 : Int32) (nI (8 * F)) (nI F) nb f (0 : Int32) (-1 : Int32) (nI q) = _ from take_c (k := 8) hF hnb hf (by omega) h1, bd_s, if_pos h1, bvI_N _ _ 8 (by omega)]
    have hb := bvN_lt (xb tp) q 8
    generalize bvN (xb tp) q 8 = b at *
    show ∃ tk at2, (if (1 : Int32) = 0 then _ else (if nI b < nI lo then some ((0 : Int32), nI b, nI 1, nI q, nI (q + 8)) else (if nI hi < nI b then some ((0 : Int32), nI b, nI 1, nI q, nI (q + 8)) else some ((1 : Int32), nI b, (0 : Int32), (-1 : Int32), nI (q + 8))))) = _
    rw [if_neg (show ¬ (1 : Int32) = 0 by decide)]
    by_cases h2 : b < lo
    · rw [if_pos (nI_lt h2 (by omega)), if_neg (show ¬ (lo ≤ b ∧ b ≤ hi) by omega)]
      exact ⟨_, _, rfl⟩
    · rw [if_neg (nI_nlt (by omega) (by omega))]
      by_cases h3 : hi < b
      · rw [if_pos (nI_lt h3 (by omega)), if_neg (show ¬ (lo ≤ b ∧ b ≤ hi) by omega)]
        exact ⟨_, _, rfl⟩
      · rw [if_neg (nI_nlt (by omega) (by omega)), if_pos (show lo ≤ b ∧ b ≤ hi by omega)]
        exact ⟨(0 : Int32), (0 : Int32), rfl⟩
  · obtain ⟨tk, et⟩ := take_ce (k := 8) (flt := (0 : Int32)) (fa := (-1 : Int32)) hF hnb hf (by omega) hq (show 8 * F < q + 8 by omega)
    rw [show BitReader_take_f (8 : Int32) (nI (8 * F)) (nI F) nb f (0 : Int32) (-1 : Int32) (nI q) = _ from et, bd_s, if_neg h1]
    exact ⟨_, _, rfl⟩
theorem head_c {tp : Nat → Nat} {F nb : Nat} {f : Nat → Int32} {most : Int32} (hF : F ≤ nb) (hF2 : F ≤ 10240) (hnb : nb < 1000000) (hf : ∀ j, j < F → f j = nI (tp j)) : ∃ tk at2, Unpacker_readFirstBytes_f (nI (8 * F)) (nI F) nb f (0 : Int32) (-1 : Int32) (0 : Int32) most = some (Sum.elim (fun e => ((0 : Int32), tk, nI e.1, nI e.2, at2, most)) (fun m => ((1 : Int32), tk, (0 : Int32), (-1 : Int32), nI 24, nI m)) (hdN (8 * F) (xb tp))) := by
  unfold Unpacker_readFirstBytes_f hdN
  obtain ⟨tk1, at1, e1⟩ := readByte_c (tp := tp) (q := 0) (lo := 82) (hi := 82) hF hF2 hnb hf (Nat.zero_le _) (by omega) (by omega)
  cases h1 : ryN (8 * F) (xb tp) 0 82 82 with
  | inl e =>
    rw [h1] at e1
    rw [show Unpacker_readByte_f (nI (8 * F)) (nI F) nb f (0 : Int32) (-1 : Int32) (0 : Int32) (82 : Int32) (82 : Int32) = _ from e1]
    exact ⟨tk1, at1, rfl⟩
  | inr b1 =>
    rw [h1] at e1
    have e1 : Unpacker_readByte_f (nI (8 * F)) (nI F) nb f (0 : Int32) (-1 : Int32) (0 : Int32) (82 : Int32) (82 : Int32) = some ((1 : Int32), nI b1, (0 : Int32), (-1 : Int32), nI 8) := e1
    obtain ⟨r1, _⟩ := ryN_r h1
    obtain ⟨tk2, at2, e2⟩ := readByte_c (tp := tp) (q := 8) (lo := 80) (hi := 80) hF hF2 hnb hf (by omega) (by omega) (by omega)
    rw [e1, bd_s]
    dsimp only
    rw [if_neg (show ¬ (1 : Int32) = 0 by decide)]
    cases h2 : ryN (8 * F) (xb tp) 8 80 80 with
    | inl e =>
      rw [h2] at e2
      rw [show Unpacker_readByte_f (nI (8 * F)) (nI F) nb f (0 : Int32) (-1 : Int32) (nI 8) (80 : Int32) (80 : Int32) = _ from e2]
      exact ⟨tk2, at2, rfl⟩
    | inr b2 =>
      rw [h2] at e2
      have e2 : Unpacker_readByte_f (nI (8 * F)) (nI F) nb f (0 : Int32) (-1 : Int32) (nI 8) (80 : Int32) (80 : Int32) = some ((1 : Int32), nI b2, (0 : Int32), (-1 : Int32), nI 16) := e2
      obtain ⟨r2, _⟩ := ryN_r h2
      obtain ⟨tk3, at3, e3⟩ := readByte_c (tp := tp) (q := 16) (lo := 49) (hi := 57) hF hF2 hnb hf (by omega) (by omega) (by omega)
      rw [e2, bd_s]
      dsimp only
      rw [if_neg (show ¬ (1 : Int32) = 0 by decide)]
      cases h3 : ryN (8 * F) (xb tp) 16 49 57 with
      | inl e =>
        rw [h3] at e3
        rw [show Unpacker_readByte_f (nI (8 * F)) (nI F) nb f (0 : Int32) (-1 : Int32) (nI 16) (49 : Int32) (57 : Int32) = _ from e3]
        exact ⟨tk3, at3, rfl⟩
      | inr b3 =>
        rw [h3] at e3
        have e3 : Unpacker_readByte_f (nI (8 * F)) (nI F) nb f (0 : Int32) (-1 : Int32) (nI 16) (49 : Int32) (57 : Int32) = some ((1 : Int32), nI b3, (0 : Int32), (-1 : Int32), nI 24) := e3
        obtain ⟨r3, _, r4, r5⟩ := ryN_r h3
        rw [e3, bd_s]
        dsimp only
        rw [if_neg (show ¬ (1 : Int32) = 0 by decide)]
        refine ⟨nI b3, at3, ?_⟩
        show some ((1 : Int32), nI b3, (0 : Int32), (-1 : Int32), nI 24, (nI b3 - nI 48) * nI 250) = some ((1 : Int32), nI b3, (0 : Int32), (-1 : Int32), nI 24, nI ((b3 - 48) * 250))
        rw [pk_sub (show 48 ≤ b3 by omega), pk_mul]
theorem head_m {tp : Nat → Nat} {F : Nat} {tape : Nat → Int32} (hF : F ≤ 10240) (ht : ∀ j, j < F → tape j = nb (tp j) ∧ tp j < 256) : ∃ mo flt pl bit, Model_readHead_f (0 : Int32) (nI (8 * F)) tape (0 : Int32) (-1 : Int32) = some (mo, flt, pl, bit) ∧ (∀ e, hdN (8 * F) (xb tp) = Sum.inl e → flt = nI e.1 ∧ pl = nI e.2 ∧ 0 < e.1 ∧ e.1 < 16) ∧ ∀ m, hdN (8 * F) (xb tp) = Sum.inr m → flt = 0 ∧ pl = (-1 : Int32) ∧ bit = nI 24 ∧ mo = nI m := by
  have k55 : ∀ (fl p b : Int32), ¬ fl = 0 → Model_readHead_J55 (nI (8 * F)) tape fl p b = some ((250 : Int32) * ((0 : Int32) - (48 : Int32)), fl, p, b) := by
    intro fl p b h
    unfold Model_readHead_J55
    rw [read_mf h, bd_s]
    show bd (Model_isFine_f fl) (fun u3 => (if u3 = 0 then Model_readHead_J89 (0 : Int32) fl p b else _)) = _
    rw [fine_n h, bd_s, if_pos rfl]
    rfl
  have k27 : ∀ (fl p b : Int32), ¬ fl = 0 → Model_readHead_J27 (nI (8 * F)) tape fl p b = some ((250 : Int32) * ((0 : Int32) - (48 : Int32)), fl, p, b) := by
    intro fl p b h
    unfold Model_readHead_J27
    rw [read_mf h, bd_s]
    show bd (Model_isFine_f fl) (fun u3 => (if u3 = 0 then Model_readHead_J55 (nI (8 * F)) tape fl p b else _)) = _
    rw [fine_n h, bd_s, if_pos rfl, k55 _ _ _ h]
  unfold Model_readHead_f hdN
  by_cases q1 : 0 + 8 ≤ 8 * F
  · rw [show Model_read_f (0 : Int32) (8 : Int32) (nI (8 * F)) tape (0 : Int32) (-1 : Int32) = _ from read_m (q := 0) (k := 8) hF ht (by omega) q1, bd_s, bvI_N _ _ 8 (by omega)]
    have hb := bvN_lt (xb tp) 0 8
    have hr : ryN (8 * F) (xb tp) 0 82 82 = (if 82 ≤ bvN (xb tp) 0 8 ∧ bvN (xb tp) 0 8 ≤ 82 then Sum.inr (bvN (xb tp) 0 8) else Sum.inl (1, 0)) := if_pos q1
    rw [hr]
    show ∃ mo flt pl bit, bd (Model_isFine_f (0 : Int32)) (fun u13 => (if u13 = 0 then _ else (if nI (bvN (xb tp) 0 8) = nI 82 then Model_readHead_J27 (nI (8 * F)) tape (0 : Int32) (-1 : Int32) (nI 8) else bd (Model_stop_f (0 : Int32) (1 : Int32) (0 : Int32) (-1 : Int32)) (fun u16 => Model_readHead_J27 (nI (8 * F)) tape u16.2.1 u16.2.2 (nI 8))))) = _ ∧ _
    rw [fine_0, bd_s, if_neg (show ¬ (1 : Int32) = 0 by decide)]
    by_cases b1 : bvN (xb tp) 0 8 = 82
    · rw [if_pos (show nI (bvN (xb tp) 0 8) = nI 82 by rw [b1]), if_pos (show 82 ≤ bvN (xb tp) 0 8 ∧ bvN (xb tp) 0 8 ≤ 82 by omega)]
      show ∃ mo flt pl bit, _ = _ ∧ (∀ e, (Sum.elim (fun e => Sum.inl e) (fun _ => Sum.elim (fun e => Sum.inl e) (fun b => Sum.inr ((b - 48) * 250)) (ryN (8 * F) (xb tp) 16 49 57)) (ryN (8 * F) (xb tp) 8 80 80) : (Nat × Nat) ⊕ Nat) = Sum.inl e → flt = nI e.1 ∧ pl = nI e.2 ∧ 0 < e.1 ∧ e.1 < 16) ∧ ∀ m, (Sum.elim (fun e => Sum.inl e) (fun _ => Sum.elim (fun e => Sum.inl e) (fun b => Sum.inr ((b - 48) * 250)) (ryN (8 * F) (xb tp) 16 49 57)) (ryN (8 * F) (xb tp) 8 80 80) : (Nat × Nat) ⊕ Nat) = Sum.inr m → flt = 0 ∧ pl = (-1 : Int32) ∧ bit = nI 24 ∧ mo = nI m
      unfold Model_readHead_J27
      by_cases q2 : 8 + 8 ≤ 8 * F
      · rw [show Model_read_f (0 : Int32) (8 : Int32) (nI (8 * F)) tape (nI 8) (-1 : Int32) = _ from read_m (q := 8) (k := 8) hF ht (by omega) q2, bd_s, bvI_N _ _ 8 (by omega)]
        have hb2 := bvN_lt (xb tp) 8 8
        have hr2 : ryN (8 * F) (xb tp) 8 80 80 = (if 80 ≤ bvN (xb tp) 8 8 ∧ bvN (xb tp) 8 8 ≤ 80 then Sum.inr (bvN (xb tp) 8 8) else Sum.inl (1, 8)) := if_pos q2
        rw [hr2]
        show ∃ mo flt pl bit, bd (Model_isFine_f (0 : Int32)) (fun u13 => (if u13 = 0 then _ else (if nI (bvN (xb tp) 8 8) = nI 80 then Model_readHead_J55 (nI (8 * F)) tape (0 : Int32) (-1 : Int32) (nI 16) else bd (Model_stop_f (0 : Int32) (1 : Int32) (8 : Int32) (-1 : Int32)) (fun u16 => Model_readHead_J55 (nI (8 * F)) tape u16.2.1 u16.2.2 (nI 16))))) = _ ∧ _
        rw [fine_0, bd_s, if_neg (show ¬ (1 : Int32) = 0 by decide)]
        by_cases b2 : bvN (xb tp) 8 8 = 80
        · rw [if_pos (show nI (bvN (xb tp) 8 8) = nI 80 by rw [b2]), if_pos (show 80 ≤ bvN (xb tp) 8 8 ∧ bvN (xb tp) 8 8 ≤ 80 by omega)]
          show ∃ mo flt pl bit, _ = _ ∧ (∀ e, (Sum.elim (fun e => Sum.inl e) (fun b => Sum.inr ((b - 48) * 250)) (ryN (8 * F) (xb tp) 16 49 57) : (Nat × Nat) ⊕ Nat) = Sum.inl e → flt = nI e.1 ∧ pl = nI e.2 ∧ 0 < e.1 ∧ e.1 < 16) ∧ ∀ m, (Sum.elim (fun e => Sum.inl e) (fun b => Sum.inr ((b - 48) * 250)) (ryN (8 * F) (xb tp) 16 49 57) : (Nat × Nat) ⊕ Nat) = Sum.inr m → flt = 0 ∧ pl = (-1 : Int32) ∧ bit = nI 24 ∧ mo = nI m
          unfold Model_readHead_J55
          by_cases q3 : 16 + 8 ≤ 8 * F
          · rw [show Model_read_f (0 : Int32) (8 : Int32) (nI (8 * F)) tape (nI 16) (-1 : Int32) = _ from read_m (q := 16) (k := 8) hF ht (by omega) q3, bd_s, bvI_N _ _ 8 (by omega)]
            have hb3 := bvN_lt (xb tp) 16 8
            have hr3 : ryN (8 * F) (xb tp) 16 49 57 = (if 49 ≤ bvN (xb tp) 16 8 ∧ bvN (xb tp) 16 8 ≤ 57 then Sum.inr (bvN (xb tp) 16 8) else Sum.inl (1, 16)) := if_pos q3
            rw [hr3]
            generalize bvN (xb tp) 16 8 = b3 at *
            show ∃ mo flt pl bit, bd (Model_isFine_f (0 : Int32)) (fun u3 => (if u3 = 0 then _ else (if nI b3 < nI 49 then some (nI 250 * (nI b3 - nI 48), nI 1, nI 16, nI 24) else (if nI b3 ≤ nI 57 then some (nI 250 * (nI b3 - nI 48), (0 : Int32), (-1 : Int32), nI 24) else some (nI 250 * (nI b3 - nI 48), nI 1, nI 16, nI 24))))) = _ ∧ _
            rw [fine_0, bd_s, if_neg (show ¬ (1 : Int32) = 0 by decide)]
            by_cases c1 : b3 < 49
            · rw [if_pos (nI_lt c1 (by omega)), if_neg (show ¬ (49 ≤ b3 ∧ b3 ≤ 57) by omega)]
              exact ⟨_, _, _, _, rfl, fun e he => (by cases he; exact ⟨rfl, rfl, by show 0 < _; omega, by show _ < 16; omega⟩), fun m hm => (by cases hm)⟩
            · rw [if_neg (nI_nlt (by omega) (by omega))]
              by_cases c2 : b3 ≤ 57
              · rw [if_pos (nI_le c2 (by omega)), if_pos (show 49 ≤ b3 ∧ b3 ≤ 57 by omega), pk_sub (show 48 ≤ b3 by omega), pk_mul, Nat.mul_comm]
                exact ⟨_, _, _, _, rfl, fun e he => (by cases he), fun m hm => (by cases hm; exact ⟨rfl, rfl, rfl, rfl⟩)⟩
              · rw [if_neg (nI_ge (by omega) (by omega)), if_neg (show ¬ (49 ≤ b3 ∧ b3 ≤ 57) by omega)]
                exact ⟨_, _, _, _, rfl, fun e he => (by cases he; exact ⟨rfl, rfl, by show 0 < _; omega, by show _ < 16; omega⟩), fun m hm => (by cases hm)⟩
          · rw [show Model_read_f (0 : Int32) (8 : Int32) (nI (8 * F)) tape (nI 16) (-1 : Int32) = _ from read_me (q := 16) (k := 8) hF ht (by omega) (by omega) (by omega), bd_s]
            have hr3 : ryN (8 * F) (xb tp) 16 49 57 = Sum.inl (2, 8 * F) := if_neg q3
            rw [hr3]
            show ∃ mo flt pl bit, bd (Model_isFine_f (nI 2)) (fun u3 => (if u3 = 0 then some ((250 : Int32) * ((0 : Int32) - (48 : Int32)), nI 2, nI (8 * F), nI (8 * F)) else _)) = _ ∧ _
            rw [fine_n (by decide), bd_s, if_pos rfl]
            exact ⟨_, _, _, _, rfl, fun e he => (by cases he; exact ⟨rfl, rfl, by show 0 < _; omega, by show _ < 16; omega⟩), fun m hm => (by cases hm)⟩
        · rw [if_neg (show ¬ nI (bvN (xb tp) 8 8) = nI 80 by rw [nI_eq (by omega) (by omega)]; exact b2), if_neg (show ¬ (80 ≤ bvN (xb tp) 8 8 ∧ bvN (xb tp) 8 8 ≤ 80) by omega), stop_0, bd_s, k55 _ _ _ (show ¬ (1 : Int32) = 0 by decide)]
          exact ⟨_, _, _, _, rfl, fun e he => (by cases he; exact ⟨rfl, rfl, by show 0 < _; omega, by show _ < 16; omega⟩), fun m hm => (by cases hm)⟩
      · rw [show Model_read_f (0 : Int32) (8 : Int32) (nI (8 * F)) tape (nI 8) (-1 : Int32) = _ from read_me (q := 8) (k := 8) hF ht (by omega) (by omega) (by omega), bd_s]
        have hr2 : ryN (8 * F) (xb tp) 8 80 80 = Sum.inl (2, 8 * F) := if_neg q2
        rw [hr2]
        show ∃ mo flt pl bit, bd (Model_isFine_f (nI 2)) (fun u3 => (if u3 = 0 then Model_readHead_J55 (nI (8 * F)) tape (nI 2) (nI (8 * F)) (nI (8 * F)) else _)) = _ ∧ _
        rw [fine_n (by decide), bd_s, if_pos rfl, k55 _ _ _ (by decide)]
        exact ⟨_, _, _, _, rfl, fun e he => (by cases he; exact ⟨rfl, rfl, by show 0 < _; omega, by show _ < 16; omega⟩), fun m hm => (by cases hm)⟩
    · rw [if_neg (show ¬ nI (bvN (xb tp) 0 8) = nI 82 by rw [nI_eq (by omega) (by omega)]; exact b1), if_neg (show ¬ (82 ≤ bvN (xb tp) 0 8 ∧ bvN (xb tp) 0 8 ≤ 82) by omega), stop_0, bd_s, k27 _ _ _ (show ¬ (1 : Int32) = 0 by decide)]
      exact ⟨_, _, _, _, rfl, fun e he => (by cases he; exact ⟨rfl, rfl, by show 0 < _; omega, by show _ < 16; omega⟩), fun m hm => (by cases hm)⟩
  · rw [show Model_read_f (0 : Int32) (8 : Int32) (nI (8 * F)) tape (0 : Int32) (-1 : Int32) = _ from read_me (q := 0) (k := 8) hF ht (by omega) (by omega) (by omega), bd_s]
    have hr : ryN (8 * F) (xb tp) 0 82 82 = Sum.inl (2, 8 * F) := if_neg q1
    rw [hr]
    show ∃ mo flt pl bit, bd (Model_isFine_f (nI 2)) (fun u3 => (if u3 = 0 then Model_readHead_J27 (nI (8 * F)) tape (nI 2) (nI (8 * F)) (nI (8 * F)) else _)) = _ ∧ _
    rw [fine_n (by decide), bd_s, if_pos rfl, k27 _ _ _ (by decide)]
    exact ⟨_, _, _, _, rfl, fun e he => (by cases he; exact ⟨rfl, rfl, by show 0 < _; omega, by show _ < 16; omega⟩), fun m hm => (by cases hm)⟩
theorem ending_c {tp : Nat → Nat} {F nb q : Nat} {f : Nat → Int32} {coa : Int32} (hF : F ≤ nb) (hF2 : F ≤ 10240) (hnb : nb < 1000000) (hf : ∀ j, j < F → f j = nI (tp j)) (hq : q ≤ 8 * F) : ∃ tk at2, Unpacker_readFinish_f (nI (8 * F)) (nI F) nb f (0 : Int32) (-1 : Int32) (nI q) coa = some (Sum.elim (fun e => ((0 : Int32), tk, nI e.1, nI e.2, at2)) (fun _ => ((1 : Int32), tk, (0 : Int32), (-1 : Int32), at2)) (fnN (8 * F) (xb tp) q coa)) := by
  unfold Unpacker_readFinish_f fnN
  by_cases h1 : q + 32 ≤ 8 * F
  · rw [show BitReader_take_f (32 : Int32) (nI (8 * F)) (nI F) nb f (0 : Int32) (-1 : Int32) (nI q) = _ from take_c (k := 32) hF hnb hf (by omega) h1, bd_s, if_pos h1]
    show ∃ tk at2, (if (1 : Int32) = 0 then _ else (if bvI (xb tp) q 32 = coa then (if nI 8 ≤ nI (8 * F) - nI (q + 32) then some ((0 : Int32), bvI (xb tp) q 32, nI 15, nI (q + 32), nI (q + 32)) else bd (BitReader_take_f (nI (8 * F) - nI (q + 32)) (nI (8 * F)) (nI F) nb f (0 : Int32) (-1 : Int32) (nI (q + 32))) (fun u7 => (if u7.1 = 0 then _ else (if u7.2.1 = 0 then some ((1 : Int32), u7.2.1, u7.2.2.1, u7.2.2.2.1, u7.2.2.2.2) else some ((0 : Int32), u7.2.1, nI 15, nI (q + 32), u7.2.2.2.2))))) else some ((0 : Int32), bvI (xb tp) q 32, nI 14, nI q, nI (q + 32)))) = _
    rw [if_neg (show ¬ (1 : Int32) = 0 by decide)]
    by_cases h2 : bvI (xb tp) q 32 = coa
    · rw [if_pos h2, if_pos h2, pk_sub h1]
      by_cases h3 : q + 40 ≤ 8 * F
      · rw [if_pos (nI_le (show 8 ≤ 8 * F - (q + 32) by omega) (by omega)), if_pos h3]
        exact ⟨_, _, rfl⟩
      · rw [if_neg (nI_ge (show 8 * F - (q + 32) < 8 by omega) (by omega)), if_neg h3, take_c (k := 8 * F - (q + 32)) hF hnb hf (by omega) (by omega), bd_s, bvI_N _ _ _ (by omega)]
        have hb := bvN_lt (xb tp) (q + 32) (8 * F - (q + 32))
        have hb2 : 2 ^ (8 * F - (q + 32)) ≤ 2 ^ 8 := Nat.pow_le_pow_right (by omega) (by omega)
        show ∃ tk at2, (if (1 : Int32) = 0 then _ else (if nI (bvN (xb tp) (q + 32) (8 * F - (q + 32))) = 0 then some ((1 : Int32), nI (bvN (xb tp) (q + 32) (8 * F - (q + 32))), (0 : Int32), (-1 : Int32), nI (q + 32 + (8 * F - (q + 32)))) else some ((0 : Int32), nI (bvN (xb tp) (q + 32) (8 * F - (q + 32))), nI 15, nI (q + 32), nI (q + 32 + (8 * F - (q + 32)))))) = _
        rw [if_neg (show ¬ (1 : Int32) = 0 by decide)]
        by_cases h4 : bvN (xb tp) (q + 32) (8 * F - (q + 32)) = 0
        · rw [if_pos (show nI (bvN (xb tp) (q + 32) (8 * F - (q + 32))) = 0 by rw [h4]; rfl), if_pos h4]
          exact ⟨_, _, rfl⟩
        · rw [if_neg (nI_ne0 (by omega) (by omega)), if_neg h4]
          exact ⟨_, _, rfl⟩
    · rw [if_neg h2, if_neg h2]
      exact ⟨_, _, rfl⟩
  · obtain ⟨tk, et⟩ := take_ce (k := 32) (flt := (0 : Int32)) (fa := (-1 : Int32)) hF hnb hf (by omega) hq (show 8 * F < q + 32 by omega)
    rw [show BitReader_take_f (32 : Int32) (nI (8 * F)) (nI F) nb f (0 : Int32) (-1 : Int32) (nI q) = _ from et, bd_s, if_neg h1]
    exact ⟨_, _, rfl⟩
theorem bvN_0 {x : Nat → Bool} {q : Nat} : ∀ k, bvN x q k = 0 ↔ ∀ j, j < k → x (q + j) = false := by
  intro k
  induction k with
  | zero => exact ⟨fun _ j hj => absurd hj (Nat.not_lt_zero _), fun _ => rfl⟩
  | succ k ih =>
    show 2 * bvN x q k + (x (q + k)).toNat = 0 ↔ _
    constructor
    · intro h j hj
      have h1 : bvN x q k = 0 := by omega
      by_cases hjk : j = k
      · rw [hjk]
        cases hx : x (q + k) with
        | false => rfl
        | true => rw [hx] at h; have : true.toNat = 1 := rfl; omega
      · exact ih.1 h1 j (by omega)
    · intro h
      rw [ih.2 (fun j hj => h j (by omega)), h k (by omega)]
      rfl
theorem zr_m {tp : Nat → Nat} {F : Nat} {tape : Nat → Int32} (hF : F ≤ 10240) (ht : ∀ j, j < F → tape j = nb (tp j) ∧ tp j < 256) : ∀ (r p z : Nat), r + p = 8 * F → r + 1 < z → ∃ fd b, lpF (Model_readEnd_L73 (nI (8 * F)) tape) z ((0 : Int32), (0 : Int32), (-1 : Int32), nI p) = some (fd, (0 : Int32), (-1 : Int32), b) ∧ (bvN (xb tp) p r = 0 → fd = 0) ∧ (¬ bvN (xb tp) p r = 0 → fd = (1 : Int32)) := by
  intro r
  induction r with
  | zero =>
    intro p z hp hz
    obtain ⟨z, rfl⟩ : ∃ z2, z = z2 + 1 := ⟨z - 1, by omega⟩
    have hb : Model_readEnd_L73 (nI (8 * F)) tape ((0 : Int32), (0 : Int32), (-1 : Int32), nI p) = some (Sum.inr ((0 : Int32), (0 : Int32), (-1 : Int32), nI p)) := by
      show bd (Model_isFine_f (0 : Int32)) (fun u9 => (if u9 = 0 then _ else (if (0 : Int32) = 0 then (if nI (8 * F) ≤ nI p then some (Sum.inr ((0 : Int32), (0 : Int32), (-1 : Int32), nI p)) else _) else _))) = _
      rw [fine_0, bd_s, if_neg (show ¬ (1 : Int32) = 0 by decide), if_pos rfl, if_pos (nI_le (by omega) (by omega))]
    rw [lpF_s, hb]
    exact ⟨_, _, rfl, fun _ => rfl, fun h => absurd rfl h⟩
  | succ r ih =>
    intro p z hp hz
    obtain ⟨z, rfl⟩ : ∃ z2, z = z2 + 1 := ⟨z - 1, by omega⟩
    have hb : Model_readEnd_L73 (nI (8 * F)) tape ((0 : Int32), (0 : Int32), (-1 : Int32), nI p) = (if nI (xb tp p).toNat = (1 : Int32) then some (Sum.inl ((1 : Int32), (0 : Int32), (-1 : Int32), nI (p + 1))) else some (Sum.inl ((0 : Int32), (0 : Int32), (-1 : Int32), nI (p + 1)))) := by
      show bd (Model_isFine_f (0 : Int32)) (fun u9 => (if u9 = 0 then _ else (if (0 : Int32) = 0 then (if nI (8 * F) ≤ nI p then _ else bd (Model_read_f (0 : Int32) (nI 1) (nI (8 * F)) tape (nI p) (-1 : Int32)) (fun u13 => (if u13.1 = (1 : Int32) then some (Sum.inl ((1 : Int32), u13.2.1, u13.2.2.1, u13.2.2.2)) else some (Sum.inl ((0 : Int32), u13.2.1, u13.2.2.1, u13.2.2.2))))) else _))) = _
      rw [fine_0, bd_s, if_neg (show ¬ (1 : Int32) = 0 by decide), if_pos rfl, if_neg (nI_ge (by omega) (by omega)), read_m hF ht (by omega) (show p + 1 ≤ 8 * F by omega), bd_s, bv1]
    rw [lpF_s, hb]
    cases hx : xb tp p with
    | true =>
      rw [if_pos (show nI true.toNat = (1 : Int32) from rfl), bd_s]
      obtain ⟨z, rfl⟩ : ∃ z2, z = z2 + 1 := ⟨z - 1, by omega⟩
      have hb2 : Model_readEnd_L73 (nI (8 * F)) tape ((1 : Int32), (0 : Int32), (-1 : Int32), nI (p + 1)) = some (Sum.inr ((1 : Int32), (0 : Int32), (-1 : Int32), nI (p + 1))) := by
        show bd (Model_isFine_f (0 : Int32)) (fun u9 => (if u9 = 0 then _ else (if (1 : Int32) = 0 then _ else some (Sum.inr ((1 : Int32), (0 : Int32), (-1 : Int32), nI (p + 1)))))) = _
        rw [fine_0, bd_s, if_neg (show ¬ (1 : Int32) = 0 by decide), if_neg (show ¬ (1 : Int32) = 0 by decide)]
      refine ⟨(1 : Int32), nI (p + 1), ?_, fun h => ?_, fun _ => rfl⟩
      · show lpF (Model_readEnd_L73 (nI (8 * F)) tape) (z + 1) ((1 : Int32), (0 : Int32), (-1 : Int32), nI (p + 1)) = _
        rw [lpF_s, hb2]
        rfl
      · have := (bvN_0 (r + 1)).1 h 0 (by omega)
        rw [Nat.add_zero p, hx] at this
        cases this
    | false =>
      rw [if_neg (show ¬ nI false.toNat = (1 : Int32) by decide), bd_s]
      obtain ⟨fd, b, e1, h1, h2⟩ := ih (p + 1) z (by omega) (by omega)
      have hiff : bvN (xb tp) p (r + 1) = 0 ↔ bvN (xb tp) (p + 1) r = 0 := by
        rw [bvN_0, bvN_0]
        constructor
        · intro h j hj
          rw [show p + 1 + j = p + (j + 1) by omega]
          exact h (j + 1) (by omega)
        · intro h j hj
          by_cases hj0 : j = 0
          · rw [hj0, Nat.add_zero p]; exact hx
          · rw [show p + j = p + 1 + (j - 1) by omega]
            exact h (j - 1) (by omega)
      exact ⟨fd, b, e1, fun h => h1 (hiff.1 h), fun h => h2 (fun h3 => h (hiff.2 h3))⟩
theorem end_m {tp : Nat → Nat} {F q : Nat} {tape : Nat → Int32} {coa : Int32} (hF : F ≤ 10240) (ht : ∀ j, j < F → tape j = nb (tp j) ∧ tp j < 256) (hq : q ≤ 8 * F) : ∃ flt pl bit, Model_readEnd_f (0 : Int32) (nI (8 * F)) tape (nI q) (-1 : Int32) coa = some (flt, pl, bit) ∧ (∀ e, fnN (8 * F) (xb tp) q coa = Sum.inl e → flt = nI e.1 ∧ pl = nI e.2 ∧ 0 < e.1 ∧ e.1 < 16) ∧ ∀ u, fnN (8 * F) (xb tp) q coa = Sum.inr u → flt = 0 ∧ pl = (-1 : Int32) := by
  have k71 : ∀ (a fd fl p b : Int32), ¬ fl = 0 → Model_readEnd_J71 (nI (8 * F)) tape a fd fl p b = some (fl, p, b) := by
    intro a fd fl p b h
    obtain ⟨z, hz⟩ := gas_s
    have hb : Model_readEnd_L73 (nI (8 * F)) tape (fd, fl, p, b) = some (Sum.inr (fd, fl, p, b)) := by
      show bd (Model_isFine_f fl) (fun u9 => (if u9 = 0 then some (Sum.inr (fd, fl, p, b)) else _)) = _
      rw [fine_n h, bd_s, if_pos rfl]
    unfold Model_readEnd_J71
    rw [hz, lpF_s, hb]
    show bd (Model_isFine_f fl) (fun u4 => (if u4 = 0 then Model_readEnd_J135 fl p b else _)) = _
    rw [fine_n h, bd_s, if_pos rfl]
    rfl
  have k47 : ∀ (fl p b : Int32), ¬ fl = 0 → Model_readEnd_J47 (nI (8 * F)) tape fl p b = some (fl, p, b) := by
    intro fl p b h
    unfold Model_readEnd_J47
    by_cases h2 : (nI (8 * F) - b) < (8 : Int32)
    · rw [if_pos h2, k71 _ _ _ _ _ h]
    · rw [if_neg h2, k71 _ _ _ _ _ h]
  unfold Model_readEnd_f fnN
  by_cases h1 : q + 32 ≤ 8 * F
  · rw [show Model_read_f (0 : Int32) (16 : Int32) (nI (8 * F)) tape (nI q) (-1 : Int32) = _ from read_m (k := 16) hF ht (by omega) (by omega), bd_s]
    dsimp only
    rw [show Model_read_f (0 : Int32) (16 : Int32) (nI (8 * F)) tape (nI (q + 16)) (-1 : Int32) = _ from read_m (k := 16) hF ht (by omega) (by omega), bd_s]
    dsimp only
    rw [← bvI_32, fine_0, bd_s, if_neg (show ¬ (1 : Int32) = 0 by decide), show q + 16 + 16 = q + 32 by omega, if_pos h1]
    by_cases h2 : bvI (xb tp) q 32 = coa
    · rw [if_pos h2, if_pos h2]
      unfold Model_readEnd_J47
      rw [pk_sub h1]
      by_cases h3 : q + 40 ≤ 8 * F
      · rw [if_neg (show ¬ nI (8 * F - (q + 32)) < (8 : Int32) from nI_nlt (b := 8) (by omega) (by omega)), if_pos h3]
        unfold Model_readEnd_J71
        obtain ⟨z, hz⟩ := gas_s
        have hb2 : Model_readEnd_L73 (nI (8 * F)) tape ((1 : Int32), (0 : Int32), (-1 : Int32), nI (q + 32)) = some (Sum.inr ((1 : Int32), (0 : Int32), (-1 : Int32), nI (q + 32))) := by
          show bd (Model_isFine_f (0 : Int32)) (fun u9 => (if u9 = 0 then _ else (if (1 : Int32) = 0 then _ else some (Sum.inr ((1 : Int32), (0 : Int32), (-1 : Int32), nI (q + 32)))))) = _
          rw [fine_0, bd_s, if_neg (show ¬ (1 : Int32) = 0 by decide), if_neg (show ¬ (1 : Int32) = 0 by decide)]
        rw [hz, lpF_s, hb2]
        show ∃ flt pl bit, bd (Model_isFine_f (0 : Int32)) (fun u4 => (if u4 = 0 then Model_readEnd_J135 (0 : Int32) (-1 : Int32) (nI (q + 32)) else (if (1 : Int32) = 0 then Model_readEnd_J135 (0 : Int32) (-1 : Int32) (nI (q + 32)) else bd (Model_stop_f (0 : Int32) (15 : Int32) (nI (q + 32)) (-1 : Int32)) (fun u7 => Model_readEnd_J135 u7.2.1 u7.2.2 (nI (q + 32)))))) = _ ∧ _
        rw [fine_0, bd_s, if_neg (show ¬ (1 : Int32) = 0 by decide), if_neg (show ¬ (1 : Int32) = 0 by decide), stop_0, bd_s]
        exact ⟨_, _, _, rfl, fun e he => (by cases he; exact ⟨rfl, rfl, by show 0 < _; omega, by show _ < 16; omega⟩), fun m hm => (by cases hm)⟩
      · rw [if_pos (show nI (8 * F - (q + 32)) < (8 : Int32) from nI_lt (b := 8) (by omega) (by omega)), if_neg h3]
        obtain ⟨fd, b, e1, g1, g2⟩ := zr_m (tp := tp) hF ht (8 * F - (q + 32)) (q + 32) gas (by omega) (Nat.lt_of_lt_of_le (by omega) gas_le)
        unfold Model_readEnd_J71
        rw [e1, bd_s]
        show ∃ flt pl bit, bd (Model_isFine_f (0 : Int32)) (fun u4 => (if u4 = 0 then _ else (if fd = 0 then Model_readEnd_J135 (0 : Int32) (-1 : Int32) b else bd (Model_stop_f (0 : Int32) (15 : Int32) (nI (q + 32)) (-1 : Int32)) (fun u7 => Model_readEnd_J135 u7.2.1 u7.2.2 b)))) = _ ∧ _
        rw [fine_0, bd_s, if_neg (show ¬ (1 : Int32) = 0 by decide), stop_0, bd_s]
        by_cases h4 : bvN (xb tp) (q + 32) (8 * F - (q + 32)) = 0
        · rw [if_pos (g1 h4), if_pos h4]
          exact ⟨_, _, _, rfl, fun e he => (by cases he), fun m hm => ⟨rfl, rfl⟩⟩
        · rw [if_neg (by rw [g2 h4]; decide), if_neg h4]
          exact ⟨_, _, _, rfl, fun e he => (by cases he; exact ⟨rfl, rfl, by show 0 < _; omega, by show _ < 16; omega⟩), fun m hm => (by cases hm)⟩
    · rw [if_neg h2, if_neg h2, stop_0, bd_s, k47 _ _ _ (show ¬ (14 : Int32) = 0 by decide)]
      exact ⟨_, _, _, rfl, fun e he => (by cases he; exact ⟨rfl, rfl, by show 0 < _; omega, by show _ < 16; omega⟩), fun m hm => (by cases hm)⟩
  · rw [if_neg h1]
    have hfin : ∀ (a b : Int32), ∃ flt pl bit, bd (Model_isFine_f (nI 2)) (fun u18 => (if u18 = 0 then Model_readEnd_J47 (nI (8 * F)) tape (nI 2) (nI (8 * F)) (nI (8 * F)) else (if a = coa then Model_readEnd_J47 (nI (8 * F)) tape (nI 2) (nI (8 * F)) (nI (8 * F)) else bd (Model_stop_f (nI 2) (14 : Int32) (nI q) (nI (8 * F))) (fun u21 => Model_readEnd_J47 (nI (8 * F)) tape u21.2.1 u21.2.2 (nI (8 * F)))))) = some (flt, pl, bit) ∧ (∀ e, (Sum.inl (2, 8 * F) : (Nat × Nat) ⊕ Unit) = Sum.inl e → flt = nI e.1 ∧ pl = nI e.2 ∧ 0 < e.1 ∧ e.1 < 16) ∧ ∀ u, (Sum.inl (2, 8 * F) : (Nat × Nat) ⊕ Unit) = Sum.inr u → flt = 0 ∧ pl = (-1 : Int32) := by
      intro a b
      rw [fine_n (by decide), bd_s, if_pos rfl, k47 _ _ _ (by decide)]
      exact ⟨_, _, _, rfl, fun e he => (by cases he; exact ⟨rfl, rfl, by show 0 < _; omega, by show _ < 16; omega⟩), fun m hm => (by cases hm)⟩
    by_cases h16 : q + 16 ≤ 8 * F
    · rw [show Model_read_f (0 : Int32) (16 : Int32) (nI (8 * F)) tape (nI q) (-1 : Int32) = _ from read_m (k := 16) hF ht (by omega) (by omega), bd_s]
      dsimp only
      rw [show Model_read_f (0 : Int32) (16 : Int32) (nI (8 * F)) tape (nI (q + 16)) (-1 : Int32) = _ from read_me (k := 16) hF ht (by omega) h16 (by omega), bd_s]
      exact hfin _ 0
    · rw [show Model_read_f (0 : Int32) (16 : Int32) (nI (8 * F)) tape (nI q) (-1 : Int32) = _ from read_me (k := 16) hF ht (by omega) hq (by omega), bd_s]
      dsimp only
      rw [read_mf (show ¬ nI 2 = 0 by decide), bd_s]
      exact hfin _ 0
