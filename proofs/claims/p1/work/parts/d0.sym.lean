/-! UNPACKING: the next symbol. inl: a fault and its place; inr: the symbol and where the next bit stands -/
noncomputable def hk (L : Nat → Nat) (N n v : Nat) : Nat := Classical.epsilon (fun k => k < N ∧ L k = n ∧ cdN L N k = v)
theorem hk_eq {L : Nat → Nat} {N n v k : Nat} (h1 : k < N) (h2 : L k = n) (h3 : cdN L N k = v) : hk L N n v = k := by
  have h := Classical.epsilon_spec (p := fun k => k < N ∧ L k = n ∧ cdN L N k = v) ⟨k, h1, h2, h3⟩
  exact cd_inj (L := L) (n := N) (h.2.1.trans h2.symm) (h.2.2.trans h3.symm)
noncomputable def dcN (L : Nat → Nat) (N E : Nat) (x : Nat → Bool) (q : Nat) : Nat → (Nat × Nat) ⊕ (Nat × Nat)
  | 0 => Sum.inl (7, q)
  | f + 1 => if E < q + (20 - f) then Sum.inl (2, E) else if fstN L N (20 - f) ≤ bvN x q (20 - f) ∧ bvN x q (20 - f) < fstN L N (20 - f) + cnt (fun j => decide (L j = 20 - f)) N then Sum.inr (hk L N (20 - f) (bvN x q (20 - f)), q + (20 - f)) else if bvN x q (20 - f) * 2 ^ f < kf L N then dcN L N E x q f else Sum.inl (7, q)
/-- what the class's read answers -/
def ansC (r : (Nat × Nat) ⊕ (Nat × Nat)) (at2 : Int32) : Int32 × Int32 × Int32 × Int32 := Sum.elim (fun e => ((-1 : Int32), nI e.1, nI e.2, at2)) (fun v => (nI v.1, (0 : Int32), (-1 : Int32), nI v.2)) r
theorem bv_s (x : Nat → Bool) (q n : Nat) : bvN x q (n + 1) = 2 * bvN x q n + (x (q + n)).toNat := rfl
theorem bv_or (x : Nat → Bool) (q n : Nat) (h : n ≤ 29) : (nI (bvN x q n) <<< ((1 : Int32) &&& 31)) ||| nI (x (q + n)).toNat = nI (bvN x q (n + 1)) := by
  have h1 := bvN_lt x q n
  have h2 : 2 ^ n ≤ 2 ^ 29 := Nat.pow_le_pow_right (by omega) (by omega)
  have h3 := tN_le (x (q + n))
  rw [shl1 (by omega), Nat.mul_comm, or_2N (by omega), bv_s]
theorem read_c {tp : Nat → Nat} {F nb q N : Nat} {f : Nat → Int32} {L : Nat → Nat} {co fs pl cd so : Nat → Int32} (hF : F ≤ nb) (hF2 : F ≤ 10240) (hnb : nb < 1000000) (hf : ∀ j, j < F → f j = nI (tp j)) (hN : N ≤ 258) (hL : ∀ k, k < N → 1 ≤ L k ∧ L k ≤ 20) (ht : tab L N co fs pl cd so) (hk2 : kf L N ≤ 2 ^ 20) (hq : q ≤ 8 * F) :
    ∃ at2, CodeTable_read_f (nI (8 * F)) (nI F) nb f fs (nI (kf L N)) co (0 : Int32) (-1 : Int32) (nI q) pl so = some (ansC (dcN L N (8 * F) (xb tp) q 20) at2) := by
  unfold CodeTable_read_f
  have key : ∀ (r g : Nat), r ≤ 20 → r < g → q + (20 - r) ≤ 8 * F → fstN L N (20 - r) + cnt (fun j => decide (L j = 20 - r)) N ≤ bvN (xb tp) q (20 - r) → ∃ at2, bd (lpF (CodeTable_read_L10 (nI (8 * F)) (nI F) nb f fs (nI (kf L N)) co) g (nI (bvN (xb tp) q (20 - r)), nI (21 - r), (0 : Int32), (-1 : Int32), nI (q + (20 - r)))) (fun u3 => (Sum.elim (fun v4 => some ((-1 : Int32), v4.1, v4.2.1, v4.2.2)) (Sum.elim (fun v5 => gd (ix v5.1 21) (gd (ix ((pl v5.1.toNatClampNeg) + v5.2.1) 258) (some ((so ((pl v5.1.toNatClampNeg) + v5.2.1).toNatClampNeg), v5.2.2.1, v5.2.2.2.1, v5.2.2.2.2)))) (Sum.elim (fun v8 => CodeTable_read_J105 (nI q) v8.1 v8.2.1 v8.2.2) (fun v9 => CodeTable_read_J105 (nI q) v9.1 v9.2.1 v9.2.2)))) u3) = some (ansC (dcN L N (8 * F) (xb tp) q r) at2) := by
    intro r
    induction r with
    | zero =>
      intro g _ hg _ _
      obtain ⟨g, rfl⟩ : ∃ g2, g = g2 + 1 := ⟨g - 1, by omega⟩
      refine ⟨nI (q + (20 - 0)), ?_⟩
      have hb : CodeTable_read_L10 (nI (8 * F)) (nI F) nb f fs (nI (kf L N)) co (nI (bvN (xb tp) q (20 - 0)), nI (21 - 0), (0 : Int32), (-1 : Int32), nI (q + (20 - 0))) = some (Sum.inr (Sum.inr (Sum.inr (Sum.inr ((0 : Int32), (-1 : Int32), nI (q + (20 - 0))))))) := by
        unfold CodeTable_read_L10
        show (if nI 20 < nI 21 then _ else _) = _
        rw [if_pos (by decide)]
      rw [lpF_s, hb]
      rfl
    | succ r ih =>
      intro g hr hg hq2 hlow
      obtain ⟨g, rfl⟩ : ∃ g2, g = g2 + 1 := ⟨g - 1, by omega⟩
      obtain ⟨n, hn⟩ : ∃ n, n = 20 - (r + 1) := ⟨_, rfl⟩
      have e1 : 21 - (r + 1) = n + 1 := by omega
      have e2 : 20 - r = n + 1 := by omega
      rw [← hn] at hq2 hlow ⊢
      rw [e1]
      have hdc : dcN L N (8 * F) (xb tp) q (r + 1) = (if 8 * F < q + (n + 1) then Sum.inl (2, 8 * F) else if fstN L N (n + 1) ≤ bvN (xb tp) q (n + 1) ∧ bvN (xb tp) q (n + 1) < fstN L N (n + 1) + cnt (fun j => decide (L j = n + 1)) N then Sum.inr (hk L N (n + 1) (bvN (xb tp) q (n + 1)), q + (n + 1)) else if bvN (xb tp) q (n + 1) * 2 ^ r < kf L N then dcN L N (8 * F) (xb tp) q r else Sum.inl (7, q)) := by
        rw [dcN, e2]
      rw [hdc, lpF_s]
      rcases Nat.lt_or_ge (q + n) (8 * F) with h1 | h1
      · rw [if_neg (by omega)]
        have hbv := bvN_lt (xb tp) q (n + 1)
        have hpw : 2 ^ (n + 1) ≤ 2 ^ 20 := Nat.pow_le_pow_right (by omega) (by omega)
        have hfb := fst_b2 (L := L) hN (show n + 1 ≤ 20 by omega)
        have hcn := cnt_le (fun j => decide (L j = n + 1)) N
        have hfst : fstN L N (n + 1) ≤ bvN (xb tp) q (n + 1) := by
          rw [bv_s, show fstN L N (n + 1) = (fstN L N n + cnt (fun j => decide (L j = n)) N) * 2 from rfl]
          omega
        have hJ82 : CodeTable_read_J82 (nI (bvN (xb tp) q n), nI (n + 1), (0 : Int32), (-1 : Int32), nI (q + n)) (nI (kf L N)) (nI (bvN (xb tp) q (n + 1))) (0 : Int32) (-1 : Int32) (nI (q + n + 1)) = (if bvN (xb tp) q (n + 1) * 2 ^ r < kf L N then some (Sum.inl (nI (bvN (xb tp) q (n + 1)), nI (n + 1 + 1), (0 : Int32), (-1 : Int32), nI (q + n + 1))) else some (Sum.inr (Sum.inr (Sum.inr (Sum.inl ((0 : Int32), (-1 : Int32), nI (q + n + 1))))))) := by
          have hsh : nI (bvN (xb tp) q (n + 1)) <<< (((20 : Int32) - nI (n + 1)) &&& 31) = nI (bvN (xb tp) q (n + 1) * 2 ^ r) := by
            rw [show (20 : Int32) - nI (n + 1) = nI (20 - (n + 1)) from pk_sub (show n + 1 ≤ 20 by omega), show 20 - (n + 1) = r by omega]
            refine pk_shlN _ r (shk r (by omega)) ?_
            have h5 : bvN (xb tp) q (n + 1) * 2 ^ r < 2 ^ (n + 1) * 2 ^ r := Nat.mul_lt_mul_of_pos_right hbv (Nat.two_pow_pos r)
            rw [← Nat.pow_add, show n + 1 + r = 20 by omega] at h5
            omega
          have hb2 : bvN (xb tp) q (n + 1) * 2 ^ r < 2 ^ 20 := by
            have h5 : bvN (xb tp) q (n + 1) * 2 ^ r < 2 ^ (n + 1) * 2 ^ r := Nat.mul_lt_mul_of_pos_right hbv (Nat.two_pow_pos r)
            rwa [← Nat.pow_add, show n + 1 + r = 20 by omega] at h5
          show (if nI (bvN (xb tp) q (n + 1)) <<< (((20 : Int32) - nI (n + 1)) &&& 31) < nI (kf L N) then some (Sum.inl (nI (bvN (xb tp) q (n + 1)), nI (n + 1) + (1 : Int32), (0 : Int32), (-1 : Int32), nI (q + n + 1))) else some (Sum.inr (Sum.inr (Sum.inr (Sum.inl ((0 : Int32), (-1 : Int32), nI (q + n + 1))))))) = _
          rw [hsh, nI_1]
          by_cases h6 : bvN (xb tp) q (n + 1) * 2 ^ r < kf L N
          · rw [if_pos (nI_lt h6 (by omega)), if_pos h6]
          · rw [if_neg (nI_nlt (by omega) (by omega)), if_neg h6]
        have hL10 : CodeTable_read_L10 (nI (8 * F)) (nI F) nb f fs (nI (kf L N)) co (nI (bvN (xb tp) q n), nI (n + 1), (0 : Int32), (-1 : Int32), nI (q + n)) = (if nI (cnt (fun j => decide (L j = n + 1)) N) ≤ nI (bvN (xb tp) q (n + 1) - fstN L N (n + 1)) then CodeTable_read_J82 (nI (bvN (xb tp) q n), nI (n + 1), (0 : Int32), (-1 : Int32), nI (q + n)) (nI (kf L N)) (nI (bvN (xb tp) q (n + 1))) (0 : Int32) (-1 : Int32) (nI (q + n + 1)) else some (Sum.inr (Sum.inr (Sum.inl (nI (n + 1), nI (bvN (xb tp) q (n + 1) - fstN L N (n + 1)), (0 : Int32), (-1 : Int32), nI (q + n + 1)))))) := by
          show (if nI 20 < nI (n + 1) then _ else bd (BitReader_bit_f (nI (q + n)) (nI (8 * F)) (nI F) nb f (0 : Int32) (-1 : Int32)) (fun u13 => (if u13.1 = (-1 : Int32) then _ else gd (ix (nI (n + 1)) 21) (if ((nI (bvN (xb tp) q n) <<< ((1 : Int32) &&& 31)) ||| u13.1) - fs (nI (n + 1)).toNatClampNeg < 0 then _ else gd (ix (nI (n + 1)) 21) (if co (nI (n + 1)).toNatClampNeg ≤ ((nI (bvN (xb tp) q n) <<< ((1 : Int32) &&& 31)) ||| u13.1) - fs (nI (n + 1)).toNatClampNeg then CodeTable_read_J82 (nI (bvN (xb tp) q n), nI (n + 1), (0 : Int32), (-1 : Int32), nI (q + n)) (nI (kf L N)) ((nI (bvN (xb tp) q n) <<< ((1 : Int32) &&& 31)) ||| u13.1) u13.2.1 u13.2.2.1 u13.2.2.2 else some (Sum.inr (Sum.inr (Sum.inl (nI (n + 1), ((nI (bvN (xb tp) q n) <<< ((1 : Int32) &&& 31)) ||| u13.1) - fs (nI (n + 1)).toNatClampNeg, u13.2.1, u13.2.2.1, u13.2.2.2))))))))) = _
          rw [if_neg (nI_nlt (by omega) (by omega)), bit_c hF hnb hf h1, bd_s]
          show (if nI (xb tp (q + n)).toNat = (-1 : Int32) then _ else gd (ix (nI (n + 1)) 21) (if ((nI (bvN (xb tp) q n) <<< ((1 : Int32) &&& 31)) ||| nI (xb tp (q + n)).toNat) - fs (nI (n + 1)).toNatClampNeg < 0 then _ else gd (ix (nI (n + 1)) 21) (if co (nI (n + 1)).toNatClampNeg ≤ ((nI (bvN (xb tp) q n) <<< ((1 : Int32) &&& 31)) ||| nI (xb tp (q + n)).toNat) - fs (nI (n + 1)).toNatClampNeg then CodeTable_read_J82 (nI (bvN (xb tp) q n), nI (n + 1), (0 : Int32), (-1 : Int32), nI (q + n)) (nI (kf L N)) ((nI (bvN (xb tp) q n) <<< ((1 : Int32) &&& 31)) ||| nI (xb tp (q + n)).toNat) (0 : Int32) (-1 : Int32) (nI (q + n + 1)) else some (Sum.inr (Sum.inr (Sum.inl (nI (n + 1), ((nI (bvN (xb tp) q n) <<< ((1 : Int32) &&& 31)) ||| nI (xb tp (q + n)).toNat) - fs (nI (n + 1)).toNatClampNeg, (0 : Int32), (-1 : Int32), nI (q + n + 1)))))))) = _
          rw [if_neg (b2n_ne _), bv_or (xb tp) q n (by omega), nI_clamp (show n + 1 < 2 ^ 31 by omega), ht.f (n + 1) (by omega), ht.c (n + 1) (by omega), pk_sub hfst, ixN (show n + 1 < 21 by omega) (by omega), gd_t, gd_t, if_neg (nI_pos (by omega))]
        rw [hL10]
        by_cases h2 : bvN (xb tp) q (n + 1) < fstN L N (n + 1) + cnt (fun j => decide (L j = n + 1)) N
        · have hhit : fstN L N (n + 1) ≤ bvN (xb tp) q (n + 1) ∧ bvN (xb tp) q (n + 1) < fstN L N (n + 1) + cnt (fun j => decide (L j = n + 1)) N := ⟨hfst, h2⟩
          have hc1 : ¬ nI (cnt (fun j => decide (L j = n + 1)) N) ≤ nI (bvN (xb tp) q (n + 1) - fstN L N (n + 1)) := nI_ge (by omega) (by omega)
          rw [if_pos hhit, if_neg hc1]
          obtain ⟨k, hkN, hk3, hk4, hk5⟩ := cd_at hfst h2
          refine ⟨(0 : Int32), ?_⟩
          have hso := ht.s k hkN
          rw [hk3, hk5] at hso
          have hks := srt_eq (L := L) hkN
          rw [hk3, hk5] at hks
          have hkp := kpos_lt (K := lexk L (fun x => x) N) hkN
          show gd (ix (nI (n + 1)) 21) (gd (ix (pl (nI (n + 1)).toNatClampNeg + nI (bvN (xb tp) q (n + 1) - fstN L N (n + 1))) 258) (some (so (pl (nI (n + 1)).toNatClampNeg + nI (bvN (xb tp) q (n + 1) - fstN L N (n + 1))).toNatClampNeg, (0 : Int32), (-1 : Int32), nI (q + n + 1)))) = some (nI (hk L N (n + 1) (bvN (xb tp) q (n + 1))), (0 : Int32), (-1 : Int32), nI (q + (n + 1)))
          rw [nI_clamp (show n + 1 < 2 ^ 31 by omega), ht.p (n + 1) (by omega), nI_add, ixN (show n + 1 < 21 by omega) (by omega), ixN (show cnt (fun j => decide (L j < n + 1)) N + (bvN (xb tp) q (n + 1) - fstN L N (n + 1)) < 258 by omega) (by omega), nI_clamp (show cnt (fun j => decide (L j < n + 1)) N + (bvN (xb tp) q (n + 1) - fstN L N (n + 1)) < 2 ^ 31 by omega), hso, hk_eq hkN hk3 hk4]
          rfl
        · have hhit : ¬ (fstN L N (n + 1) ≤ bvN (xb tp) q (n + 1) ∧ bvN (xb tp) q (n + 1) < fstN L N (n + 1) + cnt (fun j => decide (L j = n + 1)) N) := fun h => h2 h.2
          have hc1 : nI (cnt (fun j => decide (L j = n + 1)) N) ≤ nI (bvN (xb tp) q (n + 1) - fstN L N (n + 1)) := nI_le (by omega) (by omega)
          rw [if_neg hhit, if_pos hc1, hJ82]
          by_cases h3 : bvN (xb tp) q (n + 1) * 2 ^ r < kf L N
          · rw [if_pos h3, if_pos h3]
            have hih := ih g (by omega) (by omega) (by omega) (by rw [e2]; omega)
            rw [e2, show 21 - r = n + 1 + 1 by omega] at hih
            exact hih
          · rw [if_neg h3, if_neg h3]
            exact ⟨nI (q + n + 1), rfl⟩
      · have hqE : q + n = 8 * F := by omega
        rw [if_pos (by omega)]
        refine ⟨nI (8 * F), ?_⟩
        have hb : CodeTable_read_L10 (nI (8 * F)) (nI F) nb f fs (nI (kf L N)) co (nI (bvN (xb tp) q n), nI (n + 1), (0 : Int32), (-1 : Int32), nI (q + n)) = some (Sum.inr (Sum.inl (nI 2, nI (8 * F), nI (8 * F)))) := by
          rw [hqE]
          show (if nI 20 < nI (n + 1) then _ else bd (BitReader_bit_f (nI (8 * F)) (nI (8 * F)) (nI F) nb f (0 : Int32) (-1 : Int32)) (fun u13 => (if u13.1 = (-1 : Int32) then some (Sum.inr (Sum.inl (u13.2.1, u13.2.2.1, u13.2.2.2))) else _))) = _
          rw [if_neg (nI_nlt (by omega) (by omega)), bit_ce (by omega), bd_s, if_pos rfl]
        rw [hb]
        rfl
  obtain ⟨at2, h⟩ := key 20 gas (Nat.le_refl _) (Nat.lt_of_lt_of_le (by omega) gas_le) hq (by
    show fstN L N 0 + cnt (fun j => decide (L j = 0)) N ≤ _
    rw [cnt_none (fun j hj => decide_eq_false (by have := hL j hj; omega))]
    exact Nat.zero_le _)
  exact ⟨at2, h⟩
