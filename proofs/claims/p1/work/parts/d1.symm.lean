/-! UNPACKING: the next symbol, the reference's -/
theorem bvI_1 (x : Nat → Bool) (q : Nat) : bvI x q 1 = nI (x q).toNat := by
  rw [bvI_N x q 1 (by omega)]
  show nI (2 * 0 + (x (q + 0)).toNat) = _
  rw [Nat.add_zero, Nat.mul_zero, Nat.zero_add]
theorem lookup_m {N c t n v : Nat} {seen pre : Nat → Int32} {L : Nat → Nat} {u1 pl bit s1v a3 a4 a5 : Int32} (hc : c + 2 = N) (hN : N ≤ 258) (ht : t < 6) (hn : n ≤ 20) (hv : v < 2 ^ 21) (hL : ∀ k, k < N → seen (258 * t + k) = nI (L k) ∧ pre (258 * t + k) = nI (cdN L N k) ∧ L k ≤ 20) (hu : (s1v <<< ((1 : Int32) &&& 31)) ||| u1 = nI v) :
    ∃ e, lpF (Model_readSymbol_L40 (nI c) (u1, (0 : Int32), pl, bit) (nI t) seen (s1v, nI n, a3, a4, a5) pre) gas ((0 : Int32), (0 : Int32)) = some e ∧ ((∃ k, e = Sum.inl (nI k) ∧ k < N ∧ L k = n ∧ cdN L N k = v) ∨ (∃ b : Bool, e = Sum.inr (nI b.toNat) ∧ (∀ k, k < N → ¬ (L k = n ∧ cdN L N k = v)) ∧ (b = true ↔ ∃ k, k < N ∧ n < L k ∧ cdN L N k / 2 ^ (L k - n) = v))) := by
  have hc2 : nI c + (2 : Int32) = nI N := (nI_add c 2).trans (congrArg nI hc)
  refine lp_totg (fun s => ∃ k b, s = (nI (Bool.toNat b), nI k) ∧ k ≤ N ∧ (∀ j, j < k → ¬ (L j = n ∧ cdN L N j = v)) ∧ (b = true ↔ ∃ j, j < k ∧ n < L j ∧ cdN L N j / 2 ^ (L j - n) = v)) (fun s => 1000 - s.2.toNatClampNeg) _ ?_ ⟨0, false, rfl, Nat.zero_le _, fun j h => absurd h (Nat.not_lt_zero _), ⟨fun h => Bool.noConfusion h, fun ⟨j, hj, _⟩ => absurd hj (Nat.not_lt_zero _)⟩⟩ (by show 1000 - _ < 1000000; omega)
  rintro s ⟨k, b, rfl, hk, hno, hb⟩
  rcases Nat.lt_or_ge k N with h | h
  · obtain ⟨h1, h2, h3⟩ := hL k h
    have hfb := fst_b2 (L := L) hN h3
    have hcl := cd_lt (L := L) h
    have hcn := cnt_le (fun j => decide (L j = L k)) N
    have hJ104 : Model_readSymbol_J104 (s1v, nI n, a3, a4, a5) (nI b.toNat, nI k) (u1, (0 : Int32), pl, bit) (nI (L k)) (nI (cdN L N k)) = some (Sum.inl (nI (b || decide (n < L k ∧ cdN L N k / 2 ^ (L k - n) = v)).toNat, nI (k + 1))) := by
      unfold Model_readSymbol_J104 Model_readSymbol_J129 Model_readSymbol_J130
      show (if nI (L k) ≤ nI n then some (Sum.inl (nI b.toNat ||| nI (false : Bool).toNat, nI k + (1 : Int32))) else (if nI (cdN L N k) >>> ((nI (L k) - nI n) &&& 31) = ((s1v <<< ((1 : Int32) &&& 31)) ||| u1) then some (Sum.inl (nI b.toNat ||| nI (true : Bool).toNat, nI k + (1 : Int32))) else some (Sum.inl (nI b.toNat ||| nI (false : Bool).toNat, nI k + (1 : Int32))))) = _
      rw [or01, or01, nI_1, hu]
      by_cases q1 : L k ≤ n
      · rw [if_pos (nI_le q1 (by omega)), decide_eq_false (fun q => by omega)]
      · rw [if_neg (nI_ge (by omega) (by omega)), pk_sub (show n ≤ L k by omega), pk_shrN (show cdN L N k < 2 ^ 31 by omega) (nI (L k - n) &&& 31) (L k - n) (shk (L k - n) (by omega))]
        have hdl : cdN L N k / 2 ^ (L k - n) ≤ cdN L N k := Nat.div_le_self _ _
        by_cases q2 : cdN L N k / 2 ^ (L k - n) = v
        · rw [if_pos (by rw [q2]), decide_eq_true ⟨by omega, q2⟩]
        · rw [if_neg (by rw [nI_eq (by omega) (by omega)]; exact q2), decide_eq_false (fun q => q2 q.2)]
    have hS : Model_readSymbol_L40 (nI c) (u1, (0 : Int32), pl, bit) (nI t) seen (s1v, nI n, a3, a4, a5) pre (nI b.toNat, nI k) = (if nI (L k) = nI n then (if nI (cdN L N k) = nI v then some (Sum.inr (Sum.inl (nI k))) else some (Sum.inl (nI (b || decide (n < L k ∧ cdN L N k / 2 ^ (L k - n) = v)).toNat, nI (k + 1)))) else some (Sum.inl (nI (b || decide (n < L k ∧ cdN L N k / 2 ^ (L k - n) = v)).toNat, nI (k + 1)))) := by
      show (if nI c + (2 : Int32) ≤ nI k then _ else bd (Model_isFine_f (0 : Int32)) (fun u22 => (if u22 = 0 then _ else gd (ix (nI 258 * nI t + nI k) 1548) (gd (ix (nI 258 * nI t + nI k) 1548) (if seen (nI 258 * nI t + nI k).toNatClampNeg = nI n then (if pre (nI 258 * nI t + nI k).toNatClampNeg = ((s1v <<< ((1 : Int32) &&& 31)) ||| u1) then some (Sum.inr (Sum.inl (nI k))) else Model_readSymbol_J104 (s1v, nI n, a3, a4, a5) (nI b.toNat, nI k) (u1, (0 : Int32), pl, bit) (seen (nI 258 * nI t + nI k).toNatClampNeg) (pre (nI 258 * nI t + nI k).toNatClampNeg)) else Model_readSymbol_J104 (s1v, nI n, a3, a4, a5) (nI b.toNat, nI k) (u1, (0 : Int32), pl, bit) (seen (nI 258 * nI t + nI k).toNatClampNeg) (pre (nI 258 * nI t + nI k).toNatClampNeg)))))) = _
      rw [hc2, if_neg (nI_ge h (by omega)), fine_0, bd_s, if_neg (by decide), pk_mul, nI_add, ixN (show 258 * t + k < 1548 by omega) (by omega), gd_t, gd_t, nI_clamp (show 258 * t + k < 2 ^ 31 by omega), h1, h2, hu, hJ104]
    rw [hS]
    by_cases q3 : L k = n ∧ cdN L N k = v
    · refine Or.inr ⟨Sum.inl (nI k), by rw [if_pos (by rw [q3.1]), if_pos (by rw [q3.2])], Or.inl ⟨k, rfl, h, q3.1, q3.2⟩⟩
    · refine Or.inl ⟨(nI (b || decide (n < L k ∧ cdN L N k / 2 ^ (L k - n) = v)).toNat, nI (k + 1)), ?_, ⟨k + 1, _, rfl, h, fun j hj => ?_, ?_⟩, ?_⟩
      · by_cases q4 : L k = n
        · have q5 : ¬ nI (cdN L N k) = nI v := by rw [nI_eq (by omega) (by omega)]; exact fun q => q3 ⟨q4, q⟩
          rw [if_pos (by rw [q4]), if_neg q5]
        · have q5 : ¬ nI (L k) = nI n := by rw [nI_eq (by omega) (by omega)]; exact q4
          rw [if_neg q5]
      · rcases Nat.lt_or_ge j k with q6 | q6
        · exact hno j q6
        · rw [show j = k by omega]
          exact q3
      · rw [Bool.or_eq_true, hb, decide_eq_true_eq]
        constructor
        · rintro (⟨j, hj, h5⟩ | h5)
          · exact ⟨j, by omega, h5⟩
          · exact ⟨k, by omega, h5⟩
        · rintro ⟨j, hj, h5⟩
          rcases Nat.lt_or_ge j k with q6 | q6
          · exact Or.inl ⟨j, q6, h5⟩
          · rw [show j = k by omega] at h5
            exact Or.inr h5
      · show 1000 - (nI (k + 1)).toNatClampNeg < 1000 - (nI k).toNatClampNeg
        rw [nI_clamp (by omega), nI_clamp (by omega)]
        omega
  · have hkN : k = N := by omega
    subst hkN
    refine Or.inr ⟨Sum.inr (nI b.toNat), ?_, Or.inr ⟨b, rfl, hno, hb⟩⟩
    show (if nI c + (2 : Int32) ≤ nI k then _ else _) = _
    rw [hc2, if_pos (nI_le (Nat.le_refl _) (by omega))]
theorem readSymbol_m {tp : Nat → Nat} {F q c N t : Nat} {tape seen pre : Nat → Int32} {L : Nat → Nat} (hF : F ≤ 10240) (htp : ∀ j, j < F → tape j = nb (tp j) ∧ tp j < 256) (hc : c + 2 = N) (hN : N ≤ 258) (ht : t < 6) (hL : ∀ k, k < N → seen (258 * t + k) = nI (L k) ∧ pre (258 * t + k) = nI (cdN L N k) ∧ 1 ≤ L k ∧ L k ≤ 20) (hq : q ≤ 8 * F) :
    ∃ bit2, Model_readSymbol_f (nI (8 * F)) tape (nI c) (nI t) seen pre (nI q) (0 : Int32) (-1 : Int32) = some (ansC (dcN L N (8 * F) (xb tp) q 20) bit2) := by
  have hLb : ∀ k, k < N → 1 ≤ L k ∧ L k ≤ 20 := fun k hk => (hL k hk).2.2
  unfold Model_readSymbol_f
  have hstop : ∀ (g : Nat) (v n flt pl bit : Int32), ¬ flt = 0 → 0 < g → lpF (Model_readSymbol_L10 (nI (8 * F)) tape (nI c) (nI t) seen pre (nI q)) g (v, n, flt, pl, bit) = some (Sum.inr (flt, pl, bit)) := by
    intro g v n flt pl bit hfl hg
    obtain ⟨g, rfl⟩ : ∃ g2, g = g2 + 1 := ⟨g - 1, by omega⟩
    have hb : Model_readSymbol_L10 (nI (8 * F)) tape (nI c) (nI t) seen pre (nI q) (v, n, flt, pl, bit) = some (Sum.inr (Sum.inr (flt, pl, bit))) := by
      show (if (20 : Int32) < n then some (Sum.inr (Sum.inr (flt, pl, bit))) else bd (Model_isFine_f flt) (fun u7 => (if u7 = 0 then some (Sum.inr (Sum.inr (flt, pl, bit))) else _))) = _
      by_cases h : (20 : Int32) < n
      · rw [if_pos h]
      · rw [if_neg h, fine_n hfl, bd_s, if_pos rfl]
    rw [lpF_s, hb]
    rfl
  have key : ∀ (r g : Nat), r ≤ 20 → r < g → q + (20 - r) ≤ 8 * F → fstN L N (20 - r) + cnt (fun j => decide (L j = 20 - r)) N ≤ bvN (xb tp) q (20 - r) → (r = 0 → True) → ∃ bit2, bd (lpF (Model_readSymbol_L10 (nI (8 * F)) tape (nI c) (nI t) seen pre (nI q)) g (nI (bvN (xb tp) q (20 - r)), nI (21 - r), (0 : Int32), (-1 : Int32), nI (q + (20 - r)))) (fun u2 => (Sum.elim (fun v3 => some (v3.1, v3.2.1, v3.2.2.1, v3.2.2.2)) (fun v4 => some ((-1 : Int32), v4.1, v4.2.1, v4.2.2))) u2) = some (ansC (dcN L N (8 * F) (xb tp) q r) bit2) ∨ r = 0 := by
    intro r
    induction r with
    | zero => intro g _ _ _ _ _; exact ⟨(0 : Int32), Or.inr rfl⟩
    | succ r ih =>
      intro g hr hg hq2 hlow _
      obtain ⟨g, rfl⟩ : ∃ g2, g = g2 + 1 := ⟨g - 1, by omega⟩
      obtain ⟨n, hn⟩ : ∃ n, n = 20 - (r + 1) := ⟨_, rfl⟩
      have e1 : 21 - (r + 1) = n + 1 := by omega
      have e2 : 20 - r = n + 1 := by omega
      have e20 : 20 - (n + 1) = r := by omega
      rw [← hn] at hq2 hlow ⊢
      rw [e1]
      have hdc : dcN L N (8 * F) (xb tp) q (r + 1) = (if 8 * F < q + (n + 1) then Sum.inl (2, 8 * F) else if fstN L N (n + 1) ≤ bvN (xb tp) q (n + 1) ∧ bvN (xb tp) q (n + 1) < fstN L N (n + 1) + cnt (fun j => decide (L j = n + 1)) N then Sum.inr (hk L N (n + 1) (bvN (xb tp) q (n + 1)), q + (n + 1)) else if bvN (xb tp) q (n + 1) * 2 ^ r < kf L N then dcN L N (8 * F) (xb tp) q r else Sum.inl (7, q)) := by
        rw [dcN, e2]
      rw [hdc, lpF_s]
      have hL10 : ∀ u9 : Int32 × Int32 × Int32 × Int32, Model_read_f (0 : Int32) (1 : Int32) (nI (8 * F)) tape (nI (q + n)) (-1 : Int32) = some u9 → Model_readSymbol_L10 (nI (8 * F)) tape (nI c) (nI t) seen pre (nI q) (nI (bvN (xb tp) q n), nI (n + 1), (0 : Int32), (-1 : Int32), nI (q + n)) = bd (lpF (Model_readSymbol_L40 (nI c) u9 (nI t) seen (nI (bvN (xb tp) q n), nI (n + 1), (0 : Int32), (-1 : Int32), nI (q + n)) pre) gas ((0 : Int32), (0 : Int32))) (fun u11 => (Sum.elim (fun v12 => some (Sum.inr (Sum.inl (v12, u9.2.1, u9.2.2.1, u9.2.2.2)))) (fun v13 => bd (Model_isFine_f u9.2.1) (fun u14 => (if u14 = 0 then some (Sum.inl ((nI (bvN (xb tp) q n) <<< ((1 : Int32) &&& 31)) ||| u9.1, nI (n + 1 + 1), u9.2.1, u9.2.2.1, u9.2.2.2)) else (if v13 = 0 then bd (Model_stop_f u9.2.1 (7 : Int32) (nI q) u9.2.2.1) (fun u17 => some (Sum.inl ((nI (bvN (xb tp) q n) <<< ((1 : Int32) &&& 31)) ||| u9.1, nI (n + 1 + 1), u17.2.1, u17.2.2, u9.2.2.2))) else some (Sum.inl ((nI (bvN (xb tp) q n) <<< ((1 : Int32) &&& 31)) ||| u9.1, nI (n + 1 + 1), u9.2.1, u9.2.2.1, u9.2.2.2))))))) u11) := by
        intro u9 hu9
        rw [show nI (n + 1 + 1) = nI (n + 1) + (1 : Int32) from (nI_1 (n + 1)).symm]
        show (if nI 20 < nI (n + 1) then _ else bd (Model_isFine_f (0 : Int32)) (fun u7 => (if u7 = 0 then _ else bd (Model_read_f (0 : Int32) (1 : Int32) (nI (8 * F)) tape (nI (q + n)) (-1 : Int32)) _))) = _
        rw [if_neg (nI_nlt (by omega) (by omega)), fine_0, bd_s, if_neg (by decide), hu9, bd_s]
        rfl
      rcases Nat.lt_or_ge (q + n) (8 * F) with h1 | h1
      · rw [if_neg (show ¬ 8 * F < q + (n + 1) by omega)]
        have hbv := bvN_lt (xb tp) q (n + 1)
        have hpw : 2 ^ (n + 1) ≤ 2 ^ 20 := Nat.pow_le_pow_right (by omega) (by omega)
        have hfst : fstN L N (n + 1) ≤ bvN (xb tp) q (n + 1) := by
          rw [bv_s, show fstN L N (n + 1) = (fstN L N n + cnt (fun j => decide (L j = n)) N) * 2 from rfl]
          omega
        have hu9 : Model_read_f (0 : Int32) (1 : Int32) (nI (8 * F)) tape (nI (q + n)) (-1 : Int32) = some (nI (xb tp (q + n)).toNat, (0 : Int32), (-1 : Int32), nI (q + n + 1)) := by
          rw [show Model_read_f (0 : Int32) (1 : Int32) (nI (8 * F)) tape (nI (q + n)) (-1 : Int32) = _ from read_m (k := 1) hF htp (by omega) (show q + n + 1 ≤ 8 * F by omega), bvI_1]
        rw [hL10 _ hu9]
        obtain ⟨e, e3, he⟩ := lookup_m (pl := (-1 : Int32)) (bit := nI (q + n + 1)) (a3 := (0 : Int32)) (a4 := (-1 : Int32)) (a5 := nI (q + n)) hc hN ht (show n + 1 ≤ 20 by omega) (show bvN (xb tp) q (n + 1) < 2 ^ 21 by omega) (fun k hk => ⟨(hL k hk).1, (hL k hk).2.1, (hL k hk).2.2.2⟩) (bv_or (xb tp) q n (by omega))
        rw [e3, bd_s]
        rcases he with ⟨k, rfl, hkN, hk3, hk4⟩ | ⟨b, rfl, hno, hb⟩
        · have hlt := cd_lt (L := L) hkN
          rw [hk3, hk4] at hlt
          have hhit : fstN L N (n + 1) ≤ bvN (xb tp) q (n + 1) ∧ bvN (xb tp) q (n + 1) < fstN L N (n + 1) + cnt (fun j => decide (L j = n + 1)) N := ⟨hfst, hlt⟩
          rw [if_pos hhit, hk_eq hkN hk3 hk4]
          exact ⟨(0 : Int32), Or.inl rfl⟩
        · have hlt : ¬ bvN (xb tp) q (n + 1) < fstN L N (n + 1) + cnt (fun j => decide (L j = n + 1)) N := fun q2 => by
            obtain ⟨k, hkN, hk3, hk4, _⟩ := cd_at hfst q2
            exact hno k hkN ⟨hk3, hk4⟩
          have hhit : ¬ (fstN L N (n + 1) ≤ bvN (xb tp) q (n + 1) ∧ bvN (xb tp) q (n + 1) < fstN L N (n + 1) + cnt (fun j => decide (L j = n + 1)) N) := fun h => hlt h.2
          rw [if_neg hhit]
          have hany := any_iff (L := L) (n := N) (m := n + 1) (show n + 1 ≤ 20 by omega) hLb (Nat.le_of_not_lt hlt)
          rw [e20] at hany
          rw [hany] at hb
          clear hany
          show ∃ bit2, bd (bd (bd (Model_isFine_f (0 : Int32)) (fun u14 => (if u14 = 0 then some (Sum.inl ((nI (bvN (xb tp) q n) <<< ((1 : Int32) &&& 31)) ||| nI (xb tp (q + n)).toNat, nI (n + 1 + 1), (0 : Int32), (-1 : Int32), nI (q + n + 1))) else (if nI b.toNat = 0 then bd (Model_stop_f (0 : Int32) (7 : Int32) (nI q) (-1 : Int32)) (fun u17 => some (Sum.inl ((nI (bvN (xb tp) q n) <<< ((1 : Int32) &&& 31)) ||| nI (xb tp (q + n)).toNat, nI (n + 1 + 1), u17.2.1, u17.2.2, nI (q + n + 1)))) else some (Sum.inl ((nI (bvN (xb tp) q n) <<< ((1 : Int32) &&& 31)) ||| nI (xb tp (q + n)).toNat, nI (n + 1 + 1), (0 : Int32), (-1 : Int32), nI (q + n + 1))))))) (fun u => Sum.elim (lpF (Model_readSymbol_L10 (nI (8 * F)) tape (nI c) (nI t) seen pre (nI q)) g) some u)) _ = _ ∨ _
          rw [fine_0, bd_s, if_neg (by decide), bv_or (xb tp) q n (by omega), stop_0, bd_s]
          by_cases h3 : bvN (xb tp) q (n + 1) * 2 ^ r < kf L N
          · rw [if_pos h3, hb.mpr h3, if_neg (by decide)]
            have hr0 : r ≠ 0 := by
              intro hr0
              subst hr0
              rw [← En_kf hLb] at h3
              have h20 : n + 1 = 20 := by omega
              unfold En at h3
              rw [h20] at hlt h3
              rw [Nat.sub_self, Nat.pow_zero, Nat.mul_one, Nat.mul_one] at h3
              exact hlt h3
            obtain ⟨bit2, hih⟩ := ih g (by omega) (by omega) (by omega) (by rw [e2]; omega) (fun _ => trivial)
            rw [e2, show 21 - r = n + 1 + 1 by omega] at hih
            rcases hih with hih | hih
            · exact ⟨bit2, Or.inl hih⟩
            · exact absurd hih hr0
          · have hbf : b = false := by
              cases hbb : b with
              | false => rfl
              | true => exact absurd (hb.mp hbb) h3
            rw [if_neg h3, hbf, if_pos (by decide)]
            refine ⟨nI (q + n + 1), Or.inl ?_⟩
            show bd (lpF (Model_readSymbol_L10 (nI (8 * F)) tape (nI c) (nI t) seen pre (nI q)) g (nI (bvN (xb tp) q (n + 1)), nI (n + 1 + 1), (7 : Int32), nI q, nI (q + n + 1))) _ = _
            rw [hstop g _ _ _ _ _ (by decide) (by omega)]
            rfl
      · have hqE : q + n = 8 * F := by omega
        rw [if_pos (show 8 * F < q + (n + 1) by omega)]
        have hu9 : Model_read_f (0 : Int32) (1 : Int32) (nI (8 * F)) tape (nI (q + n)) (-1 : Int32) = some ((0 : Int32), nI 2, nI (8 * F), nI (8 * F)) := read_me (k := 1) hF htp (by omega) (by omega) (by omega)
        rw [hL10 _ hu9]
        have e3 : lpF (Model_readSymbol_L40 (nI c) ((0 : Int32), nI 2, nI (8 * F), nI (8 * F)) (nI t) seen (nI (bvN (xb tp) q n), nI (n + 1), (0 : Int32), (-1 : Int32), nI (q + n)) pre) gas ((0 : Int32), (0 : Int32)) = some (Sum.inr (0 : Int32)) := by
          obtain ⟨g3, hg3⟩ : ∃ g3, gas = g3 + 1 := ⟨gas - 1, by have := gas_le; omega⟩
          have hb : Model_readSymbol_L40 (nI c) ((0 : Int32), nI 2, nI (8 * F), nI (8 * F)) (nI t) seen (nI (bvN (xb tp) q n), nI (n + 1), (0 : Int32), (-1 : Int32), nI (q + n)) pre ((0 : Int32), (0 : Int32)) = some (Sum.inr (Sum.inr (0 : Int32))) := by
            show (if nI c + (2 : Int32) ≤ (0 : Int32) then some (Sum.inr (Sum.inr (0 : Int32))) else bd (Model_isFine_f (nI 2)) (fun u22 => (if u22 = 0 then some (Sum.inr (Sum.inr (0 : Int32))) else _))) = _
            by_cases h : nI c + (2 : Int32) ≤ (0 : Int32)
            · rw [if_pos h]
            · rw [if_neg h, fine_n (by decide), bd_s, if_pos rfl]
          rw [hg3, lpF_s, hb]
          rfl
        rw [e3, bd_s]
        refine ⟨nI (8 * F), Or.inl ?_⟩
        show bd (bd (bd (Model_isFine_f (nI 2)) (fun u14 => (if u14 = 0 then some (Sum.inl ((nI (bvN (xb tp) q n) <<< ((1 : Int32) &&& 31)) ||| (0 : Int32), nI (n + 1 + 1), nI 2, nI (8 * F), nI (8 * F))) else (if (0 : Int32) = 0 then bd (Model_stop_f (nI 2) (7 : Int32) (nI q) (nI (8 * F))) (fun u17 => some (Sum.inl ((nI (bvN (xb tp) q n) <<< ((1 : Int32) &&& 31)) ||| (0 : Int32), nI (n + 1 + 1), u17.2.1, u17.2.2, nI (8 * F)))) else some (Sum.inl ((nI (bvN (xb tp) q n) <<< ((1 : Int32) &&& 31)) ||| (0 : Int32), nI (n + 1 + 1), nI 2, nI (8 * F), nI (8 * F))))))) (fun u => Sum.elim (lpF (Model_readSymbol_L10 (nI (8 * F)) tape (nI c) (nI t) seen pre (nI q)) g) some u)) _ = _
        rw [fine_n (show ¬ nI 2 = 0 by decide), bd_s, if_pos rfl]
        show bd (lpF (Model_readSymbol_L10 (nI (8 * F)) tape (nI c) (nI t) seen pre (nI q)) g ((nI (bvN (xb tp) q n) <<< ((1 : Int32) &&& 31)) ||| (0 : Int32), nI (n + 1 + 1), nI 2, nI (8 * F), nI (8 * F))) _ = _
        rw [hstop g _ _ _ _ _ (by decide) (by omega)]
        rfl
  obtain ⟨bit2, h⟩ := key 20 gas (Nat.le_refl _) (Nat.lt_of_lt_of_le (by omega) gas_le) hq (by
    show fstN L N 0 + cnt (fun j => decide (L j = 0)) N ≤ _
    rw [cnt_none (fun j hj => decide_eq_false (by have := hLb j hj; omega))]
    exact Nat.zero_le _) (fun h => absurd h (by omega))
  rcases h with h | h
  · exact ⟨bit2, h⟩
  · omega
