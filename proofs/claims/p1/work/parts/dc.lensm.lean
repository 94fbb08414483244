/-! UNPACKING: the lengths of the codes, the reference's -/
theorem len_m {tp : Nat → Nat} {F : Nat} {tape : Nat → Int32} (hF : F ≤ 10240) (ht : ∀ j, j < F → tape j = nb (tp j) ∧ tp j < 256) : ∀ (r now q z : Nat), 8 * F ≤ q + 2 * r → r + 1 < z → 1 ≤ now → now ≤ 20 → q ≤ 8 * F → ∃ v1 fl pl bit, lpF (Model_readLengths_L64 (nI (8 * F)) tape) z (nI now, nI q, (0 : Int32), (-1 : Int32), nI q) = some (v1, fl, pl, bit) ∧ (∀ e, rnN (8 * F) (xb tp) r now q = Sum.inl e → fl = nI e.1 ∧ pl = nI e.2) ∧ ∀ v, rnN (8 * F) (xb tp) r now q = Sum.inr v → v1 = nI v.1 ∧ fl = 0 ∧ pl = (-1 : Int32) ∧ bit = nI v.2 := by
  have hstop : ∀ (z : Nat) (a1 a2 fl p b : Int32), ¬ fl = 0 → 0 < z → lpF (Model_readLengths_L64 (nI (8 * F)) tape) z (a1, a2, fl, p, b) = some (a1, fl, p, b) := by
    intro z a1 a2 fl p b hfl hz
    obtain ⟨z, rfl⟩ : ∃ z2, z = z2 + 1 := ⟨z - 1, by omega⟩
    have hb : Model_readLengths_L64 (nI (8 * F)) tape (a1, a2, fl, p, b) = some (Sum.inr (a1, fl, p, b)) := by
      show bd (Model_isFine_f fl) (fun u33 => (if u33 = 0 then some (Sum.inr (a1, fl, p, b)) else _)) = _
      rw [fine_n hfl, bd_s, if_pos rfl]
    rw [lpF_s, hb]
    rfl
  have hend : ∀ (now : Nat), Model_readLengths_L64 (nI (8 * F)) tape (nI now, nI (8 * F), (0 : Int32), (-1 : Int32), nI (8 * F)) = some (Sum.inr (nI now, nI 2, nI (8 * F), nI (8 * F))) := by
    intro now
    show bd (Model_isFine_f (0 : Int32)) (fun u33 => (if u33 = 0 then _ else bd (Model_read_f (0 : Int32) (nI 1) (nI (8 * F)) tape (nI (8 * F)) (-1 : Int32)) (fun u35 => (if u35.1 = (1 : Int32) then _ else some (Sum.inr (nI now, u35.2.1, u35.2.2.1, u35.2.2.2)))))) = _
    rw [fine_0, bd_s, if_neg (show ¬ (1 : Int32) = 0 by decide), read_me hF ht (by omega) (Nat.le_refl _) (by omega), bd_s, if_neg (show ¬ (0 : Int32) = 1 by decide)]
  intro r
  induction r with
  | zero =>
    intro now q z hqr hz _ _ hq
    obtain ⟨z, rfl⟩ : ∃ z2, z = z2 + 1 := ⟨z - 1, by omega⟩
    have hqe : q = 8 * F := by omega
    rw [lpF_s, hqe, hend]
    exact ⟨_, _, _, _, rfl, fun e he => (by cases he; exact ⟨rfl, rfl⟩), fun v hv => (by cases hv)⟩
  | succ r ih =>
    intro now q z hqr hz h1 h2 hq
    obtain ⟨z, rfl⟩ : ∃ z2, z = z2 + 1 := ⟨z - 1, by omega⟩
    rw [lpF_s, rnN]
    by_cases a1 : q < 8 * F
    · rw [if_pos a1]
      have hL : Model_readLengths_L64 (nI (8 * F)) tape (nI now, nI q, (0 : Int32), (-1 : Int32), nI q) = (if nI (xb tp q).toNat = (1 : Int32) then bd (Model_read_f (0 : Int32) (nI 1) (nI (8 * F)) tape (nI (q + 1)) (-1 : Int32)) (fun u37 => (if u37.1 = 0 then Model_readLengths_J94 (nI now, nI q, (0 : Int32), (-1 : Int32), nI q) (1 : Int32) (nI now) u37.2.1 u37.2.2.1 u37.2.2.2 else Model_readLengths_J94 (nI now, nI q, (0 : Int32), (-1 : Int32), nI q) (-1 : Int32) (nI now) u37.2.1 u37.2.2.1 u37.2.2.2)) else some (Sum.inr (nI now, (0 : Int32), (-1 : Int32), nI (q + 1)))) := by
        show bd (Model_isFine_f (0 : Int32)) (fun u33 => (if u33 = 0 then _ else bd (Model_read_f (0 : Int32) (nI 1) (nI (8 * F)) tape (nI q) (-1 : Int32)) _)) = _
        rw [fine_0, bd_s, if_neg (show ¬ (1 : Int32) = 0 by decide), read_m hF ht (by omega) (show q + 1 ≤ 8 * F by omega), bd_s, bv1]
        rfl
      rw [hL]
      cases hx : xb tp q with
      | false =>
        rw [if_neg (show ¬ nI false.toNat = (1 : Int32) by decide), if_neg Bool.noConfusion]
        exact ⟨_, _, _, _, rfl, fun e he => (by cases he), fun v hv => (by cases hv; exact ⟨rfl, rfl, rfl, rfl⟩)⟩
      | true =>
        rw [if_pos (show nI true.toNat = (1 : Int32) from rfl), if_pos (show true = true from rfl)]
        by_cases a3 : q + 1 < 8 * F
        · rw [read_m hF ht (by omega) (show q + 1 + 1 ≤ 8 * F by omega), bd_s, bv1, if_pos a3]
          have hbr : (if nI (xb tp (q + 1)).toNat = 0 then Model_readLengths_J94 (nI now, nI q, (0 : Int32), (-1 : Int32), nI q) (1 : Int32) (nI now) (0 : Int32) (-1 : Int32) (nI (q + 1 + 1)) else Model_readLengths_J94 (nI now, nI q, (0 : Int32), (-1 : Int32), nI q) (-1 : Int32) (nI now) (0 : Int32) (-1 : Int32) (nI (q + 1 + 1))) = (if 1 ≤ nw (xb tp (q + 1)) now ∧ nw (xb tp (q + 1)) now ≤ 20 then some (Sum.inl (nI (nw (xb tp (q + 1)) now), nI (q + 2), (0 : Int32), (-1 : Int32), nI (q + 2))) else some (Sum.inl (nI (nw (xb tp (q + 1)) now), nI (q + 2), nI 6, nI q, nI (q + 2)))) := by
            have hn := nw_i now h2 h1 (xb tp (q + 1))
            have hnb2 := nw_b (b := xb tp (q + 1)) h2
            have hJ : ∀ d : Int32, nI now + d = nI (nw (xb tp (q + 1)) now) → Model_readLengths_J94 (nI now, nI q, (0 : Int32), (-1 : Int32), nI q) d (nI now) (0 : Int32) (-1 : Int32) (nI (q + 1 + 1)) = (if 1 ≤ nw (xb tp (q + 1)) now ∧ nw (xb tp (q + 1)) now ≤ 20 then some (Sum.inl (nI (nw (xb tp (q + 1)) now), nI (q + 2), (0 : Int32), (-1 : Int32), nI (q + 2))) else some (Sum.inl (nI (nw (xb tp (q + 1)) now), nI (q + 2), nI 6, nI q, nI (q + 2)))) := by
              intro d hd
              unfold Model_readLengths_J94
              rw [fine_0, bd_s, if_neg (show ¬ (1 : Int32) = 0 by decide), hd]
              have hJ114 : Model_readLengths_J114 (nI now, nI q, (0 : Int32), (-1 : Int32), nI q) (nI (nw (xb tp (q + 1)) now)) (0 : Int32) (-1 : Int32) (nI (q + 1 + 1)) = some (Sum.inl (nI (nw (xb tp (q + 1)) now), nI (q + 2), nI 6, nI q, nI (q + 2))) := by
                unfold Model_readLengths_J114
                rw [stop_0, bd_s]
                rfl
              by_cases b1 : nw (xb tp (q + 1)) now < 1
              · rw [if_pos (show nI (nw (xb tp (q + 1)) now) < (1 : Int32) from nI_lt (b := 1) b1 (by omega)), if_neg (show ¬ (1 ≤ nw (xb tp (q + 1)) now ∧ nw (xb tp (q + 1)) now ≤ 20) by omega), hJ114]
              · rw [if_neg (show ¬ nI (nw (xb tp (q + 1)) now) < (1 : Int32) from nI_nlt (b := 1) (by omega) (by omega))]
                by_cases b2 : nw (xb tp (q + 1)) now ≤ 20
                · rw [if_pos (show nI (nw (xb tp (q + 1)) now) ≤ (20 : Int32) from nI_le (b := 20) b2 (by omega)), if_pos (show 1 ≤ nw (xb tp (q + 1)) now ∧ nw (xb tp (q + 1)) now ≤ 20 by omega)]
                  rfl
                · rw [if_neg (show ¬ nI (nw (xb tp (q + 1)) now) ≤ (20 : Int32) from nI_ge (a := 20) (b := nw (xb tp (q + 1)) now) (by omega) (by omega)), if_neg (show ¬ (1 ≤ nw (xb tp (q + 1)) now ∧ nw (xb tp (q + 1)) now ≤ 20) by omega), hJ114]
            cases hb2 : xb tp (q + 1) with
            | true =>
              rw [hb2] at hn hJ
              rw [if_neg (show ¬ nI true.toNat = (0 : Int32) by decide)]
              exact hJ _ hn
            | false =>
              rw [hb2] at hn hJ
              rw [if_pos (show nI false.toNat = (0 : Int32) from rfl)]
              exact hJ _ hn
          show ∃ v1 fl pl bit, bd (if nI (xb tp (q + 1)).toNat = 0 then Model_readLengths_J94 (nI now, nI q, (0 : Int32), (-1 : Int32), nI q) (1 : Int32) (nI now) (0 : Int32) (-1 : Int32) (nI (q + 1 + 1)) else Model_readLengths_J94 (nI now, nI q, (0 : Int32), (-1 : Int32), nI q) (-1 : Int32) (nI now) (0 : Int32) (-1 : Int32) (nI (q + 1 + 1))) _ = _ ∧ _
          rw [hbr]
          by_cases a4 : 1 ≤ nw (xb tp (q + 1)) now ∧ nw (xb tp (q + 1)) now ≤ 20
          · rw [if_pos a4, if_pos a4, bd_s]
            exact ih _ (q + 2) z (by omega) (by omega) a4.1 a4.2 (by omega)
          · rw [if_neg a4, if_neg a4, bd_s]
            exact ⟨_, nI 6, nI q, nI (q + 2), hstop z _ _ _ _ _ (by decide) (by omega), fun e he => (by cases he; exact ⟨rfl, rfl⟩), fun v hv => (by cases hv)⟩
        · rw [read_me hF ht (by omega) (show q + 1 ≤ 8 * F by omega) (show 8 * F < q + 1 + 1 by omega), bd_s, if_neg a3]
          show ∃ v1 fl pl bit, bd (if (0 : Int32) = 0 then Model_readLengths_J94 (nI now, nI q, (0 : Int32), (-1 : Int32), nI q) (1 : Int32) (nI now) (nI 2) (nI (8 * F)) (nI (8 * F)) else _) _ = _ ∧ _
          rw [if_pos rfl]
          unfold Model_readLengths_J94
          rw [fine_n (show ¬ nI 2 = 0 by decide), bd_s, if_pos rfl]
          unfold Model_readLengths_J123
          rw [bd_s]
          exact ⟨_, nI 2, nI (8 * F), nI (8 * F), hstop z _ _ _ _ _ (by decide) (by omega), fun e he => (by cases he; exact ⟨rfl, rfl⟩), fun v hv => (by cases hv)⟩
    · rw [if_neg a1, show q = 8 * F by omega, hend]
      exact ⟨_, _, _, _, rfl, fun e he => (by cases he; exact ⟨rfl, rfl⟩), fun v hv => (by cases hv)⟩
theorem leStop {F : Nat} {tape seen : Nat → Int32} {c p a1 a2 fl pl b : Int32} {z : Nat} (hfl : ¬ fl = 0) (hz : 0 < z) : lpF (Model_readLengths_L40 c (nI (8 * F)) tape p) z (a1, a2, fl, pl, b, seen) = some (fl, pl, b, seen) := by
  obtain ⟨z, rfl⟩ : ∃ z2, z = z2 + 1 := ⟨z - 1, by omega⟩
  have hb : Model_readLengths_L40 c (nI (8 * F)) tape p (a1, a2, fl, pl, b, seen) = some (Sum.inr (fl, pl, b, seen)) := by
    show (if c + (2 : Int32) ≤ a2 then some (Sum.inr (fl, pl, b, seen)) else bd (Model_isFine_f fl) (fun u21 => (if u21 = 0 then some (Sum.inr (fl, pl, b, seen)) else _))) = _
    by_cases h : c + (2 : Int32) ≤ a2
    · rw [if_pos h]
    · rw [if_neg h, fine_n hfl, bd_s, if_pos rfl]
  rw [lpF_s, hb]
  rfl
theorem leall_m {tp : Nat → Nat} {F c t : Nat} {tape : Nat → Int32} (hF : F ≤ 10240) (ht : ∀ j, j < F → tape j = nb (tp j) ∧ tp j < 256) (hc : c ≤ 256) (ht6 : t < 6) : ∀ (r k now q z : Nat) (L : Nat → Nat) (seen : Nat → Int32), r + k = c + 2 → r < z → 1 ≤ now → now ≤ 20 → q ≤ 8 * F → (∀ j, j < k → seen (258 * t + j) = nI (L j)) → ∃ fl pl bit seen2, lpF (Model_readLengths_L40 (nI c) (nI (8 * F)) tape (nI t)) z (nI now, nI k, (0 : Int32), (-1 : Int32), nI q, seen) = some (fl, pl, bit, seen2) ∧ (∀ e, leN (8 * F) (xb tp) r k now q L = Sum.inl e → fl = nI e.1 ∧ pl = nI e.2 ∧ 0 < e.1 ∧ e.1 < 16) ∧ (∀ v, leN (8 * F) (xb tp) r k now q L = Sum.inr v → fl = 0 ∧ pl = (-1 : Int32) ∧ bit = nI v.1 ∧ ∀ j, j < c + 2 → seen2 (258 * t + j) = nI (v.2 j)) ∧ ∀ j, (j < 258 * t ∨ 258 * t + (c + 2) ≤ j) → seen2 j = seen j := by
  intro r
  induction r with
  | zero =>
    intro k now q z L seen hrk hz _ _ hq hR
    obtain ⟨z, rfl⟩ : ∃ z2, z = z2 + 1 := ⟨z - 1, by omega⟩
    have hb : Model_readLengths_L40 (nI c) (nI (8 * F)) tape (nI t) (nI now, nI k, (0 : Int32), (-1 : Int32), nI q, seen) = some (Sum.inr ((0 : Int32), (-1 : Int32), nI q, seen)) := by
      show (if nI c + nI 2 ≤ nI k then _ else _) = _
      rw [nI_add, if_pos (nI_le (by omega) (by omega))]
    rw [lpF_s, hb, leN]
    exact ⟨_, _, _, _, rfl, fun e he => (by cases he), fun v hv => (by cases hv; exact ⟨rfl, rfl, rfl, fun j hj => hR j (by omega)⟩), fun j _ => rfl⟩
  | succ r ih =>
    intro k now q z L seen hrk hz h1 h2 hq hR
    obtain ⟨z, rfl⟩ : ∃ z2, z = z2 + 1 := ⟨z - 1, by omega⟩
    rw [lpF_s, leN]
    obtain ⟨v1, fl, pl, bit, e1, g1, g2⟩ := len_m hF ht (8 * F) now q gas (by omega) (Nat.lt_of_lt_of_le (by omega) gas_le) h1 h2 hq
    have hS : Model_readLengths_L40 (nI c) (nI (8 * F)) tape (nI t) (nI now, nI k, (0 : Int32), (-1 : Int32), nI q, seen) = some (Sum.inl (v1, nI (k + 1), fl, pl, bit, upd seen (258 * t + k) v1)) := by
      show (if nI c + nI 2 ≤ nI k then _ else bd (Model_isFine_f (0 : Int32)) (fun u21 => (if u21 = 0 then _ else bd (lpF (Model_readLengths_L64 (nI (8 * F)) tape) gas (nI now, nI q, (0 : Int32), (-1 : Int32), nI q)) (fun v25 => gd (ix (nI 258 * nI t + nI k) 1548) (some (Sum.inl (v25.1, nI k + (1 : Int32), v25.2.1, v25.2.2.1, v25.2.2.2, upd seen (nI 258 * nI t + nI k).toNatClampNeg v25.1))))))) = _
      rw [nI_add, if_neg (nI_ge (by omega) (by omega)), fine_0, bd_s, if_neg (show ¬ (1 : Int32) = 0 by decide), e1, bd_s, pk_mul, nI_add, ixN (show 258 * t + k < 1548 by omega) (by omega), gd_t, nI_clamp (by omega), nI_1]
    rw [hS, bd_s]
    cases hr : rnN (8 * F) (xb tp) (8 * F) now q with
    | inl e =>
      obtain ⟨x1, x2⟩ := e
      obtain ⟨c1, c2⟩ := g1 _ hr
      have c1 : fl = nI x1 := c1
      have c2 : pl = nI x2 := c2
      have he := rnN_e hr
      have hne : ¬ fl = 0 := by rw [c1]; exact nI_ne0 (by omega) (by omega)
      exact ⟨fl, pl, bit, _, leStop hne (by omega), fun e he2 => (by cases he2; exact ⟨c1, c2, he.1, he.2⟩), fun v hv => (by cases hv), fun j hj => if_neg (by omega)⟩
    | inr v =>
      obtain ⟨n2, q2⟩ := v
      obtain ⟨b1, b2, b3⟩ := rnN_r h1 h2 hr
      obtain ⟨c1, c2, c3, c4⟩ := g2 _ hr
      have c1 : v1 = nI n2 := c1
      have c4 : bit = nI q2 := c4
      rw [c1, c2, c3, c4]
      obtain ⟨fl2, pl2, bit2, seen2, e5, g3, g4, g5⟩ := ih (k + 1) n2 q2 z (updN L k n2) (upd seen (258 * t + k) (nI n2)) (by omega) (by omega) b1 b2 b3 (fun j hj => by
        by_cases hji : j = k
        · rw [hji, updN_s]; exact if_pos rfl
        · rw [updN_n _ hji]
          exact (if_neg (by omega)).trans (hR j (by omega)))
      exact ⟨fl2, pl2, bit2, seen2, e5, g3, g4, fun j hj => (g5 j hj).trans (if_neg (by omega))⟩
theorem one_shl : ∀ l, l ≤ 20 → 1 ≤ l → (1 : Int32) <<< (((20 : Int32) - nI l) &&& 31) = nI (2 ^ (20 - l)) := by decide
theorem sum_m {c t : Nat} {L : Nat → Nat} {v6 : Int32 × Int32 × Int32 × (Nat → Int32)} (hc : c ≤ 256) (ht6 : t < 6) (h0 : v6.1 = 0) (hL : ∀ j, j < c + 2 → v6.2.2.2 (258 * t + j) = nI (L j) ∧ 1 ≤ L j ∧ L j ≤ 20) : lpF (Model_readLengths_L158 (nI c) v6 (nI t)) gas ((0 : Int32), (0 : Int32)) = some (nI (kf L (c + 2))) := by
  have key : lpF (Model_readLengths_L158 (nI c) v6 (nI t)) gas (nI (kf L 0), nI 0) = some (nI (kf L (c + 2))) := by
    refine lp_gas (fun i => (nI (kf L i), nI i)) (i0 := 0) (N := c + 2) (Nat.zero_le _) (by omega) ?_ ?_
    · intro i _ hi
      obtain ⟨l1, l2, l3⟩ := hL i hi
      show (if nI c + nI 2 ≤ nI i then _ else bd (Model_isFine_f v6.1) (fun u16 => (if u16 = 0 then _ else gd (ix (nI 258 * nI t + nI i) 1548) (some (Sum.inl (nI (kf L i) + ((1 : Int32) <<< (((20 : Int32) - v6.2.2.2 (nI 258 * nI t + nI i).toNatClampNeg) &&& 31)), nI i + (1 : Int32))))))) = _
      rw [nI_add, if_neg (nI_ge (by omega) (by omega)), h0, fine_0, bd_s, if_neg (show ¬ (1 : Int32) = 0 by decide), pk_mul, nI_add, ixN (show 258 * t + i < 1548 by omega) (by omega), gd_t, nI_clamp (by omega), l1, one_shl _ l3 l2, nI_add, nI_1]
      rfl
    · show (if nI c + nI 2 ≤ nI (c + 2) then _ else _) = _
      rw [nI_add, if_pos (nI_le (Nat.le_refl _) (by omega))]
  exact key
theorem sum_f {c t : Int32} {v6 : Int32 × Int32 × Int32 × (Nat → Int32)} (h : ¬ v6.1 = 0) : ∃ w, lpF (Model_readLengths_L158 c v6 t) gas ((0 : Int32), (0 : Int32)) = some w := by
  obtain ⟨z, hz⟩ := gas_s
  have hb : Model_readLengths_L158 c v6 t ((0 : Int32), (0 : Int32)) = some (Sum.inr (0 : Int32)) := by
    show (if c + (2 : Int32) ≤ (0 : Int32) then some (Sum.inr (0 : Int32)) else bd (Model_isFine_f v6.1) (fun u16 => (if u16 = 0 then some (Sum.inr (0 : Int32)) else _))) = _
    by_cases h2 : c + (2 : Int32) ≤ (0 : Int32)
    · rw [if_pos h2]
    · rw [if_neg h2, fine_n h, bd_s, if_pos rfl]
  rw [hz, lpF_s, hb]
  exact ⟨0, rfl⟩
theorem readLengths_m {tp : Nat → Nat} {F c t q : Nat} {tape seen pre : Nat → Int32} (hF : F ≤ 10240) (ht : ∀ j, j < F → tape j = nb (tp j) ∧ tp j < 256) (hc : c ≤ 256) (ht6 : t < 6) (hq : q ≤ 8 * F) : ∃ fl pl bit seen2 pre2, Model_readLengths_f (0 : Int32) (nI (8 * F)) tape (nI q) (-1 : Int32) (nI c) (nI t) seen pre = some (fl, pl, bit, seen2, pre2) ∧ (∀ e, ltN (8 * F) (xb tp) (c + 2) q = Sum.inl e → fl = nI e.1 ∧ pl = nI e.2 ∧ 0 < e.1 ∧ e.1 < 16) ∧ (∀ v, ltN (8 * F) (xb tp) (c + 2) q = Sum.inr v → fl = 0 ∧ pl = (-1 : Int32) ∧ bit = nI v.1 ∧ ∀ k, k < c + 2 → seen2 (258 * t + k) = nI (v.2 k) ∧ pre2 (258 * t + k) = nI (cdN v.2 (c + 2) k)) ∧ ∀ j, (j < 258 * t ∨ 258 * t + (c + 2) ≤ j) → seen2 j = seen j ∧ pre2 j = pre j := by
  have hJ227 : ∀ (fl p b : Int32) (s : Nat → Int32), ¬ fl = 0 → Model_readLengths_J227 pre (nI c) (nI t) fl p b s = some (fl, p, b, s, pre) := by
    intro fl p b s hfl
    unfold Model_readLengths_J227
    rw [fine_n hfl, bd_s, if_pos rfl]
    rfl
  have hJ37f : ∀ (a w fl p b : Int32) (s : Nat → Int32), ¬ fl = 0 → bd (lpF (Model_readLengths_L158 (nI c) (fl, p, b, s) (nI t)) gas ((0 : Int32), (0 : Int32))) (fun v9 => bd (Model_isFine_f fl) (fun u10 => (if u10 = 0 then Model_readLengths_J227 pre (nI c) (nI t) fl p b s else (if v9 ≤ (1048576 : Int32) then Model_readLengths_J227 pre (nI c) (nI t) fl p b s else bd (Model_stop_f fl (6 : Int32) a p) (fun u13 => Model_readLengths_J227 pre (nI c) (nI t) u13.2.1 u13.2.2 b s))))) = some (fl, p, b, s, pre) := by
    intro a w fl p b s hfl
    obtain ⟨w, hw⟩ := sum_f (c := nI c) (t := nI t) (v6 := (fl, p, b, s)) hfl
    rw [hw, bd_s, fine_n hfl, bd_s, if_pos rfl, hJ227 _ _ _ _ hfl]
  have hJ37 : ∀ (a w fl p b : Int32), ¬ fl = 0 → Model_readLengths_J37 (nI c) (nI (8 * F)) tape (nI t) seen pre a w fl p b = some (fl, p, b, seen, pre) := by
    intro a w fl p b hfl
    unfold Model_readLengths_J37
    rw [leStop hfl (Nat.lt_of_lt_of_le (by omega) gas_le), bd_s]
    exact hJ37f a w fl p b seen hfl
  have hJ29 : ∀ (w b : Int32), Model_readLengths_J29 (nI c) (nI (8 * F)) tape (nI t) seen pre (nI q) w (0 : Int32) (-1 : Int32) b = some (nI 6, nI q, b, seen, pre) := by
    intro w b
    unfold Model_readLengths_J29
    rw [stop_0, bd_s]
    exact hJ37 (nI q) w (6 : Int32) (nI q) b (by decide)
  unfold Model_readLengths_f ltN lhN
  by_cases h1 : q + 5 ≤ 8 * F
  · rw [show Model_read_f (0 : Int32) (5 : Int32) (nI (8 * F)) tape (nI q) (-1 : Int32) = _ from read_m (k := 5) hF ht (by omega) h1, bd_s, if_pos h1, bvI_N _ _ 5 (by omega)]
    have hb5 := bvN_lt (xb tp) q 5
    generalize bvN (xb tp) q 5 = v5 at *
    show ∃ fl pl bit seen2 pre2, bd (Model_isFine_f (0 : Int32)) (fun u41 => (if u41 = 0 then _ else (if nI v5 < nI 1 then Model_readLengths_J29 (nI c) (nI (8 * F)) tape (nI t) seen pre (nI q) (nI v5) (0 : Int32) (-1 : Int32) (nI (q + 5)) else (if nI v5 ≤ nI 20 then Model_readLengths_J37 (nI c) (nI (8 * F)) tape (nI t) seen pre (nI q) (nI v5) (0 : Int32) (-1 : Int32) (nI (q + 5)) else Model_readLengths_J29 (nI c) (nI (8 * F)) tape (nI t) seen pre (nI q) (nI v5) (0 : Int32) (-1 : Int32) (nI (q + 5)))))) = _ ∧ _
    rw [fine_0, bd_s, if_neg (show ¬ (1 : Int32) = 0 by decide)]
    by_cases h2 : 1 ≤ v5 ∧ v5 ≤ 20
    · rw [if_neg (nI_nlt h2.1 (by omega)), if_pos (nI_le h2.2 (by omega)), if_pos h2]
      obtain ⟨fl, pl, bit, seen2, e5, g3, g4, g5⟩ := leall_m (tp := tp) hF ht hc ht6 (c + 2) 0 v5 (q + 5) gas (fun _ => 0) seen (by omega) (Nat.lt_of_lt_of_le (by omega) gas_le) h2.1 h2.2 h1 (fun j hj => absurd hj (Nat.not_lt_zero _))
      unfold Model_readLengths_J37
      rw [show lpF (Model_readLengths_L40 (nI c) (nI (8 * F)) tape (nI t)) gas (nI v5, (0 : Int32), (0 : Int32), (-1 : Int32), nI (q + 5), seen) = _ from e5, bd_s]
      cases hl : leN (8 * F) (xb tp) (c + 2) 0 v5 (q + 5) (fun _ => 0) with
      | inl e =>
        obtain ⟨x1, x2⟩ := e
        obtain ⟨c1, c2, c3, c4⟩ := g3 _ hl
        have c1 : fl = nI x1 := c1
        have c3 : 0 < x1 := c3
        have c4 : x1 < 16 := c4
        have hne : ¬ fl = 0 := by rw [c1]; exact nI_ne0 (by omega) (by omega)
        refine ⟨fl, pl, bit, seen2, pre, hJ37f (nI q) (nI v5) fl pl bit seen2 hne, fun e he => (by cases he; exact ⟨c1, c2, c3, c4⟩), fun v hv => (by cases hv), fun j hj => ⟨g5 j hj, rfl⟩⟩
      | inr v =>
        obtain ⟨q2, L2⟩ := v
        obtain ⟨c1, c2, c3, c4⟩ := g4 _ hl
        have c3 : bit = nI q2 := c3
        have c4 : ∀ j, j < c + 2 → seen2 (258 * t + j) = nI (L2 j) := c4
        obtain ⟨d1, d2⟩ := leN_r _ _ _ _ _ _ _ h2.1 h2.2 h1 (fun j hj => absurd hj (Nat.not_lt_zero _)) hl
        have d3 : ∀ j, j < c + 2 → seen2 (258 * t + j) = nI (L2 j) ∧ 1 ≤ L2 j ∧ L2 j ≤ 20 := fun j hj => ⟨c4 j hj, (d2 j (by omega)).1, (d2 j (by omega)).2⟩
        have hkb := kf_b2 (fun k hk => (d3 k hk).2.1) (c + 2) (Nat.le_refl _)
        show ∃ fl3 pl3 bit3 seen3 pre3, bd (lpF (Model_readLengths_L158 (nI c) (fl, pl, bit, seen2) (nI t)) gas ((0 : Int32), (0 : Int32))) (fun v9 => bd (Model_isFine_f fl) (fun u10 => (if u10 = 0 then Model_readLengths_J227 pre (nI c) (nI t) fl pl bit seen2 else (if v9 ≤ nI 1048576 then Model_readLengths_J227 pre (nI c) (nI t) fl pl bit seen2 else bd (Model_stop_f fl (6 : Int32) (nI q) pl) (fun u13 => Model_readLengths_J227 pre (nI c) (nI t) u13.2.1 u13.2.2 bit seen2))))) = some (fl3, pl3, bit3, seen3, pre3) ∧ (∀ e, (if kf L2 (c + 2) ≤ 2 ^ 20 then Sum.inr (q2, L2) else Sum.inl (6, q)) = (Sum.inl e : (Nat × Nat) ⊕ (Nat × (Nat → Nat))) → fl3 = nI e.1 ∧ pl3 = nI e.2 ∧ 0 < e.1 ∧ e.1 < 16) ∧ (∀ v, (if kf L2 (c + 2) ≤ 2 ^ 20 then Sum.inr (q2, L2) else Sum.inl (6, q)) = (Sum.inr v : (Nat × Nat) ⊕ (Nat × (Nat → Nat))) → fl3 = 0 ∧ pl3 = (-1 : Int32) ∧ bit3 = nI v.1 ∧ ∀ k, k < c + 2 → seen3 (258 * t + k) = nI (v.2 k) ∧ pre3 (258 * t + k) = nI (cdN v.2 (c + 2) k)) ∧ ∀ j, (j < 258 * t ∨ 258 * t + (c + 2) ≤ j) → seen3 j = seen j ∧ pre3 j = pre j
        rw [c1, c2, sum_m hc ht6 rfl d3, bd_s, fine_0, bd_s, if_neg (show ¬ (1 : Int32) = 0 by decide)]
        by_cases hk : kf L2 (c + 2) ≤ 2 ^ 20
        · rw [if_pos (nI_le (show kf L2 (c + 2) ≤ 1048576 from hk) (by omega)), if_pos hk]
          obtain ⟨C, e6, g6, g7⟩ := numberSeen_eq (n := c) (t := t) (lens := seen2) (cds := pre) (L := L2) (by omega) ht6 d3
          unfold Model_readLengths_J227
          rw [fine_0, bd_s, if_neg (show ¬ (1 : Int32) = 0 by decide), e6, bd_s]
          exact ⟨_, _, _, _, _, rfl, fun e he => (by cases he), fun v hv => (by cases hv; exact ⟨rfl, rfl, c3, fun k hk2 => ⟨c4 k hk2, g6 k hk2⟩⟩), fun j hj => ⟨g5 j hj, g7 j hj⟩⟩
        · rw [if_neg (nI_ge (show 1048576 < kf L2 (c + 2) by omega) (by omega)), if_neg hk, stop_0, bd_s, hJ227 _ _ _ _ (show ¬ (6 : Int32) = 0 by decide)]
          exact ⟨_, _, _, _, _, rfl, fun e he => (by cases he; exact ⟨rfl, rfl, by show 0 < _; omega, by show _ < 16; omega⟩), fun v hv => (by cases hv), fun j hj => ⟨g5 j hj, rfl⟩⟩
    · have hJb : (if nI v5 < nI 1 then Model_readLengths_J29 (nI c) (nI (8 * F)) tape (nI t) seen pre (nI q) (nI v5) (0 : Int32) (-1 : Int32) (nI (q + 5)) else (if nI v5 ≤ nI 20 then Model_readLengths_J37 (nI c) (nI (8 * F)) tape (nI t) seen pre (nI q) (nI v5) (0 : Int32) (-1 : Int32) (nI (q + 5)) else Model_readLengths_J29 (nI c) (nI (8 * F)) tape (nI t) seen pre (nI q) (nI v5) (0 : Int32) (-1 : Int32) (nI (q + 5)))) = some (nI 6, nI q, nI (q + 5), seen, pre) := by
        by_cases b1 : v5 < 1
        · rw [if_pos (nI_lt b1 (by omega)), hJ29]
        · rw [if_neg (nI_nlt (by omega) (by omega)), if_neg (nI_ge (by omega) (by omega)), hJ29]
      rw [hJb, if_neg h2]
      exact ⟨_, _, _, _, _, rfl, fun e he => (by cases he; exact ⟨rfl, rfl, by show 0 < _; omega, by show _ < 16; omega⟩), fun v hv => (by cases hv), fun j hj => ⟨rfl, rfl⟩⟩
  · rw [show Model_read_f (0 : Int32) (5 : Int32) (nI (8 * F)) tape (nI q) (-1 : Int32) = _ from read_me (k := 5) hF ht (by omega) hq (show 8 * F < q + 5 by omega), bd_s, if_neg h1]
    show ∃ fl pl bit seen2 pre2, bd (Model_isFine_f (nI 2)) (fun u41 => (if u41 = 0 then Model_readLengths_J37 (nI c) (nI (8 * F)) tape (nI t) seen pre (nI q) (0 : Int32) (nI 2) (nI (8 * F)) (nI (8 * F)) else _)) = _ ∧ _
    rw [fine_n (by decide), bd_s, if_pos rfl, hJ37 _ _ _ _ _ (by decide)]
    exact ⟨_, _, _, _, _, rfl, fun e he => (by cases he; exact ⟨rfl, rfl, by show 0 < _; omega, by show _ < 16; omega⟩), fun v hv => (by cases hv), fun j hj => ⟨rfl, rfl⟩⟩
theorem tbN_r {E : Nat} {x : Nat → Bool} {n : Nat} : ∀ (r t q : Nat) (LT : Nat → Nat → Nat) (q2 : Nat) (LT2 : Nat → Nat → Nat), q ≤ E → tbN E x n r t q LT = Sum.inr (q2, LT2) → q2 ≤ E := by
  intro r
  induction r with
  | zero =>
    intro t q LT q2 LT2 hq h
    have e1 : q = q2 := congrArg Prod.fst (Sum.inr.inj h)
    omega
  | succ r ih =>
    intro t q LT q2 LT2 hq h
    rw [tbN] at h
    cases hl : ltN E x n q with
    | inl e => rw [hl] at h; cases h
    | inr v =>
      obtain ⟨q3, L3⟩ := v
      rw [hl] at h
      exact ih _ _ _ _ _ (ltN_r hl).1 h
theorem tables_m {tp : Nat → Nat} {F c tc : Nat} {tape : Nat → Int32} (hF : F ≤ 10240) (ht : ∀ j, j < F → tape j = nb (tp j) ∧ tp j < 256) (hc : c ≤ 256) (htc : tc ≤ 6) : ∀ (r t z q : Nat) (LT : Nat → Nat → Nat) (seen pre : Nat → Int32), r + t = tc → r + 1 < z → q ≤ 8 * F → (∀ s k, s < t → k < c + 2 → seen (258 * s + k) = nI (LT s k) ∧ pre (258 * s + k) = nI (cdN (LT s) (c + 2) k) ∧ 1 ≤ LT s k ∧ LT s k ≤ 20) → ∃ fl pl bit seen2 pre2, lpF (Model_readBlock_L60 (nI tc) (nI (8 * F)) tape (nI c)) z (nI t, (0 : Int32), (-1 : Int32), nI q, seen, pre) = some (fl, pl, bit, seen2, pre2) ∧ (∀ e, tbN (8 * F) (xb tp) (c + 2) r t q LT = Sum.inl e → fl = nI e.1 ∧ pl = nI e.2 ∧ 0 < e.1 ∧ e.1 < 16) ∧ ∀ v, tbN (8 * F) (xb tp) (c + 2) r t q LT = Sum.inr v → fl = 0 ∧ pl = (-1 : Int32) ∧ bit = nI v.1 ∧ ∀ s k, s < tc → k < c + 2 → seen2 (258 * s + k) = nI (v.2 s k) ∧ pre2 (258 * s + k) = nI (cdN (v.2 s) (c + 2) k) ∧ 1 ≤ v.2 s k ∧ v.2 s k ≤ 20 := by
  intro r
  induction r with
  | zero =>
    intro t z q LT seen pre hrt hz hq hT
    obtain ⟨z, rfl⟩ : ∃ z2, z = z2 + 1 := ⟨z - 1, by omega⟩
    have hb : Model_readBlock_L60 (nI tc) (nI (8 * F)) tape (nI c) (nI t, (0 : Int32), (-1 : Int32), nI q, seen, pre) = some (Sum.inr ((0 : Int32), (-1 : Int32), nI q, seen, pre)) := by
      show bd (Model_isFine_f (0 : Int32)) (fun u21 => (if u21 = 0 then _ else (if nI tc ≤ nI t then some (Sum.inr ((0 : Int32), (-1 : Int32), nI q, seen, pre)) else _))) = _
      rw [fine_0, bd_s, if_neg (show ¬ (1 : Int32) = 0 by decide), if_pos (nI_le (by omega) (by omega))]
    rw [lpF_s, hb, tbN]
    exact ⟨_, _, _, _, _, rfl, fun e he => (by cases he), fun v hv => (by cases hv; exact ⟨rfl, rfl, rfl, fun s k hs hk => hT s k (by omega) hk⟩)⟩
  | succ r ih =>
    intro t z q LT seen pre hrt hz hq hT
    obtain ⟨z, rfl⟩ : ∃ z2, z = z2 + 1 := ⟨z - 1, by omega⟩
    rw [lpF_s, tbN]
    obtain ⟨fl, pl, bit, seen2, pre2, e1, g1, g2, g3⟩ := readLengths_m (tp := tp) (t := t) (seen := seen) (pre := pre) hF ht hc (by omega) hq
    have hb : Model_readBlock_L60 (nI tc) (nI (8 * F)) tape (nI c) (nI t, (0 : Int32), (-1 : Int32), nI q, seen, pre) = some (Sum.inl (nI (t + 1), fl, pl, bit, seen2, pre2)) := by
      show bd (Model_isFine_f (0 : Int32)) (fun u21 => (if u21 = 0 then _ else (if nI tc ≤ nI t then _ else bd (Model_readLengths_f (0 : Int32) (nI (8 * F)) tape (nI q) (-1 : Int32) (nI c) (nI t) seen pre) (fun u24 => some (Sum.inl (nI t + (1 : Int32), u24.1, u24.2.1, u24.2.2.1, u24.2.2.2.1, u24.2.2.2.2)))))) = _
      rw [fine_0, bd_s, if_neg (show ¬ (1 : Int32) = 0 by decide), if_neg (nI_ge (by omega) (by omega)), e1, bd_s, nI_1]
    rw [hb, bd_s]
    cases hl : ltN (8 * F) (xb tp) (c + 2) q with
    | inl e =>
      obtain ⟨x1, x2⟩ := e
      obtain ⟨c1, c2, c3, c4⟩ := g1 _ hl
      have c1 : fl = nI x1 := c1
      have c3 : 0 < x1 := c3
      have c4 : x1 < 16 := c4
      have hne : ¬ fl = 0 := by rw [c1]; exact nI_ne0 (by omega) (by omega)
      obtain ⟨z, rfl⟩ : ∃ z2, z = z2 + 1 := ⟨z - 1, by omega⟩
      have hb2 : Model_readBlock_L60 (nI tc) (nI (8 * F)) tape (nI c) (nI (t + 1), fl, pl, bit, seen2, pre2) = some (Sum.inr (fl, pl, bit, seen2, pre2)) := by
        show bd (Model_isFine_f fl) (fun u21 => (if u21 = 0 then some (Sum.inr (fl, pl, bit, seen2, pre2)) else _)) = _
        rw [fine_n hne, bd_s, if_pos rfl]
      refine ⟨fl, pl, bit, seen2, pre2, ?_, fun e he => (by cases he; exact ⟨c1, c2, c3, c4⟩), fun v hv => (by cases hv)⟩
      show lpF (Model_readBlock_L60 (nI tc) (nI (8 * F)) tape (nI c)) (z + 1) (nI (t + 1), fl, pl, bit, seen2, pre2) = _
      rw [lpF_s, hb2]
      rfl
    | inr v =>
      obtain ⟨q2, L2⟩ := v
      obtain ⟨c1, c2, c3, c4⟩ := g2 _ hl
      have c3 : bit = nI q2 := c3
      have c4 : ∀ k, k < c + 2 → seen2 (258 * t + k) = nI (L2 k) ∧ pre2 (258 * t + k) = nI (cdN L2 (c + 2) k) := c4
      obtain ⟨d1, d2, d3⟩ := ltN_r hl
      rw [c1, c2, c3]
      refine ih (t + 1) z q2 (fuN LT t L2) seen2 pre2 (by omega) (by omega) d1 (fun s k hs hk => ?_)
      unfold fuN
      by_cases hst : s = t
      · rw [if_pos hst, hst]
        exact ⟨(c4 k hk).1, (c4 k hk).2, (d3 k hk).1, (d3 k hk).2⟩
      · rw [if_neg hst, (g3 (258 * s + k) (Or.inl (by omega))).1, (g3 (258 * s + k) (Or.inl (by omega))).2]
        exact hT s k (by omega) hk
