/-! ROTATED, the class's: ranks, and the whole -/
theorem rankByByte_eq {n n1 : Nat} {od f1 rk : Nat → Int32} {K t : Nat → Nat} (hn : n ≤ 2250) (hn1 : n ≤ n1) (h1 : n1 < 2 ^ 31) (hK : ∀ x y, x < n → y < n → K x = K y → x = y) (hm : ∀ x y, x < n → y < n → K x < K y → t x ≤ t y) (hO : ∀ b, b < n → od (kpos K n b) = nI b) (ht : ∀ j, j < n → f1 j = nI (t j) ∧ t j < 256) :
    ∃ r R, Rotations_rankByByte_f (nI n) od n1 f1 rk = some (nI r, R) ∧ (∀ b, b < n → R b = nI (kpos t n b)) ∧ rk_r K t n n r := by
  have l1 : ∃ p : Int32 × (Nat → Int32), lpF (Rotations_rankByByte_L7 (nI n) od n1 f1) gas ((0 : Int32), (0 : Int32), rk) = some p ∧ ∃ r, p.1 = nI r ∧ rk_I K t n n p.2 ∧ rk_r K t n n r := by
    refine lp_for (fun i s => ∃ r R, s = (nI i, nI r, R) ∧ rk_I K t n i R ∧ rk_r K t n i r) _ (i0 := 0) (N := n) (Nat.zero_le _) (by omega) ?_ ?_ ⟨0, _, rfl, fun b _ h => absurd h (Nat.not_lt_zero _), Nat.le_refl _, fun _ x y _ _ _ h => absurd h (Nat.not_lt_zero _)⟩
    · rintro i s _ hi ⟨r, R, rfl, hI, hr⟩
      obtain ⟨x, hx, hxi⟩ := kpos_sur hK hi
      have hox : od i = nI x := by rw [← hxi]; exact hO x hx
      have hnew : Rotations_rankByByte_J42 (nI i, nI r, R) od (0 : Int32) = some (Sum.inl (nI (i + 1), nI (r + 1), upd R x (nI i))) := by
        show gd (ix (nI i) 2250) (gd (ix (od (nI i).toNatClampNeg) 2250) (some (Sum.inl (nI i + (1 : Int32), nI r + (1 : Int32), upd R (od (nI i).toNatClampNeg).toNatClampNeg (nI i))))) = _
        rw [nI_clamp (show i < 2 ^ 31 by omega), hox, ixN (show i < 2250 by omega) (by omega), ixN (show x < 2250 by omega) (by omega), nI_clamp (show x < 2 ^ 31 by omega), nI_1 i, nI_1 r]
        rfl
      rcases Nat.eq_zero_or_pos i with h0 | h0
      · have hp : ∀ p, p < n → kpos K n p + 1 = kpos K n x → t p ≠ t x := fun p _ h => by omega
        refine ⟨(nI (i + 1), nI (r + 1), upd R x (nI i)), ?_, _, _, rfl, rk_stepI hK hI hx hxi (by rw [rk_new hK hm hx hp, hxi]), rk_ne hK hm hr hx hxi hp⟩
        show (if nI n ≤ nI i then _ else if nI i ≤ 0 then Rotations_rankByByte_J42 (nI i, nI r, R) od (0 : Int32) else _) = _
        rw [if_neg (nI_ge hi (by omega)), if_pos (by rw [h0]; decide), hnew]
      · obtain ⟨k, rfl⟩ : ∃ k, i = k + 1 := ⟨i - 1, by omega⟩
        obtain ⟨p, hp, hpk⟩ := kpos_sur (q := k) hK (by omega)
        have hop : od k = nI p := by rw [← hpk]; exact hO p hp
        have huniq : ∀ p2, p2 < n → kpos K n p2 + 1 = kpos K n x → p2 = p := fun p2 h2 h3 => hK p2 p h2 hp ((kpos_eq_iff h2 hp).mp (by omega))
        have hL : Rotations_rankByByte_L7 (nI n) od n1 f1 (nI (k + 1), nI r, R) = (if nI (t x) = nI (t p) then Rotations_rankByByte_J42 (nI (k + 1), nI r, R) od (1 : Int32) else Rotations_rankByByte_J42 (nI (k + 1), nI r, R) od (0 : Int32)) := by
          show (if nI n ≤ nI (k + 1) then _ else if nI (k + 1) ≤ 0 then _ else gd (ix (nI (k + 1)) 2250) (gd (ix (od (nI (k + 1)).toNatClampNeg) n1) (gd (ix (nI (k + 1) - (1 : Int32)) 2250) (gd (ix (od (nI (k + 1) - (1 : Int32)).toNatClampNeg) n1) (if f1 (od (nI (k + 1)).toNatClampNeg).toNatClampNeg = f1 (od (nI (k + 1) - (1 : Int32)).toNatClampNeg).toNatClampNeg then Rotations_rankByByte_J42 (nI (k + 1), nI r, R) od (1 : Int32) else Rotations_rankByByte_J42 (nI (k + 1), nI r, R) od (0 : Int32)))))) = _
          rw [if_neg (nI_ge hi (by omega)), if_neg (nI_nle (by omega) (by omega)), nI_pred, nI_clamp (show k + 1 < 2 ^ 31 by omega), nI_clamp (show k < 2 ^ 31 by omega), hox, hop, nI_clamp (show x < 2 ^ 31 by omega), nI_clamp (show p < 2 ^ 31 by omega), (ht x hx).1, (ht p hp).1, ixN (show k + 1 < 2250 by omega) (by omega), ixN (show k < 2250 by omega) (by omega), ixN (show x < n1 by omega) (by omega), ixN (show p < n1 by omega) (by omega)]
          rfl
        have htx := (ht x hx).2
        have htp := (ht p hp).2
        by_cases hv : t x = t p
        · have heq : Rotations_rankByByte_J42 (nI (k + 1), nI r, R) od (1 : Int32) = some (Sum.inl (nI (k + 1 + 1), nI r, upd R x (R p))) := by
            show gd (ix (nI (k + 1)) 2250) (gd (ix (nI (k + 1) - (1 : Int32)) 2250) (gd (ix (od (nI (k + 1) - (1 : Int32)).toNatClampNeg) 2250) (gd (ix (od (nI (k + 1)).toNatClampNeg) 2250) (some (Sum.inl (nI (k + 1) + (1 : Int32), nI r + (0 : Int32), upd R (od (nI (k + 1)).toNatClampNeg).toNatClampNeg (R (od (nI (k + 1) - (1 : Int32)).toNatClampNeg).toNatClampNeg))))))) = _
            rw [nI_pred, nI_clamp (show k + 1 < 2 ^ 31 by omega), nI_clamp (show k < 2 ^ 31 by omega), hox, hop, ixN (show k + 1 < 2250 by omega) (by omega), ixN (show k < 2250 by omega) (by omega), ixN (show x < 2250 by omega) (by omega), ixN (show p < 2250 by omega) (by omega), nI_clamp (show x < 2 ^ 31 by omega), nI_clamp (show p < 2 ^ 31 by omega), nI_1 (k + 1), Int32.add_zero]
            rfl
          refine ⟨(nI (k + 1 + 1), nI r, upd R x (R p)), ?_, _, _, rfl, rk_stepI hK hI hx hxi (by rw [hI p hp (by omega), kpos_eq (K := t) (n := n) hv]), rk_eq hr⟩
          rw [hL, if_pos (by rw [hv]), heq]
        · have hp2 : ∀ p2, p2 < n → kpos K n p2 + 1 = kpos K n x → t p2 ≠ t x := fun p2 h2 h3 => by rw [huniq p2 h2 h3]; exact fun q => hv q.symm
          refine ⟨(nI (k + 1 + 1), nI (r + 1), upd R x (nI (k + 1))), ?_, _, _, rfl, rk_stepI hK hI hx hxi (by rw [rk_new hK hm hx hp2, hxi]), rk_ne hK hm hr hx hxi hp2⟩
          rw [hL, if_neg (by rw [nI_eq (by omega) (by omega)]; exact hv), hnew]
    · rintro s ⟨r, R, rfl, hI, hr⟩
      refine ⟨(nI r, R), ?_, r, rfl, hI, hr⟩
      show (if nI n ≤ nI n then _ else _) = _
      rw [if_pos (nI_le (Nat.le_refl n) (by omega))]
  obtain ⟨⟨r1, R⟩, e1, r, hr1, hI, hr⟩ := l1
  have hr1 : r1 = nI r := hr1
  refine ⟨r, R, ?_, fun b hb => hI b hb (kpos_lt hb), hr⟩
  unfold Rotations_rankByByte_f
  rw [e1, hr1]
  rfl
theorem rankByNext_eq {n w : Nat} {od rk rkn : Nat → Int32} {K V V2 : Nat → Nat} (hn : n ≤ 2250) (hw : w < n) (hK : ∀ x y, x < n → y < n → K x = K y → x = y) (hm : ∀ x y, x < n → y < n → K x < K y → V2 x ≤ V2 y) (hO : ∀ b, b < n → od (kpos K n b) = nI b) (hR : ∀ b, b < n → rk b = nI (kpos V n b))
    (hV : ∀ x y, x < n → y < n → (V2 x = V2 y ↔ V x = V y ∧ V ((x + w) % n) = V ((y + w) % n))) :
    ∃ r R, Rotations_rankByNext_f (nI n) od (nI w) rk rkn = some (nI r, rk, R) ∧ (∀ b, b < n → R b = nI (kpos V2 n b)) ∧ rk_r K V2 n n r := by
  have hmn : ∀ x, (x + w) % n < n := fun x => Nat.mod_lt _ (by omega)
  have l1 : ∃ p : Int32 × (Nat → Int32), lpF (Rotations_rankByNext_L13 (nI n) od (nI w) rk) gas ((0 : Int32), (0 : Int32), (0 : Int32), (0 : Int32), rkn) = some p ∧ ∃ r, p.1 = nI r ∧ rk_I K V2 n n p.2 ∧ rk_r K V2 n n r := by
    refine lp_for (fun i s => ∃ bf bn r R, s = (bf, bn, nI i, nI r, R) ∧ (0 < i → ∃ p, p < n ∧ kpos K n p + 1 = i ∧ bf = nI p ∧ bn = nI ((p + w) % n)) ∧ rk_I K V2 n i R ∧ rk_r K V2 n i r) _ (i0 := 0) (N := n) (Nat.zero_le _) (by omega) ?_ ?_ ⟨_, _, 0, _, rfl, fun h => absurd h (Nat.lt_irrefl _), fun b _ h => absurd h (Nat.not_lt_zero _), Nat.le_refl _, fun _ x y _ _ _ h => absurd h (Nat.not_lt_zero _)⟩
    · rintro i s _ hi ⟨bf, bn, r, R, rfl, hb, hI, hr⟩
      obtain ⟨x, hx, hxi⟩ := kpos_sur hK hi
      have hox : od i = nI x := by rw [← hxi]; exact hO x hx
      have hxw := hmn x
      have hnew : Rotations_rankByNext_J92 (bf, bn, nI i, nI r, R) (nI x) (nI ((x + w) % n)) = some (Sum.inl (nI x, nI ((x + w) % n), nI (i + 1), nI (r + 1), upd R x (nI i))) := by
        show gd (ix (nI x) 2250) (some (Sum.inl (nI x, nI ((x + w) % n), nI i + (1 : Int32), nI r + (1 : Int32), upd R (nI x).toNatClampNeg (nI i)))) = _
        rw [ixN (show x < 2250 by omega) (by omega), nI_clamp (show x < 2 ^ 31 by omega), nI_1 i, nI_1 r]
        rfl
      have hJ : ∀ j1 j2 : Int32, j2 - j1 = nI ((x + w) % n) → Rotations_rankByNext_L13 (nI n) od (nI w) rk (bf, bn, nI i, nI r, R) = Rotations_rankByNext_J47 (bf, bn, nI i, nI r, R) rk (nI x) j1 j2 → Rotations_rankByNext_L13 (nI n) od (nI w) rk (bf, bn, nI i, nI r, R) = (if nI i ≤ 0 then Rotations_rankByNext_J92 (bf, bn, nI i, nI r, R) (nI x) (nI ((x + w) % n)) else gd (ix (nI x) 2250) (gd (ix bf 2250) (if rk (nI x).toNatClampNeg = rk bf.toNatClampNeg then gd (ix (nI ((x + w) % n)) 2250) (gd (ix bn 2250) (if rk (nI ((x + w) % n)).toNatClampNeg = rk bn.toNatClampNeg then Rotations_rankByNext_J93 (bf, bn, nI i, nI r, R) (nI x) (nI ((x + w) % n)) (1 : Int32) else Rotations_rankByNext_J92 (bf, bn, nI i, nI r, R) (nI x) (nI ((x + w) % n)))) else Rotations_rankByNext_J92 (bf, bn, nI i, nI r, R) (nI x) (nI ((x + w) % n))))) := by
        intro j1 j2 h1 h2
        rw [h2, ← h1]
        rfl
      have hL : Rotations_rankByNext_L13 (nI n) od (nI w) rk (bf, bn, nI i, nI r, R) = (if nI x + nI w < nI n then Rotations_rankByNext_J47 (bf, bn, nI i, nI r, R) rk (nI x) (0 : Int32) (nI x + nI w) else Rotations_rankByNext_J47 (bf, bn, nI i, nI r, R) rk (nI x) (nI n) (nI x + nI w)) := by
        show (if nI n ≤ nI i then _ else gd (ix (nI i) 2250) (if od (nI i).toNatClampNeg + nI w < nI n then Rotations_rankByNext_J47 (bf, bn, nI i, nI r, R) rk (od (nI i).toNatClampNeg) (0 : Int32) (od (nI i).toNatClampNeg + nI w) else Rotations_rankByNext_J47 (bf, bn, nI i, nI r, R) rk (od (nI i).toNatClampNeg) (nI n) (od (nI i).toNatClampNeg + nI w))) = _
        rw [if_neg (nI_ge hi (by omega)), nI_clamp (show i < 2 ^ 31 by omega), hox, ixN (show i < 2250 by omega) (by omega)]
        rfl
      have hJ2 : Rotations_rankByNext_L13 (nI n) od (nI w) rk (bf, bn, nI i, nI r, R) = (if nI i ≤ 0 then Rotations_rankByNext_J92 (bf, bn, nI i, nI r, R) (nI x) (nI ((x + w) % n)) else gd (ix (nI x) 2250) (gd (ix bf 2250) (if rk (nI x).toNatClampNeg = rk bf.toNatClampNeg then gd (ix (nI ((x + w) % n)) 2250) (gd (ix bn 2250) (if rk (nI ((x + w) % n)).toNatClampNeg = rk bn.toNatClampNeg then Rotations_rankByNext_J93 (bf, bn, nI i, nI r, R) (nI x) (nI ((x + w) % n)) (1 : Int32) else Rotations_rankByNext_J92 (bf, bn, nI i, nI r, R) (nI x) (nI ((x + w) % n)))) else Rotations_rankByNext_J92 (bf, bn, nI i, nI r, R) (nI x) (nI ((x + w) % n))))) := by
        by_cases h : x + w < n
        · refine hJ (0 : Int32) (nI x + nI w) ?_ ?_
          · rw [Int32.sub_zero, nI_add, Nat.mod_eq_of_lt h]
          · rw [hL, if_pos (by rw [nI_add]; exact nI_lt h (by omega))]
        · refine hJ (nI n) (nI x + nI w) ?_ ?_
          · rw [nI_add, pk_sub (by omega), Nat.mod_eq_sub_mod (by omega), Nat.mod_eq_of_lt (by omega)]
          · rw [hL, if_neg (by rw [nI_add]; exact nI_nlt (by omega) (by omega))]
      rcases Nat.eq_zero_or_pos i with h0 | h0
      · have hp : ∀ p, p < n → kpos K n p + 1 = kpos K n x → V2 p ≠ V2 x := fun p _ h => by omega
        refine ⟨(nI x, nI ((x + w) % n), nI (i + 1), nI (r + 1), upd R x (nI i)), ?_, _, _, _, _, rfl, fun _ => ⟨x, hx, by omega, rfl, rfl⟩, rk_stepI hK hI hx hxi (by rw [rk_new hK hm hx hp, hxi]), rk_ne hK hm hr hx hxi hp⟩
        rw [hJ2, if_pos (by rw [h0]; decide), hnew]
      · obtain ⟨p, hp, hpk, hbf, hbn⟩ := hb h0
        have hpw := hmn p
        have huniq : ∀ p2, p2 < n → kpos K n p2 + 1 = kpos K n x → p2 = p := fun p2 h2 h3 => hK p2 p h2 hp ((kpos_eq_iff h2 hp).mp (by omega))
        rw [if_neg (nI_nle h0 (by omega)), hbf, hbn, nI_clamp (show x < 2 ^ 31 by omega), nI_clamp (show p < 2 ^ 31 by omega), nI_clamp (show (x + w) % n < 2 ^ 31 by omega), nI_clamp (show (p + w) % n < 2 ^ 31 by omega), hR x hx, hR p hp, hR _ hxw, hR _ hpw, ixN (show x < 2250 by omega) (by omega), ixN (show p < 2250 by omega) (by omega), ixN (show (x + w) % n < 2250 by omega) (by omega), ixN (show (p + w) % n < 2250 by omega) (by omega), gd_t, gd_t, gd_t, gd_t] at hJ2
        have k1 := kpos_lt (K := V) hx
        have k2 := kpos_lt (K := V) hp
        have k3 := kpos_lt (K := V) hxw
        have k4 := kpos_lt (K := V) hpw
        rw [hbf, hbn] at hnew ⊢
        by_cases hv : V2 x = V2 p
        · have hv2 := (hV x p hx hp).mp hv
          have heq : Rotations_rankByNext_J93 (nI p, nI ((p + w) % n), nI i, nI r, R) (nI x) (nI ((x + w) % n)) (1 : Int32) = some (Sum.inl (nI x, nI ((x + w) % n), nI (i + 1), nI r, upd R x (R p))) := by
            show gd (ix (nI p) 2250) (gd (ix (nI x) 2250) (some (Sum.inl (nI x, nI ((x + w) % n), nI i + (1 : Int32), nI r + (0 : Int32), upd R (nI x).toNatClampNeg (R (nI p).toNatClampNeg))))) = _
            rw [ixN (show x < 2250 by omega) (by omega), ixN (show p < 2250 by omega) (by omega), nI_clamp (show x < 2 ^ 31 by omega), nI_clamp (show p < 2 ^ 31 by omega), nI_1 i, Int32.add_zero]
            rfl
          refine ⟨(nI x, nI ((x + w) % n), nI (i + 1), nI r, upd R x (R p)), ?_, _, _, _, _, rfl, fun _ => ⟨x, hx, by omega, rfl, rfl⟩, rk_stepI hK hI hx hxi (by rw [hI p hp (by omega), kpos_eq (K := V2) (n := n) hv]), rk_eq hr⟩
          rw [hJ2, if_pos (by rw [kpos_eq (K := V) (n := n) hv2.1]), if_pos (by rw [kpos_eq (K := V) (n := n) hv2.2]), heq]
        · have hp2 : ∀ p2, p2 < n → kpos K n p2 + 1 = kpos K n x → V2 p2 ≠ V2 x := fun p2 h2 h3 => by rw [huniq p2 h2 h3]; exact fun q => hv q.symm
          refine ⟨(nI x, nI ((x + w) % n), nI (i + 1), nI (r + 1), upd R x (nI i)), ?_, _, _, _, _, rfl, fun _ => ⟨x, hx, by omega, rfl, rfl⟩, rk_stepI hK hI hx hxi (by rw [rk_new hK hm hx hp2, hxi]), rk_ne hK hm hr hx hxi hp2⟩
          rw [hJ2]
          by_cases h3 : V x = V p
          · rw [if_pos (by rw [kpos_eq (K := V) (n := n) h3]), if_neg (fun q => ?_), hnew]
            rw [nI_eq (by omega) (by omega), kpos_eq_iff hxw hpw] at q
            exact hv ((hV x p hx hp).mpr ⟨h3, q⟩)
          · rw [if_neg (fun q => ?_), hnew]
            rw [nI_eq (by omega) (by omega), kpos_eq_iff hx hp] at q
            exact h3 q
    · rintro s ⟨bf, bn, r, R, rfl, hb, hI, hr⟩
      refine ⟨(nI r, R), ?_, r, rfl, hI, hr⟩
      show (if nI n ≤ nI n then _ else _) = _
      rw [if_pos (nI_le (Nat.le_refl n) (by omega))]
  obtain ⟨⟨r1, R⟩, e1, r, hr1, hI, hr⟩ := l1
  have hr1 : r1 = nI r := hr1
  refine ⟨r, R, ?_, fun b hb => hI b hb (kpos_lt hb), hr⟩
  unfold Rotations_rankByNext_f
  rw [e1, hr1]
  rfl
