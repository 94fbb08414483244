/-! BITS, the class's: lengths, symbols, a whole block -/
theorem putLengths_c {s : bs} {n0 n : Nat} {lens : Nat → Int32} {L : Nat → Nat} {p : Int32 × Int32 × Nat × (Nat → Int32) × Int32} (hn0 : n0 ≤ 1000000) (hn1 : 1 ≤ n) (hn : n ≤ 258) (hL : ∀ k, k < n → lens k = nI (L k) ∧ 1 ≤ L k ∧ L k ≤ 15) (h : CWp s n0 p) (hl : blen s + 7600 ≤ 2000000) :
    ∃ p2, BitWriter_putLengths_f lens p.1 p.2.1 p.2.2.1 p.2.2.2.1 p.2.2.2.2 (nI n) = some p2 ∧ CWp (pus s (lb L n)) n0 p2 := by
  obtain ⟨p0, e0, h0⟩ := put_p (v := nI (L 0)) (k := 5) hn0 (by omega) h (by omega)
  have l1 : ∃ p2, lpF (BitWriter_putLengths_L15 (nI n) lens) gas (nI (L 0), (0 : Int32), p0) = some p2 ∧ CWp (pus s (lb L n)) n0 p2 := by
    refine lp_for (fun k s3 => ∃ p, s3 = (nI (L (k - 1)), nI k, p) ∧ CWp (pus s (lb L k)) n0 p) _ (i0 := 0) (N := n) (Nat.zero_le _) (by omega) ?_ ?_ ⟨p0, rfl, by rw [show lb L 0 = pb (nI (L 0)) 5 from rfl]; exact h0⟩
    · rintro k s3 _ hk ⟨p, rfl, hp⟩
      obtain ⟨hb0, hb1, hb2⟩ := hL k hk
      obtain ⟨_, ha1, ha2⟩ := hL (k - 1) (by omega)
      have hlb := lb_len (fun k hk => (hL k hk).2) k (by omega)
      have hlen := pus_len (l := lb L k) h.ok
      have hnx : lb L (k + 1) = lb L k ++ chg (L (k - 1)) (L k) := rfl
      rw [hnx]
      generalize hS : pus s (lb L k) = S at *
      have hpS : pus s (lb L k ++ chg (L (k - 1)) (L k)) = pus S (chg (L (k - 1)) (L k)) := by rw [pus_app, hS]
      rw [hpS]
      obtain ⟨a, ha⟩ : ∃ a, a = L (k - 1) := ⟨_, rfl⟩
      obtain ⟨b, hb⟩ : ∃ b, b = L k := ⟨_, rfl⟩
      rw [← ha] at ha1 ha2 ⊢
      rw [← hb] at hb0 hb1 hb2 ⊢
      have hdue : lens (nI k).toNatClampNeg = nI b := by rw [nI_clamp (by omega), hb0]
      have l2 : ∃ q : Int32 × Int32 × Int32 × Nat × (Nat → Int32) × Int32, lpF (BitWriter_putLengths_L31 lens (nI a, nI k, p)) gas (nI a, p) = some q ∧ q.1 = nI (max a b) ∧ CWp (pus S (ch false (b - a))) n0 q.2 := by
        refine lp_for (fun i s9 => ∃ p, s9 = (nI (a + i), p) ∧ CWp (pus S (ch false i)) n0 p) _ (i0 := 0) (N := b - a) (Nat.zero_le _) (by omega) ?_ ?_ ⟨p, rfl, by rw [show ch false 0 = [] from rfl, pus_nil]; exact hp⟩
        · rintro i s9 _ hi ⟨p1, rfl, hp1⟩
          have hlen2 := pus_len (l := ch false i) hp.ok
          rw [ch_len] at hlen2
          obtain ⟨p2, e3, h6⟩ := put_p (v := (2 : Int32)) (k := 2) hn0 (by omega) hp1 (by omega)
          rw [pb_22, ← pus_app] at h6
          refine ⟨(nI (a + (i + 1)), p2), ?_, p2, rfl, h6⟩
          show (if lens (nI k).toNatClampNeg ≤ nI (a + i) then _ else bd (BitWriter_put_f (2 : Int32) (nI 2) p1.1 p1.2.1 p1.2.2.1 p1.2.2.2.1 p1.2.2.2.2) (fun u21 => some (Sum.inl (nI (a + i) + (1 : Int32), u21)))) = _
          rw [hdue, if_neg (nI_ge (by omega) (by omega)), e3, bd_s, nI_1]
          rfl
        · rintro s9 ⟨p1, rfl, hp1⟩
          refine ⟨(nI (a + (b - a)), p1), ?_, congrArg nI (by omega), hp1⟩
          show (if lens (nI k).toNatClampNeg ≤ nI (a + (b - a)) then _ else _) = _
          rw [hdue, if_pos (nI_le (by omega) (by omega))]
      obtain ⟨⟨q1, p1⟩, e1, hq1, h1⟩ := l2
      have hq1 : q1 = nI (max a b) := hq1
      have h1 : CWp (pus S (ch false (b - a))) n0 p1 := h1
      have hlen1 := pus_len (l := ch false (b - a)) hp.ok
      rw [ch_len] at hlen1
      generalize hS1 : pus S (ch false (b - a)) = S1 at *
      have l3 : ∃ q : Int32 × Int32 × Int32 × Nat × (Nat → Int32) × Int32, lpF (BitWriter_putLengths_L49 lens (nI a, nI k, p)) gas (nI (max a b), p1) = some q ∧ q.1 = nI b ∧ CWp (pus S1 (ch true (a - b))) n0 q.2 := by
        refine lp_for (fun i s9 => ∃ p, s9 = (nI (max a b - i), p) ∧ CWp (pus S1 (ch true i)) n0 p) _ (i0 := 0) (N := a - b) (Nat.zero_le _) (by omega) ?_ ?_ ⟨p1, rfl, by rw [show ch true 0 = [] from rfl, pus_nil]; exact h1⟩
        · rintro i s9 _ hi ⟨p2, rfl, hp2⟩
          have hlen2 := pus_len (l := ch true i) h1.ok
          rw [ch_len] at hlen2
          obtain ⟨p3, e3, h6⟩ := put_p (v := (3 : Int32)) (k := 2) hn0 (by omega) hp2 (by omega)
          rw [pb_32', ← pus_app] at h6
          refine ⟨(nI (max a b - (i + 1)), p3), ?_, p3, rfl, h6⟩
          show (if nI (max a b - i) ≤ lens (nI k).toNatClampNeg then _ else bd (BitWriter_put_f (3 : Int32) (nI 2) p2.1 p2.2.1 p2.2.2.1 p2.2.2.2.1 p2.2.2.2.2) (fun u18 => some (Sum.inl (nI (max a b - i) + (-1 : Int32), u18)))) = _
          rw [hdue, if_neg (nI_ge (by omega) (by omega)), e3, bd_s, show max a b - i = max a b - (i + 1) + 1 by omega, pk_m1]
        · rintro s9 ⟨p2, rfl, hp2⟩
          refine ⟨(nI (max a b - (a - b)), p2), ?_, congrArg nI (by omega), hp2⟩
          show (if nI (max a b - (a - b)) ≤ lens (nI k).toNatClampNeg then _ else _) = _
          rw [hdue, if_pos (nI_le (by omega) (by omega))]
      obtain ⟨⟨q2, p2⟩, e2, hq2, h2⟩ := l3
      have hq2 : q2 = nI b := hq2
      have h2 : CWp (pus S1 (ch true (a - b))) n0 p2 := h2
      have hlen2 := pus_len (l := ch true (a - b)) h1.ok
      rw [ch_len] at hlen2
      obtain ⟨p3, e3, h3⟩ := put_p (v := (0 : Int32)) (k := 1) hn0 (by omega) h2 (by omega)
      rw [pb_01, ← pus_app, ← hS1, ← pus_app] at h3
      refine ⟨(nI b, nI (k + 1), p3), ?_, p3, ?_, h3⟩
      · show (if nI n ≤ nI k then _ else gd (ix (nI k) 258) (bd (lpF (BitWriter_putLengths_L31 lens (nI a, nI k, p)) gas (nI a, p)) (fun v11 => bd (lpF (BitWriter_putLengths_L49 lens (nI a, nI k, p)) gas v11) (fun v14 => bd (BitWriter_put_f (0 : Int32) (nI 1) v14.2.1 v14.2.2.1 v14.2.2.2.1 v14.2.2.2.2.1 v14.2.2.2.2.2) (fun u15 => some (Sum.inl (v14.1, nI k + (1 : Int32), u15))))))) = _
        rw [if_neg (nI_ge hk (by omega)), e1, bd_s, hq1, e2, bd_s, hq2]
        show gd (ix (nI k) 258) (bd (BitWriter_put_f (0 : Int32) (nI 1) p2.1 p2.2.1 p2.2.2.1 p2.2.2.2.1 p2.2.2.2.2) (fun u15 => some (Sum.inl (nI b, nI k + (1 : Int32), u15)))) = _
        rw [e3, bd_s, ixN (show k < 258 by omega) (by omega), nI_1]
        rfl
      · rw [show k + 1 - 1 = k by omega, hb]
    · rintro s3 ⟨p, rfl, hp⟩
      refine ⟨p, ?_, hp⟩
      show (if nI n ≤ nI n then _ else _) = _
      rw [if_pos (nI_le (Nat.le_refl _) (by omega))]
  obtain ⟨p2, e1, h1⟩ := l1
  refine ⟨p2, ?_, h1⟩
  unfold BitWriter_putLengths_f
  rw [show ix (0 : Int32) 258 = true by decide, gd_t, c0, (hL 0 (by omega)).1]
  show bd (BitWriter_put_f (nI (L 0)) (nI 5) p.1 p.2.1 p.2.2.1 p.2.2.2.1 p.2.2.2.2) _ = _
  rw [e0, bd_s]
  show bd (lpF (BitWriter_putLengths_L15 (nI n) lens) gas (nI (L 0), (0 : Int32), p0)) _ = _
  rw [e1]
  rfl
theorem putSymbols_c {s : bs} {n0 n m tc : Nat} {gt fS : Nat → Int32} {Cf Lf : Nat → Nat → Int32} {sy tb : Nat → Nat} {Lt Ct : Nat → Nat → Nat} {p : Int32 × Int32 × Nat × (Nat → Int32) × Int32} (hn0 : n0 ≤ 1000000) (hn : n ≤ 258) (hm : m ≤ 2251) (htc : tc ≤ 6) (hs : ∀ i, i < m → fS i = nI (sy i) ∧ sy i < n) (hg : ∀ g, g < (m + 49) / 50 → gt g = nI (tb g) ∧ tb g < tc) (hL : ∀ t k, t < tc → k < n → Lf t k = nI (Lt t k) ∧ Lt t k ≤ 15 ∧ Cf t k = nI (Ct t k)) (h : CWp s n0 p) (hl : blen s + 34000 ≤ 2000000) :
    ∃ p2, BitWriter_putSymbols_f (nI m) gt fS Cf Lf p.1 p.2.1 p.2.2.1 p.2.2.2.1 p.2.2.2.2 = some p2 ∧ CWp (pus s (sb sy tb Lt Ct m)) n0 p2 := by
  have hLb : ∀ i, i < m → Lt (tb (i / 50)) (sy i) ≤ 15 := fun i hi => (hL _ _ (hg (i / 50) (by omega)).2 (hs i hi).2).2.1
  have l1 : ∃ p2, lpF (BitWriter_putSymbols_L2 (nI m) gt fS Cf Lf) gas ((0 : Int32), p) = some p2 ∧ CWp (pus s (sb sy tb Lt Ct m)) n0 p2 := by
    refine lp_for (fun i s1 => ∃ p, s1 = (nI i, p) ∧ CWp (pus s (sb sy tb Lt Ct i)) n0 p) _ (i0 := 0) (N := m) (Nat.zero_le _) (by omega) ?_ ?_ ⟨p, rfl, by rw [show sb sy tb Lt Ct 0 = [] from rfl, pus_nil]; exact h⟩
    · rintro i s1 _ hi ⟨p, rfl, hp⟩
      obtain ⟨hs1, hs2⟩ := hs i hi
      obtain ⟨hg1, hg2⟩ := hg (i / 50) (by omega)
      obtain ⟨hL1, hL2, hC1⟩ := hL _ _ hg2 hs2
      have hsb := sb_len (Ct := Ct) hLb i (by omega)
      have hlen := pus_len (l := sb sy tb Lt Ct i) h.ok
      obtain ⟨p2, e3, h3⟩ := put_p (v := nI (Ct (tb (i / 50)) (sy i))) (k := Lt (tb (i / 50)) (sy i)) hn0 (by omega) hp (by omega)
      rw [← pus_app] at h3
      refine ⟨(nI (i + 1), p2), ?_, p2, rfl, h3⟩
      show (if nI m ≤ nI i then _ else gd (ix (nI i / nI 50) 46) (gd (ix (gt (nI i / nI 50).toNatClampNeg) 6) (gd (ix (nI i) 2251) (gd (ix (fS (nI i).toNatClampNeg) 258) (gd (ix (fS (nI i).toNatClampNeg) 258) (bd (BitWriter_put_f (Cf (gt (nI i / nI 50).toNatClampNeg).toNatClampNeg (fS (nI i).toNatClampNeg).toNatClampNeg) (Lf (gt (nI i / nI 50).toNatClampNeg).toNatClampNeg (fS (nI i).toNatClampNeg).toNatClampNeg) p.1 p.2.1 p.2.2.1 p.2.2.2.1 p.2.2.2.2) (fun u11 => some (Sum.inl (nI i + (1 : Int32), u11))))))))) = _
      rw [if_neg (nI_ge hi (by omega)), pk_div (show i < 2 ^ 31 by omega) (by omega) (by omega), nI_clamp (show i < 2 ^ 31 by omega), nI_clamp (show i / 50 < 2 ^ 31 by omega), hs1, hg1, nI_clamp (show sy i < 2 ^ 31 by omega), nI_clamp (show tb (i / 50) < 2 ^ 31 by omega), hL1, hC1, e3, bd_s, ixN (show i / 50 < 46 by omega) (by omega), ixN (show tb (i / 50) < 6 by omega) (by omega), ixN (show i < 2251 by omega) (by omega), ixN (show sy i < 258 by omega) (by omega), nI_1]
      rfl
    · rintro s1 ⟨p, rfl, hp⟩
      refine ⟨p, ?_, hp⟩
      show (if nI m ≤ nI m then _ else _) = _
      rw [if_pos (nI_le (Nat.le_refl _) (by omega))]
  obtain ⟨p2, e1, h1⟩ := l1
  refine ⟨p2, ?_, h1⟩
  unfold BitWriter_putSymbols_f
  show bd (lpF (BitWriter_putSymbols_L2 (nI m) gt fS Cf Lf) gas ((0 : Int32), p)) _ = _
  rw [e1]
  rfl
/-- a block's bits -/
def blb (ck : Int32) (og : Nat) (u : Nat → Bool) (sy tb : Nat → Nat) (Lt Ct : Nat → Nat → Nat) (n m tc : Nat) : List Bool :=
  pb 1 8 ++ (pb ck 32 ++ (pb (nI og) 16 ++ ((ub1 u 16 ++ ub2 u 256) ++ (pb (nI tc) 3 ++ (pb (nI ((m + 49) / 50)) 15 ++ (gb tb tc ((m + 49) / 50) ++ (tl Lt n tc ++ sb sy tb Lt Ct m)))))))
theorem write_c {s : bs} {n0 n m tc og : Nat} {ck : Int32} {U mem gt fS kinds : Nat → Int32} {Cf Lf : Nat → Nat → Int32} {u : Nat → Bool} {sy tb : Nat → Nat} {Lt Ct : Nat → Nat → Nat} {p : Int32 × Int32 × Nat × (Nat → Int32) × Int32} (hn0 : n0 ≤ 1000000) (hn1 : 1 ≤ n) (hn : n ≤ 258) (hm : m ≤ 2251) (htc : tc ≤ 6) (hU : ∀ b, b < 256 → U b = nI (u b).toNat) (hs : ∀ i, i < m → fS i = nI (sy i) ∧ sy i < n) (hg : ∀ g, g < (m + 49) / 50 → gt g = nI (tb g) ∧ tb g < tc) (hL : ∀ t k, t < tc → k < n → Lf t k = nI (Lt t k) ∧ (1 ≤ Lt t k ∧ Lt t k ≤ 15) ∧ Cf t k = nI (Ct t k)) (hki : ∀ t, t < tc → kinds t = nI n) (h : CWp s n0 p) (hl : blen s + 80000 ≤ 2000000) :
    ∃ mem2 p2, BitWriter_write_f p.1 p.2.1 p.2.2.1 p.2.2.2.1 p.2.2.2.2 ck (nI og) U (nI tc) (nI ((m + 49) / 50)) mem gt Lf kinds (nI m) fS Cf = some (p2.1, p2.2.1, p2.2.2.1, p2.2.2.2.1, p2.2.2.2.2, nI tc, mem2) ∧ CWp (pus s (blb ck og u sy tb Lt Ct n m tc)) n0 p2 := by
  obtain ⟨p1, e1, h1⟩ := put_p (v := (1 : Int32)) (k := 8) hn0 (by omega) h (by omega)
  have b1 := pus_len (l := pb (1 : Int32) 8) h.ok
  rw [pb_len] at b1
  obtain ⟨p2, e2, h2⟩ := put_p (v := ck) (k := 32) hn0 (by omega) h1 (by omega)
  have b2 := pus_len (l := pb ck 32) h1.ok
  rw [pb_len] at b2
  obtain ⟨p3, e3, h3⟩ := put_p (v := nI og) (k := 16) hn0 (by omega) h2 (by omega)
  have b3 := pus_len (l := pb (nI og) 16) h2.ok
  rw [pb_len] at b3
  obtain ⟨p4, e4, h4⟩ := putUsed_c hn0 hU h3 (by omega)
  have b4 := pus_len (l := ub1 u 16 ++ ub2 u 256) h3.ok
  rw [List.length_append, ub1_len] at b4
  have b4' := ub2_len u 256
  obtain ⟨p5, e5, h5⟩ := put_p (v := nI tc) (k := 3) hn0 (by omega) h4 (by omega)
  have b5 := pus_len (l := pb (nI tc) 3) h4.ok
  rw [pb_len] at b5
  obtain ⟨p6, e6, h6⟩ := put_p (v := nI ((m + 49) / 50)) (k := 15) hn0 (by omega) h5 (by omega)
  have b6 := pus_len (l := pb (nI ((m + 49) / 50)) 15) h5.ok
  rw [pb_len] at b6
  obtain ⟨mem2, p7, e7, h7⟩ := putGroups_c (mem := mem) hn0 htc (show (m + 49) / 50 ≤ 46 by omega) hg h6 (by omega)
  have b7 := pus_len (l := gb tb tc ((m + 49) / 50)) h6.ok
  have b7' := gb_len (tb := tb) (tc := tc) (G := (m + 49) / 50) (fun g hgg => by have := (up_in (l := tb) (g0 := fun j => j) (c := tc) (n := (m + 49) / 50) (fun i hi => ⟨tb i, (hg i hi).2, rfl⟩) hgg).1; omega) _ (Nat.le_refl _)
  have htl : ∀ t, t ≤ tc → (tl Lt n t).length ≤ 7487 * t := by
    intro t ht
    have q1 := tl_len (fun t k ht hk => (hL t k ht hk).2.1) t ht
    exact Nat.le_trans q1 (Nat.mul_le_mul_right t (by omega))
  generalize hS7 : pus (pus (pus (pus (pus (pus (pus s (pb 1 8)) (pb ck 32)) (pb (nI og) 16)) (ub1 u 16 ++ ub2 u 256)) (pb (nI tc) 3)) (pb (nI ((m + 49) / 50)) 15)) (gb tb tc ((m + 49) / 50)) = S7 at *
  have l8 : ∃ p8, lpF (BitWriter_write_L61 (nI tc) Lf kinds) gas ((0 : Int32), p7) = some p8 ∧ CWp (pus S7 (tl Lt n tc)) n0 p8 := by
    refine lp_for (fun t s8 => ∃ p, s8 = (nI t, p) ∧ CWp (pus S7 (tl Lt n t)) n0 p) _ (i0 := 0) (N := tc) (Nat.zero_le _) (by omega) ?_ ?_ ⟨p7, rfl, by rw [show tl Lt n 0 = [] from rfl, pus_nil]; exact h7⟩
    · rintro t s8 _ ht ⟨q, rfl, hq⟩
      have c1 := pus_len (l := tl Lt n t) h7.ok
      have c2 := htl t (by omega)
      obtain ⟨q2, d1, d2⟩ := putLengths_c (lens := Lf t) (L := Lt t) hn0 hn1 hn (fun k hk => ⟨(hL t k ht hk).1, (hL t k ht hk).2.1⟩) hq (by omega)
      rw [← pus_app] at d2
      refine ⟨(nI (t + 1), q2), ?_, q2, rfl, d2⟩
      show (if nI tc ≤ nI t then _ else gd (ix (nI t) 6) (bd (BitWriter_putLengths_f (Lf (nI t).toNatClampNeg) q.1 q.2.1 q.2.2.1 q.2.2.2.1 q.2.2.2.2 (kinds (nI t).toNatClampNeg)) (fun u15 => some (Sum.inl (nI t + (1 : Int32), u15))))) = _
      rw [if_neg (nI_ge ht (by omega)), nI_clamp (show t < 2 ^ 31 by omega), hki t ht, d1, bd_s, ixN (show t < 6 by omega) (by omega), nI_1]
      rfl
    · rintro s8 ⟨q, rfl, hq⟩
      refine ⟨q, ?_, hq⟩
      show (if nI tc ≤ nI tc then _ else _) = _
      rw [if_pos (nI_le (Nat.le_refl _) (by omega))]
  obtain ⟨p8, e8, h8⟩ := l8
  have b8 := pus_len (l := tl Lt n tc) h7.ok
  have b8' := htl tc (Nat.le_refl _)
  obtain ⟨p9, e9, h9⟩ := putSymbols_c (gt := gt) (Ct := Ct) hn0 hn hm htc hs hg (fun t k ht hk => ⟨(hL t k ht hk).1, (hL t k ht hk).2.1.2, (hL t k ht hk).2.2⟩) h8 (by omega)
  refine ⟨mem2, p9, ?_, ?_⟩
  · unfold BitWriter_write_f
    show bd (BitWriter_put_f (1 : Int32) (nI 8) p.1 p.2.1 p.2.2.1 p.2.2.2.1 p.2.2.2.2) _ = _
    rw [e1, bd_s]
    show bd (BitWriter_put_f ck (nI 32) p1.1 p1.2.1 p1.2.2.1 p1.2.2.2.1 p1.2.2.2.2) _ = _
    rw [e2, bd_s]
    show bd (BitWriter_put_f (nI og) (nI 16) p2.1 p2.2.1 p2.2.2.1 p2.2.2.2.1 p2.2.2.2.2) _ = _
    rw [e3, bd_s, e4, bd_s]
    show bd (BitWriter_put_f (nI tc) (nI 3) p4.1 p4.2.1 p4.2.2.1 p4.2.2.2.1 p4.2.2.2.2) _ = _
    rw [e5, bd_s]
    show bd (BitWriter_put_f (nI ((m + 49) / 50)) (nI 15) p5.1 p5.2.1 p5.2.2.1 p5.2.2.2.1 p5.2.2.2.2) _ = _
    rw [e6, bd_s, e7, bd_s]
    show bd (lpF (BitWriter_write_L61 (nI tc) Lf kinds) gas ((0 : Int32), p7)) _ = _
    rw [e8, bd_s, e9]
    rfl
  · unfold blb
    rw [pus_app, pus_app, pus_app, pus_app, pus_app, pus_app, pus_app, hS7, pus_app]
    exact h9
