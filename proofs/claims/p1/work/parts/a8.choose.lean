/-! CODES, the class's: the tables are made -/
theorem chooseTables_eq {m n tc : Nat} {fS gt : Nat → Int32} {Lf : Nat → Nat → Int32} {s : Nat → Nat} {Lt : Nat → Nat → Nat} (hm : m ≤ 2251) (hn : n ≤ 258) (ht1 : 1 ≤ tc) (ht6 : tc ≤ 6) (hs : ∀ i, i < m → fS i = nI (s i) ∧ s i < n) (hL : ∀ t k, t < tc → k < n → Lf t k = nI (Lt t k) ∧ Lt t k ≤ 20) :
    ∃ gt2, Coder_chooseTables_f (nI ((m + 49) / 50)) (nI m) fS Lf (nI tc) gt = some gt2 ∧ ∀ g, g < (m + 49) / 50 → gt2 g = nI (beN (fun t => biN s m g (Lt t)) (tc - 1)) := by
  have hbits : ∀ g t, g < (m + 49) / 50 → t < tc → Coder_bitsOf_f (nI m) (nI g) fS 258 (Lf t) = some (nI (biN s m g (Lt t))) := by
    intro g t hg ht
    rw [bitsOf_c hm (by omega) (fun j hj => ⟨(hs j hj).1, by have := (hs j hj).2; omega⟩) (Nat.le_refl _)]
    rw [bsm_N (L := Lt t) _ (fun j hj => (hL t _ ht (hs _ (by omega)).2).1)]
    rfl
  have hbb : ∀ g t, t < tc → biN s m g (Lt t) ≤ 1000 := fun g t ht => bi_b (fun i hi => (hs i hi).2) (fun k hk => (hL t k ht hk).2)
  have l1 : ∃ gt2, lpF (Coder_chooseTables_L2 (nI ((m + 49) / 50)) (nI m) fS Lf (nI tc)) gas ((0 : Int32), gt) = some gt2 ∧ ∀ g, g < (m + 49) / 50 → gt2 g = nI (beN (fun t => biN s m g (Lt t)) (tc - 1)) := by
    refine lp_for (fun i s1 => ∃ G, s1 = (nI i, G) ∧ ∀ g, g < i → G g = nI (beN (fun t => biN s m g (Lt t)) (tc - 1))) _ (i0 := 0) (N := (m + 49) / 50) (Nat.zero_le _) (by omega) ?_ ?_ ⟨_, rfl, fun k h => absurd h (Nat.not_lt_zero _)⟩
    · rintro i s1 _ hi ⟨G, rfl, hG⟩
      obtain ⟨B, hB⟩ : ∃ B, B = fun t => biN s m i (Lt t) := ⟨_, rfl⟩
      have hBb : ∀ t, t < tc → B t ≤ 1000 := fun t ht => by rw [hB]; exact hbb i t ht
      have hBi : ∀ t, t < tc → Coder_bitsOf_f (nI m) (nI i) fS 258 (Lf t) = some (nI (B t)) := fun t ht => by rw [hB]; exact hbits i t hi ht
      have l2 : ∃ e, lpF (Coder_chooseTables_L30 (nI tc) (nI m) (nI i, G) fS Lf) gas ((0 : Int32), nI (B 0), (1 : Int32)) = some e ∧ e = nI (beN B (tc - 1)) := by
        refine lp_for (fun t s8 => s8 = (nI (beN B (t - 1)), nI (B (beN B (t - 1))), nI t)) _ (i0 := 1) (N := tc) ht1 (by omega) ?_ ?_ rfl
        · rintro t s8 ht0 ht rfl
          obtain ⟨k, rfl⟩ : ∃ k, t = k + 1 := ⟨t - 1, by omega⟩
          rw [show k + 1 - 1 = k by omega, show k + 1 + 1 - 1 = k + 1 by omega]
          have hbk := be_le B k
          have hS : Coder_chooseTables_L30 (nI tc) (nI m) (nI i, G) fS Lf (nI (beN B k), nI (B (beN B k)), nI (k + 1)) = (if nI (B (beN B k)) ≤ nI (B (k + 1)) then some (Sum.inl (nI (beN B k), nI (B (beN B k)), nI (k + 1 + 1))) else some (Sum.inl (nI (k + 1), nI (B (k + 1)), nI (k + 1 + 1)))) := by
            show (if nI tc ≤ nI (k + 1) then _ else gd (ix (nI (k + 1)) 6) (bd (Coder_bitsOf_f (nI m) (nI i) fS 258 (Lf (nI (k + 1)).toNatClampNeg)) (fun u15 => (if nI (B (beN B k)) ≤ u15 then some (Sum.inl (nI (beN B k), nI (B (beN B k)), nI (k + 1) + (1 : Int32))) else some (Sum.inl (nI (k + 1), u15, nI (k + 1) + (1 : Int32))))))) = _
            rw [if_neg (nI_ge ht (by omega)), ixN (show k + 1 < 6 by omega) (by omega), nI_clamp (show k + 1 < 2 ^ 31 by omega), hBi _ ht, bd_s, nI_1]
            rfl
          have h1 := hBb (k + 1) ht
          have h2 := hBb (beN B k) (by omega)
          rw [hS]
          by_cases h3 : B (k + 1) < B (beN B k)
          · have h4 : beN B (k + 1) = k + 1 := if_pos h3
            exact ⟨_, by rw [if_neg (nI_ge h3 (by omega))], by rw [h4]⟩
          · have h4 : beN B (k + 1) = beN B k := if_neg h3
            exact ⟨_, by rw [if_pos (nI_le (by omega) (by omega))], by rw [h4]⟩
        · rintro s8 rfl
          refine ⟨nI (beN B (tc - 1)), ?_, rfl⟩
          show (if nI tc ≤ nI tc then _ else _) = _
          rw [if_pos (nI_le (Nat.le_refl _) (by omega))]
      obtain ⟨e, e1, rfl⟩ := l2
      refine ⟨(nI (i + 1), upd G i (nI (beN B (tc - 1)))), ?_, _, rfl, fun g hg => ?_⟩
      · show (if nI ((m + 49) / 50) ≤ nI i then _ else gd (ix (0 : Int32) 6) (bd (Coder_bitsOf_f (nI m) (nI i) fS 258 (Lf (0 : Int32).toNatClampNeg)) (fun u7 => bd (lpF (Coder_chooseTables_L30 (nI tc) (nI m) (nI i, G) fS Lf) gas ((0 : Int32), u7, (1 : Int32))) (fun v10 => gd (ix (nI i) 46) (some (Sum.inl (nI i + (1 : Int32), upd G (nI i).toNatClampNeg v10))))))) = _
        rw [if_neg (nI_ge hi (by omega)), show ix (0 : Int32) 6 = true by decide, gd_t, c0, hBi 0 (by omega), bd_s, e1, bd_s, ixN (show i < 46 by omega) (by omega), nI_clamp (show i < 2 ^ 31 by omega), nI_1]
        rfl
      · by_cases hgi : g = i
        · rw [hgi, pk_us, hB]
        · rw [pk_un hgi]
          exact hG g (by omega)
    · rintro s1 ⟨G, rfl, hG⟩
      refine ⟨G, ?_, hG⟩
      show (if nI ((m + 49) / 50) ≤ nI ((m + 49) / 50) then _ else _) = _
      rw [if_pos (nI_le (Nat.le_refl _) (by omega))]
  obtain ⟨gt2, e1, h1⟩ := l1
  refine ⟨gt2, ?_, h1⟩
  unfold Coder_chooseTables_f
  rw [e1]
  rfl
theorem tablesFor_eq {m : Nat} (hm : m ≤ 2251) : Coder_tablesFor_f (nI m) = some (nI (tcN m)) := by
  show (if nI 200 ≤ nI m then (if nI 600 ≤ nI m then (if nI 1200 ≤ nI m then (if nI 2400 ≤ nI m then some (nI 6) else some (nI 5)) else some (nI 4)) else some (nI 3)) else some (nI 2)) = _
  unfold tcN
  by_cases h1 : m < 200
  · rw [if_neg (nI_ge h1 (by omega)), if_pos h1]
  · rw [if_pos (nI_le (by omega) (by omega)), if_neg h1]
    by_cases h2 : m < 600
    · rw [if_neg (nI_ge h2 (by omega)), if_pos h2]
    · rw [if_pos (nI_le (by omega) (by omega)), if_neg h2]
      by_cases h3 : m < 1200
      · rw [if_neg (nI_ge h3 (by omega)), if_pos h3]
      · rw [if_pos (nI_le (by omega) (by omega)), if_neg h3]
        by_cases h4 : m < 2400
        · rw [if_neg (nI_ge h4 (by omega)), if_pos h4]
        · omega
theorem lnN_b {s tb : Nat → Nat} {n m t k : Nat} (hn2 : 2 ≤ n) (hn : n ≤ 258) (hm : m ≤ 2251) (hk : k < n) : 1 ≤ lnN s n m tb t k ∧ lnN s n m tb t k ≤ 15 := by
  have := wN_sum s tb t n m
  exact hD_b hn2 (fun k _ => (wN_b s tb t m k).1) (by omega) hk
theorem lnN_kf {s tb : Nat → Nat} {n m t : Nat} (hn2 : 2 ≤ n) (hn : n ≤ 258) (hm : m ≤ 2251) : kf (lnN s n m tb t) n = 2 ^ 20 := by
  have := wN_sum s tb t n m
  exact kraft hn2 (fun k _ => (wN_b s tb t m k).1) (by omega)
theorem makeTables_eq {m c : Nat} {gt fS wt sl sd sm0 dp kinds filled : Nat → Int32} {Lf counts firsts places codes sorted : Nat → Nat → Int32} {s : Nat → Nat} (hm0 : 0 < m) (hm : m ≤ 2251) (hc : c + 2 ≤ 258) (hs : ∀ i, i < m → fS i = nI (s i) ∧ s i < c + 2) (hf0 : ∀ t, firsts t 0 = 0) (hp0 : ∀ t, places t 0 = 0) :
    ∃ gt2 wt2 sl2 sd2 sm2 dp2 Lf2 kinds2 counts2 filled2 firsts2 places2 codes2 sorted2, Coder_makeTables_f (nI m) gt (nI c) fS wt sl sd sm0 dp Lf kinds counts filled firsts places codes sorted = some (nI ((m + 49) / 50), nI (tcN m), gt2, wt2, sl2, sd2, sm2, dp2, Lf2, kinds2, counts2, filled2, firsts2, places2, codes2, sorted2) ∧ (∀ g, g < (m + 49) / 50 → gt2 g = nI (tbS s (c + 2) m 4 g)) ∧ (∀ t k, t < tcN m → k < c + 2 → Lf2 t k = nI (lnN s (c + 2) m (tbS s (c + 2) m 3) t k)) ∧ (∀ t, t < tcN m → kinds2 t = nI (c + 2)) ∧ (∀ t k, t < tcN m → k < c + 2 → codes2 t k = nI (cdN (lnN s (c + 2) m (tbS s (c + 2) m 3) t) (c + 2) k)) ∧ (∀ t, firsts2 t 0 = 0) ∧ ∀ t, places2 t 0 = 0 := by
  have htc := tc_b m
  have hc2 : nI c + (2 : Int32) = nI (c + 2) := nI_add c 2
  have hG : (nI m + (50 : Int32) - (1 : Int32)) / (50 : Int32) = nI ((m + 49) / 50) := by
    rw [show nI m + (50 : Int32) = nI (m + 50) from nI_add m 50, show nI (m + 50) - (1 : Int32) = nI (m + 50 - 1) from pk_sub (show 1 ≤ m + 50 by omega)]
    exact (pk_div (show m + 50 - 1 < 2 ^ 31 by omega) (show 0 < 50 by omega) (by omega)).trans (congrArg nI (by omega))
  have l1 : ∃ g0, lpF (Coder_makeTables_L39 (nI m) (nI (tcN m))) gas ((0 : Int32), gt) = some g0 ∧ ∀ g, g < (m + 49) / 50 → g0 g = nI (tbS s (c + 2) m 0 g) := by
    refine lp_for (fun i s1 => ∃ G, s1 = (nI i, G) ∧ ∀ g, g < i → G g = nI (tbS s (c + 2) m 0 g)) _ (i0 := 0) (N := (m + 49) / 50) (Nat.zero_le _) (by omega) ?_ ?_ ⟨_, rfl, fun k h => absurd h (Nat.not_lt_zero _)⟩
    · rintro i s1 _ hi ⟨G, rfl, hGi⟩
      have hb : i * tcN m ≤ 46 * 6 := Nat.mul_le_mul (by omega) (by omega)
      refine ⟨(nI (i + 1), upd G i (nI (tbS s (c + 2) m 0 i))), ?_, _, rfl, fun g hg => ?_⟩
      · show (if (nI m + (50 : Int32) - (1 : Int32)) / (50 : Int32) ≤ nI i then _ else gd (nz ((nI m + (50 : Int32) - (1 : Int32)) / (50 : Int32))) (gd (ix (nI i) 46) (some (Sum.inl (nI i + (1 : Int32), upd G (nI i).toNatClampNeg (nI i * nI (tcN m) / ((nI m + (50 : Int32) - (1 : Int32)) / (50 : Int32)))))))) = _
        rw [hG, if_neg (nI_ge hi (by omega)), nz_nI (by omega) (by omega), ixN (show i < 46 by omega) (by omega), nI_clamp (show i < 2 ^ 31 by omega), pk_mul, pk_div (by omega) (by omega) (by omega), nI_1]
        rfl
      · by_cases hgi : g = i
        · rw [hgi, pk_us]
        · rw [pk_un hgi]
          exact hGi g (by omega)
    · rintro s1 ⟨G, rfl, hGi⟩
      refine ⟨G, ?_, hGi⟩
      show (if (nI m + (50 : Int32) - (1 : Int32)) / (50 : Int32) ≤ nI ((m + 49) / 50) then _ else _) = _
      rw [hG, if_pos (nI_le (Nat.le_refl _) (by omega))]
  obtain ⟨g0, e1, hg0⟩ := l1
  have l2 : ∃ p : (Nat → Int32) × (Nat → Int32) × (Nat → Int32) × (Nat → Int32) × (Nat → Int32) × (Nat → Int32) × (Nat → Nat → Int32), lpF (Coder_makeTables_L72 (nI (tcN m)) (nI c) (nI m) fS) gas ((0 : Int32), g0, wt, sl, sd, sm0, dp, Lf) = some p ∧ (∀ g, g < (m + 49) / 50 → p.1 g = nI (tbS s (c + 2) m 4 g)) ∧ ∀ t k, t < tcN m → k < c + 2 → p.2.2.2.2.2.2 t k = nI (lnN s (c + 2) m (tbS s (c + 2) m 3) t k) := by
    refine lp_for (fun r s5 => ∃ G wt sl sd sm0 dp Lf, s5 = (nI r, G, wt, sl, sd, sm0, dp, Lf) ∧ (∀ g, g < (m + 49) / 50 → G g = nI (tbS s (c + 2) m r g)) ∧ (0 < r → ∀ t k, t < tcN m → k < c + 2 → Lf t k = nI (lnN s (c + 2) m (tbS s (c + 2) m (r - 1)) t k))) _ (i0 := 0) (N := 4) (by omega) (by omega) ?_ ?_ ⟨_, _, _, _, _, _, _, rfl, hg0, fun h => absurd h (Nat.lt_irrefl _)⟩
    · rintro r s5 _ hr ⟨G, wt, sl, sd, sm0, dp, Lf, rfl, hGr, _⟩
      have l3 : ∃ p : (Nat → Int32) × (Nat → Int32) × (Nat → Int32) × (Nat → Int32) × (Nat → Int32) × (Nat → Nat → Int32), lpF (Coder_makeTables_L80 (nI (tcN m)) (nI c) (nI m) (nI r, G, wt, sl, sd, sm0, dp, Lf) fS) gas ((0 : Int32), wt, sl, sd, sm0, dp, Lf) = some p ∧ ∀ t k, t < tcN m → k < c + 2 → p.2.2.2.2.2 t k = nI (lnN s (c + 2) m (tbS s (c + 2) m r) t k) := by
        refine lp_for (fun i s18 => ∃ wt sl sd sm0 dp Lf, s18 = (nI i, wt, sl, sd, sm0, dp, Lf) ∧ ∀ t k, t < i → k < c + 2 → Lf t k = nI (lnN s (c + 2) m (tbS s (c + 2) m r) t k)) _ (i0 := 0) (N := tcN m) (Nat.zero_le _) (by omega) ?_ ?_ ⟨_, _, _, _, _, _, rfl, fun t k h => absurd h (Nat.not_lt_zero _)⟩
        · rintro i s18 _ hi ⟨wt1, sl1, sd1, sm1, dp1, Lf1, rfl, hLf⟩
          obtain ⟨W, e3, hW⟩ := weigh_eq (wt := wt1) (t := i) hc hm (by omega) hs (fun g hg => ⟨hGr g hg, by have := tbS_b (s := s) (n := c + 2) hm0 r hg; omega⟩)
          have hsum := wN_sum s (tbS s (c + 2) m r) i (c + 2) m
          obtain ⟨Wc, sl2, sd2, S, D, Ls, e4, hLs⟩ := makeLengths_eq (n1 := 258) (sl := sl1) (sd := sd1) (sm0 := sm1) (dp := dp1) (f1 := Lf1 i) (show 2 ≤ c + 2 by omega) hc hc (by omega) (fun k hk => ⟨hW k hk, by have := wN_b s (tbS s (c + 2) m r) i m k; omega, (wN_b s (tbS s (c + 2) m r) i m k).1⟩) (by omega)
          refine ⟨(nI (i + 1), Wc, sl2, sd2, S, D, va_up Lf1 i Ls), ?_, _, _, _, _, _, _, rfl, fun t k ht hk => ?_⟩
          · show (if nI (tcN m) ≤ nI i then _ else bd (Coder_weigh_f (nI c + (2 : Int32)) wt1 ((nI m + (50 : Int32) - (1 : Int32)) / (50 : Int32)) G (nI i) (nI m) fS) (fun u24 => gd (ix (nI i) 6) (bd (Coder_makeLengths_f (nI c + (2 : Int32)) 258 u24 sl1 sd1 sm1 dp1 (Lf1 (nI i).toNatClampNeg)) (fun u26 => some (Sum.inl (nI i + (1 : Int32), u26.1, u26.2.1, u26.2.2.1, u26.2.2.2.1, u26.2.2.2.2.1, va_up Lf1 (nI i).toNatClampNeg u26.2.2.2.2.2)))))) = _
            rw [if_neg (nI_ge hi (by omega)), hc2, hG, e3, bd_s, ixN (show i < 6 by omega) (by omega), gd_t, nI_clamp (show i < 2 ^ 31 by omega), e4, bd_s, nI_1]
          · by_cases hti : t = i
            · rw [hti, va_up_self]
              exact hLs k hk
            · rw [va_up_ne _ _ hti]
              exact hLf t k (by omega) hk
        · rintro s18 ⟨wt1, sl1, sd1, sm1, dp1, Lf1, rfl, hLf⟩
          refine ⟨(wt1, sl1, sd1, sm1, dp1, Lf1), ?_, hLf⟩
          show (if nI (tcN m) ≤ nI (tcN m) then _ else _) = _
          rw [if_pos (nI_le (Nat.le_refl _) (by omega))]
      obtain ⟨⟨wt2, sl2, sd2, sm2, dp2, Lf2⟩, e3, hL2⟩ := l3
      have hL2 : ∀ t k, t < tcN m → k < c + 2 → Lf2 t k = nI (lnN s (c + 2) m (tbS s (c + 2) m r) t k) := hL2
      obtain ⟨gt2, e4, hg2⟩ := chooseTables_eq (gt := G) (tc := tcN m) (Lt := lnN s (c + 2) m (tbS s (c + 2) m r)) hm hc (by omega) (by omega) hs (fun t k ht hk => ⟨hL2 t k ht hk, by have := lnN_b (s := s) (tb := tbS s (c + 2) m r) (t := t) (show 2 ≤ c + 2 by omega) hc hm hk; omega⟩)
      refine ⟨(nI (r + 1), gt2, wt2, sl2, sd2, sm2, dp2, Lf2), ?_, _, _, _, _, _, _, _, rfl, hg2, fun _ => hL2⟩
      show (if nI 4 ≤ nI r then _ else bd (lpF (Coder_makeTables_L80 (nI (tcN m)) (nI c) (nI m) (nI r, G, wt, sl, sd, sm0, dp, Lf) fS) gas ((0 : Int32), wt, sl, sd, sm0, dp, Lf)) (fun v20 => bd (Coder_chooseTables_f ((nI m + (50 : Int32) - (1 : Int32)) / (50 : Int32)) (nI m) fS v20.2.2.2.2.2 (nI (tcN m)) G) (fun u21 => some (Sum.inl (nI r + (1 : Int32), u21, v20.1, v20.2.1, v20.2.2.1, v20.2.2.2.1, v20.2.2.2.2.1, v20.2.2.2.2.2))))) = _
      rw [if_neg (nI_ge hr (by omega)), e3, bd_s, hG, e4, bd_s, nI_1]
    · rintro s5 ⟨G, wt, sl, sd, sm0, dp, Lf, rfl, hGr, hLf⟩
      refine ⟨(G, wt, sl, sd, sm0, dp, Lf), ?_, hGr, hLf (by omega)⟩
      show (if nI 4 ≤ nI 4 then _ else _) = _
      rw [if_pos (nI_le (Nat.le_refl _) (by omega))]
  obtain ⟨⟨gt2, wt2, sl2, sd2, sm2, dp2, Lf2⟩, e2, hgt2, hLf2⟩ := l2
  have hgt2 : ∀ g, g < (m + 49) / 50 → gt2 g = nI (tbS s (c + 2) m 4 g) := hgt2
  have hLf2 : ∀ t k, t < tcN m → k < c + 2 → Lf2 t k = nI (lnN s (c + 2) m (tbS s (c + 2) m 3) t k) := hLf2
  have l4 : ∃ p : (Nat → Int32) × (Nat → Nat → Int32) × (Nat → Int32) × (Nat → Nat → Int32) × (Nat → Nat → Int32) × (Nat → Nat → Int32) × (Nat → Nat → Int32), lpF (Coder_makeTables_L130 (nI (tcN m)) (nI c) (gt2, wt2, sl2, sd2, sm2, dp2, Lf2)) gas ((0 : Int32), kinds, counts, filled, firsts, places, codes, sorted) = some p ∧ (∀ t, t < tcN m → p.1 t = nI (c + 2)) ∧ (∀ t k, t < tcN m → k < c + 2 → p.2.2.2.2.2.1 t k = nI (cdN (lnN s (c + 2) m (tbS s (c + 2) m 3) t) (c + 2) k)) ∧ (∀ t, p.2.2.2.1 t 0 = 0) ∧ ∀ t, p.2.2.2.2.1 t 0 = 0 := by
    refine lp_for (fun i s8 => ∃ ki co fi fs pl cd so, s8 = (nI i, ki, co, fi, fs, pl, cd, so) ∧ (∀ t, t < i → ki t = nI (c + 2)) ∧ (∀ t k, t < i → k < c + 2 → cd t k = nI (cdN (lnN s (c + 2) m (tbS s (c + 2) m 3) t) (c + 2) k)) ∧ (∀ t, fs t 0 = 0) ∧ ∀ t, pl t 0 = 0) _ (i0 := 0) (N := tcN m) (Nat.zero_le _) (by omega) ?_ ?_ ⟨_, _, _, _, _, _, _, rfl, fun t h => absurd h (Nat.not_lt_zero _), fun t k h => absurd h (Nat.not_lt_zero _), hf0, hp0⟩
    · rintro i s8 _ hi ⟨ki, co, fi, fs, pl, cd, so, rfl, hki, hcd, hfs, hpl⟩
      have hbk : ∀ k, k < c + 2 → 1 ≤ lnN s (c + 2) m (tbS s (c + 2) m 3) i k ∧ lnN s (c + 2) m (tbS s (c + 2) m 3) i k ≤ 15 := fun k hk => lnN_b (show 2 ≤ c + 2 by omega) hc hm hk
      obtain ⟨c2, f2, p2, d2, s2, e3, htab, hf2, hp2⟩ := (assign_eq (counts := co i) (codes := cd i) (sorted := so i) hc (fun k hk => ⟨hLf2 i k hi hk, (hbk k hk).1, by have := hbk k hk; omega⟩) (hfs i) (hpl i)).1 (Nat.le_of_eq (lnN_kf (by omega) hc hm))
      refine ⟨(nI (i + 1), va_up ki i (nI (c + 2)), va_up co i c2, va_up fi i (nI (kf (lnN s (c + 2) m (tbS s (c + 2) m 3) i) (c + 2))), va_up fs i f2, va_up pl i p2, va_up cd i d2, va_up so i s2), ?_, _, _, _, _, _, _, _, rfl, fun t ht => ?_, fun t k ht hk => ?_, fun t => ?_, fun t => ?_⟩
      · show (if nI (tcN m) ≤ nI i then _ else gd (ix (nI i) 6) (gd (ix (nI i) 6) (bd (CodeTable_assign_f (co (nI i).toNatClampNeg) ((va_up ki (nI i).toNatClampNeg (nI c + (2 : Int32))) (nI i).toNatClampNeg) (Lf2 (nI i).toNatClampNeg) (fs (nI i).toNatClampNeg) (pl (nI i).toNatClampNeg) (cd (nI i).toNatClampNeg) (so (nI i).toNatClampNeg)) (fun u15 => some (Sum.inl (nI i + (1 : Int32), va_up ki (nI i).toNatClampNeg (nI c + (2 : Int32)), va_up co (nI i).toNatClampNeg u15.2.1, va_up fi (nI i).toNatClampNeg u15.2.2.1, va_up fs (nI i).toNatClampNeg u15.2.2.2.1, va_up pl (nI i).toNatClampNeg u15.2.2.2.2.1, va_up cd (nI i).toNatClampNeg u15.2.2.2.2.2.1, va_up so (nI i).toNatClampNeg u15.2.2.2.2.2.2)))))) = _
        rw [if_neg (nI_ge hi (by omega)), nI_clamp (show i < 2 ^ 31 by omega), hc2, va_up_self, e3, bd_s, ixN (show i < 6 by omega) (by omega), nI_1]
        rfl
      · by_cases hti : t = i
        · rw [hti, va_up_self]
        · rw [va_up_ne _ _ hti]
          exact hki t (by omega)
      · by_cases hti : t = i
        · rw [hti, va_up_self]
          exact htab.d k hk
        · rw [va_up_ne _ _ hti]
          exact hcd t k (by omega) hk
      · by_cases hti : t = i
        · rw [hti, va_up_self]
          exact hf2
        · rw [va_up_ne _ _ hti]
          exact hfs t
      · by_cases hti : t = i
        · rw [hti, va_up_self]
          exact hp2
        · rw [va_up_ne _ _ hti]
          exact hpl t
    · rintro s8 ⟨ki, co, fi, fs, pl, cd, so, rfl, hki, hcd, hfs, hpl⟩
      refine ⟨(ki, co, fi, fs, pl, cd, so), ?_, hki, hcd, hfs, hpl⟩
      show (if nI (tcN m) ≤ nI (tcN m) then _ else _) = _
      rw [if_pos (nI_le (Nat.le_refl _) (by omega))]
  obtain ⟨⟨ki, co, fi, fs, pl, cd, so⟩, e3, hki, hcd, hfs, hpl⟩ := l4
  refine ⟨gt2, wt2, sl2, sd2, sm2, dp2, Lf2, ki, co, fi, fs, pl, cd, so, ?_, hgt2, hLf2, hki, hcd, hfs, hpl⟩
  unfold Coder_makeTables_f
  rw [tablesFor_eq hm, bd_s, e1, bd_s, e2, bd_s, e3, bd_s, hG]
