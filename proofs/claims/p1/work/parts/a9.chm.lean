/-! CODES, the reference's: the tables are made -/
theorem choose_J {m c tc : Nat} {tbl fS cts we pa lens cds : Nat → Int32} {s : Nat → Nat} (htc : tc = tcN m) (hm0 : 0 < m) (hm : m ≤ 2251) (hc : c + 2 ≤ 258) (hs : ∀ i, i < m → fS i = nI (s i) ∧ s i < c + 2) :
    ∃ tbl2 cts2 we2 pa2 lens2 cds2, Model_choose_J73 tbl (nI c) (nI m) fS cts we pa lens cds (nI tc) (nI ((m + 49) / 50)) = some (nI ((m + 49) / 50), nI tc, tbl2, cts2, we2, pa2, lens2, cds2) ∧ (∀ g, g < (m + 49) / 50 → tbl2 g = nI (tbS s (c + 2) m 4 g)) ∧ (∀ t k, t < tc → k < c + 2 → lens2 (258 * t + k) = nI (lnN s (c + 2) m (tbS s (c + 2) m 3) t k)) ∧ ∀ t k, t < tc → k < c + 2 → cds2 (258 * t + k) = nI (cdN (lnN s (c + 2) m (tbS s (c + 2) m 3) t) (c + 2) k) := by
  have htb := tc_b m
  rw [← htc] at htb
  have l1 : ∃ g0, lpF (Model_choose_L78 (nI ((m + 49) / 50)) (nI tc)) gas ((0 : Int32), tbl) = some g0 ∧ ∀ g, g < (m + 49) / 50 → g0 g = nI (tbS s (c + 2) m 0 g) := by
    refine lp_for (fun i s1 => ∃ G, s1 = (nI i, G) ∧ ∀ g, g < i → G g = nI (tbS s (c + 2) m 0 g)) _ (i0 := 0) (N := (m + 49) / 50) (Nat.zero_le _) (by omega) ?_ ?_ ⟨_, rfl, fun k h => absurd h (Nat.not_lt_zero _)⟩
    · rintro i s1 _ hi ⟨G, rfl, hGi⟩
      have hb : i * tc ≤ 46 * 6 := Nat.mul_le_mul (by omega) (by omega)
      refine ⟨(nI (i + 1), upd G i (nI (tbS s (c + 2) m 0 i))), ?_, _, rfl, fun g hg => ?_⟩
      · show (if nI ((m + 49) / 50) ≤ nI i then _ else gd (nz (nI ((m + 49) / 50))) (gd (ix (nI i) 64) (some (Sum.inl (nI i + (1 : Int32), upd G (nI i).toNatClampNeg (nI i * nI tc / nI ((m + 49) / 50))))))) = _
        rw [if_neg (nI_ge hi (by omega)), nz_nI (by omega) (by omega), ixN (show i < 64 by omega) (by omega), nI_clamp (show i < 2 ^ 31 by omega), pk_mul, pk_div (by omega) (by omega) (by omega), nI_1, htc]
        rfl
      · by_cases hgi : g = i
        · rw [hgi, pk_us]
        · rw [pk_un hgi]
          exact hGi g (by omega)
    · rintro s1 ⟨G, rfl, hGi⟩
      refine ⟨G, ?_, hGi⟩
      show (if nI ((m + 49) / 50) ≤ nI ((m + 49) / 50) then _ else _) = _
      rw [if_pos (nI_le (Nat.le_refl _) (by omega))]
  obtain ⟨g0, e1, hg0⟩ := l1
  have l2 : ∃ p : (Nat → Int32) × (Nat → Int32) × (Nat → Int32) × (Nat → Int32) × (Nat → Int32) × (Nat → Int32), lpF (Model_choose_L111 (nI tc) (nI c) (nI m) fS (nI ((m + 49) / 50))) gas ((0 : Int32), g0, cts, we, pa, lens, cds) = some p ∧ (∀ g, g < (m + 49) / 50 → p.1 g = nI (tbS s (c + 2) m 4 g)) ∧ ∀ t k, t < tc → k < c + 2 → p.2.2.2.2.1 (258 * t + k) = nI (lnN s (c + 2) m (tbS s (c + 2) m 3) t k) ∧ p.2.2.2.2.2 (258 * t + k) = nI (cdN (lnN s (c + 2) m (tbS s (c + 2) m 3) t) (c + 2) k) := by
    refine lp_for (fun r s4 => ∃ G cts we pa lens cds, s4 = (nI r, G, cts, we, pa, lens, cds) ∧ (∀ g, g < (m + 49) / 50 → G g = nI (tbS s (c + 2) m r g)) ∧ (0 < r → ∀ t k, t < tc → k < c + 2 → lens (258 * t + k) = nI (lnN s (c + 2) m (tbS s (c + 2) m (r - 1)) t k) ∧ cds (258 * t + k) = nI (cdN (lnN s (c + 2) m (tbS s (c + 2) m (r - 1)) t) (c + 2) k))) _ (i0 := 0) (N := 4) (by omega) (by omega) ?_ ?_ ⟨_, _, _, _, _, _, rfl, hg0, fun h => absurd h (Nat.lt_irrefl _)⟩
    · rintro r s4 _ hr ⟨G, cts, we, pa, lens, cds, rfl, hGr, _⟩
      have l3 : ∃ p : (Nat → Int32) × (Nat → Int32) × (Nat → Int32) × (Nat → Int32) × (Nat → Int32), lpF (Model_choose_L118 (nI tc) (nI c) (nI m) fS (nI r, G, cts, we, pa, lens, cds)) gas ((0 : Int32), cts, we, pa, lens, cds) = some p ∧ ∀ t k, t < tc → k < c + 2 → p.2.2.2.1 (258 * t + k) = nI (lnN s (c + 2) m (tbS s (c + 2) m r) t k) ∧ p.2.2.2.2 (258 * t + k) = nI (cdN (lnN s (c + 2) m (tbS s (c + 2) m r) t) (c + 2) k) := by
        refine lp_for (fun i s9 => ∃ cts we pa lens cds, s9 = (nI i, cts, we, pa, lens, cds) ∧ ∀ t k, t < i → k < c + 2 → lens (258 * t + k) = nI (lnN s (c + 2) m (tbS s (c + 2) m r) t k) ∧ cds (258 * t + k) = nI (cdN (lnN s (c + 2) m (tbS s (c + 2) m r) t) (c + 2) k)) _ (i0 := 0) (N := tc) (Nat.zero_le _) (by omega) ?_ ?_ ⟨_, _, _, _, _, rfl, fun t k h => absurd h (Nat.not_lt_zero _)⟩
        · rintro i s9 _ hi ⟨cts1, we1, pa1, lens1, cds1, rfl, hLf⟩
          obtain ⟨C, We, Pa, Ls, Cd, e3, hLs, hCd, hfr⟩ := measure_eq (cts := cts1) (we := we1) (pa := pa1) (lens := lens1) (cds := cds1) (t := i) hc hm (by omega) hs (fun g hg => ⟨hGr g hg, by have := tbS_b (s := s) (n := c + 2) hm0 r hg; omega⟩)
          refine ⟨(nI (i + 1), C, We, Pa, Ls, Cd), ?_, _, _, _, _, _, rfl, fun t k ht hk => ?_⟩
          · show (if nI tc ≤ nI i then _ else bd (Model_measure_f (nI c) cts1 (nI m) fS G (nI i) we1 pa1 lens1 cds1) (fun u28 => some (Sum.inl (nI i + (1 : Int32), u28.1, u28.2.1, u28.2.2.1, u28.2.2.2.1, u28.2.2.2.2)))) = _
            rw [if_neg (nI_ge hi (by omega)), e3, bd_s, nI_1]
          · by_cases hti : t = i
            · rw [hti]
              exact ⟨hLs k hk, hCd k hk⟩
            · obtain ⟨h1, h2⟩ := hfr (258 * t + k) (Or.inl (by omega))
              rw [h1, h2]
              exact hLf t k (by omega) hk
        · rintro s9 ⟨cts1, we1, pa1, lens1, cds1, rfl, hLf⟩
          refine ⟨(cts1, we1, pa1, lens1, cds1), ?_, hLf⟩
          show (if nI tc ≤ nI tc then _ else _) = _
          rw [if_pos (nI_le (Nat.le_refl _) (by omega))]
      obtain ⟨⟨cts2, we2, pa2, lens2, cds2⟩, e3, hL2⟩ := l3
      have hL2 : ∀ t k, t < tc → k < c + 2 → lens2 (258 * t + k) = nI (lnN s (c + 2) m (tbS s (c + 2) m r) t k) ∧ cds2 (258 * t + k) = nI (cdN (lnN s (c + 2) m (tbS s (c + 2) m r) t) (c + 2) k) := hL2
      have l4 : ∃ gt2, lpF (Model_choose_L139 (nI ((m + 49) / 50)) (nI tc) (nI m) fS (cts2, we2, pa2, lens2, cds2)) gas ((0 : Int32), G) = some gt2 ∧ ∀ g, g < (m + 49) / 50 → gt2 g = nI (tbS s (c + 2) m (r + 1) g) := by
        refine lp_for (fun i s1 => ∃ G, s1 = (nI i, G) ∧ ∀ g, g < i → G g = nI (tbS s (c + 2) m (r + 1) g)) _ (i0 := 0) (N := (m + 49) / 50) (Nat.zero_le _) (by omega) ?_ ?_ ⟨_, rfl, fun k h => absurd h (Nat.not_lt_zero _)⟩
        · rintro i s1 _ hi ⟨G, rfl, hG⟩
          obtain ⟨B, hB⟩ : ∃ B, B = fun t => biN s m i (lnN s (c + 2) m (tbS s (c + 2) m r) t) := ⟨_, rfl⟩
          have hBb : ∀ t, t < tc → B t ≤ 1000 := fun t ht => by
            rw [hB]
            exact bi_b (fun i hi => (hs i hi).2) (fun k hk => by have := lnN_b (s := s) (tb := tbS s (c + 2) m r) (t := t) (show 2 ≤ c + 2 by omega) hc hm hk; omega)
          have hBi : ∀ t, t < tc → Model_bitsOf_f (nI m) (nI i) (nI t) fS lens2 = some (nI (B t)) := fun t ht => by
            rw [bitsOf_m hm (by omega) (fun j hj => ⟨(hs j hj).1, by have := (hs j hj).2; omega⟩) (by omega), hB]
            rw [bsm_N (L := lnN s (c + 2) m (tbS s (c + 2) m r) t) _ (fun j hj => (hL2 t _ ht (hs _ (by omega)).2).1)]
            rfl
          have l5 : ∃ e, lpF (Model_choose_L152 (nI tc) (nI m) (nI i, G) fS (cts2, we2, pa2, lens2, cds2)) gas ((0 : Int32), (1 : Int32)) = some e ∧ e = nI (beN B (tc - 1)) := by
            refine lp_for (fun t s8 => s8 = (nI (beN B (t - 1)), nI t)) _ (i0 := 1) (N := tc) (by omega) (by omega) ?_ ?_ rfl
            · rintro t s8 ht0 ht rfl
              obtain ⟨k, rfl⟩ : ∃ k, t = k + 1 := ⟨t - 1, by omega⟩
              rw [show k + 1 - 1 = k by omega, show k + 1 + 1 - 1 = k + 1 by omega]
              have hbk := be_le B k
              have hS : Model_choose_L152 (nI tc) (nI m) (nI i, G) fS (cts2, we2, pa2, lens2, cds2) (nI (beN B k), nI (k + 1)) = (if nI (B (beN B k)) ≤ nI (B (k + 1)) then some (Sum.inl (nI (beN B k), nI (k + 1 + 1))) else some (Sum.inl (nI (k + 1), nI (k + 1 + 1)))) := by
                show (if nI tc ≤ nI (k + 1) then _ else bd (Model_bitsOf_f (nI m) (nI i) (nI (k + 1)) fS lens2) (fun u23 => bd (Model_bitsOf_f (nI m) (nI i) (nI (beN B k)) fS lens2) (fun u24 => (if u24 ≤ u23 then some (Sum.inl (nI (beN B k), nI (k + 1) + (1 : Int32))) else some (Sum.inl (nI (k + 1), nI (k + 1) + (1 : Int32))))))) = _
                rw [if_neg (nI_ge ht (by omega)), hBi _ ht, bd_s, hBi _ (by omega), bd_s, nI_1]
              have h1 := hBb (k + 1) ht
              have h2 := hBb (beN B k) (by omega)
              rw [hS]
              by_cases h3 : B (k + 1) < B (beN B k)
              · have h4 : beN B (k + 1) = k + 1 := if_pos h3
                exact ⟨_, by rw [if_neg (nI_ge h3 (by omega))], by rw [h4]⟩
              · have h4 : beN B (k + 1) = beN B k := if_neg h3
                exact ⟨_, by rw [if_pos (nI_le (by omega) (by omega))], by rw [h4]⟩
            · rintro s8 rfl
              refine ⟨nI (beN B (tc - 1)), ?_, rfl⟩
              show (if nI tc ≤ nI tc then _ else _) = _
              rw [if_pos (nI_le (Nat.le_refl _) (by omega))]
          obtain ⟨e, e4, rfl⟩ := l5
          refine ⟨(nI (i + 1), upd G i (nI (beN B (tc - 1)))), ?_, _, rfl, fun g hg => ?_⟩
          · show (if nI ((m + 49) / 50) ≤ nI i then _ else bd (lpF (Model_choose_L152 (nI tc) (nI m) (nI i, G) fS (cts2, we2, pa2, lens2, cds2)) gas ((0 : Int32), (1 : Int32))) (fun v19 => gd (ix (nI i) 64) (some (Sum.inl (nI i + (1 : Int32), upd G (nI i).toNatClampNeg v19))))) = _
            rw [if_neg (nI_ge hi (by omega)), e4, bd_s, ixN (show i < 64 by omega) (by omega), nI_clamp (show i < 2 ^ 31 by omega), nI_1]
            rfl
          · by_cases hgi : g = i
            · rw [hgi, pk_us, hB, htc]
              rfl
            · rw [pk_un hgi]
              exact hG g (by omega)
        · rintro s1 ⟨G, rfl, hG⟩
          refine ⟨G, ?_, hG⟩
          show (if nI ((m + 49) / 50) ≤ nI ((m + 49) / 50) then _ else _) = _
          rw [if_pos (nI_le (Nat.le_refl _) (by omega))]
      obtain ⟨gt2, e4, hg2⟩ := l4
      refine ⟨(nI (r + 1), gt2, cts2, we2, pa2, lens2, cds2), ?_, _, _, _, _, _, _, rfl, hg2, fun _ => hL2⟩
      show (if nI 4 ≤ nI r then _ else bd (lpF (Model_choose_L118 (nI tc) (nI c) (nI m) fS (nI r, G, cts, we, pa, lens, cds)) gas ((0 : Int32), cts, we, pa, lens, cds)) (fun v11 => bd (lpF (Model_choose_L139 (nI ((m + 49) / 50)) (nI tc) (nI m) fS v11) gas ((0 : Int32), G)) (fun v14 => some (Sum.inl (nI r + (1 : Int32), v14, v11.1, v11.2.1, v11.2.2.1, v11.2.2.2.1, v11.2.2.2.2))))) = _
      rw [if_neg (nI_ge hr (by omega)), e3, bd_s, e4, bd_s, nI_1]
    · rintro s4 ⟨G, cts, we, pa, lens, cds, rfl, hGr, hLf⟩
      refine ⟨(G, cts, we, pa, lens, cds), ?_, hGr, hLf (by omega)⟩
      show (if nI 4 ≤ nI 4 then _ else _) = _
      rw [if_pos (nI_le (Nat.le_refl _) (by omega))]
  obtain ⟨⟨gt2, cts2, we2, pa2, lens2, cds2⟩, e2, hgt2, hL2⟩ := l2
  refine ⟨gt2, cts2, we2, pa2, lens2, cds2, ?_, hgt2, fun t k ht hk => (hL2 t k ht hk).1, fun t k ht hk => (hL2 t k ht hk).2⟩
  unfold Model_choose_J73
  rw [e1, bd_s, e2]
  rfl
theorem choose_eq {m c : Nat} {tbl fS cts we pa lens cds : Nat → Int32} {s : Nat → Nat} (hm0 : 0 < m) (hm : m ≤ 2251) (hc : c + 2 ≤ 258) (hs : ∀ i, i < m → fS i = nI (s i) ∧ s i < c + 2) :
    ∃ tbl2 cts2 we2 pa2 lens2 cds2, Model_choose_f (nI m) tbl (nI c) fS cts we pa lens cds = some (nI ((m + 49) / 50), nI (tcN m), tbl2, cts2, we2, pa2, lens2, cds2) ∧ (∀ g, g < (m + 49) / 50 → tbl2 g = nI (tbS s (c + 2) m 4 g)) ∧ (∀ t k, t < tcN m → k < c + 2 → lens2 (258 * t + k) = nI (lnN s (c + 2) m (tbS s (c + 2) m 3) t k)) ∧ ∀ t k, t < tcN m → k < c + 2 → cds2 (258 * t + k) = nI (cdN (lnN s (c + 2) m (tbS s (c + 2) m 3) t) (c + 2) k) := by
  have hG : (nI m + (49 : Int32)) / (50 : Int32) = nI ((m + 49) / 50) := by
    rw [show nI m + (49 : Int32) = nI (m + 49) from nI_add m 49]
    exact pk_div (a := m + 49) (d := 50) (by omega) (by omega) (by omega)
  have key : Model_choose_f (nI m) tbl (nI c) fS cts we pa lens cds = Model_choose_J73 tbl (nI c) (nI m) fS cts we pa lens cds (nI (tcN m)) (nI ((m + 49) / 50)) := by
    unfold Model_choose_f
    rw [hG]
    show (if nI 200 ≤ nI m then (if nI 600 ≤ nI m then (if nI 1200 ≤ nI m then (if nI 2400 ≤ nI m then Model_choose_J73 tbl (nI c) (nI m) fS cts we pa lens cds (nI 6) (nI ((m + 49) / 50)) else Model_choose_J73 tbl (nI c) (nI m) fS cts we pa lens cds (nI 5) (nI ((m + 49) / 50))) else Model_choose_J73 tbl (nI c) (nI m) fS cts we pa lens cds (nI 4) (nI ((m + 49) / 50))) else Model_choose_J73 tbl (nI c) (nI m) fS cts we pa lens cds (nI 3) (nI ((m + 49) / 50))) else Model_choose_J73 tbl (nI c) (nI m) fS cts we pa lens cds (nI 2) (nI ((m + 49) / 50))) = _
    unfold tcN
    by_cases h1 : m < 200
    · rw [if_neg (nI_ge h1 (by omega)), if_pos h1]
    · rw [if_pos (nI_le (by omega) (by omega)), if_neg h1]
      by_cases h2 : m < 600
      · rw [if_neg (nI_ge h2 (by omega)), if_pos h2]
      · rw [if_pos (nI_le (by omega) (by omega)), if_neg h2]
        by_cases h3 : m < 1200
        · rw [if_neg (nI_ge h3 (by omega)), if_pos h3]
        · rw [if_pos (nI_le (by omega) (by omega)), if_neg h3]
          by_cases h4 : m < 2400
          · rw [if_neg (nI_ge h4 (by omega)), if_pos h4]
          · omega
  rw [key]
  exact choose_J rfl hm0 hm hc hs
