/-! CODES, the reference's: lengths from weights -/
theorem least_eq {all x : Nat} {pa we : Nat → Int32} {W P : Nat → Nat} (hall : all ≤ 516) (hp : ∀ k, k < all → pa k = nI (P k) ∧ P k < 2 ^ 30) (hw : ∀ k, k < all → we k = nI (W k)) (hwb : ∀ k, k < all → P k = 0 → W k < 2 ^ 30) (hx : isL W P all x) :
    Model_least_f (nI all) pa we = some (nI x) := by
  have l1 : ∃ e, lpF (Model_least_L4 (nI all) pa we) gas ((-1 : Int32), (0 : Int32)) = some e ∧ e = nI x := by
    refine lp_for (fun k s => (s = ((-1 : Int32), nI k) ∧ ∀ j, j < k → P j ≠ 0) ∨ ∃ b, s = (nI b, nI k) ∧ isL W P k b) _ (i0 := 0) (N := all) (Nat.zero_le _) (by omega) ?_ ?_ (Or.inl ⟨rfl, fun j h => absurd h (Nat.not_lt_zero _)⟩)
    · intro k s _ hk hI
      obtain ⟨hp1, hp2⟩ := hp k hk
      have hL : ∀ b : Int32, Model_least_L4 (nI all) pa we (b, nI k) = (if nI (P k) = 0 then (if b < 0 then some (Sum.inl (nI k, nI (k + 1))) else gd (ix b 516) (if we b.toNatClampNeg ≤ nI (W k) then some (Sum.inl (b, nI (k + 1))) else some (Sum.inl (nI k, nI (k + 1))))) else some (Sum.inl (b, nI (k + 1)))) := by
        intro b
        unfold Model_least_L4 Model_least_J37 Model_least_J39
        show (if nI all ≤ nI k then _ else gd (ix (nI k) 516) (if pa (nI k).toNatClampNeg = 0 then (if b < 0 then some (Sum.inl (nI k, nI k + (1 : Int32))) else gd (ix (nI k) 516) (gd (ix b 516) (if we b.toNatClampNeg ≤ we (nI k).toNatClampNeg then some (Sum.inl (b, nI k + (1 : Int32))) else some (Sum.inl (nI k, nI k + (1 : Int32)))))) else some (Sum.inl (b, nI k + (1 : Int32))))) = _
        rw [if_neg (nI_ge hk (by omega)), nI_clamp (show k < 2 ^ 31 by omega), hp1, hw k hk, ixN (show k < 516 by omega) (by omega), nI_1]
        rfl
      by_cases h0 : P k = 0
      · have c0 : nI (P k) = 0 := by rw [h0]; rfl
        rcases hI with ⟨rfl, hn⟩ | ⟨b, rfl, hb⟩
        · refine ⟨(nI k, nI (k + 1)), by rw [hL, if_pos c0, if_pos (by decide)], Or.inr ⟨k, rfl, by omega, h0, fun j hj hj0 => ?_⟩⟩
          rcases Nat.lt_or_ge j k with h1 | h1
          · exact absurd hj0 (hn j h1)
          · exact Or.inl (by omega)
        · have hbk := hb.1
          have hwb1 := hwb b (by omega) hb.2.1
          have hwb2 := hwb k hk h0
          by_cases hc : W b ≤ W k
          · refine ⟨(nI b, nI (k + 1)), ?_, Or.inr ⟨b, rfl, by omega, hb.2.1, fun j hj hj0 => ?_⟩⟩
            · rw [hL, if_pos c0, if_neg (nI_pos (by omega)), ixN (show b < 516 by omega) (by omega), gd_t, nI_clamp (show b < 2 ^ 31 by omega), hw b (by omega), if_pos (nI_le hc (by omega))]
            · rcases Nat.lt_or_ge j k with h1 | h1
              · exact hb.2.2 j h1 hj0
              · rw [show j = k by omega]
                omega
          · refine ⟨(nI k, nI (k + 1)), ?_, Or.inr ⟨k, rfl, by omega, h0, fun j hj hj0 => ?_⟩⟩
            · rw [hL, if_pos c0, if_neg (nI_pos (by omega)), ixN (show b < 516 by omega) (by omega), gd_t, nI_clamp (show b < 2 ^ 31 by omega), hw b (by omega), if_neg (nI_ge (by omega) (by omega))]
            · rcases Nat.lt_or_ge j k with h1 | h1
              · have := isL_le hb h1 hj0
                omega
              · exact Or.inl (by omega)
      · have c0 : ¬ nI (P k) = 0 := nI_ne0 (by omega) (by omega)
        rcases hI with ⟨rfl, hn⟩ | ⟨b, rfl, hb⟩
        · refine ⟨((-1 : Int32), nI (k + 1)), by rw [hL, if_neg c0], Or.inl ⟨rfl, fun j hj => ?_⟩⟩
          rcases Nat.lt_or_ge j k with h1 | h1
          · exact hn j h1
          · rw [show j = k by omega]
            exact h0
        · refine ⟨(nI b, nI (k + 1)), by rw [hL, if_neg c0], Or.inr ⟨b, rfl, by have := hb.1; omega, hb.2.1, fun j hj hj0 => ?_⟩⟩
          rcases Nat.lt_or_ge j k with h1 | h1
          · exact hb.2.2 j h1 hj0
          · rw [show j = k by omega] at hj0
            exact absurd hj0 h0
    · intro s hI
      rcases hI with ⟨rfl, hn⟩ | ⟨b, rfl, hb⟩
      · exact absurd hx.2.1 (hn x hx.1)
      · refine ⟨nI b, ?_, by rw [isL_u hb hx]⟩
        show (if nI all ≤ nI all then _ else _) = _
        rw [if_pos (nI_le (Nat.le_refl _) (by omega))]
  obtain ⟨e, e1, rfl⟩ := l1
  unfold Model_least_f
  rw [e1]
  rfl
theorem combine_eq {n t : Nat} {cts we pa lens : Nat → Int32} {w0 : Nat → Nat} (hn2 : 2 ≤ n) (hn : n ≤ 258) (ht6 : t < 6) (hw : ∀ k, k < n → cts k = nI (w0 k) ∧ 1 ≤ w0 k) (ht : sm w0 n < 2584) :
    ∃ We Pa Ls, Model_combine_f (nI n) cts we pa (nI t) lens = some (We, Pa, Ls) ∧ (∀ k, k < n → Ls (258 * t + k) = nI (hD n w0 k)) ∧ ∀ j, (j < 258 * t ∨ 258 * t + n ≤ j) → Ls j = lens j := by
  have e1 : lpF (Model_combine_L2 (nI n) cts) gas ((0 : Int32), we, pa) = some (cpf cts we n, flr pa 0 n 0) := by
    have key : lpF (Model_combine_L2 (nI n) cts) gas (nI 0, cpf cts we 0, flr pa 0 0 0) = some (cpf cts we n, flr pa 0 n 0) := by
      refine lp_gas (fun i => (nI i, cpf cts we i, flr pa 0 i 0)) (Nat.zero_le n) (by omega) ?_ ?_
      · intro i _ hi
        show (if nI n ≤ nI i then _ else gd (ix (nI i) 258) (gd (ix (nI i) 516) (gd (ix (nI i) 516) (some (Sum.inl (nI i + (1 : Int32), upd (cpf cts we i) (nI i).toNatClampNeg (cts (nI i).toNatClampNeg), upd (flr pa 0 i 0) (nI i).toNatClampNeg (0 : Int32))))))) = _
        rw [if_neg (nI_ge hi (by omega)), ixN (show i < 258 by omega) (by omega), ixN (show i < 516 by omega) (by omega), nI_1, nI_clamp (show i < 2 ^ 31 by omega), cpf_s, flr_s pa 0 (Nat.zero_le i)]
        rfl
      · show (if nI n ≤ nI n then _ else _) = _
        rw [if_pos (nI_le (Nat.le_refl n) (by omega))]
    rw [cpf_0, flr_0] at key
    exact key
  have l2 : ∃ p : (Nat → Int32) × (Nat → Int32), lpF (Model_combine_L37 (nI n)) gas (nI n, (1 : Int32), cpf cts we n, flr pa 0 n 0) = some p ∧ ∀ k, k < n + (n - 1) → p.2 k = nI ((hst n w0 (n - 1)).2 k) := by
    refine lp_for (fun r s => ∃ We Pa, s = (nI (n + r), nI (r + 1), We, Pa) ∧ (∀ k, k < n + r → We k = nI ((hst n w0 r).1 k)) ∧ ∀ k, k < n + r → Pa k = nI ((hst n w0 r).2 k)) _ (i0 := 0) (N := n - 1) (Nat.zero_le _) (by omega) ?_ ?_ ⟨_, _, rfl, fun k hk => ?_, fun k hk => ?_⟩
    · rintro r s _ hr ⟨We, Pa, rfl, hW, hP⟩
      have h := hst_I (n := n) w0 r (by omega)
      have hWb : ∀ k, k < n + r → (hst n w0 r).2 k = 0 → (hst n w0 r).1 k < 2 ^ 30 := by
        intro k hk hp
        have h1 := sm_le (f := fun k => if (hst n w0 r).2 k = 0 then (hst n w0 r).1 k else 0) hk
        rw [h.T] at h1
        have h2 : (if (hst n w0 r).2 k = 0 then (hst n w0 r).1 k else 0) = (hst n w0 r).1 k := if_pos hp
        have h3 : (if (hst n w0 r).2 k = 0 then (hst n w0 r).1 k else 0) ≤ sm w0 n := h1
        omega
      obtain ⟨a, b, ha, hb⟩ := hI_two h (by omega)
      have hst1 : hst n w0 (r + 1) = hnx (hst n w0 r).1 (hst n w0 r).2 (n + r) := rfl
      rw [hnx_eq ha hb] at hst1
      have hC := h.C
      generalize (hst n w0 r).1 = W at *
      generalize (hst n w0 r).2 = P at *
      obtain ⟨m, hm⟩ : ∃ m, m = n + r := ⟨_, rfl⟩
      rw [← hm] at hW hP hWb hst1 ha hb hC ⊢
      have ham := ha.1
      have hbm := hb.1
      have hl1 : Model_least_f (nI m) Pa We = some (nI a) := least_eq (by omega) (fun k hk => ⟨hP k hk, by have := hC k hk; omega⟩) hW hWb ha
      have hP1 : ∀ k, k < m → upd Pa a (nI m) k = nI (updN P a m k) := by
        intro k hk
        by_cases hka : k = a
        · rw [hka, pk_us, updN_s]
        · rw [pk_un hka, updN_n P hka, hP k hk]
      have hl2 : Model_least_f (nI m) (upd Pa a (nI m)) We = some (nI b) := least_eq (by omega) (fun k hk => ⟨hP1 k hk, by
          by_cases hka : k = a
          · rw [hka, updN_s]; omega
          · rw [updN_n P hka]
            have := hC k hk
            omega⟩) hW (fun k hk hp => by
          by_cases hka : k = a
          · rw [hka, updN_s] at hp; omega
          · rw [updN_n P hka] at hp
            exact hWb k hk hp) hb
      refine ⟨(nI (n + (r + 1)), nI (r + 1 + 1), upd We m (nI (W a + W b)), upd (upd (upd Pa a (nI m)) b (nI m)) m (nI 0)), ?_, _, _, rfl, fun k hk => ?_, fun k hk => ?_⟩
      · show (if nI n ≤ nI (r + 1) then _ else bd (Model_least_f (nI m) Pa We) (fun u22 => gd (ix u22 516) (bd (Model_least_f (nI m) (upd Pa u22.toNatClampNeg (nI m)) We) (fun u24 => gd (ix u24 516) (gd (ix u22 516) (gd (ix u24 516) (gd (ix (nI m) 516) (gd (ix (nI m) 516) (some (Sum.inl (nI m + (1 : Int32), nI (r + 1) + (1 : Int32), upd We (nI m).toNatClampNeg (We u22.toNatClampNeg + We u24.toNatClampNeg), upd (upd (upd Pa u22.toNatClampNeg (nI m)) u24.toNatClampNeg (nI m)) (nI m).toNatClampNeg (nI 0)))))))))))) = _
        rw [if_neg (nI_ge (by omega) (by omega)), hl1, bd_s, nI_clamp (show a < 2 ^ 31 by omega), hl2, bd_s, nI_clamp (show b < 2 ^ 31 by omega), nI_clamp (show m < 2 ^ 31 by omega), ixN (show a < 516 by omega) (by omega), ixN (show b < 516 by omega) (by omega), ixN (show m < 516 by omega) (by omega), hW a ham, hW b hbm, nI_add, nI_1, nI_1, show n + (r + 1) = m + 1 by omega]
        rfl
      · rw [hst1]
        show upd We m (nI (W a + W b)) k = nI (updN W m (W a + W b) k)
        by_cases hk2 : k = m
        · rw [hk2, pk_us, updN_s]
        · rw [pk_un hk2, updN_n W hk2]
          exact hW k (by omega)
      · rw [hst1]
        show upd (upd (upd Pa a (nI m)) b (nI m)) m (nI 0) k = nI (updN (updN (updN P a m) b m) m 0 k)
        by_cases hk2 : k = m
        · rw [hk2, pk_us, updN_s]
        · rw [pk_un hk2, updN_n _ hk2]
          by_cases hkb : k = b
          · rw [hkb, pk_us, updN_s]
          · rw [pk_un hkb, updN_n _ hkb]
            exact hP1 k (by omega)
    · rintro s ⟨We, Pa, rfl, hW, hP⟩
      refine ⟨(We, Pa), ?_, hP⟩
      show (if nI n ≤ nI (n - 1 + 1) then _ else _) = _
      rw [if_pos (nI_le (by omega) (by omega))]
    · show (if k < n then cts k else we k) = _
      rw [if_pos (by omega)]
      exact (hw k (by omega)).1
    · show (if 0 ≤ k ∧ k < n then (0 : Int32) else pa k) = _
      rw [if_pos (by omega)]
      rfl
  obtain ⟨⟨We, Pa⟩, e2, hP⟩ := l2
  have hP : ∀ k, k < n + (n - 1) → Pa k = nI ((hst n w0 (n - 1)).2 k) := hP
  have hf := hst_F (w0 := w0) hn2
  have hb := hD_all hn2 (fun k hk => (hw k hk).2) ht
  generalize (hst n w0 (n - 1)).1 = W at *
  generalize (hst n w0 (n - 1)).2 = P at *
  generalize hD n w0 = D at *
  have hd : ∀ k, k < n → lpF (Model_combine_L126 (We, Pa)) gas ((0 : Int32), nI k) = some (nI (D k)) := by
    intro k hk
    have l3 : ∃ e, lpF (Model_combine_L126 (We, Pa)) gas ((0 : Int32), nI k) = some e ∧ e = nI (D k) := by
      refine lp_totg (fun s => ∃ d i, s = (nI d, nI i) ∧ i + 1 < 2 * n ∧ d + D i = D k) (fun s => 1000 - s.2.toNatClampNeg) _ ?_ ⟨0, k, rfl, by omega, by omega⟩ (by show 1000 - _ < 1000000; omega)
      rintro s ⟨d, i, rfl, hi, hdi⟩
      have hL : Model_combine_L126 (We, Pa) (nI d, nI i) = (if nI (P i) ≤ 0 then some (Sum.inr (nI d)) else some (Sum.inl (nI (d + 1), nI (P i)))) := by
        show gd (ix (nI i) 516) (if Pa (nI i).toNatClampNeg ≤ 0 then some (Sum.inr (nI d)) else gd (ix (nI i) 516) (some (Sum.inl (nI d + (1 : Int32), Pa (nI i).toNatClampNeg)))) = _
        rw [nI_clamp (show i < 2 ^ 31 by omega), hP i (by omega), ixN (show i < 516 by omega) (by omega), nI_1]
        rfl
      rw [hL]
      rcases Nat.lt_or_ge (i + 2) (2 * n) with h1 | h1
      · obtain ⟨u1, u2, u3, u4⟩ := hf.up i h1
        refine Or.inl ⟨(nI (d + 1), nI (P i)), by rw [if_neg (nI_nle (by omega) (by omega))], ⟨d + 1, P i, rfl, u3, by omega⟩, ?_⟩
        show 1000 - (nI (P i)).toNatClampNeg < 1000 - (nI i).toNatClampNeg
        rw [nI_clamp (by omega), nI_clamp (by omega)]
        omega
      · have h2 : i = 2 * n - 2 := by omega
        rw [h2, hf.root.2] at hdi
        refine Or.inr ⟨nI d, by rw [h2, hf.root.1, if_pos (by decide)], by rw [← hdi, Nat.add_zero]⟩
    obtain ⟨e, e3, rfl⟩ := l3
    exact e3
  have l4 : ∃ Ls, lpF (Model_combine_L113 (nI n) (We, Pa) (nI t)) gas ((0 : Int32), lens) = some Ls ∧ (∀ k, k < n → Ls (258 * t + k) = nI (D k)) ∧ ∀ j, (j < 258 * t ∨ 258 * t + n ≤ j) → Ls j = lens j := by
    refine lp_for (fun i s => ∃ Ls, s = (nI i, Ls) ∧ (∀ k, k < i → Ls (258 * t + k) = nI (D k)) ∧ ∀ j, (j < 258 * t ∨ 258 * t + n ≤ j) → Ls j = lens j) _ (i0 := 0) (N := n) (Nat.zero_le _) (by omega) ?_ ?_ ⟨_, rfl, fun k h => absurd h (Nat.not_lt_zero _), fun _ _ => rfl⟩
    · rintro i s _ hi ⟨Ls, rfl, hL, hfr⟩
      refine ⟨(nI (i + 1), upd Ls (258 * t + i) (nI (D i))), ?_, _, rfl, fun k hk => ?_, fun j hj => ?_⟩
      · show (if nI n ≤ nI i then _ else bd (lpF (Model_combine_L126 (We, Pa)) gas ((0 : Int32), nI i)) (fun v14 => gd (ix (nI 258 * nI t + nI i) 1548) (some (Sum.inl (nI i + (1 : Int32), upd Ls (nI 258 * nI t + nI i).toNatClampNeg v14))))) = _
        rw [if_neg (nI_ge hi (by omega)), hd i hi, bd_s, pk_mul, nI_add, ixN (show 258 * t + i < 1548 by omega) (by omega), nI_clamp (show 258 * t + i < 2 ^ 31 by omega), nI_1]
        rfl
      · by_cases hk2 : k = i
        · rw [hk2, pk_us]
        · rw [pk_un (by omega)]
          exact hL k (by omega)
      · rw [pk_un (by omega)]
        exact hfr j hj
    · rintro s ⟨Ls, rfl, hL, hfr⟩
      refine ⟨Ls, ?_, hL, hfr⟩
      show (if nI n ≤ nI n then _ else _) = _
      rw [if_pos (nI_le (Nat.le_refl n) (by omega))]
  obtain ⟨Ls, e4, hL, hfr⟩ := l4
  refine ⟨We, Pa, Ls, ?_, hL, hfr⟩
  unfold Model_combine_f
  rw [e1, bd_s]
  show bd (lpF (Model_combine_L37 (nI n)) gas (nI n, (1 : Int32), cpf cts we n, flr pa 0 n 0)) _ = _
  rw [e2, bd_s, e4]
  rfl
