/-! CODES, the class's: lengths from weights, weights from symbols -/
theorem lp_one {S E : Type} {b : S → Option (S ⊕ E)} {s0 s1 : S} {e : E} (h0 : b s0 = some (Sum.inl s1)) (h1 : b s1 = some (Sum.inr e)) : lpF b gas s0 = some e := by
  obtain ⟨g, hg⟩ : ∃ g, gas = g + 2 := ⟨gas - 2, by have := gas_le; omega⟩
  rw [hg, lpF_s, h0]
  show lpF b (g + 1) s1 = _
  rw [lpF_s, h1]
  rfl
theorem tellLengths_eq {n n1 : Nat} {S dp f1 : Nat → Int32} {w0 : Nat → Nat} (hn2 : 2 ≤ n) (hn : n ≤ 258) (hn1 : n ≤ n1) (hn3 : n1 < 2 ^ 31) (hw : ∀ k, k < n → 1 ≤ w0 k) (ht : sm w0 n < 2584) (hS : ∀ k, k + 2 < 2 * n → S k = nI ((hst n w0 (n - 1)).2 k)) :
    ∃ mo D Ls, Coder_tellLengths_f (nI n) S n1 dp f1 = some (nI mo, D, Ls) ∧ mo ≤ 15 ∧ ∀ k, k < n → Ls k = nI (hD n w0 k) := by
  have hf := hst_F (w0 := w0) hn2
  have hb := hD_all hn2 hw ht
  generalize (hst n w0 (n - 1)).1 = W at *
  generalize (hst n w0 (n - 1)).2 = P at *
  generalize hD n w0 = L at *
  have l1 : ∃ p : Int32 × (Nat → Int32) × (Nat → Int32), lpF (Coder_tellLengths_L20 S (nI n) n1) gas ((0 : Int32), nI (2 * n - 2 - 0) + (-1 : Int32), upd dp (2 * n - 2) (0 : Int32), f1) = some p ∧ ∃ mo, p.1 = nI mo ∧ mo ≤ 15 ∧ ∀ k, k < n → p.2.2 k = nI (L k) := by
    refine lp_for (fun i s => ∃ mo D Ls, s = (nI mo, nI (2 * n - 2 - i) + (-1 : Int32), D, Ls) ∧ mo ≤ 15 ∧ (∀ k, 2 * n - 2 - i ≤ k → k ≤ 2 * n - 2 → D k = nI (L k)) ∧ ∀ k, 2 * n - 2 - i ≤ k → k < n → Ls k = nI (L k)) _ (i0 := 0) (N := 2 * n - 2) (Nat.zero_le _) (by omega) ?_ ?_ ⟨0, _, _, rfl, by omega, fun k h1 h2 => ?_, fun k h1 h2 => by omega⟩
    · rintro i s _ hi ⟨mo, D, Ls, rfl, hmo, hD, hL⟩
      obtain ⟨k, hk⟩ : ∃ k, 2 * n - 2 - i = k + 1 := ⟨2 * n - 3 - i, by omega⟩
      rw [hk, pk_m1]
      rw [hk] at hD hL
      obtain ⟨u1, u2, u3, u4⟩ := hf.up k (by omega)
      have hLk := hb k (by omega)
      have hDk : D (P k) + (1 : Int32) = nI (L k) := by rw [hD (P k) (by omega) (by omega), nI_1, u4]
      have hD2 : ∀ j, 2 * n - 2 - (i + 1) ≤ j → j ≤ 2 * n - 2 → upd D k (nI (L k)) j = nI (L j) := by
        intro j h1 h2
        by_cases hjk : j = k
        · rw [hjk, pk_us]
        · rw [pk_un hjk]
          exact hD j (by omega) h2
      by_cases hkn : n ≤ k
      · refine ⟨(nI mo, nI k + (-1 : Int32), upd D k (nI (L k)), Ls), ?_, mo, upd D k (nI (L k)), Ls, ?_, hmo, hD2, fun j h1 h2 => hL j (by omega) h2⟩
        · show (if nI k < 0 then _ else gd (ix (nI k) 516) (gd (ix (S (nI k).toNatClampNeg) 516) (gd (ix (nI k) 516) (if nI n ≤ nI k then some (Sum.inl (nI mo, nI k + (-1 : Int32), upd D (nI k).toNatClampNeg (D (S (nI k).toNatClampNeg).toNatClampNeg + (1 : Int32)), Ls)) else _)))) = _
          rw [if_neg (nI_pos (by omega)), nI_clamp (show k < 2 ^ 31 by omega), hS k (by omega), nI_clamp (show P k < 2 ^ 31 by omega), hDk, ixN (show k < 516 by omega) (by omega), ixN (show P k < 516 by omega) (by omega), gd_t, gd_t, gd_t, if_pos (nI_le hkn (by omega))]
        · rw [show 2 * n - 2 - (i + 1) = k by omega]
      · refine ⟨(nI (max mo (L k)), nI k + (-1 : Int32), upd D k (nI (L k)), upd Ls k (nI (L k))), ?_, max mo (L k), upd D k (nI (L k)), upd Ls k (nI (L k)), ?_, by omega, hD2, fun j h1 h2 => ?_⟩
        · show (if nI k < 0 then _ else gd (ix (nI k) 516) (gd (ix (S (nI k).toNatClampNeg) 516) (gd (ix (nI k) 516) (if nI n ≤ nI k then _ else gd (ix (nI k) 516) (gd (ix (nI k) n1) (gd (ix (nI k) n1) (some (Sum.inl (jmax (nI mo) ((upd Ls (nI k).toNatClampNeg ((upd D (nI k).toNatClampNeg (D (S (nI k).toNatClampNeg).toNatClampNeg + (1 : Int32))) (nI k).toNatClampNeg)) (nI k).toNatClampNeg), nI k + (-1 : Int32), upd D (nI k).toNatClampNeg (D (S (nI k).toNatClampNeg).toNatClampNeg + (1 : Int32)), upd Ls (nI k).toNatClampNeg ((upd D (nI k).toNatClampNeg (D (S (nI k).toNatClampNeg).toNatClampNeg + (1 : Int32))) (nI k).toNatClampNeg)))))))))) = _
          rw [if_neg (nI_pos (by omega)), nI_clamp (show k < 2 ^ 31 by omega), hS k (by omega), nI_clamp (show P k < 2 ^ 31 by omega), hDk, pk_us, pk_us, jmax_nI (by omega) (by omega), ixN (show k < 516 by omega) (by omega), ixN (show P k < 516 by omega) (by omega), ixN (show k < n1 by omega) (by omega), gd_t, gd_t, gd_t, if_neg (nI_ge (by omega) (by omega))]
          rfl
        · rw [show 2 * n - 2 - (i + 1) = k by omega]
        · by_cases hjk : j = k
          · rw [hjk, pk_us]
          · rw [pk_un hjk]
            exact hL j (by omega) h2
    · rintro s ⟨mo, D, Ls, rfl, hmo, hD, hL⟩
      refine ⟨(nI mo, D, Ls), ?_, mo, rfl, hmo, fun k hk => hL k (by omega) hk⟩
      rw [Nat.sub_self]
      show (if nI 0 + (-1 : Int32) < 0 then _ else _) = _
      rw [if_pos (by decide)]
    · rw [show k = 2 * n - 2 by omega, pk_us, hf.root.2]
      rfl
  obtain ⟨⟨mo1, D, Ls⟩, e1, mo, hmo1, hmo, hL⟩ := l1
  have hmo1 : mo1 = nI mo := hmo1
  refine ⟨mo, D, Ls, ?_, hmo, hL⟩
  unfold Coder_tellLengths_f
  show gd (ix (nI 2 * nI n - nI 2) 516) (bd (lpF (Coder_tellLengths_L20 S (nI n) n1) gas ((0 : Int32), nI 2 * nI n - nI 3, upd dp (nI 2 * nI n - nI 2).toNatClampNeg (0 : Int32), f1)) _) = _
  rw [pk_mul, pk_sub (show 2 ≤ 2 * n by omega), pk_sub (show 3 ≤ 2 * n by omega), ixN (show 2 * n - 2 < 516 by omega) (by omega), gd_t, nI_clamp (show 2 * n - 2 < 2 ^ 31 by omega)]
  rw [show nI (2 * n - 3) = nI (2 * n - 2 - 0) + (-1 : Int32) by rw [show 2 * n - 2 - 0 = 2 * n - 3 + 1 by omega, pk_m1], e1, hmo1]
  rfl
theorem makeLengths_eq {n n1 : Nat} {wt sl sd sm0 dp f1 : Nat → Int32} {w0 : Nat → Nat} (hn2 : 2 ≤ n) (hn : n ≤ 258) (hn1 : n ≤ n1) (hn3 : n1 < 2 ^ 31) (hw : ∀ k, k < n → wt k = nI (w0 k) ∧ w0 k ≤ 2252 ∧ 1 ≤ w0 k) (ht : sm w0 n < 2584) :
    ∃ Wc sl2 sd2 S D Ls, Coder_makeLengths_f (nI n) n1 wt sl sd sm0 dp f1 = some (Wc, sl2, sd2, S, D, Ls) ∧ ∀ k, k < n → Ls k = nI (hD n w0 k) := by
  obtain ⟨sl2, sd2, e1, hO⟩ := sortByWeight_eq (sl := sl) (sd := sd) hn (fun k hk => ⟨(hw k hk).1, (hw k hk).2.1⟩)
  obtain ⟨Wc, S, e2, hS⟩ := joinLeast_eq (sm0 := sm0) hn2 hn (fun k hk => (hw k hk).1) (by omega) hO
  obtain ⟨mo, D, Ls, e3, hmo, hL⟩ := tellLengths_eq (dp := dp) (f1 := f1) hn2 hn hn1 hn3 (fun k hk => (hw k hk).2.2) ht hS
  refine ⟨Wc, sl2, sd2, S, D, Ls, ?_, hL⟩
  have h1 : lpF (Coder_makeLengths_L5 (nI n) n1) gas ((0 : Int32), (0 : Int32), wt, sl, sd, sm0, dp, f1) = some (Wc, sl2, sd2, S, D, Ls) := by
    refine lp_one (s1 := (nI 1, nI 1, Wc, sl2, sd2, S, D, Ls)) ?_ ?_
    · show (if nI 32 ≤ nI 0 then _ else if nI 0 = 0 then (if nI 0 ≤ 0 then Coder_makeLengths_J26 (nI n) ((0 : Int32), (0 : Int32), wt, sl, sd, sm0, dp, f1) n1 wt else _) else _) = _
      rw [if_neg (by decide), if_pos (by decide), if_pos (by decide)]
      show bd (Coder_sortByWeight_f (nI n) wt sl sd) (fun u5 => bd (Coder_joinLeast_f (nI n) u5.2 wt sm0) (fun u6 => bd (Coder_tellLengths_f (nI n) u6.2 n1 dp f1) (fun u7 => (if nI 17 < u7.1 then _ else some (Sum.inl (nI 1, nI 0 + (1 : Int32), u6.1, u5.1, u5.2, u6.2, u7.2.1, u7.2.2)))))) = _
      rw [e1, bd_s]
      show bd (Coder_joinLeast_f (nI n) sd2 wt sm0) _ = _
      rw [e2, bd_s]
      show bd (Coder_tellLengths_f (nI n) S n1 dp f1) _ = _
      rw [e3, bd_s]
      show (if nI 17 < nI mo then _ else some (Sum.inl (nI 1, nI 0 + (1 : Int32), Wc, sl2, sd2, S, D, Ls))) = _
      rw [if_neg (nI_nlt (by omega) (by omega)), nI_1]
    · show (if nI 32 ≤ nI 1 then _ else if nI 1 = 0 then _ else some (Sum.inr (Wc, sl2, sd2, S, D, Ls))) = _
      rw [if_neg (by decide), if_neg (by decide)]
  unfold Coder_makeLengths_f
  rw [h1]
  rfl
/-- how often a symbol is told in a table's groups, and one more -/
def wN (s tb : Nat → Nat) (t m k : Nat) : Nat := 1 + cnt (fun i => decide (s i = k ∧ tb (i / 50) = t)) m
theorem wN_sum (s tb : Nat → Nat) (t n : Nat) : ∀ m, sm (wN s tb t m) n ≤ n + m := by
  intro m
  induction m with
  | zero =>
    have h1 : ∀ n, sm (wN s tb t 0) n = n := by
      intro n
      induction n with
      | zero => rfl
      | succ n ih => rw [sm_s, ih]; rfl
    rw [h1]
    omega
  | succ m ih =>
    by_cases h : tb (m / 50) = t ∧ s m < n
    · have h2 : sm (wN s tb t (m + 1)) n = sm (wN s tb t m) n + 1 := by
        refine sm_ins h.2 ?_ (fun j _ hj => ?_)
        · unfold wN
          rw [cnt_s, tN_t (decide_eq_true ⟨rfl, h.1⟩)]
          omega
        · unfold wN
          rw [cnt_s, tN_f (decide_eq_false (fun q => hj q.1.symm))]
          omega
      omega
    · have h2 : sm (wN s tb t (m + 1)) n = sm (wN s tb t m) n := by
        refine sm_congr (fun j hj => ?_)
        unfold wN
        rw [cnt_s, tN_f (decide_eq_false (fun q => h ⟨q.2, by omega⟩)), Nat.add_zero]
      omega
theorem wN_b (s tb : Nat → Nat) (t m k : Nat) : 1 ≤ wN s tb t m k ∧ wN s tb t m k ≤ m + 1 := by
  have := cnt_le (fun i => decide (s i = k ∧ tb (i / 50) = t)) m
  unfold wN
  omega
theorem weigh_eq {n m t : Nat} {wt gt fS : Nat → Int32} {s tb : Nat → Nat} (hn : n ≤ 258) (hm : m ≤ 2251) (ht : t < 6) (hs : ∀ i, i < m → fS i = nI (s i) ∧ s i < n) (hg : ∀ g, g < (m + 49) / 50 → gt g = nI (tb g) ∧ tb g < 6) :
    ∃ W, Coder_weigh_f (nI n) wt (nI ((m + 49) / 50)) gt (nI t) (nI m) fS = some W ∧ ∀ k, k < n → W k = nI (wN s tb t m k) := by
  have l1 : ∃ W, lpF (Coder_weigh_L13 (nI ((m + 49) / 50)) gt (nI t) (nI m) fS) gas ((0 : Int32), flr wt 0 n 1) = some W ∧ ∀ k, k < n → W k = nI (wN s tb t m k) := by
    refine lp_for (fun g s2 => ∃ W, s2 = (nI g, W) ∧ ∀ k, k < n → W k = nI (wN s tb t (min m (50 * g)) k)) _ (i0 := 0) (N := (m + 49) / 50) (Nat.zero_le _) (by omega) ?_ ?_ ⟨_, rfl, fun k hk => ?_⟩
    · rintro g s2 _ hgg ⟨W, rfl, hW⟩
      obtain ⟨hg1, hg2⟩ := hg g hgg
      have e1 : min m (50 * g) = 50 * g := by omega
      rw [e1] at hW
      have hL : Coder_weigh_L13 (nI ((m + 49) / 50)) gt (nI t) (nI m) fS (nI g, W) = (if nI (tb g) = nI t then bd (Coder_endOf_f (nI m) (nI g)) (fun u9 => bd (lpF (Coder_weigh_L48 u9 fS) gas (nI g * nI 50, W)) (fun v12 => some (Sum.inl (nI (g + 1), v12)))) else some (Sum.inl (nI (g + 1), W))) := by
        show (if nI ((m + 49) / 50) ≤ nI g then _ else gd (ix (nI g) 46) (if gt (nI g).toNatClampNeg = nI t then bd (Coder_endOf_f (nI m) (nI g)) (fun u9 => bd (lpF (Coder_weigh_L48 u9 fS) gas (nI g * nI 50, W)) (fun v12 => some (Sum.inl (nI g + (1 : Int32), v12)))) else some (Sum.inl (nI g + (1 : Int32), W)))) = _
        rw [if_neg (nI_ge hgg (by omega)), nI_clamp (show g < 2 ^ 31 by omega), hg1, ixN (show g < 46 by omega) (by omega), nI_1]
        rfl
      rw [hL]
      by_cases htg : tb g = t
      · rw [if_pos (by rw [htg])]
        have e2 : min m ((g + 1) * 50) = min m (50 * (g + 1)) := by rw [Nat.mul_comm]
        rw [endOf_eq hm (by omega), bd_s, e2]
        obtain ⟨en, hen⟩ : ∃ en, en = min m (50 * (g + 1)) := ⟨_, rfl⟩
        rw [← hen]
        have l2 : ∃ W2, lpF (Coder_weigh_L48 (nI en) fS) gas (nI g * nI 50, W) = some W2 ∧ ∀ k, k < n → W2 k = nI (wN s tb t en k) := by
          rw [pk_mul, Nat.mul_comm g 50]
          refine lp_for (fun i s3 => ∃ W, s3 = (nI i, W) ∧ ∀ k, k < n → W k = nI (wN s tb t i k)) _ (i0 := 50 * g) (N := en) (by omega) (by omega) ?_ ?_ ⟨_, rfl, hW⟩
          · rintro i s3 hi0 hi ⟨W, rfl, hW⟩
            obtain ⟨hs1, hs2⟩ := hs i (by omega)
            refine ⟨(nI (i + 1), upd W (s i) (W (s i) + 1)), ?_, _, rfl, fun k hk => ?_⟩
            · show (if nI en ≤ nI i then _ else gd (ix (nI i) 2251) (gd (ix (fS (nI i).toNatClampNeg) 516) (gd (ix (fS (nI i).toNatClampNeg) 516) (some (Sum.inl (nI i + (1 : Int32), upd W (fS (nI i).toNatClampNeg).toNatClampNeg (W (fS (nI i).toNatClampNeg).toNatClampNeg + (1 : Int32)))))))) = _
              rw [if_neg (nI_ge hi (by omega)), nI_clamp (show i < 2 ^ 31 by omega), hs1, nI_clamp (show s i < 2 ^ 31 by omega), ixN (show i < 2251 by omega) (by omega), ixN (show s i < 516 by omega) (by omega), nI_1 i]
              rfl
            · have hdiv : i / 50 = g := by omega
              by_cases hk2 : k = s i
              · rw [hk2, pk_us, hW _ hs2, nI_1]
                unfold wN
                rw [cnt_s, tN_t (decide_eq_true ⟨rfl, by rw [hdiv, htg]⟩)]
                exact congrArg nI (by omega)
              · rw [pk_un hk2, hW k hk]
                unfold wN
                rw [cnt_s, tN_f (decide_eq_false (fun q => hk2 q.1.symm)), Nat.add_zero]
          · rintro s3 ⟨W, rfl, hW⟩
            refine ⟨W, ?_, hW⟩
            show (if nI en ≤ nI en then _ else _) = _
            rw [if_pos (nI_le (Nat.le_refl _) (by omega))]
        obtain ⟨W2, e3, hW2⟩ := l2
        refine ⟨(nI (g + 1), W2), by rw [e3, bd_s], W2, rfl, fun k hk => ?_⟩
        exact hW2 k hk
      · rw [if_neg (by rw [nI_eq (by omega) (by omega)]; exact htg)]
        refine ⟨_, rfl, W, rfl, fun k hk => ?_⟩
        rw [hW k hk]
        unfold wN
        rw [cnt_ext (show 50 * g ≤ min m (50 * (g + 1)) by omega) (fun j hj1 hj2 => decide_eq_false (fun q => htg (by rw [← q.2, show j / 50 = g by omega])))]
    · rintro s2 ⟨W, rfl, hW⟩
      rw [show min m (50 * ((m + 49) / 50)) = m by omega] at hW
      refine ⟨W, ?_, hW⟩
      show (if nI ((m + 49) / 50) ≤ nI ((m + 49) / 50) then _ else _) = _
      rw [if_pos (nI_le (Nat.le_refl _) (by omega))]
    · show (if 0 ≤ k ∧ k < n then (1 : Int32) else wt k) = _
      rw [if_pos (by omega), show min m (50 * 0) = 0 by omega]
      rfl
  obtain ⟨W, e1, hW⟩ := l1
  refine ⟨W, ?_, hW⟩
  unfold Coder_weigh_f
  rw [show Arrays_fill1_f (0 : Int32) (nI n) 516 (1 : Int32) wt = some (flr wt 0 n 1) from fill1_eq (Nat.zero_le _) (by omega) (by omega) 1 wt, bd_s, e1]
  rfl
