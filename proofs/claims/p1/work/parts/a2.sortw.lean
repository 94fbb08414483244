/-! CODES, the class's: symbols sorted by weight -/
theorem jmax_nI {a b : Nat} (ha : a < 2 ^ 31) (hb : b < 2 ^ 31) : jmax (nI a) (nI b) = nI (max a b) := by
  unfold jmax
  by_cases h : a < b
  · rw [if_pos ((nI_ltI ha hb).mpr h), Nat.max_eq_right (by omega)]
  · rw [if_neg (fun q => h ((nI_ltI ha hb).mp q)), Nat.max_eq_left (by omega)]
theorem sortByWeight_eq {n : Nat} {wt sl sd : Nat → Int32} {w : Nat → Nat} (hn : n ≤ 258) (hw : ∀ k, k < n → wt k = nI (w k) ∧ w k ≤ 2252) :
    ∃ S O, Coder_sortByWeight_f (nI n) wt sl sd = some (S, O) ∧ ∀ b, b < n → O (kpos (lexk w (fun x => x) n) n b) = nI b := by
  have l0 : ∃ e, lpF (Coder_sortByWeight_L4 (nI n) wt) gas ((0 : Int32), (0 : Int32)) = some e ∧ ∃ mo, e = nI mo ∧ mo ≤ 2252 ∧ ∀ k, k < n → w k ≤ mo := by
    refine lp_for (fun i s => ∃ mo, s = (nI mo, nI i) ∧ mo ≤ 2252 ∧ ∀ k, k < i → w k ≤ mo) _ (i0 := 0) (N := n) (Nat.zero_le _) (by omega) ?_ ?_ ⟨0, rfl, by omega, fun k h => absurd h (Nat.not_lt_zero _)⟩
    · rintro i s _ hi ⟨mo, rfl, h1, h2⟩
      obtain ⟨h3, h4⟩ := hw i hi
      refine ⟨(nI (max mo (w i)), nI (i + 1)), ?_, max mo (w i), rfl, by omega, fun k hk => ?_⟩
      · show (if nI n ≤ nI i then _ else gd (ix (nI i) 516) (some (Sum.inl (jmax (nI mo) (wt (nI i).toNatClampNeg), nI i + (1 : Int32))))) = _
        rw [if_neg (nI_ge hi (by omega)), nI_clamp (show i < 2 ^ 31 by omega), h3, jmax_nI (by omega) (by omega), ixN (show i < 516 by omega) (by omega), nI_1]
        rfl
      · rcases Nat.lt_or_ge k i with h5 | h5
        · have := h2 k h5
          omega
        · rw [show k = i by omega]
          omega
    · rintro s ⟨mo, rfl, h1, h2⟩
      refine ⟨nI mo, ?_, mo, rfl, h1, h2⟩
      show (if nI n ≤ nI n then _ else _) = _
      rw [if_pos (nI_le (Nat.le_refl n) (by omega))]
  obtain ⟨e0, e1, mo, rfl, hmo, hwm⟩ := l0
  have l1 : ∃ S1, lpF (Coder_sortByWeight_L40 (nI n) wt) gas ((0 : Int32), flr sl 0 (mo + 2) 0) = some S1 ∧ ∀ v, v < mo + 2 → S1 v = nI (cnt (fun y => decide (w y + 1 = v)) n) := by
    refine lp_for (fun i s => ∃ S, s = (nI i, S) ∧ ∀ v, v < mo + 2 → S v = nI (cnt (fun y => decide (w y + 1 = v)) i)) _ (i0 := 0) (N := n) (Nat.zero_le _) (by omega) ?_ ?_ ⟨_, rfl, fun v hv => ?_⟩
    · rintro i s _ hi ⟨S, rfl, hS⟩
      obtain ⟨ht1, ht2⟩ := hw i hi
      refine ⟨(nI (i + 1), upd S (w i + 1) (S (w i + 1) + 1)), ?_, _, rfl, fun v hv => ?_⟩
      · show (if nI n ≤ nI i then _ else gd (ix (nI i) 516) (gd (ix (wt (nI i).toNatClampNeg + (1 : Int32)) 2254) (gd (ix (wt (nI i).toNatClampNeg + (1 : Int32)) 2254) (some (Sum.inl (nI i + (1 : Int32), upd S (wt (nI i).toNatClampNeg + (1 : Int32)).toNatClampNeg (S (wt (nI i).toNatClampNeg + (1 : Int32)).toNatClampNeg + (1 : Int32)))))))) = _
        rw [if_neg (nI_ge hi (by omega)), nI_clamp (show i < 2 ^ 31 by omega), ht1, nI_1 (w i), ixN (show i < 516 by omega) (by omega), ixN (show w i + 1 < 2254 by omega) (by omega), nI_clamp (show w i + 1 < 2 ^ 31 by omega), nI_1 i]
        rfl
      · by_cases h : v = w i + 1
        · subst h
          rw [pk_us, hS _ hv, nI_1, cnt_s, tN_t (decide_eq_true rfl)]
        · rw [pk_un h, hS v hv, cnt_s, tN_f (decide_eq_false (by omega)), Nat.add_zero]
    · rintro s ⟨S, rfl, hS⟩
      refine ⟨S, ?_, hS⟩
      show (if nI n ≤ nI n then _ else _) = _
      rw [if_pos (nI_le (Nat.le_refl n) (by omega))]
    · show (if 0 ≤ v ∧ v < mo + 2 then (0 : Int32) else sl v) = _
      rw [if_pos (by omega)]
      rfl
  obtain ⟨S1, e2, hS1⟩ := l1
  have l2 : ∃ S2, lpF (Coder_sortByWeight_L70 (nI mo)) gas ((1 : Int32), S1) = some S2 ∧ ∀ v, v < mo + 1 → S2 v = nI (cnt (fun y => decide (w y < v)) n) := by
    refine lp_for (fun i s => ∃ S, s = (nI i, S) ∧ (∀ v, v < i → S v = nI (cnt (fun y => decide (w y < v)) n)) ∧ ∀ v, i ≤ v → v < mo + 2 → S v = nI (cnt (fun y => decide (w y + 1 = v)) n)) _ (i0 := 1) (N := mo + 1) (by omega) (by omega) ?_ ?_ ⟨_, rfl, fun v hv => ?_, fun v _ hv => hS1 v hv⟩
    · rintro i s hi1 hi ⟨S, rfl, hA, hB⟩
      obtain ⟨k, rfl⟩ : ∃ k, i = k + 1 := ⟨i - 1, by omega⟩
      have hc : cnt (fun y => decide (w y < k + 1)) n = cnt (fun y => decide (w y + 1 = k + 1)) n + cnt (fun y => decide (w y < k)) n := by
        refine cnt_or (fun j hj => ?_) (fun j hj h => ?_)
        · rw [← Bool.decide_or, decide_eq_decide]
          omega
        · simp only [decide_eq_true_eq, decide_eq_false_iff_not] at h ⊢
          omega
      have hv : S (k + 1) + S k = nI (cnt (fun y => decide (w y < k + 1)) n) := by
        rw [hB (k + 1) (Nat.le_refl _) (by omega), hA k (by omega), nI_add, hc]
      refine ⟨(nI (k + 1 + 1), upd S (k + 1) (S (k + 1) + S k)), ?_, _, rfl, fun v hv2 => ?_, fun v hv2 hv3 => ?_⟩
      · show (if nI mo < nI (k + 1) then _ else gd (ix (nI (k + 1)) 2254) (gd (ix (nI (k + 1) - (1 : Int32)) 2254) (gd (ix (nI (k + 1)) 2254) (some (Sum.inl (nI (k + 1) + (1 : Int32), upd S (nI (k + 1)).toNatClampNeg (S (nI (k + 1)).toNatClampNeg + S (nI (k + 1) - (1 : Int32)).toNatClampNeg))))))) = _
        rw [if_neg (nI_nlt (by omega) (by omega)), nI_pred, ixN (show k + 1 < 2254 by omega) (by omega), ixN (show k < 2254 by omega) (by omega), nI_clamp (show k + 1 < 2 ^ 31 by omega), nI_clamp (show k < 2 ^ 31 by omega), nI_1 (k + 1)]
        rfl
      · by_cases h : v = k + 1
        · subst h
          rw [pk_us, hv]
        · rw [pk_un h]
          exact hA v (by omega)
      · rw [pk_un (show v ≠ k + 1 by omega)]
        exact hB v (by omega) hv3
    · rintro s ⟨S, rfl, hA, hB⟩
      refine ⟨S, ?_, hA⟩
      show (if nI mo < nI (mo + 1) then _ else _) = _
      rw [if_pos (nI_lt (by omega) (by omega))]
    · have h : v = 0 := by omega
      subst h
      rw [hS1 0 (by omega), cnt_none (fun j _ => decide_eq_false (by omega)), cnt_none (fun j _ => decide_eq_false (by omega))]
  obtain ⟨S2, e3, hS2⟩ := l2
  have l3 : ∃ p : (Nat → Int32) × (Nat → Int32), lpF (Coder_sortByWeight_L100 (nI n) wt) gas ((0 : Int32), S2, sd) = some p ∧ cs_O w (fun x => x) n n p.2 := by
    refine lp_for (fun i s => ∃ S O, s = (nI i, S, O) ∧ cs_S w w (fun x => x) n i S ∧ cs_O w (fun x => x) n i O) _ (i0 := 0) (N := n) (Nat.zero_le _) (by omega) ?_ ?_ ⟨_, _, rfl, cs_S0 (fun b hb => hS2 (w b) (by have := hwm b hb; omega)), cs_O0⟩
    · rintro i s _ hi ⟨S, O, rfl, hS, hO⟩
      obtain ⟨ht1, ht2⟩ := hw i hi
      have hat : S (w i) = nI (kpos (lexk w (fun x => x) n) n i) := cs_at (fun x h => h) hS hi rfl
      have hp := kpos_lt (K := lexk w (fun x => x) n) hi
      refine ⟨(nI (i + 1), upd S (w i) (nI (kpos (lexk w (fun x => x) n) n i + 1)), upd O (kpos (lexk w (fun x => x) n) n i) (nI i)), ?_, _, _, rfl, cs_stepS (σ := w) (fun x h => h) (fun x y _ _ h => h) (fun x y _ _ => Iff.rfl) hS hi rfl, cs_stepO (fun x h => h) (fun x y _ _ h => h) hO hi rfl⟩
      generalize kpos (lexk w (fun x => x) n) n i = q at hat hp
      show (if nI n ≤ nI i then _ else gd (ix (nI i) 516) (gd (ix (wt (nI i).toNatClampNeg) 2254) (gd (ix (S (wt (nI i).toNatClampNeg).toNatClampNeg) 258) (gd (ix (nI i) 516) (gd (ix (wt (nI i).toNatClampNeg) 2254) (gd (ix (wt (nI i).toNatClampNeg) 2254) (some (Sum.inl (nI i + (1 : Int32), upd S (wt (nI i).toNatClampNeg).toNatClampNeg (S (wt (nI i).toNatClampNeg).toNatClampNeg + (1 : Int32)), upd O (S (wt (nI i).toNatClampNeg).toNatClampNeg).toNatClampNeg (nI i)))))))))) = _
      rw [if_neg (nI_ge hi (by omega)), nI_clamp (show i < 2 ^ 31 by omega), ht1, nI_clamp (show w i < 2 ^ 31 by omega), hat, ixN (show i < 516 by omega) (by omega), ixN (show w i < 2254 by omega) (by omega), ixN (show q < 258 by omega) (by omega), nI_clamp (show q < 2 ^ 31 by omega), nI_1 q, nI_1 i]
      rfl
    · rintro s ⟨S, O, rfl, hS, hO⟩
      refine ⟨(S, O), ?_, hO⟩
      show (if nI n ≤ nI n then _ else _) = _
      rw [if_pos (nI_le (Nat.le_refl n) (by omega))]
  obtain ⟨⟨S3, O3⟩, e4, hO⟩ := l3
  refine ⟨S3, O3, ?_, fun b hb => hO b hb hb⟩
  unfold Coder_sortByWeight_f
  rw [e1, bd_s, show nI mo + (2 : Int32) = nI (mo + 2) from nI_add mo 2, show Arrays_fill1_f (0 : Int32) (nI (mo + 2)) 2254 (0 : Int32) sl = some (flr sl 0 (mo + 2) 0) from fill1_eq (Nat.zero_le _) (by omega) (by omega) 0 sl, bd_s, e2, bd_s, e3, bd_s, e4]
  rfl
