/-! CODES: the codes of a table that is made fill all -/
theorem hD_all {n : Nat} {w0 : Nat → Nat} (hn : 2 ≤ n) (hw : ∀ k, k < n → 1 ≤ w0 k) (ht : sm w0 n < 2584) : ∀ k, k + 1 < 2 * n → hD n w0 k ≤ 15 := by
  have h := hst_I (n := n) w0 (n - 1) (by omega)
  have hf := hst_F (w0 := w0) hn
  intro k
  induction k using Nat.strongRecOn with
  | ind k ih =>
    intro hk
    rcases Nat.lt_or_ge k n with h1 | h1
    · exact (hD_b hn hw ht h1).2
    · obtain ⟨a, b, h2, h3, h4, h5, h6, h7, h8⟩ := h.D k h1 (by omega)
      have h9 := ih a h2 (by omega)
      have h10 := (hf.up a (by omega)).2.2.2
      rw [h5] at h10
      omega
theorem kraft_st {n : Nat} {w0 : Nat → Nat} (hn : 2 ≤ n) (hw : ∀ k, k < n → 1 ≤ w0 k) (ht : sm w0 n < 2584) : ∀ j m, m + j + 1 = 2 * n → n ≤ m → sm (fun k => if m ≤ (hst n w0 (n - 1)).2 k ∨ (hst n w0 (n - 1)).2 k = 0 then 2 ^ (20 - hD n w0 k) else 0) m = 2 ^ 20 := by
  have h := hst_I (n := n) w0 (n - 1) (by omega)
  have hf := hst_F (w0 := w0) hn
  have hb := hD_all hn hw ht
  have hE : n + (n - 1) = 2 * n - 1 := by omega
  generalize (hst n w0 (n - 1)).1 = W at *
  generalize (hst n w0 (n - 1)).2 = P at *
  generalize hD n w0 = D at *
  intro j
  induction j with
  | zero =>
    intro m hm hnm
    rw [show m = 2 * n - 2 + 1 by omega, sm_s, sm_zero (fun k hk => if_neg ?_), Nat.zero_add, if_pos (Or.inr hf.root.1), hf.root.2]
    have := hf.up k (by omega)
    omega
  | succ j ih =>
    intro m hm hnm
    have h1 := ih (m + 1) (by omega) (by omega)
    obtain ⟨a, b, k1, k2, k3, k4, k5, k6, k7⟩ := h.D m hnm (by omega)
    have ua := (hf.up a (by omega)).2.2.2
    have ub := (hf.up b (by omega)).2.2.2
    rw [k4] at ua
    rw [k5] at ub
    have hdm := hb a (by omega)
    have hpw : 2 ^ (20 - D m) = 2 ^ (20 - D a) + 2 ^ (20 - D b) := by
      rw [ua, ub, show 20 - D m = 20 - (D m + 1) + 1 by omega, Nat.pow_succ]
      omega
    have hmm : m + 1 ≤ P m ∨ P m = 0 := by
      rcases Nat.lt_or_ge (m + 2) (2 * n) with q | q
      · have := hf.up m q
        omega
      · rw [show m = 2 * n - 2 by omega]
        exact Or.inr hf.root.1
    rw [sm_s, if_pos hmm] at h1
    have s1 : sm (fun k => if k = a then 2 ^ (20 - D a) else if m + 1 ≤ P k ∨ P k = 0 then 2 ^ (20 - D k) else 0) m = sm (fun k => if m + 1 ≤ P k ∨ P k = 0 then 2 ^ (20 - D k) else 0) m + 2 ^ (20 - D a) := by
      refine sm_ins k1 ?_ (fun i _ hi => if_neg hi)
      show (if a = a then 2 ^ (20 - D a) else _) = (if m + 1 ≤ P a ∨ P a = 0 then 2 ^ (20 - D a) else 0) + 2 ^ (20 - D a)
      rw [if_pos rfl, if_neg (by omega), Nat.zero_add]
    have s2 : sm (fun k => if m ≤ P k ∨ P k = 0 then 2 ^ (20 - D k) else 0) m = sm (fun k => if k = a then 2 ^ (20 - D a) else if m + 1 ≤ P k ∨ P k = 0 then 2 ^ (20 - D k) else 0) m + 2 ^ (20 - D b) := by
      refine sm_ins k2 ?_ (fun i hi hib => ?_)
      · show (if m ≤ P b ∨ P b = 0 then 2 ^ (20 - D b) else 0) = (if b = a then 2 ^ (20 - D a) else if m + 1 ≤ P b ∨ P b = 0 then 2 ^ (20 - D b) else 0) + 2 ^ (20 - D b)
        rw [if_pos (by omega), if_neg (fun q => k3 q.symm), if_neg (by omega), Nat.zero_add]
      · show (if m ≤ P i ∨ P i = 0 then 2 ^ (20 - D i) else 0) = (if i = a then 2 ^ (20 - D a) else if m + 1 ≤ P i ∨ P i = 0 then 2 ^ (20 - D i) else 0)
        by_cases hia : i = a
        · rw [if_pos hia, hia, if_pos (by omega)]
        · rw [if_neg hia]
          have hne : P i ≠ m := fun q => by
            have := k6 i (by omega) q
            omega
          by_cases h5 : m ≤ P i ∨ P i = 0
          · rw [if_pos h5, if_pos (by omega)]
          · rw [if_neg h5, if_neg (by omega)]
    omega
theorem kraft {n : Nat} {w0 : Nat → Nat} (hn : 2 ≤ n) (hw : ∀ k, k < n → 1 ≤ w0 k) (ht : sm w0 n < 2584) : sm (fun k => 2 ^ (20 - hD n w0 k)) n = 2 ^ 20 := by
  rw [← kraft_st hn hw ht (n - 1) n (by omega) (Nat.le_refl _)]
  refine sm_congr (fun k hk => ?_)
  have := (hst_F (w0 := w0) hn).up k (by omega)
  exact (if_pos (Or.inl (by omega))).symm
