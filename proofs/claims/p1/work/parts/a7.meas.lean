/-! CODES, the reference's: a table is measured -/
theorem measure_eq {c m t : Nat} {cts fS tbl we pa lens cds : Nat → Int32} {s tb : Nat → Nat} (hc : c + 2 ≤ 258) (hm : m ≤ 2251) (ht6 : t < 6) (hs : ∀ i, i < m → fS i = nI (s i) ∧ s i < c + 2) (hg : ∀ g, g < (m + 49) / 50 → tbl g = nI (tb g) ∧ tb g < 6) :
    ∃ C We Pa Ls Cd, Model_measure_f (nI c) cts (nI m) fS tbl (nI t) we pa lens cds = some (C, We, Pa, Ls, Cd) ∧ (∀ k, k < c + 2 → Ls (258 * t + k) = nI (hD (c + 2) (wN s tb t m) k)) ∧ (∀ k, k < c + 2 → Cd (258 * t + k) = nI (cdN (hD (c + 2) (wN s tb t m)) (c + 2) k)) ∧ ∀ j, (j < 258 * t ∨ 258 * t + (c + 2) ≤ j) → Ls j = lens j ∧ Cd j = cds j := by
  have hc2 : nI c + (2 : Int32) = nI (c + 2) := nI_add c 2
  have e1 : lpF (Model_measure_L9 (nI c)) gas ((0 : Int32), cts) = some (flr cts 0 (c + 2) 1) := by
    have key : lpF (Model_measure_L9 (nI c)) gas (nI 0, flr cts 0 0 1) = some (flr cts 0 (c + 2) 1) := by
      refine lp_gas (fun i => (nI i, flr cts 0 i 1)) (i0 := 0) (N := c + 2) (Nat.zero_le _) (by omega) ?_ ?_
      · intro i _ hi
        show (if nI c + (2 : Int32) ≤ nI i then _ else gd (ix (nI i) 258) (some (Sum.inl (nI i + (1 : Int32), upd (flr cts 0 i 1) (nI i).toNatClampNeg (1 : Int32))))) = _
        rw [hc2, if_neg (nI_ge hi (by omega)), ixN (show i < 258 by omega) (by omega), nI_1, nI_clamp (show i < 2 ^ 31 by omega), flr_s cts 1 (Nat.zero_le i)]
        rfl
      · show (if nI c + (2 : Int32) ≤ nI (c + 2) then _ else _) = _
        rw [hc2, if_pos (nI_le (Nat.le_refl _) (by omega))]
    rw [flr_0] at key
    exact key
  have l2 : ∃ C, lpF (Model_measure_L29 (nI m) fS tbl (nI t)) gas ((0 : Int32), flr cts 0 (c + 2) 1) = some C ∧ ∀ k, k < c + 2 → C k = nI (wN s tb t m k) := by
    refine lp_for (fun i s2 => ∃ C, s2 = (nI i, C) ∧ ∀ k, k < c + 2 → C k = nI (wN s tb t i k)) _ (i0 := 0) (N := m) (Nat.zero_le _) (by omega) ?_ ?_ ⟨_, rfl, fun k hk => ?_⟩
    · rintro i s2 _ hi ⟨C, rfl, hC⟩
      obtain ⟨hs1, hs2⟩ := hs i hi
      obtain ⟨hg1, hg2⟩ := hg (i / 50) (by omega)
      have hL : Model_measure_L29 (nI m) fS tbl (nI t) (nI i, C) = (if nI (tb (i / 50)) = nI t then some (Sum.inl (nI (i + 1), upd C (s i) (C (s i) + (1 : Int32)))) else some (Sum.inl (nI (i + 1), upd C (s i) (C (s i) + (0 : Int32))))) := by
        unfold Model_measure_L29 Model_measure_J67
        show (if nI m ≤ nI i then _ else gd (ix (nI i) 2251) (gd (ix (fS (nI i).toNatClampNeg) 258) (gd (ix (nI i / nI 50) 64) (if tbl (nI i / nI 50).toNatClampNeg = nI t then gd (ix (fS (nI i).toNatClampNeg) 258) (some (Sum.inl (nI i + (1 : Int32), upd C (fS (nI i).toNatClampNeg).toNatClampNeg (C (fS (nI i).toNatClampNeg).toNatClampNeg + (1 : Int32))))) else gd (ix (fS (nI i).toNatClampNeg) 258) (some (Sum.inl (nI i + (1 : Int32), upd C (fS (nI i).toNatClampNeg).toNatClampNeg (C (fS (nI i).toNatClampNeg).toNatClampNeg + (0 : Int32))))))))) = _
        rw [if_neg (nI_ge hi (by omega)), pk_div (show i < 2 ^ 31 by omega) (by omega) (by omega), nI_clamp (show i < 2 ^ 31 by omega), nI_clamp (show i / 50 < 2 ^ 31 by omega), hs1, hg1, nI_clamp (show s i < 2 ^ 31 by omega), ixN (show i < 2251 by omega) (by omega), ixN (show s i < 258 by omega) (by omega), ixN (show i / 50 < 64 by omega) (by omega), nI_1 i]
        rfl
      rw [hL]
      by_cases htg : tb (i / 50) = t
      · refine ⟨_, by rw [if_pos (by rw [htg])], _, rfl, fun k hk => ?_⟩
        by_cases hk2 : k = s i
        · rw [hk2, pk_us, hC _ hs2, nI_1]
          unfold wN
          rw [cnt_s, tN_t (decide_eq_true ⟨rfl, htg⟩)]
          exact congrArg nI (by omega)
        · rw [pk_un hk2, hC k hk]
          unfold wN
          rw [cnt_s, tN_f (decide_eq_false (fun q => hk2 q.1.symm)), Nat.add_zero]
      · refine ⟨_, by rw [if_neg (by rw [nI_eq (by omega) (by omega)]; exact htg)], _, rfl, fun k hk => ?_⟩
        have h4 : wN s tb t (i + 1) k = wN s tb t i k := by
          unfold wN
          rw [cnt_s, tN_f (decide_eq_false (fun q => htg q.2)), Nat.add_zero]
        rw [h4]
        by_cases hk2 : k = s i
        · rw [hk2, pk_us, Int32.add_zero]
          exact hC _ hs2
        · rw [pk_un hk2]
          exact hC k hk
    · rintro s2 ⟨C, rfl, hC⟩
      refine ⟨C, ?_, hC⟩
      show (if nI m ≤ nI m then _ else _) = _
      rw [if_pos (nI_le (Nat.le_refl _) (by omega))]
    · show (if 0 ≤ k ∧ k < c + 2 then (1 : Int32) else cts k) = _
      rw [if_pos (by omega)]
      rfl
  obtain ⟨C, e2, hC⟩ := l2
  have hsum := wN_sum s tb t (c + 2) m
  have hw1 : ∀ k, k < c + 2 → 1 ≤ wN s tb t m k := fun k _ => (wN_b s tb t m k).1
  have hDb : ∀ k, k < c + 2 → 1 ≤ hD (c + 2) (wN s tb t m) k ∧ hD (c + 2) (wN s tb t m) k ≤ 15 := fun k hk => hD_b (by omega) hw1 (by omega) hk
  obtain ⟨We, Pa, Ls, e3, hLs, hfr⟩ := combine_eq (we := we) (pa := pa) (lens := lens) (show 2 ≤ c + 2 by omega) hc ht6 (fun k hk => ⟨hC k hk, hw1 k hk⟩) (by omega)
  generalize hD (c + 2) (wN s tb t m) = D at *
  have l3 : ∃ p : Int32 × (Nat → Int32), lpF (Model_measure_L92 (nI c) (nI t) (We, Pa, Ls)) gas ((0 : Int32), (0 : Int32), C) = some p ∧ p.1 = 0 := by
    refine lp_for (fun i s2 => ∃ C, s2 = ((0 : Int32), nI i, C)) _ (i0 := 0) (N := c + 2) (Nat.zero_le _) (by omega) ?_ ?_ ⟨_, rfl⟩
    · rintro i s2 _ hi ⟨C, rfl⟩
      have hb := hDb i hi
      refine ⟨((0 : Int32), nI (i + 1), upd C i (C i / (2 : Int32) + (1 : Int32))), ?_, _, rfl⟩
      unfold Model_measure_L92 Model_measure_J122
      show (if nI c + (2 : Int32) ≤ nI i then _ else gd (ix (nI 258 * nI t + nI i) 1548) (if Ls (nI 258 * nI t + nI i).toNatClampNeg ≤ nI 17 then gd (ix (nI i) 258) (gd (ix (nI i) 258) (some (Sum.inl ((0 : Int32) ||| (0 : Int32), nI i + (1 : Int32), upd C (nI i).toNatClampNeg (C (nI i).toNatClampNeg / (2 : Int32) + (1 : Int32)))))) else _)) = _
      rw [hc2, if_neg (nI_ge hi (by omega)), pk_mul, nI_add, ixN (show 258 * t + i < 1548 by omega) (by omega), nI_clamp (show 258 * t + i < 2 ^ 31 by omega), hLs i hi, gd_t, if_pos (nI_le (by omega) (by omega)), ixN (show i < 258 by omega) (by omega), nI_clamp (show i < 2 ^ 31 by omega), nI_1]
      rfl
    · rintro s2 ⟨C, rfl⟩
      refine ⟨((0 : Int32), C), ?_, rfl⟩
      show (if nI c + (2 : Int32) ≤ nI (c + 2) then _ else _) = _
      rw [hc2, if_pos (nI_le (Nat.le_refl _) (by omega))]
  obtain ⟨⟨far, C2⟩, e4, hfar⟩ := l3
  have hfar : far = 0 := hfar
  have e5 : lpF (Model_measure_L77 (nI c) (nI t)) gas ((1 : Int32), C, we, pa, lens) = some (C2, We, Pa, Ls) := by
    refine lp_one (s1 := ((0 : Int32), C2, We, Pa, Ls)) ?_ ?_
    · show (if (1 : Int32) = 0 then _ else bd (Model_combine_f (nI c + (2 : Int32)) C we pa (nI t) lens) (fun u13 => bd (lpF (Model_measure_L92 (nI c) (nI t) u13) gas ((0 : Int32), (0 : Int32), C)) (fun v16 => some (Sum.inl (v16.1, v16.2, u13.1, u13.2.1, u13.2.2))))) = _
      rw [if_neg (by decide), hc2, e3, bd_s, e4, bd_s, hfar]
    · show (if (0 : Int32) = 0 then some (Sum.inr (C2, We, Pa, Ls)) else _) = _
      rw [if_pos rfl]
  obtain ⟨Cd, e6, hCd, hfr2⟩ := number_eq (cds := cds) hc ht6 (fun k hk => ⟨hLs k hk, by have := hDb k hk; omega, by have := hDb k hk; omega⟩)
  refine ⟨C2, We, Pa, Ls, Cd, ?_, hLs, hCd, fun j hj => ⟨hfr j hj, hfr2 j hj⟩⟩
  unfold Model_measure_f
  rw [e1, bd_s, e2, bd_s, e5, bd_s]
  show bd (Model_number_f (nI c + (2 : Int32)) (nI t) Ls cds) _ = _
  rw [hc2, e6]
  rfl
/-! CODES: which table each group takes -/
def tcN (m : Nat) : Nat := if m < 200 then 2 else if m < 600 then 3 else if m < 1200 then 4 else if m < 2400 then 5 else 6
theorem tc_b (m : Nat) : 2 ≤ tcN m ∧ tcN m ≤ 6 := by
  unfold tcN
  by_cases h1 : m < 200
  · rw [if_pos h1]; omega
  · rw [if_neg h1]
    by_cases h2 : m < 600
    · rw [if_pos h2]; omega
    · rw [if_neg h2]
      by_cases h3 : m < 1200
      · rw [if_pos h3]; omega
      · rw [if_neg h3]
        by_cases h4 : m < 2400
        · rw [if_pos h4]; omega
        · rw [if_neg h4]; omega
/-- how many bits group g has by lengths L -/
def biN (s : Nat → Nat) (m g : Nat) (L : Nat → Nat) : Nat := sm (fun i => L (s (50 * g + i))) (min m (50 * g + 50) - 50 * g)
/-- the first of the best among tables 0 .. t -/
def beN (B : Nat → Nat) : Nat → Nat
  | 0 => 0
  | t + 1 => if B (t + 1) < B (beN B t) then t + 1 else beN B t
theorem be_le (B : Nat → Nat) : ∀ t, beN B t ≤ t := by
  intro t
  induction t with
  | zero => exact Nat.le_refl _
  | succ t ih =>
    show (if B (t + 1) < B (beN B t) then t + 1 else beN B t) ≤ t + 1
    by_cases h : B (t + 1) < B (beN B t)
    · rw [if_pos h]; exact Nat.le_refl _
    · rw [if_neg h]; omega
noncomputable def lnN (s : Nat → Nat) (n m : Nat) (tb : Nat → Nat) (t : Nat) : Nat → Nat := hD n (wN s tb t m)
noncomputable def tbS (s : Nat → Nat) (n m : Nat) : Nat → (Nat → Nat)
  | 0 => fun g => g * tcN m / ((m + 49) / 50)
  | r + 1 => fun g => beN (fun t => biN s m g (lnN s n m (tbS s n m r) t)) (tcN m - 1)
theorem tbS_b {s : Nat → Nat} {n m : Nat} (hm : 0 < m) (r : Nat) {g : Nat} (hg : g < (m + 49) / 50) : tbS s n m r g < tcN m := by
  have htc := tc_b m
  cases r with
  | zero =>
    show g * tcN m / ((m + 49) / 50) < tcN m
    rw [Nat.div_lt_iff_lt_mul (by omega), Nat.mul_comm]
    exact Nat.mul_lt_mul_of_pos_left hg (by omega)
  | succ r =>
    have := be_le (fun t => biN s m g (lnN s n m (tbS s n m r) t)) (tcN m - 1)
    show beN _ _ < _
    omega
theorem bsm_N {fL : Nat → Int32} {s L : Nat → Nat} {a : Nat} : ∀ i, (∀ j, j < i → fL (s (a + j)) = nI (L (s (a + j)))) → bsm fL s a i = nI (sm (fun j => L (s (a + j))) i) := by
  intro i
  induction i with
  | zero => intro _; rfl
  | succ i ih =>
    intro h
    show bsm fL s a i + fL (s (a + i)) = nI (sm (fun j => L (s (a + j))) i + L (s (a + i)))
    rw [ih (fun j hj => h j (by omega)), h i (by omega), nI_add]
theorem bi_b {s L : Nat → Nat} {m g n : Nat} (hm : ∀ i, i < m → s i < n) (hL : ∀ k, k < n → L k ≤ 20) : biN s m g L ≤ 1000 := by
  have h1 : ∀ i, i ≤ min m (50 * g + 50) - 50 * g → sm (fun i => L (s (50 * g + i))) i ≤ 20 * i := by
    intro i
    induction i with
    | zero => intro _; exact Nat.le_refl _
    | succ i ih =>
      intro hi
      have h2 := ih (by omega)
      have h3 := hL (s (50 * g + i)) (hm _ (by omega))
      rw [sm_s]
      omega
  have h2 := h1 _ (Nat.le_refl _)
  unfold biN
  omega
