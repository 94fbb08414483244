/-! SYMBOLS -/
def updN (f : Nat → Nat) (k x : Nat) : Nat → Nat := fun j => if j = k then x else f j
theorem RS_upd {m x : Nat} {f : Nat → Int32} {g : Nat → Nat} (h : RS m f g) : RS (m + 1) (upd f m (nI x)) (updN g m x) := by
  intro j hj
  unfold updN
  by_cases h0 : j = m
  · rw [if_pos h0, h0, pk_us]
  · rw [if_neg h0, pk_un h0]
    exact h j (by omega)
def tzN (f : Nat → Nat) (c z : Nat) : (Nat → Nat) × Nat := if h : z = 0 then (f, c) else tzN (updN f c ((z - 1) % 2)) (c + 1) ((z - 1) / 2)
termination_by z
decreasing_by omega
theorem tzN_0 (f : Nat → Nat) (c : Nat) : tzN f c 0 = (f, c) := by
  rw [tzN]; exact dif_pos rfl
theorem tzN_s (f : Nat → Nat) (c : Nat) {z : Nat} (h : 0 < z) : tzN f c z = tzN (updN f c ((z - 1) % 2)) (c + 1) ((z - 1) / 2) := by
  rw [tzN]; exact dif_neg (by omega)
theorem tz_rel : ∀ (k z c : Nat) (f : Nat → Int32) (g : Nat → Nat), z ≤ k → RS c f g → (tz f c z).2 = (tzN g c z).2 ∧ RS (tzN g c z).2 (tz f c z).1 (tzN g c z).1 ∧ c ≤ (tzN g c z).2 ∧ (tzN g c z).2 ≤ c + z ∧ (∀ j, j < c → (tzN g c z).1 j = g j) ∧ ∀ j, c ≤ j → j < (tzN g c z).2 → (tzN g c z).1 j < 2 := by
  intro k
  induction k with
  | zero =>
    intro z c f g hz h
    have h0 : z = 0 := by omega
    subst h0
    rw [tz_0, tzN_0]
    exact ⟨rfl, h, Nat.le_refl _, Nat.le_refl _, fun _ _ => rfl, fun j h1 h2 => absurd h2 (by show ¬ j < c; omega)⟩
  | succ k ih =>
    intro z c f g hz h
    rcases Nat.eq_zero_or_pos z with h0 | h0
    · subst h0
      rw [tz_0, tzN_0]
      exact ⟨rfl, h, Nat.le_refl _, Nat.le_add_right _ _, fun _ _ => rfl, fun j h1 h2 => absurd h2 (by show ¬ j < c; omega)⟩
    · rw [tz_s f c h0, tzN_s g c h0]
      obtain ⟨h1, h2, h3, h4, h5, h6⟩ := ih ((z - 1) / 2) (c + 1) (upd f c (nI ((z - 1) % 2))) (updN g c ((z - 1) % 2)) (by omega) (RS_upd h)
      refine ⟨h1, h2, by omega, by omega, fun j hj => ?_, fun j hj1 hj2 => ?_⟩
      · rw [h5 j (by omega)]
        unfold updN
        rw [if_neg (by omega)]
      · rcases Nat.lt_or_ge j (c + 1) with h7 | h7
        · rw [h5 j h7]
          unfold updN
          rw [if_pos (by omega)]
          omega
        · exact h6 j h7 hj2
/-- zeros that wait, symbols, how many: before byte i is told -/
def syN (up : Nat → Nat) : Nat → Nat × (Nat → Nat) × Nat
  | 0 => (0, (fun _ => 0), 0)
  | i + 1 => if up i = 0 then ((syN up i).1 + 1, (syN up i).2.1, (syN up i).2.2) else (0, updN (tzN (syN up i).2.1 (syN up i).2.2 (syN up i).1).1 (tzN (syN up i).2.1 (syN up i).2.2 (syN up i).1).2 (up i + 1), (tzN (syN up i).2.1 (syN up i).2.2 (syN up i).1).2 + 1)
/-- how many symbols; the symbols -/
def smN (up : Nat → Nat) (n : Nat) : Nat := (tzN (syN up n).2.1 (syN up n).2.2 (syN up n).1).2 + 1
def ssN (up : Nat → Nat) (n c : Nat) : Nat → Nat := updN (tzN (syN up n).2.1 (syN up n).2.2 (syN up n).1).1 (tzN (syN up n).2.1 (syN up n).2.2 (syN up n).1).2 (c + 1)
theorem sy_b {up : Nat → Nat} {c n : Nat} (h : ∀ i, i < n → up i < c) : ∀ i, i ≤ n → (syN up i).2.2 + (syN up i).1 ≤ i ∧ ∀ j, j < (syN up i).2.2 → (syN up i).2.1 j < c + 2 := by
  intro i
  induction i with
  | zero => intro _; exact ⟨Nat.le_refl _, fun j hj => absurd hj (Nat.not_lt_zero _)⟩
  | succ i ih =>
    intro hi
    obtain ⟨h1, h2⟩ := ih (by omega)
    have hu := h i (by omega)
    obtain ⟨_, _, t3, t4, t5, t6⟩ := tz_rel (syN up i).1 (syN up i).1 (syN up i).2.2 (fun j => nI ((syN up i).2.1 j)) (syN up i).2.1 (Nat.le_refl _) (fun j _ => rfl)
    unfold syN
    by_cases h0 : up i = 0
    · rw [if_pos h0]
      exact ⟨by show (syN up i).2.2 + ((syN up i).1 + 1) ≤ i + 1; omega, h2⟩
    · rw [if_neg h0]
      refine ⟨by show (tzN (syN up i).2.1 (syN up i).2.2 (syN up i).1).2 + 1 + 0 ≤ i + 1; omega, fun j hj => ?_⟩
      have hj : j < (tzN (syN up i).2.1 (syN up i).2.2 (syN up i).1).2 + 1 := hj
      show updN (tzN (syN up i).2.1 (syN up i).2.2 (syN up i).1).1 (tzN (syN up i).2.1 (syN up i).2.2 (syN up i).1).2 (up i + 1) j < c + 2
      unfold updN
      by_cases h3 : j = (tzN (syN up i).2.1 (syN up i).2.2 (syN up i).1).2
      · rw [if_pos h3]
        omega
      · rw [if_neg h3]
        rcases Nat.lt_or_ge j (syN up i).2.2 with h4 | h4
        · rw [t5 j h4]
          exact h2 j h4
        · have := t6 j h4 (by omega)
          omega
theorem sm_b {up : Nat → Nat} {c n : Nat} (h : ∀ i, i < n → up i < c) : 1 ≤ smN up n ∧ smN up n ≤ n + 1 ∧ ∀ j, j < smN up n → ssN up n c j < c + 2 := by
  obtain ⟨h1, h2⟩ := sy_b h n (Nat.le_refl _)
  obtain ⟨_, _, t3, t4, t5, t6⟩ := tz_rel (syN up n).1 (syN up n).1 (syN up n).2.2 (fun j => nI ((syN up n).2.1 j)) (syN up n).2.1 (Nat.le_refl _) (fun j _ => rfl)
  unfold smN ssN
  refine ⟨by omega, by omega, fun j hj => ?_⟩
  unfold updN
  by_cases h3 : j = (tzN (syN up n).2.1 (syN up n).2.2 (syN up n).1).2
  · rw [if_pos h3]
    omega
  · rw [if_neg h3]
    rcases Nat.lt_or_ge j (syN up n).2.2 with h4 | h4
    · rw [t5 j h4]
      exact h2 j h4
    · have := t6 j h4 (by omega)
      omega
theorem makeSymbols_eq {n c : Nat} {ups S0 : Nat → Int32} {up : Nat → Nat} (hn : n ≤ 2250) (hc : c ≤ 256) (hu : RS n ups up) (hb : ∀ i, i < n → up i < c) :
    ∃ S, Block_makeSymbols_f (nI n) ups S0 (nI c) = some (nI (smN up n), S) ∧ RS (smN up n) S (ssN up n c) := by
  have l1 : ∃ p : Int32 × Int32 × (Nat → Int32), lpF (Block_makeSymbols_L9 (nI n) ups) gas ((0 : Int32), (0 : Int32), (0 : Int32), S0) = some p ∧ p.1 = nI (syN up n).1 ∧ p.2.1 = nI (syN up n).2.2 ∧ RS (syN up n).2.2 p.2.2 (syN up n).2.1 := by
    refine lp_for (fun i s => ∃ S, s = (nI (syN up i).1, nI i, nI (syN up i).2.2, S) ∧ RS (syN up i).2.2 S (syN up i).2.1) _ (i0 := 0) (N := n) (Nat.zero_le _) (by omega) ?_ ?_ ⟨_, rfl, fun j h => absurd h (Nat.not_lt_zero _)⟩
    · rintro i s _ hi ⟨S, rfl, hS⟩
      have hui := hb i hi
      obtain ⟨b1, b2⟩ := sy_b hb i (by omega)
      obtain ⟨t1, t2, t3, t4, t5, t6⟩ := tz_rel (syN up i).1 (syN up i).1 (syN up i).2.2 S (syN up i).2.1 (Nat.le_refl _) hS
      have hL : Block_makeSymbols_L9 (nI n) ups (nI (syN up i).1, nI i, nI (syN up i).2.2, S) = (if nI (up i) = 0 then some (Sum.inl (nI (syN up i).1 + (1 : Int32), nI i + (1 : Int32), nI (syN up i).2.2, S)) else bd (Block_tellZeros_f (nI (syN up i).1) S (nI (syN up i).2.2)) (fun u10 => gd (ix u10.2 2251) (some (Sum.inl ((0 : Int32), nI i + (1 : Int32), u10.2 + (1 : Int32), upd u10.1 u10.2.toNatClampNeg (nI (up i) + (1 : Int32))))))) := by
        unfold Block_makeSymbols_L9 Block_makeSymbols_J66
        show (if nI n ≤ nI i then _ else gd (ix (nI i) 2250) (if ups (nI i).toNatClampNeg = 0 then some (Sum.inl (nI (syN up i).1 + (1 : Int32), nI i + (1 : Int32), nI (syN up i).2.2, S)) else bd (Block_tellZeros_f (nI (syN up i).1) S (nI (syN up i).2.2)) (fun u10 => gd (ix (nI i) 2250) (gd (ix u10.2 2251) (some (Sum.inl ((0 : Int32), nI i + (1 : Int32), u10.2 + (1 : Int32), upd u10.1 u10.2.toNatClampNeg (ups (nI i).toNatClampNeg + (1 : Int32))))))))) = _
        rw [if_neg (nI_ge hi (by omega)), nI_clamp (show i < 2 ^ 31 by omega), hu i hi, ixN (show i < 2250 by omega) (by omega)]
        rfl
      rw [hL]
      by_cases h0 : up i = 0
      · refine ⟨(nI ((syN up i).1 + 1), nI (i + 1), nI (syN up i).2.2, S), ?_, S, ?_, ?_⟩
        · rw [if_pos (by rw [h0]; rfl), nI_1, nI_1]
        · show _ = (nI (syN up (i + 1)).1, nI (i + 1), nI (syN up (i + 1)).2.2, S)
          rw [show syN up (i + 1) = ((syN up i).1 + 1, (syN up i).2.1, (syN up i).2.2) from if_pos h0]
        · show RS (syN up (i + 1)).2.2 S (syN up (i + 1)).2.1
          rw [show syN up (i + 1) = ((syN up i).1 + 1, (syN up i).2.1, (syN up i).2.2) from if_pos h0]
          exact hS
      · refine ⟨(nI 0, nI (i + 1), nI ((tzN (syN up i).2.1 (syN up i).2.2 (syN up i).1).2 + 1), upd (tz S (syN up i).2.2 (syN up i).1).1 (tzN (syN up i).2.1 (syN up i).2.2 (syN up i).1).2 (nI (up i + 1))), ?_, upd (tz S (syN up i).2.2 (syN up i).1).1 (tzN (syN up i).2.1 (syN up i).2.2 (syN up i).1).2 (nI (up i + 1)), ?_, ?_⟩
        · rw [if_neg (nI_ne0 (by omega) (by omega)), block_zeros (by omega), bd_s, t1]
          show gd (ix (nI (tzN (syN up i).2.1 (syN up i).2.2 (syN up i).1).2) 2251) (some (Sum.inl ((0 : Int32), nI i + (1 : Int32), nI (tzN (syN up i).2.1 (syN up i).2.2 (syN up i).1).2 + (1 : Int32), upd (tz S (syN up i).2.2 (syN up i).1).1 (nI (tzN (syN up i).2.1 (syN up i).2.2 (syN up i).1).2).toNatClampNeg (nI (up i) + (1 : Int32))))) = _
          rw [ixN (show (tzN (syN up i).2.1 (syN up i).2.2 (syN up i).1).2 < 2251 by omega) (by omega), nI_clamp (show (tzN (syN up i).2.1 (syN up i).2.2 (syN up i).1).2 < 2 ^ 31 by omega), nI_1, nI_1, nI_1]
          rfl
        · show _ = (nI (syN up (i + 1)).1, nI (i + 1), nI (syN up (i + 1)).2.2, _)
          rw [show syN up (i + 1) = (0, updN (tzN (syN up i).2.1 (syN up i).2.2 (syN up i).1).1 (tzN (syN up i).2.1 (syN up i).2.2 (syN up i).1).2 (up i + 1), (tzN (syN up i).2.1 (syN up i).2.2 (syN up i).1).2 + 1) from if_neg h0]
        · show RS (syN up (i + 1)).2.2 _ (syN up (i + 1)).2.1
          rw [show syN up (i + 1) = (0, updN (tzN (syN up i).2.1 (syN up i).2.2 (syN up i).1).1 (tzN (syN up i).2.1 (syN up i).2.2 (syN up i).1).2 (up i + 1), (tzN (syN up i).2.1 (syN up i).2.2 (syN up i).1).2 + 1) from if_neg h0]
          exact RS_upd t2
    · rintro s ⟨S, rfl, hS⟩
      refine ⟨(nI (syN up n).1, nI (syN up n).2.2, S), ?_, rfl, rfl, hS⟩
      show (if nI n ≤ nI n then _ else _) = _
      rw [if_pos (nI_le (Nat.le_refl n) (by omega))]
  obtain ⟨⟨z, m, S⟩, e1, hz, hm, hS⟩ := l1
  have hz : z = nI (syN up n).1 := hz
  have hm : m = nI (syN up n).2.2 := hm
  have hS : RS (syN up n).2.2 S (syN up n).2.1 := hS
  obtain ⟨b1, b2⟩ := sy_b hb n (Nat.le_refl _)
  obtain ⟨t1, t2, t3, t4, t5, t6⟩ := tz_rel (syN up n).1 (syN up n).1 (syN up n).2.2 S (syN up n).2.1 (Nat.le_refl _) hS
  refine ⟨upd (tz S (syN up n).2.2 (syN up n).1).1 (tzN (syN up n).2.1 (syN up n).2.2 (syN up n).1).2 (nI (c + 1)), ?_, RS_upd t2⟩
  unfold Block_makeSymbols_f
  rw [e1, bd_s, hz, hm]
  show bd (Block_tellZeros_f (nI (syN up n).1) S (nI (syN up n).2.2)) _ = _
  rw [block_zeros (by omega), bd_s, t1]
  show gd (ix (nI (tzN (syN up n).2.1 (syN up n).2.2 (syN up n).1).2) 2251) (some (nI (tzN (syN up n).2.1 (syN up n).2.2 (syN up n).1).2 + (1 : Int32), upd (tz S (syN up n).2.2 (syN up n).1).1 (nI (tzN (syN up n).2.1 (syN up n).2.2 (syN up n).1).2).toNatClampNeg (nI c + (1 : Int32)))) = _
  rw [ixN (show (tzN (syN up n).2.1 (syN up n).2.2 (syN up n).1).2 < 2251 by omega) (by omega), nI_clamp (show (tzN (syN up n).2.1 (syN up n).2.2 (syN up n).1).2 < 2 ^ 31 by omega), nI_1, nI_1]
  rfl
/-- the reference's collect -/
theorem or01 (a b : Bool) : nI a.toNat ||| nI b.toNat = nI (a || b).toNat := by
  cases a <;> cases b <;> decide
theorem collect_eq {n : Nat} {told list0 : Nat → Int32} {t : Nat → Nat} (hn : n ≤ 2250) (ht : ∀ j, j < n → told j = nI (t j) ∧ t j < 256) :
    ∃ L, Model_collect_f (nI n) told list0 = some (nI (cnt (us t n) 256), L) ∧ RS (cnt (us t n) 256) L (nth (us t n)) := by
  have l1 : ∃ p : Int32 × (Nat → Int32), lpF (Model_collect_L7 (nI n) told) gas ((0 : Int32), (0 : Int32), list0) = some p ∧ p.1 = nI (cnt (us t n) 256) ∧ ∀ b, b < 256 → us t n b = true → p.2 (cnt (us t n) b) = nI b := by
    refine lp_for (fun i s => ∃ f, s = (nI i, nI (cnt (us t n) i), f) ∧ ∀ b, b < i → us t n b = true → f (cnt (us t n) b) = nI b) _ (i0 := 0) (N := 256) (Nat.zero_le _) (by omega) ?_ ?_ ⟨_, rfl, fun b h => absurd h (Nat.not_lt_zero _)⟩
    · rintro i s _ hi ⟨f, rfl, hf⟩
      have hin : lpF (Model_collect_L18 (nI n) told (nI i, nI (cnt (us t n) i), f)) gas ((0 : Int32), (0 : Int32)) = some (nI (us t n i).toNat) := by
        have key : lpF (Model_collect_L18 (nI n) told (nI i, nI (cnt (us t n) i), f)) gas (nI (us t 0 i).toNat, nI 0) = some (nI (us t n i).toNat) := by
          refine lp_gas (fun k => (nI (us t k i).toNat, nI k)) (Nat.zero_le n) (by omega) ?_ ?_
          · intro k _ hk
            obtain ⟨h1, h2⟩ := ht k hk
            show (if nI n ≤ nI k then _ else gd (ix (nI k) 2250) (if told (nI k).toNatClampNeg = nI i then some (Sum.inl (nI (us t k i).toNat ||| nI (true : Bool).toNat, nI k + (1 : Int32))) else some (Sum.inl (nI (us t k i).toNat ||| nI (false : Bool).toNat, nI k + (1 : Int32))))) = _
            rw [if_neg (nI_ge hk (by omega)), nI_clamp (show k < 2 ^ 31 by omega), h1, ixN (show k < 2250 by omega) (by omega), gd_t, or01, or01, nI_1, us_s]
            by_cases h3 : t k = i
            · rw [if_pos (by rw [h3]), decide_eq_true h3]
            · rw [if_neg (by rw [nI_eq (by omega) (by omega)]; exact h3), decide_eq_false h3]
          · show (if nI n ≤ nI n then _ else _) = _
            rw [if_pos (nI_le (Nat.le_refl n) (by omega))]
        exact key
      have hc := cnt_le (us t n) i
      have hL : Model_collect_L7 (nI n) told (nI i, nI (cnt (us t n) i), f) = (if nI (us t n i).toNat = 0 then some (Sum.inl (nI (i + 1), nI (cnt (us t n) i), f)) else some (Sum.inl (nI (i + 1), nI (cnt (us t n) i + 1), upd f (cnt (us t n) i) (nI i)))) := by
        unfold Model_collect_L7 Model_collect_J74
        show (if nI 256 ≤ nI i then _ else bd (lpF (Model_collect_L18 (nI n) told (nI i, nI (cnt (us t n) i), f)) gas ((0 : Int32), (0 : Int32))) (fun v8 => if v8 = 0 then some (Sum.inl (nI i + (1 : Int32), nI (cnt (us t n) i), f)) else gd (ix (nI (cnt (us t n) i)) 256) (some (Sum.inl (nI i + (1 : Int32), nI (cnt (us t n) i) + (1 : Int32), upd f (nI (cnt (us t n) i)).toNatClampNeg (nI i)))))) = _
        rw [if_neg (nI_ge hi (by omega)), hin, bd_s, ixN (show cnt (us t n) i < 256 by omega) (by omega), nI_clamp (show cnt (us t n) i < 2 ^ 31 by omega), nI_1, nI_1]
        rfl
      rw [hL]
      cases hui : us t n i with
      | true =>
        refine ⟨(nI (i + 1), nI (cnt (us t n) i + 1), upd f (cnt (us t n) i) (nI i)), ?_, upd f (cnt (us t n) i) (nI i), ?_, fun b hb hb2 => ?_⟩
        · rw [if_neg (by decide)]
        · rw [cnt_s, tN_t hui]
        · rcases Nat.lt_or_ge b i with h3 | h3
          · have h4 := cnt_mon_n (us t n) (show b + 1 ≤ i from h3)
            rw [cnt_s, tN_t hb2] at h4
            rw [pk_un (by omega)]
            exact hf b h3 hb2
          · rw [show b = i by omega, pk_us]
      | false =>
        refine ⟨(nI (i + 1), nI (cnt (us t n) i), f), ?_, f, ?_, fun b hb hb2 => ?_⟩
        · rw [if_pos (by decide)]
        · rw [cnt_s, tN_f hui, Nat.add_zero (cnt (us t n) i)]
        · rcases Nat.lt_or_ge b i with h3 | h3
          · exact hf b h3 hb2
          · rw [show b = i by omega, hui] at hb2
            cases hb2
    · rintro s ⟨f, rfl, hf⟩
      refine ⟨(nI (cnt (us t n) 256), f), ?_, rfl, hf⟩
      show (if nI 256 ≤ nI 256 then _ else _) = _
      rw [if_pos (nI_le (Nat.le_refl 256) (by omega))]
  obtain ⟨⟨c1, L⟩, e1, hc1, hL⟩ := l1
  have hc1 : c1 = nI (cnt (us t n) 256) := hc1
  refine ⟨L, ?_, list_RS hL⟩
  unfold Model_collect_f
  rw [e1, bd_s, hc1]
/-- the reference's tellPlaces -/
theorem tellPlaces_eq {n c : Nat} {last list0 up0 S0 : Nat → Int32} {l g0 : Nat → Nat} (hn : n ≤ 2250) (hc : c ≤ 256) (hl : ∀ j, j < n → last j = nI (l j) ∧ l j < 256) (hg : RS c list0 g0) (hg2 : ∀ j, g0 j ≤ 256) (hin : ∀ i, i < n → ∃ a, a < c ∧ g0 a = l i) :
    ∃ L U S, Model_tellPlaces_f (nI n) last list0 up0 S0 (nI c) = some (nI (smN (upN l g0 c) n), L, U, S) ∧ RS n U (upN l g0 c) ∧ RS (smN (upN l g0 c) n) S (ssN (upN l g0 c) n c) := by
  have hb : ∀ i, i < n → upN l g0 c i < c := fun i hi => (up_in hin hi).1
  generalize hup : upN l g0 c = up at *
  have l1 : ∃ p : Int32 × Int32 × (Nat → Int32) × (Nat → Int32) × (Nat → Int32), lpF (Model_tellPlaces_L9 (nI n) last) gas ((0 : Int32), (0 : Int32), (0 : Int32), list0, up0, S0) = some p ∧ p.1 = nI (syN up n).1 ∧ p.2.1 = nI (syN up n).2.2 ∧ RS n p.2.2.2.1 up ∧ RS (syN up n).2.2 p.2.2.2.2 (syN up n).2.1 := by
    refine lp_for (fun i s => ∃ f A S, s = (nI (syN up i).1, nI i, nI (syN up i).2.2, f, A, S) ∧ RS c f (lsN l g0 c i) ∧ RS i A up ∧ RS (syN up i).2.2 S (syN up i).2.1) _ (i0 := 0) (N := n) (Nat.zero_le _) (by omega) ?_ ?_ ⟨_, _, _, rfl, hg, fun j h => absurd h (Nat.not_lt_zero _), fun j h => absurd h (Nat.not_lt_zero _)⟩
    · rintro i s _ hi ⟨f, A, S, rfl, hf, hA, hS⟩
      obtain ⟨h1, h2⟩ := hl i hi
      obtain ⟨h3, h4, h5⟩ := up_in hin hi
      rw [hup] at h3 h4 h5
      obtain ⟨b1, b2⟩ := sy_b hb i (by omega)
      obtain ⟨t1, t2, t3, t4, t5, t6⟩ := tz_rel (syN up i).1 (syN up i).1 (syN up i).2.2 S (syN up i).2.1 (Nat.le_refl _) hS
      have hat : lpF (Model_tellPlaces_L19 (nI (syN up i).1, nI i, nI (syN up i).2.2, f, A, S) last) gas (0 : Int32) = some (nI (up i)) := by
        refine lp_gas (fun k => nI k) (i0 := 0) (N := up i) (Nat.zero_le _) (by omega) ?_ ?_
        · intro k _ hk
          show gd (ix (nI k) 256) (gd (ix (nI i) 2250) (if f (nI k).toNatClampNeg = last (nI i).toNatClampNeg then some (Sum.inr (nI k)) else some (Sum.inl (nI k + (1 : Int32))))) = _
          have h6 := lsN_b (l := l) (c := c) hg2 i k
          rw [ixN (show k < 256 by omega) (by omega), ixN (show i < 2250 by omega) (by omega), nI_clamp (show k < 2 ^ 31 by omega), nI_clamp (show i < 2 ^ 31 by omega), h1, hf k (by omega), gd_t, gd_t, if_neg (by rw [nI_eq (by omega) (by omega)]; exact h5 k hk), nI_1]
        · show gd (ix (nI (up i)) 256) (gd (ix (nI i) 2250) (if f (nI (up i)).toNatClampNeg = last (nI i).toNatClampNeg then some (Sum.inr (nI (up i))) else some (Sum.inl (nI (up i) + (1 : Int32))))) = _
          rw [ixN (show up i < 256 by omega) (by omega), ixN (show i < 2250 by omega) (by omega), nI_clamp (show up i < 2 ^ 31 by omega), nI_clamp (show i < 2 ^ 31 by omega), h1, hf _ h3, h4, gd_t, gd_t, if_pos rfl]
      have hfm : RS c (mtf f (up i)) (lsN l g0 c (i + 1)) := by
        have h6 := RS_mtf h3 hf
        have h7 : lsN l g0 c (i + 1) = mtfN (lsN l g0 c i) (up i) := by
          rw [← hup]
          rfl
        rw [h7]
        exact h6
      have hAm : RS (i + 1) (upd A i (nI (up i))) up := by
        intro j hj
        rcases Nat.lt_or_ge j i with h6 | h6
        · rw [pk_un (by omega)]
          exact hA j h6
        · rw [show j = i by omega, pk_us]
      have hL : Model_tellPlaces_L9 (nI n) last (nI (syN up i).1, nI i, nI (syN up i).2.2, f, A, S) = (if nI (up i) = 0 then some (Sum.inl (nI ((syN up i).1 + 1), nI (i + 1), nI (syN up i).2.2, mtf f (up i), upd A i (nI (up i)), S)) else bd (Model_tellZeros_f (nI (syN up i).1) (nI (syN up i).2.2) S) (fun u14 => gd (ix u14.1 2251) (some (Sum.inl ((0 : Int32), nI (i + 1), u14.1 + (1 : Int32), mtf f (up i), upd A i (nI (up i)), upd u14.2 u14.1.toNatClampNeg (nI (up i + 1))))))) := by
        unfold Model_tellPlaces_L9 Model_tellPlaces_J89
        show (if nI n ≤ nI i then _ else bd (lpF (Model_tellPlaces_L19 (nI (syN up i).1, nI i, nI (syN up i).2.2, f, A, S) last) gas (0 : Int32)) (fun v10 => bd (Model_toFront_f v10 f) (fun u11 => gd (ix (nI i) 2250) (if v10 = 0 then some (Sum.inl (nI (syN up i).1 + (1 : Int32), nI i + (1 : Int32), nI (syN up i).2.2, u11.2, upd A (nI i).toNatClampNeg v10, S)) else bd (Model_tellZeros_f (nI (syN up i).1) (nI (syN up i).2.2) S) (fun u14 => gd (ix u14.1 2251) (some (Sum.inl ((0 : Int32), nI i + (1 : Int32), u14.1 + (1 : Int32), u11.2, upd A (nI i).toNatClampNeg v10, upd u14.2 u14.1.toNatClampNeg (v10 + (1 : Int32)))))))))) = _
        rw [if_neg (nI_ge hi (by omega)), hat, bd_s, toFront_eq (by omega), bd_s, ixN (show i < 2250 by omega) (by omega), nI_clamp (show i < 2 ^ 31 by omega), nI_1, nI_1, nI_1]
        rfl
      rw [hL]
      by_cases h0 : up i = 0
      · refine ⟨_, by rw [if_pos (by rw [h0]; rfl)], mtf f (up i), upd A i (nI (up i)), S, ?_, hfm, hAm, ?_⟩
        · show _ = (nI (syN up (i + 1)).1, nI (i + 1), nI (syN up (i + 1)).2.2, _, _, _)
          rw [show syN up (i + 1) = ((syN up i).1 + 1, (syN up i).2.1, (syN up i).2.2) from if_pos h0]
        · show RS (syN up (i + 1)).2.2 _ (syN up (i + 1)).2.1
          rw [show syN up (i + 1) = ((syN up i).1 + 1, (syN up i).2.1, (syN up i).2.2) from if_pos h0]
          exact hS
      · refine ⟨(nI 0, nI (i + 1), nI ((tzN (syN up i).2.1 (syN up i).2.2 (syN up i).1).2 + 1), mtf f (up i), upd A i (nI (up i)), upd (tz S (syN up i).2.2 (syN up i).1).1 (tzN (syN up i).2.1 (syN up i).2.2 (syN up i).1).2 (nI (up i + 1))), ?_, _, _, upd (tz S (syN up i).2.2 (syN up i).1).1 (tzN (syN up i).2.1 (syN up i).2.2 (syN up i).1).2 (nI (up i + 1)), ?_, hfm, hAm, ?_⟩
        · rw [if_neg (nI_ne0 (by omega) (by omega)), model_zeros (by omega), bd_s, t1]
          show gd (ix (nI (tzN (syN up i).2.1 (syN up i).2.2 (syN up i).1).2) 2251) (some (Sum.inl ((0 : Int32), nI (i + 1), nI (tzN (syN up i).2.1 (syN up i).2.2 (syN up i).1).2 + (1 : Int32), mtf f (up i), upd A i (nI (up i)), upd (tz S (syN up i).2.2 (syN up i).1).1 (nI (tzN (syN up i).2.1 (syN up i).2.2 (syN up i).1).2).toNatClampNeg (nI (up i + 1))))) = _
          rw [ixN (show (tzN (syN up i).2.1 (syN up i).2.2 (syN up i).1).2 < 2251 by omega) (by omega), nI_clamp (show (tzN (syN up i).2.1 (syN up i).2.2 (syN up i).1).2 < 2 ^ 31 by omega), nI_1]
          rfl
        · show _ = (nI (syN up (i + 1)).1, nI (i + 1), nI (syN up (i + 1)).2.2, _, _, _)
          rw [show syN up (i + 1) = (0, updN (tzN (syN up i).2.1 (syN up i).2.2 (syN up i).1).1 (tzN (syN up i).2.1 (syN up i).2.2 (syN up i).1).2 (up i + 1), (tzN (syN up i).2.1 (syN up i).2.2 (syN up i).1).2 + 1) from if_neg h0]
        · show RS (syN up (i + 1)).2.2 _ (syN up (i + 1)).2.1
          rw [show syN up (i + 1) = (0, updN (tzN (syN up i).2.1 (syN up i).2.2 (syN up i).1).1 (tzN (syN up i).2.1 (syN up i).2.2 (syN up i).1).2 (up i + 1), (tzN (syN up i).2.1 (syN up i).2.2 (syN up i).1).2 + 1) from if_neg h0]
          exact RS_upd t2
    · rintro s ⟨f, A, S, rfl, hf, hA, hS⟩
      refine ⟨(nI (syN up n).1, nI (syN up n).2.2, f, A, S), ?_, rfl, rfl, hA, hS⟩
      show (if nI n ≤ nI n then _ else _) = _
      rw [if_pos (nI_le (Nat.le_refl n) (by omega))]
  obtain ⟨⟨z, m, L, A, S⟩, e1, hz, hm, hA, hS⟩ := l1
  have hz : z = nI (syN up n).1 := hz
  have hm : m = nI (syN up n).2.2 := hm
  have hS : RS (syN up n).2.2 S (syN up n).2.1 := hS
  obtain ⟨b1, b2⟩ := sy_b hb n (Nat.le_refl _)
  obtain ⟨t1, t2, t3, t4, t5, t6⟩ := tz_rel (syN up n).1 (syN up n).1 (syN up n).2.2 S (syN up n).2.1 (Nat.le_refl _) hS
  refine ⟨L, A, upd (tz S (syN up n).2.2 (syN up n).1).1 (tzN (syN up n).2.1 (syN up n).2.2 (syN up n).1).2 (nI (c + 1)), ?_, hA, RS_upd t2⟩
  unfold Model_tellPlaces_f
  rw [e1, bd_s, hz, hm]
  show bd (Model_tellZeros_f (nI (syN up n).1) (nI (syN up n).2.2) S) _ = _
  rw [model_zeros (by omega), bd_s, t1]
  show gd (ix (nI (tzN (syN up n).2.1 (syN up n).2.2 (syN up n).1).2) 2251) (some (nI (tzN (syN up n).2.1 (syN up n).2.2 (syN up n).1).2 + (1 : Int32), L, A, upd (tz S (syN up n).2.2 (syN up n).1).1 (nI (tzN (syN up n).2.1 (syN up n).2.2 (syN up n).1).2).toNatClampNeg (nI c + (1 : Int32)))) = _
  rw [ixN (show (tzN (syN up n).2.1 (syN up n).2.2 (syN up n).1).2 < 2251 by omega) (by omega), nI_clamp (show (tzN (syN up n).2.1 (syN up n).2.2 (syN up n).1).2 < 2 ^ 31 by omega), nI_1, nI_1]
  rfl
