/-! BITS, the reference's: the pieces of a block -/
def MWp (s : bs) (p : (Nat → Int32) × Int32) : Prop := MW s p.1 p.2
theorem put_mp {s : bs} {k : Nat} {v : Int32} {p : (Nat → Int32) × Int32} (hk : k ≤ 32) (h : MWp s p) (hl : blen s + k ≤ 2000000) :
    ∃ p2, Model_put_f v (nI k) p.1 p.2 = some p2 ∧ MWp (pus s (pb v k)) p2 := by
  obtain ⟨a, b, h1, h2⟩ := put_m (v := v) hk h hl
  exact ⟨(a, b), h1, h2⟩
theorem some_eq {n lo w : Nat} {told : Nat → Int32} {t : Nat → Nat} {x : Bool} (hn : n ≤ 2250) (hlo : lo + w ≤ 1000) (ht : ∀ j, j < n → told j = nI (t j) ∧ t j < 256) (hx : x = true ↔ ∃ k, k < n ∧ lo ≤ t k ∧ t k < lo + w) :
    Model_some_f (nI n) told (nI lo) (nI w) = some (nI x.toNat) := by
  have l1 : ∃ e : Unit ⊕ Unit, lpF (Model_some_L2 (nI n) told (nI lo) (nI w)) gas (0 : Int32) = some e ∧ ((e = Sum.inl () ∧ x = true) ∨ (e = Sum.inr () ∧ x = false)) := by
    refine lp_totg (fun s => ∃ k, s = nI k ∧ k ≤ n ∧ ∀ j, j < k → ¬ (lo ≤ t j ∧ t j < lo + w)) (fun s => n - s.toNatClampNeg) _ ?_ ⟨0, rfl, Nat.zero_le _, fun j h => absurd h (Nat.not_lt_zero _)⟩ (by show n - _ < 1000000; omega)
    rintro s ⟨k, rfl, hk, hno⟩
    rcases Nat.lt_or_ge k n with h | h
    · obtain ⟨t1, t2⟩ := ht k h
      have hL : Model_some_L2 (nI n) told (nI lo) (nI w) (nI k) = (if nI (t k) < nI lo then some (Sum.inl (nI (k + 1))) else (if nI (lo + w) ≤ nI (t k) then some (Sum.inl (nI (k + 1))) else some (Sum.inr (Sum.inl ())))) := by
        unfold Model_some_L2 Model_some_J34
        rw [if_neg (nI_ge h (by omega)), nI_clamp (show k < 2 ^ 31 by omega), t1, nI_add, ixN (show k < 2250 by omega) (by omega), nI_1]
        rfl
      rw [hL]
      have hgo : ¬ (lo ≤ t k ∧ t k < lo + w) → (∃ k2, nI (k + 1) = nI k2 ∧ k2 ≤ n ∧ ∀ j, j < k2 → ¬ (lo ≤ t j ∧ t j < lo + w)) ∧ n - (nI (k + 1)).toNatClampNeg < n - (nI k).toNatClampNeg := by
        intro hq
        refine ⟨⟨k + 1, rfl, h, fun j hj => ?_⟩, ?_⟩
        · rcases Nat.lt_or_ge j k with h2 | h2
          · exact hno j h2
          · rw [show j = k by omega]
            exact hq
        · rw [nI_clamp (by omega), nI_clamp (by omega)]
          omega
      by_cases h1 : t k < lo
      · rw [if_pos (nI_lt h1 (by omega))]
        exact Or.inl ⟨nI (k + 1), rfl, hgo (by omega)⟩
      · rw [if_neg (nI_nlt (by omega) (by omega))]
        by_cases h2 : lo + w ≤ t k
        · rw [if_pos (nI_le h2 (by omega))]
          exact Or.inl ⟨nI (k + 1), rfl, hgo (by omega)⟩
        · rw [if_neg (nI_ge (by omega) (by omega))]
          exact Or.inr ⟨Sum.inl (), rfl, Or.inl ⟨rfl, hx.mpr ⟨k, h, by omega, by omega⟩⟩⟩
    · have hkn : k = n := by omega
      subst hkn
      refine Or.inr ⟨Sum.inr (), ?_, Or.inr ⟨rfl, ?_⟩⟩
      · unfold Model_some_L2
        rw [if_pos (nI_le (Nat.le_refl k) (by omega))]
      · cases hxx : x with
        | false => rfl
        | true =>
          obtain ⟨j, hj, h1, h2⟩ := hx.mp hxx
          exact absurd ⟨h1, h2⟩ (hno j hj)
  obtain ⟨e, e1, h⟩ := l1
  unfold Model_some_f
  rw [e1, bd_s]
  rcases h with ⟨rfl, rfl⟩ | ⟨rfl, rfl⟩
  · rfl
  · rfl
theorem u16_us {t : Nat → Nat} {n s : Nat} (ht : ∀ j, j < n → t j < 256) : u16 (us t n) s = true ↔ ∃ k, k < n ∧ 16 * s ≤ t k ∧ t k < 16 * s + 16 := by
  rw [u16_iff]
  constructor
  · intro ⟨b, hb, h1, h2⟩
    obtain ⟨j, hj, h3⟩ := us_iff.mp h1
    exact ⟨j, hj, by omega, by omega⟩
  · intro ⟨k, hk, h1, h2⟩
    exact ⟨t k, ht k hk, us_iff.mpr ⟨k, hk, rfl⟩, by omega⟩
theorem ub2_skip {u : Nat → Bool} {s : Nat} (h : u16 u s = false) : ∀ i, i ≤ 16 → ub2 u (16 * s + i) = ub2 u (16 * s) := by
  intro i
  induction i with
  | zero => intro _; rfl
  | succ i ih =>
    intro hi
    show ub2 u (16 * s + i) ++ (if u16 u ((16 * s + i) / 16) = true then [u (16 * s + i)] else []) = _
    rw [show (16 * s + i) / 16 = s by omega, h, if_neg Bool.noConfusion, List.append_nil, ih (by omega)]
theorem writeBytes_m {s : bs} {n : Nat} {told : Nat → Int32} {t : Nat → Nat} {p : (Nat → Int32) × Int32} (hn : n ≤ 2250) (ht : ∀ j, j < n → told j = nI (t j) ∧ t j < 256) (h : MWp s p) (hl : blen s + 272 ≤ 2000000) :
    ∃ p2, Model_writeBytes_f (nI n) told p.1 p.2 = some p2 ∧ MWp (pus s (ub1 (us t n) 16 ++ ub2 (us t n) 256)) p2 := by
  have ht2 : ∀ j, j < n → t j < 256 := fun j hj => (ht j hj).2
  have hs16 : ∀ i, i < 16 → Model_some_f (nI n) told (nI 16 * nI i) (nI 16) = some (nI (u16 (us t n) i).toNat) := by
    intro i hi
    rw [pk_mul]
    exact some_eq hn (by omega) ht (u16_us ht2)
  have hs1 : ∀ i j, i < 16 → j < 16 → Model_some_f (nI n) told (nI 16 * nI i + nI j) (nI 1) = some (nI (us t n (16 * i + j)).toNat) := by
    intro i j hi hj
    rw [pk_mul, nI_add]
    refine some_eq hn (by omega) ht ?_
    rw [us_iff]
    constructor
    · intro ⟨k, hk, h1⟩
      exact ⟨k, hk, by omega, by omega⟩
    · intro ⟨k, hk, h1, h2⟩
      exact ⟨k, hk, by omega⟩
  generalize us t n = u at *
  have l1 : ∃ p2, lpF (Model_writeBytes_L2 (nI n) told) gas ((0 : Int32), p) = some p2 ∧ MWp (pus s (ub1 u 16)) p2 := by
    refine lp_for (fun i s1 => ∃ p, s1 = (nI i, p) ∧ MWp (pus s (ub1 u i)) p) _ (i0 := 0) (N := 16) (by omega) (by omega) ?_ ?_ ⟨p, rfl, by rw [show ub1 u 0 = [] from rfl, pus_nil]; exact h⟩
    · rintro i s1 _ hi ⟨p, rfl, hp⟩
      have hlen := pus_len (l := ub1 u i) h.ok
      rw [ub1_len] at hlen
      obtain ⟨p2, e1, h1⟩ := put_mp (v := nI (u16 u i).toNat) (k := 1) (by omega) hp (by omega)
      rw [pb_b, ← pus_app] at h1
      refine ⟨(nI (i + 1), p2), ?_, p2, rfl, h1⟩
      show (if nI 16 ≤ nI i then _ else bd (Model_some_f (nI n) told (nI 16 * nI i) (nI 16)) (fun u20 => bd (Model_put_f u20 (nI 1) p.1 p.2) (fun u21 => some (Sum.inl (nI i + (1 : Int32), u21))))) = _
      rw [if_neg (nI_ge hi (by omega)), hs16 i hi, bd_s, e1, bd_s, nI_1]
    · rintro s1 ⟨p, rfl, hp⟩
      refine ⟨p, ?_, hp⟩
      show (if nI 16 ≤ nI 16 then _ else _) = _
      rw [if_pos (nI_le (Nat.le_refl _) (by omega))]
  obtain ⟨p1, e1, h1⟩ := l1
  have hlen1 := pus_len (l := ub1 u 16) h.ok
  rw [ub1_len] at hlen1
  generalize hS : pus s (ub1 u 16) = S at *
  have l2 : ∃ p2, lpF (Model_writeBytes_L31 (nI n) told) gas ((0 : Int32), p1) = some p2 ∧ MWp (pus S (ub2 u 256)) p2 := by
    refine lp_for (fun i s1 => ∃ p, s1 = (nI i, p) ∧ MWp (pus S (ub2 u (16 * i))) p) _ (i0 := 0) (N := 16) (by omega) (by omega) ?_ ?_ ⟨p1, rfl, by rw [show ub2 u (16 * 0) = [] from rfl, pus_nil]; exact h1⟩
    · rintro i s1 _ hi ⟨p, rfl, hp⟩
      have hL : Model_writeBytes_L31 (nI n) told (nI i, p) = (if nI (u16 u i).toNat = 0 then some (Sum.inl (nI (i + 1), p)) else bd (lpF (Model_writeBytes_L55 (nI n) told (nI i, p)) gas ((0 : Int32), p)) (fun v13 => some (Sum.inl (nI (i + 1), v13)))) := by
        show (if nI 16 ≤ nI i then _ else bd (Model_some_f (nI n) told (nI 16 * nI i) (nI 16)) (fun u9 => (if u9 = 0 then some (Sum.inl (nI i + (1 : Int32), p)) else bd (lpF (Model_writeBytes_L55 (nI n) told (nI i, p)) gas ((0 : Int32), p)) (fun v13 => some (Sum.inl (nI i + (1 : Int32), v13)))))) = _
        rw [if_neg (nI_ge hi (by omega)), hs16 i hi, bd_s, nI_1]
      rw [hL]
      cases hu : u16 u i with
      | false =>
        refine ⟨(nI (i + 1), p), by rw [if_pos (by decide)], p, rfl, ?_⟩
        rw [show 16 * (i + 1) = 16 * i + 16 by omega, ub2_skip hu 16 (Nat.le_refl _)]
        exact hp
      | true =>
        have l3 : ∃ p2, lpF (Model_writeBytes_L55 (nI n) told (nI i, p)) gas ((0 : Int32), p) = some p2 ∧ MWp (pus S (ub2 u (16 * i + 16))) p2 := by
          refine lp_for (fun j s1 => ∃ p, s1 = (nI j, p) ∧ MWp (pus S (ub2 u (16 * i + j))) p) _ (i0 := 0) (N := 16) (by omega) (by omega) ?_ ?_ ⟨p, rfl, by rw [Nat.add_zero]; exact hp⟩
          · rintro j s1 _ hj ⟨p3, rfl, hp3⟩
            have hlen := pus_len (l := ub2 u (16 * i + j)) h1.ok
            have hub := ub2_len u (16 * i + j)
            obtain ⟨p2, e2, h2⟩ := put_mp (v := nI (u (16 * i + j)).toNat) (k := 1) (by omega) hp3 (by omega)
            rw [pb_b, ← pus_app] at h2
            refine ⟨(nI (j + 1), p2), ?_, p2, rfl, ?_⟩
            · show (if nI 16 ≤ nI j then _ else bd (Model_some_f (nI n) told (nI 16 * nI i + nI j) (nI 1)) (fun u16 => bd (Model_put_f u16 (nI 1) p3.1 p3.2) (fun u17 => some (Sum.inl (nI j + (1 : Int32), u17))))) = _
              rw [if_neg (nI_ge hj (by omega)), hs1 i j hi hj, bd_s, e2, bd_s, nI_1]
            · rw [← Nat.add_assoc, ub2, show (16 * i + j) / 16 = i by omega, if_pos hu]
              exact h2
          · rintro s1 ⟨p3, rfl, hp3⟩
            refine ⟨p3, ?_, hp3⟩
            show (if nI 16 ≤ nI 16 then _ else _) = _
            rw [if_pos (nI_le (Nat.le_refl _) (by omega))]
        obtain ⟨p2, e2, h2⟩ := l3
        refine ⟨(nI (i + 1), p2), by rw [if_neg (by decide), e2, bd_s], p2, rfl, ?_⟩
        rw [show 16 * (i + 1) = 16 * i + 16 by omega]
        exact h2
    · rintro s1 ⟨p, rfl, hp⟩
      refine ⟨p, ?_, hp⟩
      show (if nI 16 ≤ nI 16 then _ else _) = _
      rw [if_pos (nI_le (Nat.le_refl _) (by omega))]
  obtain ⟨p2, e2, h2⟩ := l2
  refine ⟨p2, ?_, by rw [pus_app, hS]; exact h2⟩
  unfold Model_writeBytes_f
  show bd (lpF (Model_writeBytes_L2 (nI n) told) gas ((0 : Int32), p)) _ = _
  rw [e1, bd_s]
  show bd (lpF (Model_writeBytes_L31 (nI n) told) gas ((0 : Int32), p1)) _ = _
  rw [e2]
  rfl
