/-! ROTATED, the reference's: the whole -/
def cpf (g f : Nat → Int32) (c : Nat) : Nat → Int32 := fun j => if j < c then g j else f j
theorem cpf_0 (g f : Nat → Int32) : cpf g f 0 = f := by
  funext j
  exact if_neg (by omega)
theorem cpf_s (g f : Nat → Int32) (c : Nat) : upd (cpf g f c) c (g c) = cpf g f (c + 1) := by
  funext j
  unfold upd cpf
  by_cases h1 : j = c
  · subst h1
    rw [if_pos rfl, if_pos (by omega)]
  · rw [if_neg h1]
    by_cases h2 : j < c
    · rw [if_pos h2, if_pos (by omega)]
    · rw [if_neg h2, if_neg (by omega)]
theorem mcopy_eq {n : Nat} {g f : Nat → Int32} (hn : n ≤ 2250) : lpF (Model_rotate_L103 (nI n) g) gas ((0 : Int32), f) = some (cpf g f n) := by
  have key : lpF (Model_rotate_L103 (nI n) g) gas (nI 0, cpf g f 0) = some (cpf g f n) := by
    refine lp_gas (fun i => (nI i, cpf g f i)) (Nat.zero_le n) (by omega) ?_ ?_
    · intro i _ hi
      show (if nI n ≤ nI i then _ else gd (ix (nI i) 2250) (gd (ix (nI i) 2250) (some (Sum.inl (nI i + (1 : Int32), upd (cpf g f i) (nI i).toNatClampNeg (g (nI i).toNatClampNeg)))))) = _
      rw [if_neg (nI_ge hi (by omega)), ixN (show i < 2250 by omega) (by omega), nI_1, nI_clamp (show i < 2 ^ 31 by omega), cpf_s]
      rfl
    · show (if nI n ≤ nI n then _ else _) = _
      rw [if_pos (nI_le (Nat.le_refl n) (by omega))]
  rw [cpf_0] at key
  exact key
/-- all pieces of w stand sorted -/
def mpw (t : Nat → Nat) (n w : Nat) (od : Nat → Int32) : Prop := ∀ p, p * w < n → mp (rot t n) od (p * w) (min (p * w + w) n)
theorem mp_congr {K : Nat → Nat} {od od2 : Nat → Int32} {lo hi : Nat} (h : ∀ j, lo ≤ j → j < hi → od2 j = od j) (hm : mp K od lo hi) : mp K od2 lo hi := by
  intro q hq
  obtain ⟨b, h1, h2, h3, h4⟩ := hm q hq
  exact ⟨b, h1, h2, by rw [h _ (by omega) (by omega)]; exact h3, h4⟩
theorem mpass {n w : Nat} {od f M0 : Nat → Int32} {t : Nat → Nat} (h0 : 0 < n) (hn : n ≤ 2250) (hw0 : 0 < w) (hw : w < n) (hf : ∀ j, j < n → f j = nI (t j) ∧ t j < 256) (h : mpw t n w od) :
    ∃ M, lpF (Model_rotate_L35 (nI n) (nI w, od, M0) f) gas ((0 : Int32), M0) = some M ∧ mpw t n (w + w) M := by
  refine lp_totg (fun s => ∃ p M, s = (nI (p * (w + w)), M) ∧ p * (w + w) < n + (w + w) ∧ ∀ q, q < p → q * (w + w) < n → mp (rot t n) M (q * (w + w)) (min (q * (w + w) + (w + w)) n)) (fun s => 10000 - s.1.toNatClampNeg) _ ?_ ⟨0, M0, by rw [Nat.zero_mul]; rfl, by omega, fun q hq => absurd hq (Nat.not_lt_zero _)⟩ (by show 10000 - _ < 1000000; omega)
  rintro s ⟨p, M, rfl, hp, hM⟩
  by_cases hpn : n ≤ p * (w + w)
  · refine Or.inr ⟨M, ?_, fun q hq => ?_⟩
    · show (if nI n ≤ nI (p * (w + w)) then _ else _) = _
      rw [if_pos (nI_le hpn (by omega))]
    · refine hM q (Nat.lt_of_not_le (fun h2 => ?_)) hq
      have := Nat.mul_le_mul_right (w + w) h2
      omega
  · have e2 : p * (w + w) = 2 * p * w := by rw [Nat.mul_add, Nat.mul_comm 2 p, Nat.mul_assoc, Nat.two_mul, Nat.mul_add]
    have e3 : (2 * p + 1) * w = 2 * p * w + w := by rw [Nat.add_mul, Nat.one_mul]
    have hA := h (2 * p) (by omega)
    obtain ⟨mid, hmid⟩ : ∃ mid, mid = min (p * (w + w) + w) n := ⟨_, rfl⟩
    obtain ⟨hi, hhi⟩ : ∃ hi, hi = min (p * (w + w) + (w + w)) n := ⟨_, rfl⟩
    have hA2 : mp (rot t n) od (p * (w + w)) mid := by
      rw [hmid, e2]
      exact hA
    have hB2 : mp (rot t n) od mid hi := by
      by_cases hq : p * (w + w) + w < n
      · have hB := h (2 * p + 1) (by omega)
        rw [e3, ← e2] at hB
        rw [show mid = p * (w + w) + w by omega, show hi = min (p * (w + w) + w + w) n by omega]
        exact hB
      · intro q hq2
        omega
    obtain ⟨M2, e4, hM2, hfr⟩ := merge_eq (M0 := M) h0 hn (show p * (w + w) ≤ mid by omega) (show mid ≤ hi by omega) (by omega) hf hA2 hB2
    have hJ89 : ∀ j0 j1 : Int32, j0 = nI hi → j1 = nI mid → Model_rotate_J89 (nI w, od, M0) (nI n) f (nI (p * (w + w)), M) j0 j1 (nI (p * (w + w))) = some (Sum.inl (nI ((p + 1) * (w + w)), M2)) := by
      intro j0 j1 hj0 hj1
      unfold Model_rotate_J89
      rw [hj0, hj1]
      show bd (Model_merge_f (nI hi) od (nI mid) (nI n) f (nI (p * (w + w))) M) (fun u31 => some (Sum.inl (nI (p * (w + w)) + nI 2 * nI w, u31))) = _
      rw [e4, bd_s, pk_mul, nI_add, show p * (w + w) + 2 * w = (p + 1) * (w + w) by rw [Nat.add_mul]; omega]
    have hJ65 : ∀ j0 : Int32, j0 = nI mid → Model_rotate_J65 (nI n) (nI (p * (w + w)), M) (nI w, od, M0) f j0 (nI (p * (w + w))) = some (Sum.inl (nI ((p + 1) * (w + w)), M2)) := by
      intro j0 hj0
      show (if nI n ≤ nI (p * (w + w)) + nI 2 * nI w then Model_rotate_J89 (nI w, od, M0) (nI n) f (nI (p * (w + w)), M) (nI n) j0 (nI (p * (w + w))) else Model_rotate_J89 (nI w, od, M0) (nI n) f (nI (p * (w + w)), M) (nI (p * (w + w)) + nI 2 * nI w) j0 (nI (p * (w + w)))) = _
      rw [pk_mul, nI_add]
      by_cases hq : n ≤ p * (w + w) + 2 * w
      · rw [if_pos (nI_le hq (by omega))]
        exact hJ89 _ _ (by rw [show hi = n by omega]) hj0
      · rw [if_neg (nI_ge (by omega) (by omega))]
        exact hJ89 _ _ (by rw [show hi = p * (w + w) + 2 * w by omega]) hj0
    refine Or.inl ⟨(nI ((p + 1) * (w + w)), M2), ?_, ⟨p + 1, M2, rfl, by rw [Nat.add_mul]; omega, fun q hq hqn => ?_⟩, ?_⟩
    · show (if nI n ≤ nI (p * (w + w)) then _ else if nI n ≤ nI (p * (w + w)) + nI w then Model_rotate_J65 (nI n) (nI (p * (w + w)), M) (nI w, od, M0) f (nI n) (nI (p * (w + w))) else Model_rotate_J65 (nI n) (nI (p * (w + w)), M) (nI w, od, M0) f (nI (p * (w + w)) + nI w) (nI (p * (w + w)))) = _
      rw [if_neg (nI_ge (by omega) (by omega)), nI_add]
      by_cases hq : n ≤ p * (w + w) + w
      · rw [if_pos (nI_le hq (by omega))]
        exact hJ65 _ (by rw [show mid = n by omega])
      · rw [if_neg (nI_ge (by omega) (by omega))]
        exact hJ65 _ (by rw [show mid = p * (w + w) + w by omega])
    · rcases Nat.lt_or_ge q p with h2 | h2
      · have h3 := Nat.mul_le_mul_right (w + w) (show q + 1 ≤ p from h2)
        rw [Nat.add_mul, Nat.one_mul] at h3
        exact mp_congr (fun j hj1 hj2 => hfr j (Or.inl (by omega))) (hM q h2 hqn)
      · have h3 : q = p := by omega
        subst h3
        rw [← hhi]
        exact hM2
    · show 10000 - (nI ((p + 1) * (w + w))).toNatClampNeg < 10000 - (nI (p * (w + w))).toNatClampNeg
      have h5 : (p + 1) * (w + w) = p * (w + w) + (w + w) := by rw [Nat.add_mul, Nat.one_mul]
      rw [h5, nI_clamp (by omega), nI_clamp (by omega)]
      omega
theorem rotate_m {n : Nat} {od f M0 L0 : Nat → Int32} {og0 : Int32} {t : Nat → Nat} (h0 : 0 < n) (hn : n ≤ 2250) (hf : ∀ j, j < n → f j = nI (t j) ∧ t j < 256) :
    ∃ O M L, Model_rotate_f (nI n) od f M0 L0 og0 = some (O, M, L, nI (kpos (rot t n) n 0)) ∧ ∀ b, b < n → L (kpos (rot t n) n b) = nI (t ((b + n - 1) % n)) := by
  have hKr : ∀ x y, x < n → y < n → rot t n x = rot t n y → x = y := fun x y hx hy h => lexk_inj (fun _ h => h) (fun _ _ _ _ h => h) hx hy h
  have e1 : lpF (Model_rotate_L2 (nI n)) gas ((0 : Int32), od) = some (idr od n) := by
    have key : lpF (Model_rotate_L2 (nI n)) gas (nI 0, idr od 0) = some (idr od n) := by
      refine lp_gas (fun i => (nI i, idr od i)) (Nat.zero_le n) (by omega) ?_ ?_
      · intro i _ hi
        show (if nI n ≤ nI i then _ else gd (ix (nI i) 2250) (some (Sum.inl (nI i + (1 : Int32), upd (idr od i) (nI i).toNatClampNeg (nI i))))) = _
        rw [if_neg (nI_ge hi (by omega)), ixN (show i < 2250 by omega) (by omega), nI_1, nI_clamp (show i < 2 ^ 31 by omega), idr_s]
        rfl
      · show (if nI n ≤ nI n then _ else _) = _
        rw [if_pos (nI_le (Nat.le_refl n) (by omega))]
    rw [idr_0] at key
    exact key
  have hst : mpw t n 1 (idr od n) := by
    intro p hp q hq
    rw [Nat.mul_one] at hp hq ⊢
    have h1 : q = 0 := by omega
    subst h1
    refine ⟨p, Nat.le_refl _, by omega, if_pos (by omega), ?_⟩
    rw [show min (p + 1) n = p + 1 by omega]
    exact cnt_none (fun j hj => decide_eq_false (fun h => by
      have h2 : j = p := by omega
      rw [h2] at h
      omega))
  have l1 : ∃ e : (Nat → Int32) × (Nat → Int32), lpF (Model_rotate_L25 (nI n) f) gas ((1 : Int32), idr od n, M0) = some e ∧ mp (rot t n) e.1 0 n := by
    refine lp_totg (fun s => ∃ w O M, s = (nI w, O, M) ∧ 0 < w ∧ w < 5000 ∧ mpw t n w O) (fun s => 5000 - s.1.toNatClampNeg) _ ?_ ⟨1, _, _, rfl, by omega, by omega, hst⟩ (by show 5000 - _ < 1000000; omega)
    rintro s ⟨w, O, M, rfl, hw0, hw, hs⟩
    by_cases h1 : n ≤ w
    · refine Or.inr ⟨(O, M), ?_, ?_⟩
      · show (if nI n ≤ nI w then _ else _) = _
        rw [if_pos (nI_le h1 (by omega))]
      · have h2 := hs 0 (by omega)
        rw [Nat.zero_mul, Nat.zero_add, show min w n = n by omega] at h2
        exact h2
    · obtain ⟨M2, e2, hM2⟩ := mpass (M0 := M) h0 hn hw0 (by omega) hf hs
      refine Or.inl ⟨(nI (w + w), cpf M2 O n, M2), ?_, ⟨w + w, _, _, rfl, by omega, by omega, fun p hp => mp_congr (fun j hj1 hj2 => ?_) (hM2 p hp)⟩, ?_⟩
      · show (if nI n ≤ nI w then _ else bd (lpF (Model_rotate_L35 (nI n) (nI w, O, M) f) gas ((0 : Int32), M)) (fun v22 => bd (lpF (Model_rotate_L103 (nI n) v22) gas ((0 : Int32), O)) (fun v25 => some (Sum.inl (nI w * nI 2, v25, v22))))) = _
        rw [if_neg (nI_ge (by omega) (by omega)), e2, bd_s, mcopy_eq hn, bd_s, pk_mul, show w * 2 = w + w by omega]
      · exact if_pos (by omega)
      · show 5000 - (nI (w + w)).toNatClampNeg < 5000 - (nI w).toNatClampNeg
        rw [nI_clamp (by omega), nI_clamp (by omega)]
        omega
  obtain ⟨⟨O, M⟩, e2, hO⟩ := l1
  have hO2 : ∀ q, q < n → ∃ b, b < n ∧ O q = nI b ∧ kpos (rot t n) n b = q := by
    intro q hq
    obtain ⟨b, h1, h2, h3, h4⟩ := hO q hq
    refine ⟨b, h2, by rw [Nat.zero_add] at h3; exact h3, ?_⟩
    rw [← h4]
    refine cnt_congr (fun j hj => ?_)
    rw [decide_eq_decide]
    omega
  have l2 : ∃ e : (Nat → Int32) × Int32, lpF (Model_rotate_L138 (nI n) (O, M) f) gas ((0 : Int32), L0, og0) = some e ∧ e.2 = nI (kpos (rot t n) n 0) ∧ ∀ b, b < n → e.1 (kpos (rot t n) n b) = nI (t ((b + n - 1) % n)) := by
    refine lp_for (fun i s => ∃ og L, s = (nI i, L, og) ∧ (kpos (rot t n) n 0 < i → og = nI (kpos (rot t n) n 0)) ∧ ∀ b, b < n → kpos (rot t n) n b < i → L (kpos (rot t n) n b) = nI (t ((b + n - 1) % n))) _ (i0 := 0) (N := n) (Nat.zero_le _) (by omega) ?_ ?_ ⟨_, _, rfl, fun h => absurd h (Nat.not_lt_zero _), fun b _ h => absurd h (Nat.not_lt_zero _)⟩
    · rintro i s _ hi ⟨og, L, rfl, hog, hL⟩
      obtain ⟨x, hx, hox, hxi⟩ := hO2 i hi
      have hpm : (x + n - 1) % n < n := Nat.mod_lt _ h0
      have hL2 : ∀ b, b < n → kpos (rot t n) n b < i + 1 → upd L i (nI (t ((x + n - 1) % n))) (kpos (rot t n) n b) = nI (t ((b + n - 1) % n)) := by
        intro b hb hbi
        by_cases h : kpos (rot t n) n b = i
        · have h2 : b = x := hKr b x hb hx ((kpos_eq_iff hb hx).mp (by omega))
          rw [h, pk_us, h2]
        · rw [pk_un h]
          exact hL b hb (by omega)
      have hS : Model_rotate_L138 (nI n) (O, M) f (nI i, L, og) = (if nI x = 0 then some (Sum.inl (nI (i + 1), upd L i (nI (t ((x + n - 1) % n))), nI i)) else some (Sum.inl (nI (i + 1), upd L i (nI (t ((x + n - 1) % n))), og))) := by
        have e5 : O (nI i).toNatClampNeg + nI n - (1 : Int32) - (O (nI i).toNatClampNeg + nI n - (1 : Int32)) / nI n * nI n = nI ((x + n - 1) % n) := by
          rw [nI_clamp (show i < 2 ^ 31 by omega), hox, nI_add, show nI (x + n) - (1 : Int32) = nI (x + n - 1) from pk_sub (show 1 ≤ x + n by omega), pk_rem (by omega) h0 (by omega)]
        unfold Model_rotate_L138 Model_rotate_J189
        show (if nI n ≤ nI i then _ else gd (ix (nI i) 2250) (gd (nz (nI n)) (gd (ix (O (nI i).toNatClampNeg + nI n - (1 : Int32) - (O (nI i).toNatClampNeg + nI n - (1 : Int32)) / nI n * nI n) 2250) (gd (ix (nI i) 2250) (gd (ix (nI i) 2250) (if O (nI i).toNatClampNeg = 0 then some (Sum.inl (nI i + (1 : Int32), upd L (nI i).toNatClampNeg (f (O (nI i).toNatClampNeg + nI n - (1 : Int32) - (O (nI i).toNatClampNeg + nI n - (1 : Int32)) / nI n * nI n).toNatClampNeg), nI i)) else some (Sum.inl (nI i + (1 : Int32), upd L (nI i).toNatClampNeg (f (O (nI i).toNatClampNeg + nI n - (1 : Int32) - (O (nI i).toNatClampNeg + nI n - (1 : Int32)) / nI n * nI n).toNatClampNeg), og)))))))) = _
        rw [e5, if_neg (nI_ge hi (by omega)), nI_clamp (show i < 2 ^ 31 by omega), hox, ixN (show i < 2250 by omega) (by omega), nz_nI h0 (by omega), ixN (show (x + n - 1) % n < 2250 by omega) (by omega), nI_clamp (show (x + n - 1) % n < 2 ^ 31 by omega), (hf _ hpm).1, nI_1]
        rfl
      rw [hS]
      by_cases hx0 : x = 0
      · exact ⟨_, by rw [if_pos (by rw [hx0]; rfl)], _, _, rfl, fun _ => by rw [← hxi, hx0], hL2⟩
      · refine ⟨_, by rw [if_neg (nI_ne0 (by omega) (by omega))], _, _, rfl, fun h => hog ?_, hL2⟩
        have h2 : kpos (rot t n) n 0 ≠ i := fun q => hx0 (hKr x 0 hx h0 ((kpos_eq_iff hx h0).mp (by omega)))
        omega
    · rintro s ⟨og, L, rfl, hog, hL⟩
      refine ⟨(L, og), ?_, hog (kpos_lt h0), fun b hb => hL b hb (kpos_lt hb)⟩
      show (if nI n ≤ nI n then _ else _) = _
      rw [if_pos (nI_le (Nat.le_refl n) (by omega))]
  obtain ⟨⟨L, og⟩, e3, hog, hL⟩ := l2
  have hog : og = nI (kpos (rot t n) n 0) := hog
  refine ⟨O, M, L, ?_, hL⟩
  unfold Model_rotate_f
  rw [e1, bd_s, e2, bd_s, e3, hog]
  rfl
/-- LAST: what both write -/
def lst (t : Nat → Nat) (n : Nat) (l : Nat → Nat) : Prop := ∀ b, b < n → l (kpos (rot t n) n b) = t ((b + n - 1) % n)
