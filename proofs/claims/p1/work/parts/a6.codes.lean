/-! CODES: the numbers, from the lengths -/
theorem shk : ∀ k, k < 32 → ((nI k &&& 31).toBitVec.smod 32).toNat = k := by decide +kernel
def fstN (L : Nat → Nat) (n : Nat) : Nat → Nat
  | 0 => 0
  | l + 1 => (fstN L n l + cnt (fun j => decide (L j = l)) n) * 2
theorem fst_b {L : Nat → Nat} {n : Nat} (hn : n ≤ 258) : ∀ l, fstN L n l + 516 ≤ 258 * 2 ^ (l + 1) := by
  intro l
  induction l with
  | zero => show 0 + 516 ≤ 258 * 2 ^ 1; omega
  | succ l ih =>
    have h1 := cnt_le (fun j => decide (L j = l)) n
    show (fstN L n l + cnt (fun j => decide (L j = l)) n) * 2 + 516 ≤ 258 * 2 ^ (l + 1 + 1)
    rw [Nat.pow_succ 2 (l + 1)]
    omega
theorem fst_b2 {L : Nat → Nat} {n l : Nat} (hn : n ≤ 258) (hl : l ≤ 20) : fstN L n l + 516 ≤ 541065216 := by
  have h1 := fst_b (L := L) hn l
  have h2 : 2 ^ (l + 1) ≤ 2 ^ 21 := Nat.pow_le_pow_right (by omega) (by omega)
  omega
/-- the number of symbol k's code -/
def cdN (L : Nat → Nat) (n k : Nat) : Nat := fstN L n (L k) + cnt (fun j => decide (L j = L k)) k
theorem shl1 {x : Nat} (h : x < 2 ^ 31) : nI x <<< ((1 : Int32) &&& 31) = nI (x * 2) := by
  have := pk_shlN (n := x) ((1 : Int32) &&& 31) 1 (by decide) (by omega)
  rwa [Nat.pow_one] at this
theorem number_eq {n t : Nat} {lens cds : Nat → Int32} {L : Nat → Nat} (hn : n ≤ 258) (ht6 : t < 6) (hL : ∀ k, k < n → lens (258 * t + k) = nI (L k) ∧ 1 ≤ L k ∧ L k ≤ 20) :
    ∃ C, Model_number_f (nI n) (nI t) lens cds = some C ∧ (∀ k, k < n → C (258 * t + k) = nI (cdN L n k)) ∧ ∀ j, (j < 258 * t ∨ 258 * t + n ≤ j) → C j = cds j := by
  have l1 : ∃ C, lpF (Model_number_L5 (nI n) (nI t) lens) gas ((0 : Int32), (1 : Int32), cds) = some C ∧ (∀ k, k < n → C (258 * t + k) = nI (cdN L n k)) ∧ ∀ j, (j < 258 * t ∨ 258 * t + n ≤ j) → C j = cds j := by
    refine lp_for (fun l s => ∃ C, s = (nI (fstN L n l), nI l, C) ∧ (∀ k, k < n → L k < l → C (258 * t + k) = nI (cdN L n k)) ∧ ∀ j, (j < 258 * t ∨ 258 * t + n ≤ j) → C j = cds j) _ (i0 := 1) (N := 21) (by omega) (by omega) ?_ ?_ ⟨cds, ?_, fun k hk h => ?_, fun _ _ => rfl⟩
    · rintro l s hl0 hl ⟨C, rfl, hC, hfr⟩
      have hfb := fst_b2 (L := L) hn (show l ≤ 20 by omega)
      have l2 : ∃ p : Int32 × (Nat → Int32), lpF (Model_number_L15 (nI n) (nI t) lens (nI (fstN L n l), nI l, C)) gas (nI (fstN L n l), (0 : Int32), C) = some p ∧ p.1 = nI (fstN L n l + cnt (fun j => decide (L j = l)) n) ∧ (∀ k, k < n → L k < l + 1 → p.2 (258 * t + k) = nI (cdN L n k)) ∧ ∀ j, (j < 258 * t ∨ 258 * t + n ≤ j) → p.2 j = cds j := by
        refine lp_for (fun i s => ∃ C, s = (nI (fstN L n l + cnt (fun j => decide (L j = l)) i), nI i, C) ∧ (∀ k, k < n → (L k < l ∨ (L k = l ∧ k < i)) → C (258 * t + k) = nI (cdN L n k)) ∧ ∀ j, (j < 258 * t ∨ 258 * t + n ≤ j) → C j = cds j) _ (i0 := 0) (N := n) (Nat.zero_le _) (by omega) ?_ ?_ ⟨C, rfl, fun k hk h => hC k hk (by omega), hfr⟩
        · rintro i s _ hi ⟨C, rfl, hC, hfr⟩
          obtain ⟨hl1, hl2, hl3⟩ := hL i hi
          have hci := cnt_le (fun j => decide (L j = l)) i
          have hS : Model_number_L15 (nI n) (nI t) lens (nI (fstN L n l), nI l, C) (nI (fstN L n l + cnt (fun j => decide (L j = l)) i), nI i, C) = (if nI (L i) = nI l then some (Sum.inl (nI (fstN L n l + cnt (fun j => decide (L j = l)) i + 1), nI (i + 1), upd C (258 * t + i) (nI (fstN L n l + cnt (fun j => decide (L j = l)) i)))) else some (Sum.inl (nI (fstN L n l + cnt (fun j => decide (L j = l)) i), nI (i + 1), C))) := by
            generalize fstN L n l + cnt (fun j => decide (L j = l)) i = q
            show (if nI n ≤ nI i then _ else gd (ix (nI 258 * nI t + nI i) 1548) (if lens (nI 258 * nI t + nI i).toNatClampNeg = nI l then gd (ix (nI 258 * nI t + nI i) 1548) (some (Sum.inl (nI q + (1 : Int32), nI i + (1 : Int32), upd C (nI 258 * nI t + nI i).toNatClampNeg (nI q)))) else some (Sum.inl (nI q, nI i + (1 : Int32), C)))) = _
            rw [if_neg (nI_ge hi (by omega)), pk_mul, nI_add, ixN (show 258 * t + i < 1548 by omega) (by omega), nI_clamp (show 258 * t + i < 2 ^ 31 by omega), hl1, nI_1, nI_1]
            rfl
          show ∃ s2, Model_number_L15 (nI n) (nI t) lens _ (nI (fstN L n l + cnt (fun j => decide (L j = l)) i), nI i, C) = some (Sum.inl s2) ∧ _
          by_cases hli : L i = l
          · refine ⟨(nI (fstN L n l + cnt (fun j => decide (L j = l)) i + 1), nI (i + 1), upd C (258 * t + i) (nI (fstN L n l + cnt (fun j => decide (L j = l)) i))), ?_, upd C (258 * t + i) (nI (fstN L n l + cnt (fun j => decide (L j = l)) i)), ?_, fun k hk h => ?_, fun j hj => ?_⟩
            · refine Eq.trans ?_ (hS.trans (if_pos (by rw [hli])))
              rfl
            · rw [cnt_s, tN_t (decide_eq_true hli), Nat.add_assoc]
            · by_cases hk2 : k = i
              · rw [hk2, pk_us]
                unfold cdN
                rw [hli]
              · rw [pk_un (by omega)]
                exact hC k hk (by omega)
            · rw [pk_un (by omega)]
              exact hfr j hj
          · refine ⟨(nI (fstN L n l + cnt (fun j => decide (L j = l)) i), nI (i + 1), C), ?_, C, ?_, fun k hk h => hC k hk ?_, hfr⟩
            · refine Eq.trans ?_ (hS.trans (if_neg (by rw [nI_eq (by omega) (by omega)]; exact hli)))
              rfl
            · rw [cnt_s, tN_f (decide_eq_false hli), Nat.add_zero (cnt (fun j => decide (L j = l)) i)]
            · rcases h with h | ⟨h, h2⟩
              · exact Or.inl h
              · refine Or.inr ⟨h, ?_⟩
                have : k ≠ i := fun q => hli (by rw [← q]; exact h)
                omega
        · rintro s ⟨C, rfl, hC, hfr⟩
          refine ⟨(nI (fstN L n l + cnt (fun j => decide (L j = l)) n), C), ?_, rfl, fun k hk h => hC k hk (by omega), hfr⟩
          show (if nI n ≤ nI n then _ else _) = _
          rw [if_pos (nI_le (Nat.le_refl n) (by omega))]
      obtain ⟨⟨c1, C2⟩, e2, hc1, hC2, hfr2⟩ := l2
      have hc1 : c1 = nI (fstN L n l + cnt (fun j => decide (L j = l)) n) := hc1
      have hcn := cnt_le (fun j => decide (L j = l)) n
      refine ⟨(nI (fstN L n (l + 1)), nI (l + 1), C2), ?_, C2, rfl, hC2, hfr2⟩
      show (if nI 20 < nI l then _ else bd (lpF (Model_number_L15 (nI n) (nI t) lens (nI (fstN L n l), nI l, C)) gas (nI (fstN L n l), (0 : Int32), C)) (fun v8 => some (Sum.inl (v8.1 <<< ((1 : Int32) &&& 31), nI l + (1 : Int32), v8.2)))) = _
      rw [if_neg (nI_nlt (by omega) (by omega)), e2, bd_s, hc1, shl1 (by omega), nI_1]
      rfl
    · rintro s ⟨C, rfl, hC, hfr⟩
      refine ⟨C, ?_, fun k hk => hC k hk (by have := hL k hk; omega), hfr⟩
      show (if nI 20 < nI 21 then _ else _) = _
      rw [if_pos (by decide)]
    · show ((0 : Int32), (1 : Int32), cds) = (nI ((0 + cnt (fun j => decide (L j = 0)) n) * 2), nI 1, cds)
      rw [cnt_none (fun j hj => decide_eq_false (by have := hL j hj; omega))]
      rfl
    · have := hL k hk
      omega
  obtain ⟨C, e1, hC, hfr⟩ := l1
  refine ⟨C, ?_, hC, hfr⟩
  unfold Model_number_f
  rw [e1]
  rfl
theorem numberSeen_eq {n t : Nat} {lens cds : Nat → Int32} {L : Nat → Nat} (hn : n + 2 ≤ 258) (ht6 : t < 6) (hL : ∀ k, k < n + 2 → lens (258 * t + k) = nI (L k) ∧ 1 ≤ L k ∧ L k ≤ 20) :
    ∃ C, Model_numberSeen_f (nI n) (nI t) lens cds = some C ∧ (∀ k, k < n + 2 → C (258 * t + k) = nI (cdN L (n + 2) k)) ∧ ∀ j, (j < 258 * t ∨ 258 * t + (n + 2) ≤ j) → C j = cds j := by
  have h15 : Model_numberSeen_L13 (nI n) (nI t) lens = Model_number_L15 (nI (n + 2)) (nI t) lens := by
    funext s1 s6
    show _ = (if nI (n + 2) ≤ s6.2.1 then _ else _)
    rw [← nI_add n 2]
    rfl
  have h5 : Model_numberSeen_L4 (nI n) (nI t) lens = Model_number_L5 (nI (n + 2)) (nI t) lens := by
    funext s1
    unfold Model_numberSeen_L4 Model_number_L5
    rw [h15]
  obtain ⟨C, e1, h2, h3⟩ := number_eq (cds := cds) hn ht6 hL
  refine ⟨C, ?_, h2, h3⟩
  rw [← e1]
  unfold Model_numberSeen_f Model_number_f
  rw [h5]
/-- all codes together, each counted 2 to the 20 less its length -/
def kf (L : Nat → Nat) (n : Nat) : Nat := sm (fun k => 2 ^ (20 - L k)) n
theorem kf_b {L : Nat → Nat} (hL : ∀ k : Nat, 1 ≤ L k) : ∀ n, kf L n ≤ 524288 * n := by
  intro n
  induction n with
  | zero => exact Nat.le_refl _
  | succ n ih =>
    have h1 : 2 ^ (20 - L n) ≤ 2 ^ 19 := Nat.pow_le_pow_right (by omega) (by have := hL n; omega)
    show kf L n + 2 ^ (20 - L n) ≤ _
    omega
theorem kf_b2 {L : Nat → Nat} {n : Nat} (hL : ∀ k, k < n → 1 ≤ L k) : ∀ m, m ≤ n → kf L m ≤ 524288 * m := by
  intro m
  induction m with
  | zero => intro _; exact Nat.le_refl _
  | succ m ih =>
    intro hm
    have h0 := ih (by omega)
    have h1 : 2 ^ (20 - L m) ≤ 2 ^ 19 := Nat.pow_le_pow_right (by omega) (by have := hL m (by omega); omega)
    show kf L m + 2 ^ (20 - L m) ≤ _
    omega
theorem shrW {l : Nat} (h : l ≤ 20) : (1048576 : Int32) >>> (nI l &&& 31) = nI (2 ^ (20 - l)) := by
  have h1 := pk_shrN (n := 1048576) (by omega) (nI l &&& 31) l (shk l (by omega))
  refine h1.trans (congrArg nI ?_)
  rw [show 1048576 = 2 ^ (20 - l) * 2 ^ l by rw [← Nat.pow_add, show 20 - l + l = 20 by omega]]
  exact Nat.mul_div_cancel _ (Nat.two_pow_pos l)
/-- what a table of the class holds -/
abbrev tab (L : Nat → Nat) (n : Nat) (counts firsts places codes sorted : Nat → Int32) : Prop :=
  (∀ l, l ≤ 20 → counts l = nI (cnt (fun j => decide (L j = l)) n)) ∧ (∀ l, l ≤ 20 → firsts l = nI (fstN L n l)) ∧ (∀ l, l ≤ 20 → places l = nI (cnt (fun j => decide (L j < l)) n)) ∧ (∀ k, k < n → codes k = nI (cdN L n k)) ∧ (∀ k, k < n → sorted (cnt (fun j => decide (L j < L k)) n + cnt (fun j => decide (L j = L k)) k) = nI k)
theorem tab.c {L : Nat → Nat} {n : Nat} {counts firsts places codes sorted : Nat → Int32} (h : tab L n counts firsts places codes sorted) : ∀ l, l ≤ 20 → counts l = nI (cnt (fun j => decide (L j = l)) n) := h.1
theorem tab.f {L : Nat → Nat} {n : Nat} {counts firsts places codes sorted : Nat → Int32} (h : tab L n counts firsts places codes sorted) : ∀ l, l ≤ 20 → firsts l = nI (fstN L n l) := h.2.1
theorem tab.p {L : Nat → Nat} {n : Nat} {counts firsts places codes sorted : Nat → Int32} (h : tab L n counts firsts places codes sorted) : ∀ l, l ≤ 20 → places l = nI (cnt (fun j => decide (L j < l)) n) := h.2.2.1
theorem tab.d {L : Nat → Nat} {n : Nat} {counts firsts places codes sorted : Nat → Int32} (h : tab L n counts firsts places codes sorted) : ∀ k, k < n → codes k = nI (cdN L n k) := h.2.2.2.1
theorem tab.s {L : Nat → Nat} {n : Nat} {counts firsts places codes sorted : Nat → Int32} (h : tab L n counts firsts places codes sorted) : ∀ k, k < n → sorted (cnt (fun j => decide (L j < L k)) n + cnt (fun j => decide (L j = L k)) k) = nI k := h.2.2.2.2
theorem srt_eq {L : Nat → Nat} {n k : Nat} (hk : k < n) : cnt (fun j => decide (L j < L k)) n + cnt (fun j => decide (L j = L k)) k = kpos (lexk L (fun x => x) n) n k := by
  rw [lexk_pos (fun _ h => h) hk]
  have h1 : cnt (fun y => decide (L y = L k ∧ y < k)) n = cnt (fun j => decide (L j = L k)) k := by
    rw [cnt_ext (show k ≤ n by omega) (fun j h1 _ => decide_eq_false (by omega))]
    refine cnt_congr (fun j hj => ?_)
    rw [decide_eq_decide]
    exact ⟨fun h => h.1, fun h => ⟨h, hj⟩⟩
  rw [h1]
  rfl
theorem assign_eq {n : Nat} {counts lens firsts places codes sorted : Nat → Int32} {L : Nat → Nat} (hn : n ≤ 258) (hL : ∀ k, k < n → lens k = nI (L k) ∧ 1 ≤ L k ∧ L k ≤ 20) (hf0 : firsts 0 = 0) (hp0 : places 0 = 0) :
    (kf L n ≤ 2 ^ 20 → ∃ c f p d s, CodeTable_assign_f counts (nI n) lens firsts places codes sorted = some ((1 : Int32), c, nI (kf L n), f, p, d, s) ∧ tab L n c f p d s ∧ f 0 = 0 ∧ p 0 = 0) ∧
    (2 ^ 20 < kf L n → ∃ c, CodeTable_assign_f counts (nI n) lens firsts places codes sorted = some ((0 : Int32), c, nI (kf L n), firsts, places, codes, sorted)) := by
  have hkb := kf_b2 (fun k hk => (hL k hk).2.1) n (Nat.le_refl _)
  have l1 : ∃ p : (Nat → Int32) × Int32, lpF (CodeTable_assign_L15 (nI n) lens) gas ((0 : Int32), flr counts 0 21 0, (0 : Int32)) = some p ∧ (∀ l, l ≤ 20 → p.1 l = nI (cnt (fun j => decide (L j = l)) n)) ∧ p.2 = nI (kf L n) := by
    refine lp_for (fun i s => ∃ c, s = (nI i, c, nI (kf L i)) ∧ ∀ l, l ≤ 20 → c l = nI (cnt (fun j => decide (L j = l)) i)) _ (i0 := 0) (N := n) (Nat.zero_le _) (by omega) ?_ ?_ ⟨_, rfl, fun l hl => ?_⟩
    · rintro i s _ hi ⟨c, rfl, hc⟩
      obtain ⟨h1, h2, h3⟩ := hL i hi
      refine ⟨(nI (i + 1), upd c (L i) (nI (cnt (fun j => decide (L j = L i)) i + 1)), nI (kf L (i + 1))), ?_, _, rfl, fun l hl => ?_⟩
      · show (if nI n ≤ nI i then _ else gd (ix (nI i) 258) (gd (ix (lens (nI i).toNatClampNeg) 21) (gd (ix (lens (nI i).toNatClampNeg) 21) (gd (ix (nI i) 258) (some (Sum.inl (nI i + (1 : Int32), upd c (lens (nI i).toNatClampNeg).toNatClampNeg (c (lens (nI i).toNatClampNeg).toNatClampNeg + (1 : Int32)), nI (kf L i) + ((1048576 : Int32) >>> (lens (nI i).toNatClampNeg &&& 31))))))))) = _
        rw [if_neg (nI_ge hi (by omega)), nI_clamp (show i < 2 ^ 31 by omega), h1, nI_clamp (show L i < 2 ^ 31 by omega), hc _ h3, shrW h3, nI_add, ixN (show i < 258 by omega) (by omega), ixN (show L i < 21 by omega) (by omega), nI_1, nI_1]
        rfl
      · by_cases h4 : l = L i
        · rw [h4, pk_us, cnt_s, tN_t (decide_eq_true rfl)]
        · rw [pk_un h4, hc l hl, cnt_s, tN_f (decide_eq_false (fun q => h4 q.symm)), Nat.add_zero]
    · rintro s ⟨c, rfl, hc⟩
      refine ⟨(c, nI (kf L n)), ?_, hc, rfl⟩
      show (if nI n ≤ nI n then _ else _) = _
      rw [if_pos (nI_le (Nat.le_refl n) (by omega))]
    · show (if 0 ≤ l ∧ l < 21 then (0 : Int32) else counts l) = _
      rw [if_pos (by omega)]
      rfl
  obtain ⟨⟨c1, fi⟩, e1, hc1, hfi⟩ := l1
  have hfi : fi = nI (kf L n) := hfi
  subst hfi
  have hc1 : ∀ l, l ≤ 20 → c1 l = nI (cnt (fun j => decide (L j = l)) n) := hc1
  have e0 : Arrays_fill0_f 21 (0 : Int32) counts = some (flr counts 0 21 0) := fill0_eq (by omega) 0 counts
  constructor
  · intro hk
    have l2 : ∃ p : (Nat → Int32) × (Nat → Int32), lpF (CodeTable_assign_L75 (c1, nI (kf L n))) gas ((1 : Int32), firsts, places) = some p ∧ (∀ l, l ≤ 20 → p.1 l = nI (fstN L n l)) ∧ ∀ l, l ≤ 20 → p.2 l = nI (cnt (fun j => decide (L j < l)) n) := by
      refine lp_for (fun i s => ∃ f p, s = (nI i, f, p) ∧ (∀ l, l < i → f l = nI (fstN L n l)) ∧ ∀ l, l < i → p l = nI (cnt (fun j => decide (L j < l)) n)) _ (i0 := 1) (N := 21) (by omega) (by omega) ?_ ?_ ⟨_, _, rfl, fun l hl => ?_, fun l hl => ?_⟩
      · rintro i s hi0 hi ⟨f, p, rfl, hf, hp⟩
        obtain ⟨k, rfl⟩ : ∃ k, i = k + 1 := ⟨i - 1, by omega⟩
        have hfb := fst_b2 (L := L) hn (show k ≤ 20 by omega)
        have hcn := cnt_le (fun j => decide (L j = k)) n
        have hcc : cnt (fun j => decide (L j < k + 1)) n = cnt (fun j => decide (L j < k)) n + cnt (fun j => decide (L j = k)) n := by
          refine cnt_or (fun j hj => ?_) (fun j hj h => ?_)
          · rw [← Bool.decide_or, decide_eq_decide]
            omega
          · simp only [decide_eq_true_eq, decide_eq_false_iff_not] at h ⊢
            omega
        refine ⟨(nI (k + 1 + 1), upd f (k + 1) (nI (fstN L n (k + 1))), upd p (k + 1) (nI (cnt (fun j => decide (L j < k + 1)) n))), ?_, _, _, rfl, fun l hl => ?_, fun l hl => ?_⟩
        · show (if nI 20 < nI (k + 1) then _ else gd (ix (nI (k + 1) - (1 : Int32)) 21) (gd (ix (nI (k + 1) - (1 : Int32)) 21) (gd (ix (nI (k + 1)) 21) (gd (ix (nI (k + 1) - (1 : Int32)) 21) (gd (ix (nI (k + 1) - (1 : Int32)) 21) (gd (ix (nI (k + 1)) 21) (some (Sum.inl (nI (k + 1) + (1 : Int32), upd f (nI (k + 1)).toNatClampNeg ((f (nI (k + 1) - (1 : Int32)).toNatClampNeg + c1 (nI (k + 1) - (1 : Int32)).toNatClampNeg) <<< ((1 : Int32) &&& 31)), upd p (nI (k + 1)).toNatClampNeg (p (nI (k + 1) - (1 : Int32)).toNatClampNeg + c1 (nI (k + 1) - (1 : Int32)).toNatClampNeg)))))))))) = _
          rw [if_neg (nI_nlt (by omega) (by omega)), nI_pred, nI_clamp (show k < 2 ^ 31 by omega), nI_clamp (show k + 1 < 2 ^ 31 by omega), hf k (by omega), hp k (by omega), hc1 k (by omega), nI_add, nI_add, shl1 (by omega), ixN (show k < 21 by omega) (by omega), ixN (show k + 1 < 21 by omega) (by omega), nI_1, hcc]
          rfl
        · by_cases h4 : l = k + 1
          · rw [h4, pk_us]
          · rw [pk_un h4]
            exact hf l (by omega)
        · by_cases h4 : l = k + 1
          · rw [h4, pk_us]
          · rw [pk_un h4]
            exact hp l (by omega)
      · rintro s ⟨f, p, rfl, hf, hp⟩
        refine ⟨(f, p), ?_, fun l hl => hf l (by omega), fun l hl => hp l (by omega)⟩
        show (if nI 20 < nI 21 then _ else _) = _
        rw [if_pos (by decide)]
      · rw [show l = 0 by omega, hf0]
        rfl
      · rw [show l = 0 by omega, hp0, cnt_none (fun j _ => decide_eq_false (by omega))]
        rfl
    obtain ⟨⟨f1, p1⟩, e2, hf1, hp1⟩ := l2
    have hf1 : ∀ l, l ≤ 20 → f1 l = nI (fstN L n l) := hf1
    have hp1 : ∀ l, l ≤ 20 → p1 l = nI (cnt (fun j => decide (L j < l)) n) := hp1
    have l3 : ∃ p : (Nat → Int32) × (Nat → Int32) × (Nat → Int32), lpF (CodeTable_assign_L145 (nI n) lens (f1, p1)) gas ((0 : Int32), flr c1 0 21 0, codes, sorted) = some p ∧ (∀ l, l ≤ 20 → p.1 l = nI (cnt (fun j => decide (L j = l)) n)) ∧ (∀ k, k < n → p.2.1 k = nI (cdN L n k)) ∧ ∀ k, k < n → p.2.2 (kpos (lexk L (fun x => x) n) n k) = nI k := by
      refine lp_for (fun i s => ∃ c d so, s = (nI i, c, d, so) ∧ (∀ l, l ≤ 20 → c l = nI (cnt (fun j => decide (L j = l)) i)) ∧ (∀ k, k < i → d k = nI (cdN L n k)) ∧ ∀ k, k < i → so (kpos (lexk L (fun x => x) n) n k) = nI k) _ (i0 := 0) (N := n) (Nat.zero_le _) (by omega) ?_ ?_ ⟨_, _, _, rfl, fun l hl => ?_, fun k h => absurd h (Nat.not_lt_zero _), fun k h => absurd h (Nat.not_lt_zero _)⟩
      · rintro i s _ hi ⟨c, d, so, rfl, hc, hd, hso⟩
        obtain ⟨h1, h2, h3⟩ := hL i hi
        have hse := srt_eq (L := L) hi
        have hkp := kpos_lt (K := lexk L (fun x => x) n) hi
        have hcd : fstN L n (L i) + cnt (fun j => decide (L j = L i)) i = cdN L n i := rfl
        refine ⟨(nI (i + 1), upd c (L i) (nI (cnt (fun j => decide (L j = L i)) i + 1)), upd d i (nI (cdN L n i)), upd so (kpos (lexk L (fun x => x) n) n i) (nI i)), ?_, _, _, _, rfl, fun l hl => ?_, fun k hk => ?_, fun k hk => ?_⟩
        · show (if nI n ≤ nI i then _ else gd (ix (nI i) 258) (gd (ix (lens (nI i).toNatClampNeg) 21) (gd (ix (lens (nI i).toNatClampNeg) 21) (gd (ix (nI i) 258) (gd (ix (lens (nI i).toNatClampNeg) 21) (gd (ix (lens (nI i).toNatClampNeg) 21) (gd (ix (p1 (lens (nI i).toNatClampNeg).toNatClampNeg + c (lens (nI i).toNatClampNeg).toNatClampNeg) 258) (gd (ix (lens (nI i).toNatClampNeg) 21) (gd (ix (lens (nI i).toNatClampNeg) 21) (some (Sum.inl (nI i + (1 : Int32), upd c (lens (nI i).toNatClampNeg).toNatClampNeg (c (lens (nI i).toNatClampNeg).toNatClampNeg + (1 : Int32)), upd d (nI i).toNatClampNeg (f1 (lens (nI i).toNatClampNeg).toNatClampNeg + c (lens (nI i).toNatClampNeg).toNatClampNeg), upd so (p1 (lens (nI i).toNatClampNeg).toNatClampNeg + c (lens (nI i).toNatClampNeg).toNatClampNeg).toNatClampNeg (nI i)))))))))))) ) = _
          rw [if_neg (nI_ge hi (by omega)), nI_clamp (show i < 2 ^ 31 by omega), h1, nI_clamp (show L i < 2 ^ 31 by omega), hc _ h3, hf1 _ h3, hp1 _ h3, nI_add, nI_add, hse, hcd, ixN (show i < 258 by omega) (by omega), ixN (show L i < 21 by omega) (by omega), ixN (show kpos (lexk L (fun x => x) n) n i < 258 by omega) (by omega), nI_clamp (show kpos (lexk L (fun x => x) n) n i < 2 ^ 31 by omega), nI_1, nI_1]
          rfl
        · by_cases h4 : l = L i
          · rw [h4, pk_us, cnt_s, tN_t (decide_eq_true rfl)]
          · rw [pk_un h4, hc l hl, cnt_s, tN_f (decide_eq_false (fun q => h4 q.symm)), Nat.add_zero]
        · by_cases h4 : k = i
          · rw [h4, pk_us]
          · rw [pk_un h4]
            exact hd k (by omega)
        · by_cases h4 : k = i
          · rw [h4, pk_us]
          · have h5 : kpos (lexk L (fun x => x) n) n k ≠ kpos (lexk L (fun x => x) n) n i := fun q => h4 (lexk_inj (fun _ h => h) (fun _ _ _ _ h => h) (show k < n by omega) hi ((kpos_eq_iff (by omega) hi).mp q))
            rw [pk_un h5]
            exact hso k (by omega)
      · rintro s ⟨c, d, so, rfl, hc, hd, hso⟩
        refine ⟨(c, d, so), ?_, hc, hd, hso⟩
        show (if nI n ≤ nI n then _ else _) = _
        rw [if_pos (nI_le (Nat.le_refl n) (by omega))]
      · show (if 0 ≤ l ∧ l < 21 then (0 : Int32) else c1 l) = _
        rw [if_pos (by omega)]
        rfl
    obtain ⟨⟨c2, d2, s2⟩, e3, hc2, hd2, hs2⟩ := l3
    refine ⟨c2, f1, p1, d2, s2, ?_, ⟨hc2, hf1, hp1, hd2, fun k hk => by rw [srt_eq hk]; exact hs2 k hk⟩, ?_, ?_⟩
    · unfold CodeTable_assign_f
      rw [e0, bd_s, e1, bd_s]
      show (if nI (kf L n) ≤ nI 1048576 then bd (lpF (CodeTable_assign_L75 (c1, nI (kf L n))) gas ((1 : Int32), firsts, places)) (fun v8 => bd (Arrays_fill0_f 21 (0 : Int32) c1) (fun u9 => bd (lpF (CodeTable_assign_L145 (nI n) lens v8) gas ((0 : Int32), u9, codes, sorted)) (fun v12 => some ((1 : Int32), v12.1, nI (kf L n), v8.1, v8.2, v12.2.1, v12.2.2)))) else _) = _
      rw [if_pos (nI_le (by omega) (by omega)), e2, bd_s, show Arrays_fill0_f 21 (0 : Int32) c1 = some (flr c1 0 21 0) from fill0_eq (by omega) 0 c1, bd_s, e3]
      rfl
    · rw [hf1 0 (by omega)]
      rfl
    · rw [hp1 0 (by omega), cnt_none (fun j _ => decide_eq_false (by omega))]
      rfl
  · intro hk
    refine ⟨c1, ?_⟩
    unfold CodeTable_assign_f
    rw [e0, bd_s, e1, bd_s]
    show (if nI (kf L n) ≤ nI 1048576 then _ else some ((0 : Int32), c1, nI (kf L n), firsts, places, codes, sorted)) = _
    rw [if_neg (nI_ge (by omega) (by omega))]
