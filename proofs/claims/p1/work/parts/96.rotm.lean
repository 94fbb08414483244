/-! ROTATED, the reference's: comparing and merging -/
theorem nz_nI {n : Nat} (h0 : 0 < n) (h : n < 2 ^ 31) : nz (nI n) = true := decide_eq_true (nI_ne0 h0 h)
theorem compare_eq {n x y : Nat} {f : Nat → Int32} {t : Nat → Nat} (h0 : 0 < n) (hn : n ≤ 2250) (hf : ∀ j, j < n → f j = nI (t j) ∧ t j < 256) (hx : x < n) (hy : y < n) :
    ∃ u, Model_compare_f (nI n) (nI x) (nI y) f = some u ∧ (0 < u ↔ rv t n y n < rv t n x n) := by
  have ht : ∀ j, j < n → t j < 256 := fun j hj => (hf j hj).2
  have l1 : ∃ e : (Int32 × Int32) ⊕ Unit, lpF (Model_compare_L2 (nI n) (nI x) (nI y) f) gas (0 : Int32) = some e ∧ ((∃ a b, e = Sum.inl (nI a, nI b) ∧ a < 256 ∧ b < 256 ∧ (b < a ↔ rv t n y n < rv t n x n)) ∨ (e = Sum.inr () ∧ ¬ rv t n y n < rv t n x n)) := by
    refine lp_totg (fun s => ∃ k, s = nI k ∧ k ≤ n ∧ rv t n x k = rv t n y k) (fun s => n - s.toNatClampNeg) _ ?_ ⟨0, rfl, Nat.zero_le _, rfl⟩ (by show n - _ < 1000000; omega)
    rintro s ⟨k, rfl, hk, he⟩
    rcases Nat.lt_or_ge k n with h | h
    · have mx := Nat.mod_lt (x + k) h0
      have my := Nat.mod_lt (y + k) h0
      have hL : Model_compare_L2 (nI n) (nI x) (nI y) f (nI k) = (if nI (t ((x + k) % n)) = nI (t ((y + k) % n)) then some (Sum.inl (nI (k + 1))) else some (Sum.inr (Sum.inl (nI (t ((x + k) % n)), nI (t ((y + k) % n)))))) := by
        unfold Model_compare_L2
        rw [if_neg (nI_ge h (by omega)), nI_add, nI_add, pk_rem (show x + k < 2 ^ 31 by omega) h0 (by omega), pk_rem (show y + k < 2 ^ 31 by omega) h0 (by omega), nz_nI h0 (by omega), ixN (show (x + k) % n < 2250 by omega) (by omega), ixN (show (y + k) % n < 2250 by omega) (by omega), nI_clamp (show (x + k) % n < 2 ^ 31 by omega), nI_clamp (show (y + k) % n < 2 ^ 31 by omega), (hf _ mx).1, (hf _ my).1, nI_1 k]
        rfl
      have t1 := ht _ mx
      have t2 := ht _ my
      rw [hL]
      by_cases hv : t ((x + k) % n) = t ((y + k) % n)
      · refine Or.inl ⟨nI (k + 1), by rw [if_pos (by rw [hv])], ⟨k + 1, rfl, h, by rw [rv_s, rv_s, he, hv]⟩, ?_⟩
        show n - (nI (k + 1)).toNatClampNeg < n - (nI k).toNatClampNeg
        rw [nI_clamp (by omega), nI_clamp (by omega)]
        omega
      · refine Or.inr ⟨Sum.inl (nI (t ((x + k) % n)), nI (t ((y + k) % n))), by rw [if_neg (by rw [nI_eq (by omega) (by omega)]; exact hv)], Or.inl ⟨_, _, rfl, t1, t2, ?_⟩⟩
        have h5 := rv_lt h0 ht y x (k + 1) (n - (k + 1))
        rw [show k + 1 + (n - (k + 1)) = n by omega, rv_s, rv_s, he] at h5
        rw [h5]
        omega
    · have hkn : k = n := by omega
      subst hkn
      refine Or.inr ⟨Sum.inr (), ?_, Or.inr ⟨rfl, by omega⟩⟩
      unfold Model_compare_L2
      rw [if_pos (nI_le (Nat.le_refl k) (by omega))]
  obtain ⟨e, e1, h⟩ := l1
  unfold Model_compare_f
  rw [e1, bd_s]
  rcases h with ⟨a, b, rfl, ha, hb, hab⟩ | ⟨rfl, hab⟩
  · refine ⟨nI a - nI b, rfl, ?_⟩
    rw [← hab]
    constructor
    · intro h
      refine Nat.lt_of_not_le (fun q => ?_)
      rcases Nat.lt_or_ge a b with h2 | h2
      · exact Int32.lt_asymm h (pk_sneg (by omega) h2)
      · rw [pk_sub h2, show a - b = 0 by omega] at h
        exact absurd h (by decide)
    · intro h
      rw [pk_sub (by omega)]
      exact Int32.not_le.mp (nI_nle (by omega) (by omega))
  · exact ⟨0, rfl, ⟨fun h => absurd h (by decide), fun h => absurd h hab⟩⟩
/-- how many of lo .. hi - 1 are less than b -/
def rc (K : Nat → Nat) (lo hi b : Nat) : Nat := cnt (fun y => decide (lo ≤ y ∧ K y < K b)) hi
theorem rc_split {K : Nat → Nat} {lo mid hi b : Nat} (h1 : lo ≤ mid) (h2 : mid ≤ hi) : rc K lo hi b = rc K lo mid b + rc K mid hi b := by
  have h3 : cnt (fun y => decide (lo ≤ y ∧ y < mid ∧ K y < K b)) hi = rc K lo mid b := by
    rw [cnt_ext h2 (fun j h3 _ => decide_eq_false (by omega))]
    refine cnt_congr (fun j hj => ?_)
    rw [decide_eq_decide]
    omega
  rw [← h3]
  refine cnt_or (fun j hj => ?_) (fun j hj h => ?_)
  · rw [← Bool.decide_or, decide_eq_decide]
    omega
  · simp only [decide_eq_true_eq, decide_eq_false_iff_not] at h ⊢
    omega
theorem cnt_ge (lo : Nat) : ∀ hi : Nat, cnt (fun y => decide (lo ≤ y)) hi = hi - lo := by
  intro hi
  induction hi with
  | zero => rw [Nat.zero_sub]; rfl
  | succ hi ih =>
    rw [cnt_s, ih]
    by_cases h : lo ≤ hi
    · rw [tN_t (decide_eq_true h)]; omega
    · rw [tN_f (decide_eq_false h)]; omega
theorem rc_lt {K : Nat → Nat} {lo hi b : Nat} (h1 : lo ≤ b) (h2 : b < hi) : rc K lo hi b < hi - lo := by
  rw [← cnt_ge lo hi]
  refine cnt_lt h2 (fun j _ h => ?_) (decide_eq_true h1) (decide_eq_false (by omega))
  simp only [decide_eq_true_eq] at h ⊢
  exact h.1
theorem rc_mono {K : Nat → Nat} {lo hi x y : Nat} (h1 : lo ≤ x) (h2 : x < hi) (h : K x < K y) : rc K lo hi x < rc K lo hi y := by
  refine cnt_lt h2 (fun j _ h3 => ?_) (decide_eq_true ⟨h1, h⟩) (decide_eq_false (by omega))
  simp only [decide_eq_true_eq] at h3 ⊢
  omega
theorem rc_le {K : Nat → Nat} {lo hi x y : Nat} (h : K x ≤ K y) : rc K lo hi x ≤ rc K lo hi y := by
  refine cnt_mono (fun j _ h3 => ?_)
  simp only [decide_eq_true_eq] at h3 ⊢
  omega
/-- lo .. hi - 1 stand sorted in their places -/
def mp (K : Nat → Nat) (od : Nat → Int32) (lo hi : Nat) : Prop := ∀ q, q < hi - lo → ∃ b, lo ≤ b ∧ b < hi ∧ od (lo + q) = nI b ∧ rc K lo hi b = q
/-- how far two sorted pieces are merged -/
def mg (K : Nat → Nat) (M0 M : Nat → Int32) (lo mid hi a c : Nat) : Prop :=
  a ≤ mid - lo ∧ c ≤ hi - mid ∧ (∀ x y, lo ≤ x → x < mid → mid ≤ y → y < hi → rc K lo mid x < a → c ≤ rc K mid hi y → K x < K y) ∧
  (∀ x y, lo ≤ x → x < mid → mid ≤ y → y < hi → a ≤ rc K lo mid x → rc K mid hi y < c → K y < K x) ∧
  (∀ q, q < a + c → ∃ b, lo ≤ b ∧ b < hi ∧ M (lo + q) = nI b ∧ rc K lo hi b = q) ∧ ∀ j, (j < lo ∨ hi ≤ j) → M j = M0 j
theorem mg_A {K : Nat → Nat} {M0 M : Nat → Int32} {lo mid hi a c x : Nat} (h1 : lo ≤ mid) (h2 : mid ≤ hi) (hK : ∀ x y, x < hi → y < hi → K x = K y → x = y) (h : mg K M0 M lo mid hi a c) (ha : a < mid - lo) (hx1 : lo ≤ x) (hx2 : x < mid) (hxa : rc K lo mid x = a)
    (hz : c = hi - mid ∨ ∃ z, mid ≤ z ∧ z < hi ∧ rc K mid hi z = c ∧ K x < K z) : mg K M0 (upd M (lo + (a + c)) (nI x)) lo mid hi (a + 1) c := by
  obtain ⟨ha0, hc0, s1, s2, ho, hfr⟩ := h
  have hge : ∀ y, mid ≤ y → y < hi → c ≤ rc K mid hi y → K x < K y := by
    intro y hy1 hy2 hyc
    rcases hz with hz | ⟨z, hz1, hz2, hzc, hxz⟩
    · have := rc_lt (K := K) hy1 hy2
      omega
    · rcases Nat.lt_or_ge (K y) (K z) with h3 | h3
      · have := rc_mono (lo := mid) hy1 hy2 h3
        omega
      · omega
  have hcx : rc K mid hi x = c := by
    rcases hz with hz | ⟨z, hz1, hz2, hzc, hxz⟩
    · rw [hz, ← cnt_ge mid hi]
      refine cnt_congr (fun j hj => ?_)
      rw [decide_eq_decide]
      refine ⟨fun h3 => h3.1, fun h3 => ⟨h3, s2 x j hx1 hx2 h3 hj (by omega) ?_⟩⟩
      have := rc_lt (K := K) h3 hj
      omega
    · rw [← hzc]
      refine cnt_congr (fun j hj => ?_)
      rw [decide_eq_decide]
      refine ⟨fun h3 => ⟨h3.1, by omega⟩, fun h3 => ⟨h3.1, s2 x j hx1 hx2 h3.1 hj (by omega) ?_⟩⟩
      have := rc_mono (lo := mid) h3.1 hj h3.2
      omega
  refine ⟨by omega, hc0, fun x2 y hx3 hx4 hy1 hy2 hxa2 hyc => ?_, fun x2 y hx3 hx4 hy1 hy2 hxa2 hyc => s2 x2 y hx3 hx4 hy1 hy2 (by omega) hyc, fun q hq => ?_, fun j hj => ?_⟩
  · rcases Nat.lt_or_ge (rc K lo mid x2) a with h3 | h3
    · exact s1 x2 y hx3 hx4 hy1 hy2 h3 hyc
    · have h4 : K x2 = K x := by
        rcases Nat.lt_trichotomy (K x2) (K x) with h5 | h5 | h5
        · have := rc_mono (lo := lo) hx3 hx4 h5
          omega
        · exact h5
        · have := rc_mono (lo := lo) hx1 hx2 h5
          omega
      rw [h4]
      exact hge y hy1 hy2 hyc
  · rcases Nat.lt_or_ge q (a + c) with h3 | h3
    · obtain ⟨b, hb1, hb2, hb3, hb4⟩ := ho q h3
      exact ⟨b, hb1, hb2, by rw [pk_un (by omega)]; exact hb3, hb4⟩
    · have h4 : q = a + c := by omega
      subst h4
      exact ⟨x, hx1, by omega, pk_us, by rw [rc_split h1 h2, hxa, hcx]⟩
  · rw [pk_un (by omega)]
    exact hfr j hj
theorem mg_B {K : Nat → Nat} {M0 M : Nat → Int32} {lo mid hi a c z : Nat} (h1 : lo ≤ mid) (h2 : mid ≤ hi) (hK : ∀ x y, x < hi → y < hi → K x = K y → x = y) (h : mg K M0 M lo mid hi a c) (hc : c < hi - mid) (hz1 : mid ≤ z) (hz2 : z < hi) (hzc : rc K mid hi z = c)
    (hx : a = mid - lo ∨ ∃ x, lo ≤ x ∧ x < mid ∧ rc K lo mid x = a ∧ K z < K x) : mg K M0 (upd M (lo + (a + c)) (nI z)) lo mid hi a (c + 1) := by
  obtain ⟨ha0, hc0, s1, s2, ho, hfr⟩ := h
  have hge : ∀ y, lo ≤ y → y < mid → a ≤ rc K lo mid y → K z < K y := by
    intro y hy1 hy2 hyc
    rcases hx with hx | ⟨x, hx1, hx2, hxa, hzx⟩
    · have := rc_lt (K := K) hy1 hy2
      omega
    · rcases Nat.lt_or_ge (K y) (K x) with h3 | h3
      · have := rc_mono (lo := lo) hy1 hy2 h3
        omega
      · omega
  have haz : rc K lo mid z = a := by
    rcases hx with hx | ⟨x, hx1, hx2, hxa, hzx⟩
    · rw [hx, ← cnt_ge lo mid]
      refine cnt_congr (fun j hj => ?_)
      rw [decide_eq_decide]
      refine ⟨fun h3 => h3.1, fun h3 => ⟨h3, s1 j z h3 hj hz1 hz2 ?_ (by omega)⟩⟩
      have := rc_lt (K := K) h3 hj
      omega
    · rw [← hxa]
      refine cnt_congr (fun j hj => ?_)
      rw [decide_eq_decide]
      refine ⟨fun h3 => ⟨h3.1, by omega⟩, fun h3 => ⟨h3.1, s1 j z h3.1 hj hz1 hz2 ?_ (by omega)⟩⟩
      have := rc_mono (lo := lo) h3.1 hj h3.2
      omega
  refine ⟨ha0, by omega, fun x2 y hx3 hx4 hy1 hy2 hxa2 hyc => s1 x2 y hx3 hx4 hy1 hy2 hxa2 (by omega), fun x2 y hx3 hx4 hy1 hy2 hxa2 hyc => ?_, fun q hq => ?_, fun j hj => ?_⟩
  · rcases Nat.lt_or_ge (rc K mid hi y) c with h3 | h3
    · exact s2 x2 y hx3 hx4 hy1 hy2 hxa2 h3
    · have h4 : K y = K z := by
        rcases Nat.lt_trichotomy (K y) (K z) with h5 | h5 | h5
        · have := rc_mono (lo := mid) hy1 hy2 h5
          omega
        · exact h5
        · have := rc_mono (lo := mid) hz1 hz2 h5
          omega
      rw [h4]
      exact hge x2 hx3 hx4 hxa2
  · rcases Nat.lt_or_ge q (a + c) with h3 | h3
    · obtain ⟨b, hb1, hb2, hb3, hb4⟩ := ho q h3
      exact ⟨b, hb1, hb2, by rw [pk_un (by omega)]; exact hb3, hb4⟩
    · have h4 : q = a + c := by omega
      subst h4
      exact ⟨z, by omega, hz2, pk_us, by rw [rc_split h1 h2, haz, hzc]⟩
  · rw [pk_un (by omega)]
    exact hfr j hj
theorem merge_eq {n lo mid hi : Nat} {od f M0 : Nat → Int32} {t : Nat → Nat} (h0 : 0 < n) (hn : n ≤ 2250) (h1 : lo ≤ mid) (h2 : mid ≤ hi) (h3 : hi ≤ n) (hf : ∀ j, j < n → f j = nI (t j) ∧ t j < 256) (hA : mp (rot t n) od lo mid) (hB : mp (rot t n) od mid hi) :
    ∃ M, Model_merge_f (nI hi) od (nI mid) (nI n) f (nI lo) M0 = some M ∧ mp (rot t n) M lo hi ∧ ∀ j, (j < lo ∨ hi ≤ j) → M j = M0 j := by
  have hKr : ∀ x y, x < n → y < n → rot t n x = rot t n y → x = y := fun x y hx hy h => lexk_inj (fun _ h => h) (fun _ _ _ _ h => h) hx hy h
  have hKh : ∀ x y, x < hi → y < hi → rot t n x = rot t n y → x = y := fun x y hx hy h => hKr x y (by omega) (by omega) h
  have l1 : ∃ M, lpF (Model_merge_L9 (nI hi) od (nI mid) (nI n) f) gas (nI lo, nI mid, nI lo, M0) = some M ∧ mg (rot t n) M0 M lo mid hi (mid - lo) (hi - mid) := by
    refine lp_for (fun i s => ∃ a c M, a + c = i ∧ s = (nI (lo + a), nI (mid + c), nI (lo + i), M) ∧ mg (rot t n) M0 M lo mid hi a c) _ (i0 := 0) (N := hi - lo) (Nat.zero_le _) (by omega) ?_ ?_ ⟨0, 0, M0, rfl, rfl, Nat.zero_le _, Nat.zero_le _, fun _ _ _ _ _ _ h => absurd h (Nat.not_lt_zero _), fun _ _ _ _ _ _ _ h => absurd h (Nat.not_lt_zero _), fun _ h => absurd h (Nat.not_lt_zero _), fun _ _ => rfl⟩
    · rintro i s _ hi2 ⟨a, c, M, rfl, rfl, hg⟩
      have ha0 := hg.1
      have hc0 := hg.2.1
      have hJA : a < mid - lo → Model_merge_J48 (nI (lo + a), nI (mid + c), nI (lo + (a + c)), M) od = some (Sum.inl (nI (lo + (a + 1)), nI (mid + c), nI (lo + (a + c + 1)), upd M (lo + (a + c)) (od (lo + a)))) := by
        intro ha
        show gd (ix (nI (lo + a)) 2250) (gd (ix (nI (lo + (a + c))) 2250) (some (Sum.inl (nI (lo + a) + (1 : Int32), nI (mid + c) + (0 : Int32), nI (lo + (a + c)) + (1 : Int32), upd M (nI (lo + (a + c))).toNatClampNeg (od (nI (lo + a)).toNatClampNeg))))) = _
        rw [ixN (show lo + a < 2250 by omega) (by omega), ixN (show lo + (a + c) < 2250 by omega) (by omega), nI_1 (lo + a), nI_1 (lo + (a + c)), Int32.add_zero, nI_clamp (show lo + (a + c) < 2 ^ 31 by omega), nI_clamp (show lo + a < 2 ^ 31 by omega)]
        rfl
      have hJB : c < hi - mid → Model_merge_J52 (nI (lo + a), nI (mid + c), nI (lo + (a + c)), M) od = some (Sum.inl (nI (lo + a), nI (mid + (c + 1)), nI (lo + (a + c + 1)), upd M (lo + (a + c)) (od (mid + c)))) := by
        intro hc
        show gd (ix (nI (mid + c)) 2250) (gd (ix (nI (lo + (a + c))) 2250) (some (Sum.inl (nI (lo + a) + (0 : Int32), nI (mid + c) + (1 : Int32), nI (lo + (a + c)) + (1 : Int32), upd M (nI (lo + (a + c))).toNatClampNeg (od (nI (mid + c)).toNatClampNeg))))) = _
        rw [ixN (show mid + c < 2250 by omega) (by omega), ixN (show lo + (a + c) < 2250 by omega) (by omega), nI_1 (mid + c), nI_1 (lo + (a + c)), Int32.add_zero, nI_clamp (show lo + (a + c) < 2 ^ 31 by omega), nI_clamp (show mid + c < 2 ^ 31 by omega)]
        rfl
      have hL : Model_merge_L9 (nI hi) od (nI mid) (nI n) f (nI (lo + a), nI (mid + c), nI (lo + (a + c)), M) = (if nI (mid + c) = nI hi then Model_merge_J48 (nI (lo + a), nI (mid + c), nI (lo + (a + c)), M) od else if nI mid ≤ nI (lo + a) then Model_merge_J52 (nI (lo + a), nI (mid + c), nI (lo + (a + c)), M) od else gd (ix (nI (lo + a)) 2250) (gd (ix (nI (mid + c)) 2250) (bd (Model_compare_f (nI n) (od (nI (lo + a)).toNatClampNeg) (od (nI (mid + c)).toNatClampNeg) f) (fun u16 => if 0 < u16 then Model_merge_J52 (nI (lo + a), nI (mid + c), nI (lo + (a + c)), M) od else Model_merge_J48 (nI (lo + a), nI (mid + c), nI (lo + (a + c)), M) od)))) := by
        show (if nI hi ≤ nI (lo + (a + c)) then _ else _) = _
        rw [if_neg (nI_ge (by omega) (by omega))]
      rw [hL]
      by_cases hc : c = hi - mid
      · have ha : a < mid - lo := by omega
        obtain ⟨x, hx1, hx2, hx3, hx4⟩ := hA a ha
        refine ⟨_, by rw [if_pos (by rw [hc, show mid + (hi - mid) = hi by omega])]; exact hJA ha, a + 1, c, _, by omega, rfl, ?_⟩
        rw [hx3]
        exact mg_A h1 h2 hKh hg ha hx1 hx2 hx4 (Or.inl hc)
      · have hc2 : c < hi - mid := by omega
        obtain ⟨z, hz1, hz2, hz3, hz4⟩ := hB c hc2
        rw [if_neg (by rw [nI_eq (by omega) (by omega)]; omega)]
        by_cases ha : a = mid - lo
        · refine ⟨_, by rw [if_pos (nI_le (by omega) (by omega))]; exact hJB hc2, a, c + 1, _, by omega, rfl, ?_⟩
          rw [hz3]
          exact mg_B h1 h2 hKh hg hc2 hz1 hz2 hz4 (Or.inl ha)
        · have ha2 : a < mid - lo := by omega
          obtain ⟨x, hx1, hx2, hx3, hx4⟩ := hA a ha2
          obtain ⟨u, hu, hu2⟩ := compare_eq (x := x) (y := z) h0 hn hf (by omega) (by omega)
          rw [if_neg (nI_ge (by omega) (by omega)), nI_clamp (show lo + a < 2 ^ 31 by omega), nI_clamp (show mid + c < 2 ^ 31 by omega), hx3, hz3, hu, ixN (show lo + a < 2250 by omega) (by omega), ixN (show mid + c < 2250 by omega) (by omega), gd_t, gd_t, bd_s]
          by_cases hlt : rv t n z n < rv t n x n
          · refine ⟨_, by rw [if_pos (hu2.mpr hlt)]; exact hJB hc2, a, c + 1, _, by omega, rfl, ?_⟩
            rw [hz3]
            exact mg_B h1 h2 hKh hg hc2 hz1 hz2 hz4 (Or.inr ⟨x, hx1, hx2, hx4, (lexk_lt (V := fun x => rv t n x n) (e := fun x => x) (show z < n by omega) (show x < n by omega)).mpr (Or.inl hlt)⟩)
          · refine ⟨_, by rw [if_neg (fun q => hlt (hu2.mp q))]; exact hJA ha2, a + 1, c, _, by omega, rfl, ?_⟩
            rw [hx3]
            refine mg_A h1 h2 hKh hg ha2 hx1 hx2 hx4 (Or.inr ⟨z, hz1, hz2, hz4, (lexk_lt (V := fun x => rv t n x n) (e := fun x => x) (show x < n by omega) (show z < n by omega)).mpr ?_⟩)
            show rv t n x n < rv t n z n ∨ (rv t n x n = rv t n z n ∧ x < z)
            omega
    · rintro s ⟨a, c, M, hac, rfl, hg⟩
      have ha0 := hg.1
      have hc0 := hg.2.1
      refine ⟨M, ?_, ?_⟩
      · show (if nI hi ≤ nI (lo + (hi - lo)) then _ else _) = _
        rw [if_pos (nI_le (by omega) (by omega))]
      · rw [show mid - lo = a by omega, show hi - mid = c by omega]
        exact hg
  obtain ⟨M, e1, hg⟩ := l1
  refine ⟨M, ?_, fun q hq => hg.2.2.2.2.1 q (by omega), hg.2.2.2.2.2⟩
  unfold Model_merge_f
  rw [e1]
  rfl
