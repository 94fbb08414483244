/-! PURE, by hand: loops by closed forms, numbers, rows of ints -/
theorem lpF_s {S E : Type} (b : S → Option (S ⊕ E)) (n : Nat) (s : S) : lpF b (n + 1) s = bd (b s) (fun u => Sum.elim (lpF b n) some u) := rfl
theorem lp_tot {S E : Type} {b : S → Option (S ⊕ E)} (I : S → Prop) (μ : S → Nat) (post : E → Prop)
    (step : ∀ s, I s → (∃ s2, b s = some (Sum.inl s2) ∧ I s2 ∧ μ s2 < μ s) ∨ ∃ e, b s = some (Sum.inr e) ∧ post e) :
    ∀ (n : Nat) (s : S), I s → μ s < n → ∃ e, lpF b n s = some e ∧ post e := by
  intro n
  induction n with
  | zero => intro s _ h; omega
  | succ n ih =>
    intro s hI hm
    rcases step s hI with ⟨s2, hb, h2, hl⟩ | ⟨e, hb, hp⟩
    · obtain ⟨e, he, hp⟩ := ih s2 h2 (by omega)
      exact ⟨e, by rw [lpF_s, hb]; exact he, hp⟩
    · exact ⟨e, by rw [lpF_s, hb]; rfl, hp⟩
theorem lp_totg {S E : Type} {b : S → Option (S ⊕ E)} (I : S → Prop) (μ : S → Nat) (post : E → Prop)
    (step : ∀ s, I s → (∃ s2, b s = some (Sum.inl s2) ∧ I s2 ∧ μ s2 < μ s) ∨ ∃ e, b s = some (Sum.inr e) ∧ post e) {s : S} (hI : I s) (hm : μ s < 1000000) : ∃ e, lpF b gas s = some e ∧ post e :=
  lp_tot I μ post step gas s hI (Nat.lt_of_lt_of_le hm gas_le)
/-- the state after the rounds up to i is st i; at N the loop ends with e -/
theorem lp_cnt {S E : Type} {b : S → Option (S ⊕ E)} (st : Nat → S) {i0 N : Nat} {e : E} (step : ∀ i, i0 ≤ i → i < N → b (st i) = some (Sum.inl (st (i + 1)))) (fin : b (st N) = some (Sum.inr e)) : ∀ (n i : Nat), i0 ≤ i → i ≤ N → N - i < n → lpF b n (st i) = some e := by
  intro n
  induction n with
  | zero => intro i _ _ h; omega
  | succ n ih =>
    intro i h0 hi hn
    rcases Nat.lt_or_ge i N with h | h
    · rw [lpF_s, step i h0 h]; exact ih (i + 1) (by omega) h (by omega)
    · have h2 : i = N := by omega
      subst h2
      rw [lpF_s, fin]; rfl
theorem lp_gas {S E : Type} {b : S → Option (S ⊕ E)} (st : Nat → S) {i0 N : Nat} {e : E} (hi : i0 ≤ N) (hN : N < 1000000) (step : ∀ i, i0 ≤ i → i < N → b (st i) = some (Sum.inl (st (i + 1)))) (fin : b (st N) = some (Sum.inr e)) : lpF b gas (st i0) = some e :=
  lp_cnt st step fin gas i0 (Nat.le_refl _) hi (Nat.lt_of_lt_of_le (by omega) gas_le)
theorem ixN {i n : Nat} (h : i < n) (hn : n ≤ 2 ^ 31) : ix (nI i) n = true := by
  rw [ix_iff, nI_toInt (by omega)]; omega
theorem ofN (n : Nat) : Int32.ofNat n = nI n := rfl
theorem nIl (n : Nat) : (no_index (OfNat.ofNat n) : Int32) = nI n := rfl
theorem upd_nI {f : Nat → Int32} {i : Nat} {x : Int32} (h : i < 2 ^ 31) : upd f (nI i).toNatClampNeg x = upd f i x := by rw [nI_clamp h]
/-- a row with v at the places a .. b - 1 -/
def flr (f : Nat → Int32) (a b : Nat) (v : Int32) : Nat → Int32 := fun j => if a ≤ j ∧ j < b then v else f j
theorem flr_0 (f : Nat → Int32) (a : Nat) (v : Int32) : flr f a a v = f := by
  funext j
  exact if_neg (by omega)
theorem flr_s (f : Nat → Int32) {a i : Nat} (v : Int32) (h : a ≤ i) : upd (flr f a i v) i v = flr f a (i + 1) v := by
  funext j
  unfold upd flr
  by_cases h1 : j = i
  · subst h1
    rw [if_pos rfl, if_pos (by omega)]
  · rw [if_neg h1]
    by_cases h2 : a ≤ j ∧ j < i
    · rw [if_pos h2, if_pos (by omega)]
    · rw [if_neg h2, if_neg (by omega)]
/-- Arrays.fill(a, v) -/
theorem fill0_eq {n : Nat} (hn : n < 1000000) (v : Int32) (f : Nat → Int32) : Arrays_fill0_f n v f = some (flr f 0 n v) := by
  have key : lpF (Arrays_fill0_L5 n v) gas (nI 0, flr f 0 0 v) = some (flr f 0 n v) := by
    refine lp_gas (fun i => (nI i, flr f 0 i v)) (Nat.zero_le n) hn ?_ ?_
    · intro i _ hi
      show (if nI n ≤ nI i then _ else gd (ix (nI i) n) _) = _
      rw [if_neg (nI_ge hi (by omega)), ixN hi (by omega)]
      show some (Sum.inl (nI i + 1, upd _ (nI i).toNatClampNeg v)) = _
      rw [nI_1, nI_clamp (by omega), flr_s f v (Nat.zero_le i)]
    · show (if nI n ≤ nI n then _ else _) = _
      rw [if_pos (nI_le (Nat.le_refl n) (by omega))]
  rw [flr_0] at key
  show bd (lpF (Arrays_fill0_L5 n v) gas (nI 0, f)) _ = _
  rw [key]
  rfl
/-- Arrays.fill(a, from, to, v) -/
theorem fill1_eq {n a b : Nat} (hab : a ≤ b) (hbn : b ≤ n) (hn : n < 1000000) (v : Int32) (f : Nat → Int32) : Arrays_fill1_f (nI a) (nI b) n v f = some (flr f a b v) := by
  have key : lpF (Arrays_fill1_L10 (nI b) n v) gas (nI a, flr f a a v) = some (flr f a b v) := by
    refine lp_gas (fun i => (nI i, flr f a i v)) hab (by omega) ?_ ?_
    · intro i h0 hi
      show (if nI b ≤ nI i then _ else gd (ix (nI i) n) _) = _
      rw [if_neg (nI_ge hi (by omega)), ixN (show i < n by omega) (by omega)]
      show some (Sum.inl (nI i + 1, upd _ (nI i).toNatClampNeg v)) = _
      rw [nI_1, nI_clamp (by omega), flr_s f v h0]
    · show (if nI b ≤ nI b then _ else _) = _
      rw [if_pos (nI_le (Nat.le_refl b) (by omega))]
  rw [flr_0] at key
  have hr : Arrays_rangeCheck_f (nI a) (nI b) (nI n) = some () := by
    unfold Arrays_rangeCheck_f
    rw [if_pos (nI_le hab (by omega)), if_pos (nI_pos' (by omega)), if_pos (nI_le hbn (by omega))]
  show bd (Arrays_rangeCheck_f (nI a) (nI b) (nI n)) _ = _
  rw [hr]
  show bd (lpF (Arrays_fill1_L10 (nI b) n v) gas (nI a, f)) _ = _
  rw [key]
  rfl
/-- ByteRow.get -/
theorem row_get {n i c : Nat} {f : Nat → Int32} (h : i < c) (hc : c ≤ n) (hn : n < 2 ^ 31) : ByteRow_get_f (nI i) (nI c) n f = some (f i) := by
  unfold ByteRow_get_f ByteRow_get_J22
  rw [if_neg (nI_pos (by omega)), if_neg (nI_ge h (by omega)), ixN (show i < n by omega) (by omega), nI_clamp (by omega)]
  rfl
/-- FrontList.append, where there is room -/
theorem fl_append {c : Nat} {f : Nat → Int32} {v : Int32} (h : c < 256) : FrontList_append_f (nI c) f v = some (upd f c v, nI (c + 1)) := by
  unfold FrontList_append_f FrontList_append_J32
  rw [ofN, if_neg (nI_ge h (by omega)), ixN h (by omega), nI_clamp (by omega)]
  show some (_, nI c + 1) = _
  rw [nI_1]
/-- 0, 1, .. c - 1, and what stood there behind -/
def idr (f : Nat → Int32) (c : Nat) : Nat → Int32 := fun j => if j < c then nI j else f j
theorem idr_s (f : Nat → Int32) (c : Nat) : upd (idr f c) c (nI c) = idr f (c + 1) := by
  funext j
  unfold upd idr
  by_cases h1 : j = c
  · subst h1
    rw [if_pos rfl, if_pos (by omega)]
  · rw [if_neg h1]
    by_cases h2 : j < c
    · rw [if_pos h2, if_pos (by omega)]
    · rw [if_neg h2, if_neg (by omega)]
theorem idr_0 (f : Nat → Int32) : idr f 0 = f := by
  funext j
  exact if_neg (by omega)
theorem fl_begin {c : Nat} {f : Nat → Int32} (h : c ≤ 256) : FrontList_beginWithFirst_f (nI c) f = some (nI c, idr f c) := by
  have key : lpF (FrontList_beginWithFirst_L7 (nI c)) gas (nI 0, nI 0, idr f 0) = some (nI c, idr f c) := by
    refine lp_gas (fun i => (nI i, nI i, idr f i)) (Nat.zero_le c) (by omega) ?_ ?_
    · intro i _ hi
      show (if nI c ≤ nI i then _ else bd (FrontList_append_f (nI i) (idr f i) (nI i)) _) = _
      rw [if_neg (nI_ge hi (by omega)), fl_append (by omega)]
      show some (Sum.inl (nI i + 1, nI (i + 1), upd (idr f i) i (nI i))) = _
      rw [nI_1, idr_s]
    · show (if nI c ≤ nI c then _ else _) = _
      rw [if_pos (nI_le (Nat.le_refl c) (by omega))]
  rw [idr_0] at key
  show bd (lpF (FrontList_beginWithFirst_L7 (nI c)) gas (nI 0, nI 0, f)) _ = _
  rw [key]
  rfl
