/-! LISTED: which bytes there are, the list, how far up each stands -/
theorem cnt_pos {p : Nat → Bool} {n k : Nat} (hk : k < n) (h : p k = true) : 0 < cnt p n := by
  have h1 := cnt_mon_n p (show k + 1 ≤ n from hk)
  rw [cnt_s, tN_t h] at h1
  omega
/-- b is among the first n of l -/
def us (l : Nat → Nat) (n b : Nat) : Bool := decide (0 < cnt (fun j => decide (l j = b)) n)
theorem us_iff {l : Nat → Nat} {n b : Nat} : us l n b = true ↔ ∃ j, j < n ∧ l j = b := by
  unfold us
  rw [decide_eq_true_eq]
  constructor
  · intro h
    obtain ⟨k, hk, h2, _⟩ := cnt_at h
    exact ⟨k, hk, of_decide_eq_true h2⟩
  · intro ⟨j, hj, h⟩
    exact cnt_pos hj (decide_eq_true h)
theorem us_s (l : Nat → Nat) (n b : Nat) : us l (n + 1) b = (us l n b || decide (l n = b)) := by
  rw [Bool.eq_iff_iff, Bool.or_eq_true, us_iff, us_iff, decide_eq_true_eq]
  constructor
  · intro ⟨j, hj, h⟩
    rcases Nat.lt_or_ge j n with h2 | h2
    · exact Or.inl ⟨j, h2, h⟩
    · exact Or.inr (by rw [← h, show j = n by omega])
  · rintro (⟨j, hj, h⟩ | h)
    · exact ⟨j, by omega, h⟩
    · exact ⟨n, by omega, h⟩
theorem us_0 (l : Nat → Nat) (b : Nat) : us l 0 b = false := rfl
theorem us_lst {t l : Nat → Nat} {n : Nat} (h0 : 0 < n) (h : lst t n l) (b : Nat) : us l n b = us t n b := by
  rw [Bool.eq_iff_iff, us_iff, us_iff]
  have hKr : ∀ x y, x < n → y < n → rot t n x = rot t n y → x = y := fun x y hx hy h => lexk_inj (fun _ h => h) (fun _ _ _ _ h => h) hx hy h
  constructor
  · intro ⟨j, hj, h2⟩
    obtain ⟨x, hx, hxj⟩ := kpos_sur hKr hj
    refine ⟨(x + n - 1) % n, Nat.mod_lt _ h0, ?_⟩
    rw [← h x hx, hxj, h2]
  · intro ⟨j, hj, h2⟩
    have hx : (j + 1) % n < n := Nat.mod_lt _ h0
    refine ⟨kpos (rot t n) n ((j + 1) % n), kpos_lt hx, ?_⟩
    rw [h _ hx, show ((j + 1) % n + n - 1) % n = j from ?_, h2]
    rcases Nat.lt_or_ge (j + 1) n with h3 | h3
    · rw [Nat.mod_eq_of_lt h3, show j + 1 + n - 1 = j + n by omega, Nat.add_mod_right, Nat.mod_eq_of_lt hj]
    · have h4 : j + 1 = n := by omega
      rw [h4, Nat.mod_self, Nat.zero_add, Nat.mod_eq_of_lt (by omega)]
      omega
/-- the q-th of those that are u -/
def nth (u : Nat → Bool) (q : Nat) : Nat := cnt (fun b => decide (cnt u (b + 1) ≤ q)) 256
theorem nth_cnt {u : Nat → Bool} {b : Nat} (hb : b < 256) (h : u b = true) : nth u (cnt u b) = b := by
  have h1 : nth u (cnt u b) = cnt (fun b2 => decide (b2 < b)) 256 := by
    refine cnt_congr (fun j hj => ?_)
    rw [decide_eq_decide]
    constructor
    · intro h2
      refine Nat.lt_of_not_le (fun q => ?_)
      have h3 := cnt_mon_n u (show b + 1 ≤ j + 1 by omega)
      rw [cnt_s, tN_t h] at h3
      omega
    · intro h2
      exact cnt_mon_n u h2
  rw [h1, cnt_ext (show b ≤ 256 by omega) (fun j h2 _ => decide_eq_false (by omega)), cnt_all (fun j h2 => decide_eq_true h2)]
/-- what rows of a list tell -/
def RS (m : Nat) (f : Nat → Int32) (g : Nat → Nat) : Prop := ∀ j, j < m → f j = nI (g j)
theorem list_RS {u : Nat → Bool} {f : Nat → Int32} (h : ∀ b, b < 256 → u b = true → f (cnt u b) = nI b) : RS (cnt u 256) f (nth u) := by
  intro j hj
  obtain ⟨b, hb, h1, h2⟩ := cnt_at hj
  rw [← h2, h b hb h1, nth_cnt hb h1]
def mtfN (g : Nat → Nat) (a : Nat) : Nat → Nat := fun j => if j = 0 then g a else if j ≤ a then g (j - 1) else g j
theorem RS_mtf {c a : Nat} {f : Nat → Int32} {g : Nat → Nat} (ha : a < c) (h : RS c f g) : RS c (mtf f a) (mtfN g a) := by
  intro j hj
  unfold mtf mtfN
  by_cases h0 : j = 0
  · rw [if_pos h0, if_pos h0]
    exact h a ha
  · rw [if_neg h0, if_neg h0]
    by_cases h1 : j ≤ a
    · rw [if_pos h1, if_pos h1]
      exact h _ (by omega)
    · rw [if_neg h1, if_neg h1]
      exact h j hj
/-- the first place of v, c if there is none -/
def fp (g : Nat → Nat) (v : Nat) : Nat → Nat
  | 0 => 0
  | c + 1 => if fp g v c < c then fp g v c else if g c = v then c else c + 1
theorem fp_spec (g : Nat → Nat) (v : Nat) : ∀ c, fp g v c ≤ c ∧ (∀ j, j < fp g v c → g j ≠ v) ∧ (fp g v c < c → g (fp g v c) = v) := by
  intro c
  induction c with
  | zero => exact ⟨Nat.le_refl _, fun j h => absurd h (Nat.not_lt_zero _), fun h => absurd h (Nat.lt_irrefl _)⟩
  | succ c ih =>
    obtain ⟨h1, h2, h3⟩ := ih
    show (if fp g v c < c then fp g v c else if g c = v then c else c + 1) ≤ c + 1 ∧ (∀ j, j < (if fp g v c < c then fp g v c else if g c = v then c else c + 1) → g j ≠ v) ∧ ((if fp g v c < c then fp g v c else if g c = v then c else c + 1) < c + 1 → g (if fp g v c < c then fp g v c else if g c = v then c else c + 1) = v)
    by_cases h4 : fp g v c < c
    · rw [if_pos h4]
      exact ⟨by omega, h2, fun _ => h3 h4⟩
    · have h5 : fp g v c = c := by omega
      rw [h5] at h2
      rw [if_neg h4]
      by_cases h6 : g c = v
      · rw [if_pos h6]
        exact ⟨by omega, h2, fun _ => h6⟩
      · rw [if_neg h6]
        refine ⟨Nat.le_refl _, fun j hj => ?_, fun h => absurd h (Nat.lt_irrefl _)⟩
        rcases Nat.lt_or_ge j c with h7 | h7
        · exact h2 j h7
        · rw [show j = c by omega]
          exact h6
theorem fp_in {g : Nat → Nat} {v c : Nat} (h : ∃ a, a < c ∧ g a = v) : fp g v c < c ∧ g (fp g v c) = v ∧ ∀ j, j < fp g v c → g j ≠ v := by
  obtain ⟨h1, h2, h3⟩ := fp_spec g v c
  obtain ⟨a, ha, hg⟩ := h
  have h4 : fp g v c < c := Nat.lt_of_not_le (fun q => h2 a (by omega) hg)
  exact ⟨h4, h3 h4, h2⟩
theorem mtf_in {g : Nat → Nat} {v a c : Nat} (ha : a < c) (h : ∃ b, b < c ∧ g b = v) : ∃ b, b < c ∧ mtfN g a b = v := by
  obtain ⟨b, hb, h⟩ := h
  rcases Nat.lt_trichotomy b a with h2 | h2 | h2
  · refine ⟨b + 1, by omega, ?_⟩
    unfold mtfN
    rw [if_neg (by omega), if_pos (by omega)]
    exact h
  · refine ⟨0, by omega, ?_⟩
    unfold mtfN
    rw [if_pos rfl, ← h2]
    exact h
  · refine ⟨b, hb, ?_⟩
    unfold mtfN
    rw [if_neg (by omega), if_neg (by omega)]
    exact h
/-- the list before byte i is told; how far up byte i stands -/
def lsN (l g0 : Nat → Nat) (c : Nat) : Nat → (Nat → Nat)
  | 0 => g0
  | i + 1 => mtfN (lsN l g0 c i) (fp (lsN l g0 c i) (l i) c)
def upN (l g0 : Nat → Nat) (c i : Nat) : Nat := fp (lsN l g0 c i) (l i) c
theorem ls_in {l g0 : Nat → Nat} {c n : Nat} (h : ∀ i, i < n → ∃ a, a < c ∧ g0 a = l i) : ∀ k, k ≤ n → ∀ i, i < n → ∃ a, a < c ∧ lsN l g0 c k a = l i := by
  intro k
  induction k with
  | zero => intro _; exact h
  | succ k ih =>
    intro hk i hi
    exact mtf_in (fp_in (ih (by omega) k (by omega))).1 (ih (by omega) i hi)
theorem up_in {l g0 : Nat → Nat} {c n i : Nat} (h : ∀ i, i < n → ∃ a, a < c ∧ g0 a = l i) (hi : i < n) : upN l g0 c i < c ∧ lsN l g0 c i (upN l g0 c i) = l i ∧ ∀ j, j < upN l g0 c i → lsN l g0 c i j ≠ l i := fp_in (ls_in h i (by omega) i hi)
theorem nth_le (u : Nat → Bool) (q : Nat) : nth u q ≤ 256 := cnt_le _ _
theorem lsN_b {l g0 : Nat → Nat} {c : Nat} (h : ∀ j, g0 j ≤ 256) : ∀ i j, lsN l g0 c i j ≤ 256 := by
  intro i
  induction i with
  | zero => exact h
  | succ i ih =>
    intro j
    show mtfN (lsN l g0 c i) (fp (lsN l g0 c i) (l i) c) j ≤ 256
    unfold mtfN
    by_cases h0 : j = 0
    · rw [if_pos h0]
      exact ih _
    · rw [if_neg h0]
      by_cases h1 : j ≤ fp (lsN l g0 c i) (l i) c
      · rw [if_pos h1]
        exact ih _
      · rw [if_neg h1]
        exact ih _
/-- the list's beginning: the bytes that there are, in their order -/
theorem nth_in {l : Nat → Nat} {n : Nat} (hl : ∀ j, j < n → l j < 256) {u : Nat → Bool} (hu : ∀ b, b < 256 → u b = us l n b) : ∀ i, i < n → ∃ a, a < cnt u 256 ∧ nth u a = l i := by
  intro i hi
  have h1 : u (l i) = true := by rw [hu _ (hl i hi)]; exact us_iff.mpr ⟨i, hi, rfl⟩
  refine ⟨cnt u (l i), ?_, nth_cnt (hl i hi) h1⟩
  have h2 := cnt_mon_n u (show l i + 1 ≤ 256 from hl i hi)
  rw [cnt_s, tN_t h1] at h2
  omega
/-- the class's makeUps -/
theorem makeUps_eq {n : Nat} {used0 last mem0 ups0 : Nat → Int32} {l : Nat → Nat} (hn : n ≤ 2250) (hl : ∀ j, j < n → last j = nI (l j) ∧ l j < 256) :
    ∃ U mem ups, Block_makeUps_f used0 (nI n) last mem0 ups0 = some (U, nI (cnt (us l n) 256), mem, ups) ∧ (∀ b, b < 256 → U b = nI (us l n b).toNat) ∧ RS n ups (upN l (nth (us l n)) (cnt (us l n) 256)) := by
  have l1 : ∃ U, lpF (Block_makeUps_L10 (nI n) last) gas ((0 : Int32), flr used0 0 256 0) = some U ∧ ∀ b, b < 256 → U b = nI (us l n b).toNat := by
    refine lp_for (fun i s => ∃ U, s = (nI i, U) ∧ ∀ b, b < 256 → U b = nI (us l i b).toNat) _ (i0 := 0) (N := n) (Nat.zero_le _) (by omega) ?_ ?_ ⟨_, rfl, fun b hb => ?_⟩
    · rintro i s _ hi ⟨U, rfl, hU⟩
      obtain ⟨h1, h2⟩ := hl i hi
      refine ⟨(nI (i + 1), upd U (l i) (nI 1)), ?_, _, rfl, fun b hb => ?_⟩
      · show (if nI n ≤ nI i then _ else gd (ix (nI i) 2250) (gd (ix (last (nI i).toNatClampNeg) 256) (some (Sum.inl (nI i + (1 : Int32), upd U (last (nI i).toNatClampNeg).toNatClampNeg (nI 1)))))) = _
        rw [if_neg (nI_ge hi (by omega)), nI_clamp (show i < 2 ^ 31 by omega), h1, ixN (show i < 2250 by omega) (by omega), ixN h2 (by omega), nI_clamp (show l i < 2 ^ 31 by omega), nI_1]
        rfl
      · rw [us_s]
        by_cases h3 : b = l i
        · rw [h3, pk_us, decide_eq_true rfl, Bool.or_true]
          rfl
        · rw [pk_un h3, decide_eq_false (fun q => h3 q.symm), Bool.or_false]
          exact hU b hb
    · rintro s ⟨U, rfl, hU⟩
      refine ⟨U, ?_, hU⟩
      show (if nI n ≤ nI n then _ else _) = _
      rw [if_pos (nI_le (Nat.le_refl n) (by omega))]
    · show (if 0 ≤ b ∧ b < 256 then (0 : Int32) else used0 b) = _
      rw [if_pos (by omega)]
      rfl
  obtain ⟨U, e1, hU⟩ := l1
  generalize hu : us l n = u at *
  have l2 : ∃ p : Int32 × (Nat → Int32), lpF (Block_makeUps_L46 U) gas ((0 : Int32), (0 : Int32), mem0) = some p ∧ p.1 = nI (cnt u 256) ∧ ∀ b, b < 256 → u b = true → p.2 (cnt u b) = nI b := by
    refine lp_for (fun i s => ∃ f, s = (nI i, nI (cnt u i), f) ∧ ∀ b, b < i → u b = true → f (cnt u b) = nI b) _ (i0 := 0) (N := 256) (Nat.zero_le _) (by omega) ?_ ?_ ⟨_, rfl, fun b h => absurd h (Nat.not_lt_zero _)⟩
    · rintro i s _ hi ⟨f, rfl, hf⟩
      have hc := cnt_le u i
      have hL : Block_makeUps_L46 U (nI i, nI (cnt u i), f) = (if nI (u i).toNat = nI 1 then bd (FrontList_append_f (nI (cnt u i)) f (nI i)) (fun u20 => some (Sum.inl (nI i + (1 : Int32), u20.2, u20.1))) else some (Sum.inl (nI i + (1 : Int32), nI (cnt u i), f))) := by
        show (if nI 256 ≤ nI i then _ else gd (ix (nI i) 256) (if U (nI i).toNatClampNeg = nI 1 then bd (FrontList_append_f (nI (cnt u i)) f (nI i)) (fun u20 => some (Sum.inl (nI i + (1 : Int32), u20.2, u20.1))) else some (Sum.inl (nI i + (1 : Int32), nI (cnt u i), f)))) = _
        rw [if_neg (nI_ge hi (by omega)), nI_clamp (show i < 2 ^ 31 by omega), hU i hi, ixN hi (by omega)]
        rfl
      rw [hL, nI_1]
      cases hui : u i with
      | true =>
        refine ⟨(nI (i + 1), nI (cnt u (i + 1)), upd f (cnt u i) (nI i)), ?_, _, rfl, fun b hb hb2 => ?_⟩
        · rw [if_pos (show nI true.toNat = nI 1 from rfl), fl_append (by omega), bd_s, cnt_s, hui]
          rfl
        · rcases Nat.lt_or_ge b i with h3 | h3
          · have h4 := cnt_mon_n u (show b + 1 ≤ i from h3)
            rw [cnt_s, tN_t hb2] at h4
            rw [pk_un (by omega)]
            exact hf b h3 hb2
          · rw [show b = i by omega, pk_us]
      | false =>
        refine ⟨(nI (i + 1), nI (cnt u i), f), ?_, f, ?_, fun b hb hb2 => ?_⟩
        · rw [if_neg (by decide)]
        · rw [cnt_s, tN_f hui, Nat.add_zero (cnt u i)]
        · rcases Nat.lt_or_ge b i with h3 | h3
          · exact hf b h3 hb2
          · rw [show b = i by omega, hui] at hb2
            cases hb2
    · rintro s ⟨f, rfl, hf⟩
      refine ⟨(nI (cnt u 256), f), ?_, rfl, hf⟩
      show (if nI 256 ≤ nI 256 then _ else _) = _
      rw [if_pos (nI_le (Nat.le_refl 256) (by omega))]
  obtain ⟨⟨c1, mem1⟩, e2, hc1, hm1⟩ := l2
  have hc1 : c1 = nI (cnt u 256) := hc1
  have hc := cnt_le u 256
  have hRS : RS (cnt u 256) mem1 (nth u) := list_RS hm1
  have hin : ∀ i, i < n → ∃ a, a < cnt u 256 ∧ nth u a = l i := nth_in (fun j hj => (hl j hj).2) (fun b _ => by rw [hu])
  have l3 : ∃ p : (Nat → Int32) × (Nat → Int32), lpF (Block_makeUps_L79 (nI n) (nI (cnt u 256), mem1) last) gas ((0 : Int32), mem1, ups0) = some p ∧ RS n p.2 (upN l (nth u) (cnt u 256)) := by
    refine lp_for (fun i s => ∃ f A, s = (nI i, f, A) ∧ RS (cnt u 256) f (lsN l (nth u) (cnt u 256) i) ∧ RS i A (upN l (nth u) (cnt u 256))) _ (i0 := 0) (N := n) (Nat.zero_le _) (by omega) ?_ ?_ ⟨_, _, rfl, hRS, fun j h => absurd h (Nat.not_lt_zero _)⟩
    · rintro i s _ hi ⟨f, A, rfl, hf, hA⟩
      obtain ⟨h1, h2⟩ := hl i hi
      obtain ⟨h3, h4, h5⟩ := up_in hin hi
      have hra : FrontList_raise_f (nI (cnt u 256)) f (nI (l i)) = some (nI (upN l (nth u) (cnt u 256) i), mtf f (upN l (nth u) (cnt u 256) i)) := by
        refine fl_raise h3 hc (by rw [hf _ h3, h4]) (fun j hj q => h5 j hj ?_)
        rw [hf j (by omega)] at q
        have h6 := lsN_b (l := l) (c := cnt u 256) (nth_le u) i j
        exact (nI_eq (by omega) (by omega)).mp q
      refine ⟨(nI (i + 1), mtf f (upN l (nth u) (cnt u 256) i), upd A i (nI (upN l (nth u) (cnt u 256) i))), ?_, _, _, rfl, RS_mtf h3 hf, fun j hj => ?_⟩
      · show (if nI n ≤ nI i then _ else gd (ix (nI i) 2250) (bd (FrontList_raise_f (nI (cnt u 256)) f (last (nI i).toNatClampNeg)) (fun u14 => gd (ix (nI i) 2250) (some (Sum.inl (nI i + (1 : Int32), u14.2, upd A (nI i).toNatClampNeg u14.1)))))) = _
        rw [if_neg (nI_ge hi (by omega)), nI_clamp (show i < 2 ^ 31 by omega), h1, hra, bd_s, ixN (show i < 2250 by omega) (by omega), nI_1]
        rfl
      · rcases Nat.lt_or_ge j i with h6 | h6
        · rw [pk_un (by omega)]
          exact hA j h6
        · rw [show j = i by omega, pk_us]
    · rintro s ⟨f, A, rfl, hf, hA⟩
      refine ⟨(f, A), ?_, hA⟩
      show (if nI n ≤ nI n then _ else _) = _
      rw [if_pos (nI_le (Nat.le_refl n) (by omega))]
  obtain ⟨⟨mem, ups⟩, e3, hups⟩ := l3
  refine ⟨U, mem, ups, ?_, hU, hups⟩
  unfold Block_makeUps_f
  rw [show Arrays_fill0_f 256 (0 : Int32) used0 = some (flr used0 0 256 0) from fill0_eq (by omega) 0 used0, bd_s, e1, bd_s, e2, bd_s, hc1]
  show bd (lpF (Block_makeUps_L79 (nI n) (nI (cnt u 256), mem1) last) gas ((0 : Int32), mem1, ups0)) _ = _
  rw [e3]
  rfl
