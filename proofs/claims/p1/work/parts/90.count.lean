/-! COUNTING -/
theorem lp_for {S E : Type} {b : S → Option (S ⊕ E)} (I : Nat → S → Prop) (post : E → Prop) {i0 N : Nat} (hi : i0 ≤ N) (hN : N < 1000000)
    (step : ∀ i s, i0 ≤ i → i < N → I i s → ∃ s2, b s = some (Sum.inl s2) ∧ I (i + 1) s2) (fin : ∀ s, I N s → ∃ e, b s = some (Sum.inr e) ∧ post e) {s : S} (h0 : I i0 s) : ∃ e, lpF b gas s = some e ∧ post e := by
  have key : ∀ (n i : Nat) (s : S), i0 ≤ i → i ≤ N → N - i < n → I i s → ∃ e, lpF b n s = some e ∧ post e := by
    intro n
    induction n with
    | zero => intro i s _ _ h; omega
    | succ n ih =>
      intro i s h0 hi hn hI
      rcases Nat.lt_or_ge i N with h | h
      · obtain ⟨s2, hb, h2⟩ := step i s h0 h hI
        obtain ⟨e, he, hp⟩ := ih (i + 1) s2 (by omega) (by omega) (by omega) h2
        exact ⟨e, by rw [lpF_s, hb]; exact he, hp⟩
      · have h2 : i = N := by omega
        subst h2
        obtain ⟨e, hb, hp⟩ := fin s hI
        exact ⟨e, by rw [lpF_s, hb]; rfl, hp⟩
  exact key gas i0 s (Nat.le_refl _) hi (Nat.lt_of_lt_of_le (by omega) gas_le) h0
theorem gd_t {α : Type} (x : Option α) : gd true x = x := rfl
theorem bd_s {α β : Type} (a : α) (f : α → Option β) : bd (some a) f = f a := rfl
def cnt (p : Nat → Bool) : Nat → Nat
  | 0 => 0
  | n + 1 => cnt p n + (p n).toNat
theorem cnt_s (p : Nat → Bool) (n : Nat) : cnt p (n + 1) = cnt p n + (p n).toNat := rfl
theorem tN_t {b : Bool} (h : b = true) : b.toNat = 1 := by rw [h]; rfl
theorem tN_f {b : Bool} (h : b = false) : b.toNat = 0 := by rw [h]; rfl
theorem tN_le (b : Bool) : b.toNat ≤ 1 := by cases b <;> decide
theorem cnt_le (p : Nat → Bool) : ∀ n : Nat, cnt p n ≤ n := by
  intro n
  induction n with
  | zero => exact Nat.le_refl _
  | succ n ih =>
    have h := tN_le (p n)
    rw [cnt_s]
    omega
theorem cnt_mono {p q : Nat → Bool} : ∀ {n : Nat}, (∀ j, j < n → p j = true → q j = true) → cnt p n ≤ cnt q n := by
  intro n
  induction n with
  | zero => intro _; exact Nat.le_refl _
  | succ n ih =>
    intro h
    have h1 := ih (fun j hj => h j (by omega))
    have h3 : (p n).toNat ≤ (q n).toNat := by
      cases hp : p n with
      | false => exact Nat.zero_le _
      | true => rw [h n (by omega) hp]; exact Nat.le_refl _
    rw [cnt_s, cnt_s]
    omega
theorem cnt_congr {p q : Nat → Bool} : ∀ {n : Nat}, (∀ j, j < n → p j = q j) → cnt p n = cnt q n := by
  intro n
  induction n with
  | zero => intro _; rfl
  | succ n ih =>
    intro h
    rw [cnt_s, cnt_s, ih (fun j hj => h j (by omega)), h n (by omega)]
theorem cnt_ins {p q : Nat → Bool} {j0 : Nat} : ∀ {n : Nat}, j0 < n → p j0 = false → q j0 = true → (∀ j, j < n → j ≠ j0 → q j = p j) → cnt q n = cnt p n + 1 := by
  intro n
  induction n with
  | zero => intro h; omega
  | succ n ih =>
    intro h hp hq hh
    rw [cnt_s, cnt_s]
    rcases Nat.lt_or_ge j0 n with h2 | h2
    · have h3 := ih h2 hp hq (fun j hj => hh j (by omega))
      rw [hh n (by omega) (by omega)]
      omega
    · have h3 : j0 = n := by omega
      subst h3
      have h4 : cnt q j0 = cnt p j0 := cnt_congr (fun j hj => hh j (by omega) (by omega))
      rw [tN_t hq, tN_f hp]
      omega
theorem cnt_lt {p q : Nat → Bool} {j0 n : Nat} (h : j0 < n) (hm : ∀ j, j < n → p j = true → q j = true) (hq : q j0 = true) (hp : p j0 = false) : cnt p n < cnt q n := by
  have h1 : cnt (fun j => p j || decide (j = j0)) n = cnt p n + 1 := by
    refine cnt_ins h hp (by simp) (fun j _ hj => ?_)
    simp [hj]
  have h2 : cnt (fun j => p j || decide (j = j0)) n ≤ cnt q n := by
    refine cnt_mono (fun j hj h3 => ?_)
    simp only [Bool.or_eq_true, decide_eq_true_eq] at h3
    rcases h3 with h3 | h3
    · exact hm j hj h3
    · rw [h3]; exact hq
  omega
theorem cnt_or {p q r : Nat → Bool} : ∀ {n : Nat}, (∀ j, j < n → r j = (p j || q j)) → (∀ j, j < n → p j = true → q j = false) → cnt r n = cnt p n + cnt q n := by
  intro n
  induction n with
  | zero => intro _ _; rfl
  | succ n ih =>
    intro h h2
    have h3 := ih (fun j hj => h j (by omega)) (fun j hj => h2 j (by omega))
    rw [cnt_s, cnt_s, cnt_s, h n (by omega)]
    cases hp : p n with
    | false => 
      rw [Bool.false_or, tN_f (b := false) rfl]
      omega
    | true =>
      rw [h2 n (by omega) hp]
      rw [Bool.or_false, tN_f (b := false) rfl]
      omega
theorem cnt_true (n : Nat) : cnt (fun _ => true) n = n := by
  induction n with
  | zero => rfl
  | succ n ih => rw [cnt_s, ih]; rfl
theorem cnt_all {p : Nat → Bool} {n : Nat} (h : ∀ j, j < n → p j = true) : cnt p n = n := (cnt_congr h).trans (cnt_true n)
theorem cnt_none {p : Nat → Bool} : ∀ {n : Nat}, (∀ j, j < n → p j = false) → cnt p n = 0 := by
  intro n
  induction n with
  | zero => intro _; rfl
  | succ n ih =>
    intro h
    rw [cnt_s, ih (fun j hj => h j (by omega)), tN_f (h n (by omega))]
theorem cnt_ext {p : Nat → Bool} {n : Nat} : ∀ {m : Nat}, n ≤ m → (∀ j, n ≤ j → j < m → p j = false) → cnt p m = cnt p n := by
  intro m
  induction m with
  | zero => intro h _; rw [show n = 0 by omega]
  | succ m ih =>
    intro h hh
    rcases Nat.lt_or_ge n (m + 1) with h2 | h2
    · rw [cnt_s, ih (by omega) (fun j h3 h4 => hh j h3 (by omega)), tN_f (hh m (by omega) (by omega)), Nat.add_zero]
    · rw [show n = m + 1 by omega]
theorem cnt_mon_n (p : Nat → Bool) {n : Nat} : ∀ {m : Nat}, n ≤ m → cnt p n ≤ cnt p m := by
  intro m
  induction m with
  | zero => intro h; rw [show n = 0 by omega]; exact Nat.le_refl _
  | succ m ih =>
    intro h
    rcases Nat.lt_or_ge n (m + 1) with h2 | h2
    · have h3 := ih (by omega)
      rw [cnt_s]
      omega
    · rw [show n = m + 1 by omega]; exact Nat.le_refl _
theorem cnt_at {p : Nat → Bool} {s : Nat} : ∀ {n : Nat}, s < cnt p n → ∃ k, k < n ∧ p k = true ∧ cnt p k = s := by
  intro n
  induction n with
  | zero => intro h; exact absurd h (Nat.not_lt_zero _)
  | succ n ih =>
    intro h
    rcases Nat.lt_or_ge s (cnt p n) with h2 | h2
    · obtain ⟨k, hk, h3, h4⟩ := ih h2
      exact ⟨k, by omega, h3, h4⟩
    · rw [cnt_s] at h
      have h5 := tN_le (p n)
      cases hp : p n with
      | false => rw [tN_f hp] at h; omega
      | true =>
        refine ⟨n, by omega, hp, ?_⟩
        rw [tN_t hp] at h
        omega
/-- the place of b where 0 .. n - 1 are sorted by K: how many are less -/
def kpos (K : Nat → Nat) (n b : Nat) : Nat := cnt (fun y => decide (K y < K b)) n
theorem kpos_lt {K : Nat → Nat} {n b : Nat} (hb : b < n) : kpos K n b < n := by
  have h := cnt_lt (p := fun y => decide (K y < K b)) (q := fun _ => true) hb (fun _ _ _ => rfl) rfl (by simp)
  rwa [cnt_true] at h
theorem kpos_mono {K : Nat → Nat} {n x y : Nat} (hx : x < n) (h : K x < K y) : kpos K n x < kpos K n y := by
  refine cnt_lt hx (fun j _ h2 => ?_) (by simpa using h) (by simp)
  simp only [decide_eq_true_eq] at h2 ⊢
  omega
theorem kpos_eq {K : Nat → Nat} {n x y : Nat} (h : K x = K y) : kpos K n x = kpos K n y := by
  unfold kpos
  rw [h]
theorem kpos_lt_iff {K : Nat → Nat} {n x y : Nat} (hx : x < n) (hy : y < n) : kpos K n x < kpos K n y ↔ K x < K y := by
  refine ⟨fun h => ?_, kpos_mono hx⟩
  rcases Nat.lt_trichotomy (K x) (K y) with h2 | h2 | h2
  · exact h2
  · have := kpos_eq (n := n) h2
    omega
  · have := kpos_mono hy h2
    omega
theorem kpos_eq_iff {K : Nat → Nat} {n x y : Nat} (hx : x < n) (hy : y < n) : kpos K n x = kpos K n y ↔ K x = K y := by
  refine ⟨fun h => ?_, kpos_eq⟩
  rcases Nat.lt_trichotomy (K x) (K y) with h2 | h2 | h2
  · have := kpos_mono hx h2
    omega
  · exact h2
  · have := kpos_mono hy h2
    omega
/-- a map of 0 .. n - 1 into itself that never takes one value twice takes each -/
theorem pigeon : ∀ (n : Nat) (f : Nat → Nat), (∀ i, i < n → f i < n) → (∀ i j, i < n → j < n → f i = f j → i = j) → ∀ q, q < n → ∃ i, i < n ∧ f i = q := by
  intro n
  induction n with
  | zero => intro f _ _ q h; omega
  | succ n ih =>
    intro f hf hi q hq
    by_cases h0 : q = f n
    · exact ⟨n, by omega, h0.symm⟩
    · have hne : ∀ i, i < n → f i ≠ f n := fun i h2 h3 => by
        have := hi i n (by omega) (by omega) h3
        omega
      have hfn := hf n (by omega)
      obtain ⟨i, h1, h2⟩ := ih (fun i => if f n < f i then f i - 1 else f i)
        (fun i h2 => by
          have h3 := hf i (by omega)
          have h4 := hne i h2
          show (if f n < f i then f i - 1 else f i) < n
          by_cases h5 : f n < f i
          · rw [if_pos h5]; omega
          · rw [if_neg h5]; omega)
        (fun i j h2 h3 h4 => by
          refine hi i j (by omega) (by omega) ?_
          have h5 := hne i h2
          have h6 := hne j h3
          have h4 : (if f n < f i then f i - 1 else f i) = (if f n < f j then f j - 1 else f j) := h4
          by_cases h7 : f n < f i
          · by_cases h8 : f n < f j
            · rw [if_pos h7, if_pos h8] at h4; omega
            · rw [if_pos h7, if_neg h8] at h4; omega
          · by_cases h8 : f n < f j
            · rw [if_neg h7, if_pos h8] at h4; omega
            · rw [if_neg h7, if_neg h8] at h4; omega)
        (if f n < q then q - 1 else q)
        (by
          by_cases h5 : f n < q
          · rw [if_pos h5]; omega
          · rw [if_neg h5]; omega)
      refine ⟨i, by omega, ?_⟩
      have h6 := hne i h1
      have h2 : (if f n < f i then f i - 1 else f i) = (if f n < q then q - 1 else q) := h2
      by_cases h7 : f n < f i
      · by_cases h8 : f n < q
        · rw [if_pos h7, if_pos h8] at h2; omega
        · rw [if_pos h7, if_neg h8] at h2; omega
      · by_cases h8 : f n < q
        · rw [if_neg h7, if_pos h8] at h2; omega
        · rw [if_neg h7, if_neg h8] at h2; omega
theorem kpos_sur {K : Nat → Nat} {n q : Nat} (hK : ∀ x y, x < n → y < n → K x = K y → x = y) (hq : q < n) : ∃ b, b < n ∧ kpos K n b = q :=
  pigeon n (kpos K n) (fun i h => kpos_lt h) (fun i j hi hj h => hK i j hi hj ((kpos_eq_iff hi hj).mp h)) q hq
/-- by V first, then by e, which is less than n -/
def lexk (V e : Nat → Nat) (n x : Nat) : Nat := V x * n + e x
theorem lexk_lt {V e : Nat → Nat} {n x y : Nat} (hx : e x < n) (hy : e y < n) : lexk V e n x < lexk V e n y ↔ V x < V y ∨ (V x = V y ∧ e x < e y) := by
  unfold lexk
  rcases Nat.lt_trichotomy (V x) (V y) with h | h | h
  · have h2 : (V x + 1) * n ≤ V y * n := Nat.mul_le_mul_right n h
    rw [Nat.add_mul, Nat.one_mul] at h2
    exact ⟨fun _ => Or.inl h, fun _ => by omega⟩
  · rw [h]
    exact ⟨fun _ => Or.inr ⟨rfl, by omega⟩, fun h2 => by omega⟩
  · have h2 : (V y + 1) * n ≤ V x * n := Nat.mul_le_mul_right n h
    rw [Nat.add_mul, Nat.one_mul] at h2
    exact ⟨fun _ => by omega, fun _ => by omega⟩
theorem lexk_inj {V e : Nat → Nat} {n : Nat} (he : ∀ x, x < n → e x < n) (hi : ∀ x y, x < n → y < n → e x = e y → x = y) {x y : Nat} (hx : x < n) (hy : y < n) (h : lexk V e n x = lexk V e n y) : x = y := by
  have h1 : ¬ lexk V e n x < lexk V e n y := by omega
  have h2 : ¬ lexk V e n y < lexk V e n x := by omega
  rw [lexk_lt (he x hx) (he y hy)] at h1
  rw [lexk_lt (he y hy) (he x hx)] at h2
  exact hi x y hx hy (by omega)
theorem lexk_pos {V e : Nat → Nat} {n b : Nat} (he : ∀ x, x < n → e x < n) (hb : b < n) : kpos (lexk V e n) n b = kpos V n b + cnt (fun y => decide (V y = V b ∧ e y < e b)) n := by
  refine cnt_or (fun j hj => ?_) (fun j hj h => ?_)
  · rw [← Bool.decide_or, decide_eq_decide]
    exact lexk_lt (he j hj) (he b hb)
  · simp only [decide_eq_true_eq, decide_eq_false_iff_not] at h ⊢
    omega
