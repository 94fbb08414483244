/-! COUNTING SORT: σ tells the slot of an element, V what it is sorted by, e when it is dealt out -/
def cs_S (σ V e : Nat → Nat) (n a : Nat) (S : Nat → Int32) : Prop := ∀ b, b < n → S (σ b) = nI (kpos V n b + cnt (fun y => decide (V y = V b ∧ e y < a)) n)
def cs_O (V e : Nat → Nat) (n a : Nat) (O : Nat → Int32) : Prop := ∀ b, b < n → e b < a → O (kpos (lexk V e n) n b) = nI b
theorem cs_S0 {σ V e : Nat → Nat} {n : Nat} {S : Nat → Int32} (h : ∀ b, b < n → S (σ b) = nI (kpos V n b)) : cs_S σ V e n 0 S := by
  intro b hb
  rw [h b hb, cnt_none (fun j _ => decide_eq_false (by omega)), Nat.add_zero]
theorem cs_O0 {V e : Nat → Nat} {n : Nat} {O : Nat → Int32} : cs_O V e n 0 O := fun b _ h => absurd h (Nat.not_lt_zero _)
theorem cs_at {σ V e : Nat → Nat} {n a x : Nat} {S : Nat → Int32} (he : ∀ x, x < n → e x < n) (hS : cs_S σ V e n a S) (hx : x < n) (hex : e x = a) : S (σ x) = nI (kpos (lexk V e n) n x) := by
  rw [hS x hx, lexk_pos he hx, hex]
theorem cs_stepS {σ V e : Nat → Nat} {n a x : Nat} {S : Nat → Int32} (he : ∀ x, x < n → e x < n) (hi : ∀ x y, x < n → y < n → e x = e y → x = y) (hσ : ∀ x y, x < n → y < n → (σ x = σ y ↔ V x = V y)) (hS : cs_S σ V e n a S) (hx : x < n) (hex : e x = a) :
    cs_S σ V e n (a + 1) (upd S (σ x) (nI (kpos (lexk V e n) n x + 1))) := by
  intro b hb
  by_cases h : V b = V x
  · rw [(hσ b x hb hx).mpr h, pk_us, lexk_pos he hx]
    have h1 : cnt (fun y => decide (V y = V b ∧ e y < a + 1)) n = cnt (fun y => decide (V y = V x ∧ e y < e x)) n + 1 := by
      refine cnt_ins hx (decide_eq_false (by omega)) (decide_eq_true (by omega)) (fun j hj hjx => ?_)
      have h2 : e j ≠ e x := fun q => hjx (hi j x hj hx q)
      rw [decide_eq_decide]
      omega
    rw [h1, kpos_eq (K := V) (n := n) h]
    exact congrArg nI (by omega)
  · rw [pk_un (fun q => h ((hσ b x hb hx).mp q)), hS b hb]
    have h1 : cnt (fun y => decide (V y = V b ∧ e y < a + 1)) n = cnt (fun y => decide (V y = V b ∧ e y < a)) n := by
      refine cnt_congr (fun j hj => ?_)
      rw [decide_eq_decide]
      constructor
      · intro ⟨h2, h3⟩
        refine ⟨h2, ?_⟩
        have h4 : e j ≠ a := fun q => h (by rw [← h2, hi j x hj hx (by omega)])
        omega
      · intro ⟨h2, h3⟩
        exact ⟨h2, by omega⟩
    rw [h1]
theorem cs_stepO {V e : Nat → Nat} {n a x : Nat} {O : Nat → Int32} (he : ∀ x, x < n → e x < n) (hi : ∀ x y, x < n → y < n → e x = e y → x = y) (hO : cs_O V e n a O) (hx : x < n) (hex : e x = a) :
    cs_O V e n (a + 1) (upd O (kpos (lexk V e n) n x) (nI x)) := by
  intro b hb hba
  by_cases h : b = x
  · rw [h, pk_us]
  · have h1 : e b ≠ e x := fun q => h (hi b x hb hx q)
    have h2 : kpos (lexk V e n) n b ≠ kpos (lexk V e n) n x := fun q => h (lexk_inj he hi hb hx ((kpos_eq_iff hb hx).mp q))
    rw [pk_un h2]
    exact hO b hb (by omega)
/-! ranks from an order: K sorts finer than V -/
theorem rk_new {K V : Nat → Nat} {n x : Nat} (hK : ∀ x y, x < n → y < n → K x = K y → x = y) (hm : ∀ x y, x < n → y < n → K x < K y → V x ≤ V y) (hx : x < n) (hp : ∀ p, p < n → kpos K n p + 1 = kpos K n x → V p ≠ V x) : kpos V n x = kpos K n x := by
  refine cnt_congr (fun j hj => ?_)
  rw [decide_eq_decide]
  constructor
  · intro h
    rcases Nat.lt_trichotomy (K j) (K x) with h2 | h2 | h2
    · exact h2
    · rw [hK j x hj hx h2] at h
      omega
    · have := hm x j hx hj h2
      omega
  · intro h
    have h1 := kpos_mono hj h
    obtain ⟨p, hpn, hpp⟩ := kpos_sur (q := kpos K n x - 1) hK (Nat.lt_of_le_of_lt (Nat.sub_le _ _) (kpos_lt hx))
    have h2 := hp p hpn (by omega)
    have h3 : K p < K x := (kpos_lt_iff hpn hx).mp (by omega)
    have h4 := hm p x hpn hx h3
    have h5 : ¬ K p < K j := fun q => by
      have := kpos_mono hpn q
      omega
    rcases Nat.lt_or_ge (K j) (K p) with h6 | h6
    · have := hm j p hj hpn h6
      omega
    · rw [hK j p hj hpn (by omega)]
      omega
def rk_I (K V : Nat → Nat) (n a : Nat) (R : Nat → Int32) : Prop := ∀ b, b < n → kpos K n b < a → R b = nI (kpos V n b)
def rk_r (K V : Nat → Nat) (n a r : Nat) : Prop := r ≤ a ∧ (r = a → ∀ x y, x < n → y < n → kpos K n x < kpos K n y → kpos K n y < a → V x < V y)
theorem rk_stepI {K V : Nat → Nat} {n a x : Nat} {R : Nat → Int32} {v : Int32} (hK : ∀ x y, x < n → y < n → K x = K y → x = y) (hI : rk_I K V n a R) (hx : x < n) (hxa : kpos K n x = a) (hv : v = nI (kpos V n x)) : rk_I K V n (a + 1) (upd R x v) := by
  intro b hb hba
  by_cases h : b = x
  · rw [h, pk_us, hv]
  · have h1 : kpos K n b ≠ kpos K n x := fun q => h (hK b x hb hx ((kpos_eq_iff hb hx).mp q))
    rw [pk_un h]
    exact hI b hb (by omega)
theorem rk_eq {K V : Nat → Nat} {n a r : Nat} (h : rk_r K V n a r) : rk_r K V n (a + 1) r := ⟨by have := h.1; omega, fun q => by have := h.1; omega⟩
theorem rk_ne {K V : Nat → Nat} {n a r x : Nat} (hK : ∀ x y, x < n → y < n → K x = K y → x = y) (hm : ∀ x y, x < n → y < n → K x < K y → V x ≤ V y) (h : rk_r K V n a r) (hx : x < n) (hxa : kpos K n x = a) (hp : ∀ p, p < n → kpos K n p + 1 = kpos K n x → V p ≠ V x) : rk_r K V n (a + 1) (r + 1) := by
  refine ⟨by have := h.1; omega, fun q y z hy hz hyz hza => ?_⟩
  have h2 := h.2 (by omega)
  rcases Nat.lt_or_ge (kpos K n z) a with h3 | h3
  · exact h2 y z hy hz hyz h3
  · have h4 : kpos K n z = kpos K n x := by omega
    have h5 : z = x := hK z x hz hx ((kpos_eq_iff hz hx).mp h4)
    subst h5
    obtain ⟨p, hpn, hpp⟩ := kpos_sur (q := kpos K n z - 1) hK (Nat.lt_of_le_of_lt (Nat.sub_le _ _) (kpos_lt hx))
    have h6 := hp p hpn (by omega)
    have h7 : K p < K z := (kpos_lt_iff hpn hx).mp (by omega)
    have h8 := hm p z hpn hx h7
    rcases Nat.lt_or_ge (kpos K n y) (kpos K n p) with h9 | h9
    · have := h2 y p hy hpn h9 (by omega)
      omega
    · have h10 : kpos K n y = kpos K n p := by omega
      rw [hK y p hy hpn ((kpos_eq_iff hy hpn).mp h10)]
      omega
theorem rk_inj {K V : Nat → Nat} {n : Nat} (hK : ∀ x y, x < n → y < n → K x = K y → x = y) (h : rk_r K V n n n) : ∀ x y, x < n → y < n → V x = V y → x = y := by
  intro x y hx hy hV
  rcases Nat.lt_trichotomy (kpos K n x) (kpos K n y) with h2 | h2 | h2
  · have := h.2 rfl x y hx hy h2 (kpos_lt hy)
    omega
  · exact hK x y hx hy ((kpos_eq_iff hx hy).mp h2)
  · have := h.2 rfl y x hy hx h2 (kpos_lt hx)
    omega
