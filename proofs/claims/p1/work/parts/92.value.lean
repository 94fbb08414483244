/-! ROTATED: the first k bytes of a rotation, as one number -/
theorem lex_lt {u v e f M : Nat} (he : e < M) (hf : f < M) : u * M + e < v * M + f ↔ u < v ∨ (u = v ∧ e < f) := by
  rcases Nat.lt_trichotomy u v with h | h | h
  · have h2 : (u + 1) * M ≤ v * M := Nat.mul_le_mul_right M h
    rw [Nat.add_mul, Nat.one_mul] at h2
    exact ⟨fun _ => Or.inl h, fun _ => by omega⟩
  · rw [h]
    exact ⟨fun _ => Or.inr ⟨rfl, by omega⟩, fun h2 => by omega⟩
  · have h2 : (v + 1) * M ≤ u * M := Nat.mul_le_mul_right M h
    rw [Nat.add_mul, Nat.one_mul] at h2
    exact ⟨fun _ => by omega, fun _ => by omega⟩
theorem lex_eq {u v e f M : Nat} (he : e < M) (hf : f < M) : u * M + e = v * M + f ↔ u = v ∧ e = f := by
  constructor
  · intro h
    have h1 : ¬ u * M + e < v * M + f := by omega
    have h2 : ¬ v * M + f < u * M + e := by omega
    rw [lex_lt he hf] at h1
    rw [lex_lt hf he] at h2
    omega
  · intro ⟨h1, h2⟩
    rw [h1, h2]
def rv (t : Nat → Nat) (n x : Nat) : Nat → Nat
  | 0 => 0
  | k + 1 => rv t n x k * 256 + t ((x + k) % n)
theorem rv_s (t : Nat → Nat) (n x k : Nat) : rv t n x (k + 1) = rv t n x k * 256 + t ((x + k) % n) := rfl
theorem rv_b {t : Nat → Nat} {n : Nat} (h0 : 0 < n) (ht : ∀ j, j < n → t j < 256) (x k : Nat) : rv t n x k < 256 ^ k := by
  induction k with
  | zero => exact Nat.zero_lt_one
  | succ k ih =>
    have h1 := ht ((x + k) % n) (Nat.mod_lt _ h0)
    rw [rv_s, Nat.pow_succ]
    omega
theorem rv_add (t : Nat → Nat) (n x a b : Nat) : rv t n x (a + b) = rv t n x a * 256 ^ b + rv t n (x + a) b := by
  induction b with
  | zero => rw [Nat.add_zero, Nat.pow_zero, Nat.mul_one]; rfl
  | succ b ih =>
    rw [← Nat.add_assoc, rv_s, ih, rv_s, Nat.add_mul, Nat.mul_assoc, ← Nat.pow_succ, Nat.add_assoc, Nat.add_assoc x a b]
theorem rv_mod (t : Nat → Nat) (n x k : Nat) : rv t n (x % n) k = rv t n x k := by
  induction k with
  | zero => rfl
  | succ k ih => rw [rv_s, rv_s, ih, Nat.mod_add_mod]
theorem rv_lt {t : Nat → Nat} {n : Nat} (h0 : 0 < n) (ht : ∀ j, j < n → t j < 256) (x y a b : Nat) : rv t n x (a + b) < rv t n y (a + b) ↔ rv t n x a < rv t n y a ∨ (rv t n x a = rv t n y a ∧ rv t n (x + a) b < rv t n (y + a) b) := by
  rw [rv_add, rv_add]
  exact lex_lt (rv_b h0 ht _ _) (rv_b h0 ht _ _)
theorem rv_eq {t : Nat → Nat} {n : Nat} (h0 : 0 < n) (ht : ∀ j, j < n → t j < 256) (x y a b : Nat) : rv t n x (a + b) = rv t n y (a + b) ↔ rv t n x a = rv t n y a ∧ rv t n (x + a) b = rv t n (y + a) b := by
  rw [rv_add, rv_add]
  exact lex_eq (rv_b h0 ht _ _) (rv_b h0 ht _ _)
/-- more than all bytes tell no more -/
theorem rv_per {t : Nat → Nat} {n : Nat} (h0 : 0 < n) (ht : ∀ j, j < n → t j < 256) {x y : Nat} (h : rv t n x n = rv t n y n) : ∀ k, rv t n x k = rv t n y k := by
  have hk : ∀ k, k < n → t ((x + k) % n) = t ((y + k) % n) := by
    intro k hk
    have h1 : rv t n x (k + 1) = rv t n y (k + 1) := by
      have h2 := (rv_eq h0 ht x y (k + 1) (n - (k + 1))).mp
      rw [show k + 1 + (n - (k + 1)) = n by omega] at h2
      exact (h2 h).1
    have h3 := (rv_eq h0 ht x y k 1).mp h1
    have h4 : rv t n (x + k) 1 = rv t n (y + k) 1 := h3.2
    rw [rv_s, rv_s] at h4
    have h5 : 0 * 256 + t ((x + k + 0) % n) = 0 * 256 + t ((y + k + 0) % n) := h4
    rw [Nat.add_zero, Nat.add_zero] at h5
    omega
  have ha : ∀ k, t ((x + k) % n) = t ((y + k) % n) := by
    intro k
    have h1 := hk (k % n) (Nat.mod_lt _ h0)
    rwa [Nat.add_mod_mod, Nat.add_mod_mod] at h1
  intro k
  induction k with
  | zero => rfl
  | succ k ih => rw [rv_s, rv_s, ih, ha]
/-- where w bytes tell all apart, or w is n or more, they tell the order of rotations -/
theorem rv_done {t : Nat → Nat} {n w : Nat} (h0 : 0 < n) (ht : ∀ j, j < n → t j < 256) (hw : n ≤ w ∨ ∀ x y, x < n → y < n → rv t n x w = rv t n y w → x = y) {x y : Nat} (hx : x < n) (hy : y < n) : rv t n x w < rv t n y w ↔ rv t n x n < rv t n y n := by
  rcases Nat.lt_or_ge w n with h | h
  · have hi : ∀ x y, x < n → y < n → rv t n x w = rv t n y w → x = y := by
      rcases hw with q | q
      · omega
      · exact q
    have h2 := rv_lt h0 ht x y w (n - w)
    rw [show w + (n - w) = n by omega] at h2
    rw [h2]
    constructor
    · exact Or.inl
    · rintro (q | ⟨q, q2⟩)
      · exact q
      · rw [hi x y hx hy q] at q2
        omega
  · have h2 := rv_lt h0 ht x y n (w - n)
    rw [show n + (w - n) = w by omega] at h2
    rw [h2]
    constructor
    · rintro (q | ⟨q, q2⟩)
      · exact q
      · have h3 := rv_per h0 ht q (n + (w - n))
        rw [rv_add, rv_add, q] at h3
        omega
    · exact Or.inl
/-- the order of the block's rotations: by their bytes, equal ones by their place -/
def rot (t : Nat → Nat) (n : Nat) : Nat → Nat := lexk (fun x => rv t n x n) (fun x => x) n
