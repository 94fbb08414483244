/-! BITS: the pieces of a block, as rows of bits -/
/-- one of the sixteen bytes from 16 s on is there -/
def u16 (u : Nat → Bool) (s : Nat) : Bool := decide (0 < cnt (fun b => u b && decide (b / 16 = s)) 256)
theorem u16_iff {u : Nat → Bool} {s : Nat} : u16 u s = true ↔ ∃ b, b < 256 ∧ u b = true ∧ b / 16 = s := by
  unfold u16
  rw [decide_eq_true_eq]
  constructor
  · intro h
    obtain ⟨k, hk, h2, _⟩ := cnt_at h
    simp only [Bool.and_eq_true, decide_eq_true_eq] at h2
    exact ⟨k, hk, h2.1, h2.2⟩
  · intro ⟨b, hb, h1, h2⟩
    exact cnt_pos hb (by simp [h1, h2])
def ub1 (u : Nat → Bool) : Nat → List Bool
  | 0 => []
  | s + 1 => ub1 u s ++ [u16 u s]
def ub2 (u : Nat → Bool) : Nat → List Bool
  | 0 => []
  | b + 1 => ub2 u b ++ (if u16 u (b / 16) = true then [u b] else [])
theorem ub1_len (u : Nat → Bool) : ∀ s, (ub1 u s).length = s := by
  intro s
  induction s with
  | zero => rfl
  | succ s ih => rw [ub1, List.length_append, ih]; rfl
theorem ub2_len (u : Nat → Bool) : ∀ b, (ub2 u b).length ≤ b := by
  intro b
  induction b with
  | zero => exact Nat.le_refl _
  | succ b ih =>
    rw [ub2, List.length_append]
    by_cases h : u16 u (b / 16) = true
    · rw [if_pos h]
      show _ + 1 ≤ _
      omega
    · rw [if_neg h]
      show _ + 0 ≤ _
      omega
def on1 : Nat → List Bool
  | 0 => []
  | a + 1 => on1 a ++ [true]
theorem on1_len : ∀ a, (on1 a).length = a := by
  intro a
  induction a with
  | zero => rfl
  | succ a ih => rw [on1, List.length_append, ih]; rfl
/-- the groups' tables, told by how far up they stand -/
def gb (tb : Nat → Nat) (tc : Nat) : Nat → List Bool
  | 0 => []
  | g + 1 => gb tb tc g ++ (on1 (upN tb (fun j => j) tc g) ++ [false])
theorem gb_len {tb : Nat → Nat} {tc G : Nat} (h : ∀ g, g < G → upN tb (fun j => j) tc g < 6) : ∀ g, g ≤ G → (gb tb tc g).length ≤ 7 * g := by
  intro g
  induction g with
  | zero => intro _; exact Nat.le_refl _
  | succ g ih =>
    intro hg
    have h1 := ih (by omega)
    have h2 := h g (by omega)
    rw [gb, List.length_append, List.length_append, on1_len]
    show _ + (_ + 1) ≤ _
    omega
def ch (x : Bool) : Nat → List Bool
  | 0 => []
  | d + 1 => ch x d ++ [true, x]
theorem ch_len (x : Bool) : ∀ d, (ch x d).length = 2 * d := by
  intro d
  induction d with
  | zero => rfl
  | succ d ih =>
    rw [ch, List.length_append, ih]
    show _ + 2 = _
    omega
/-- from one length to the next -/
def chg (a b : Nat) : List Bool := ch false (b - a) ++ (ch true (a - b) ++ [false])
theorem chg_len {a b : Nat} (ha : 1 ≤ a) (hb : 1 ≤ b) (ha2 : a ≤ 15) (hb2 : b ≤ 15) : (chg a b).length ≤ 29 := by
  unfold chg
  rw [List.length_append, List.length_append, ch_len, ch_len]
  show _ + (_ + 1) ≤ _
  omega
/-- a table's lengths -/
def lb (L : Nat → Nat) : Nat → List Bool
  | 0 => pb (nI (L 0)) 5
  | k + 1 => lb L k ++ chg (L (k - 1)) (L k)
theorem lb_len {L : Nat → Nat} {n : Nat} (h : ∀ k, k < n → 1 ≤ L k ∧ L k ≤ 15) : ∀ k, k ≤ n → (lb L k).length ≤ 5 + 29 * k := by
  intro k
  induction k with
  | zero => intro _; rw [lb, pb_len]; omega
  | succ k ih =>
    intro hk
    have h1 := ih (by omega)
    have h2 := h k (by omega)
    have h3 := h (k - 1) (by omega)
    have h4 := chg_len h3.1 h2.1 h3.2 h2.2
    rw [lb, List.length_append]
    omega
def tl (Lt : Nat → Nat → Nat) (n : Nat) : Nat → List Bool
  | 0 => []
  | t + 1 => tl Lt n t ++ lb (Lt t) n
theorem tl_len {Lt : Nat → Nat → Nat} {n tc : Nat} (h : ∀ t k, t < tc → k < n → 1 ≤ Lt t k ∧ Lt t k ≤ 15) : ∀ t, t ≤ tc → (tl Lt n t).length ≤ (5 + 29 * n) * t := by
  intro t
  induction t with
  | zero => intro _; exact Nat.le_refl _
  | succ t ih =>
    intro ht
    have h1 := ih (by omega)
    have h2 := lb_len (fun k hk => h t k (by omega) hk) n (Nat.le_refl _)
    rw [tl, List.length_append, Nat.mul_succ]
    omega
/-- the symbols' codes -/
def sb (s tb : Nat → Nat) (Lt Ct : Nat → Nat → Nat) : Nat → List Bool
  | 0 => []
  | i + 1 => sb s tb Lt Ct i ++ pb (nI (Ct (tb (i / 50)) (s i))) (Lt (tb (i / 50)) (s i))
theorem sb_len {s tb : Nat → Nat} {Lt Ct : Nat → Nat → Nat} {m : Nat} (h : ∀ i, i < m → Lt (tb (i / 50)) (s i) ≤ 15) : ∀ i, i ≤ m → (sb s tb Lt Ct i).length ≤ 15 * i := by
  intro i
  induction i with
  | zero => intro _; exact Nat.le_refl _
  | succ i ih =>
    intro hi
    have h1 := ih (by omega)
    have h2 := h i (by omega)
    rw [sb, List.length_append, pb_len]
    omega
theorem pb_11 : pb (1 : Int32) 1 = [true] := by decide
theorem pb_01 : pb (0 : Int32) 1 = [false] := by decide
theorem pb_22 : pb (2 : Int32) 2 = [true, false] := by decide
theorem pb_32' : pb (3 : Int32) 2 = [true, true] := by decide
theorem pb_b (b : Bool) : pb (nI b.toNat) 1 = [b] := by cases b <;> decide
