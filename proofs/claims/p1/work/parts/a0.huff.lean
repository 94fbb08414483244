/-! CODES: the two least nodes are joined, again and again -/
theorem updN_s (f : Nat → Nat) (k x : Nat) : updN f k x k = x := if_pos rfl
theorem updN_n (f : Nat → Nat) {k x j : Nat} (h : j ≠ k) : updN f k x j = f j := if_neg h
def sm (f : Nat → Nat) : Nat → Nat
  | 0 => 0
  | n + 1 => sm f n + f n
theorem sm_s (f : Nat → Nat) (n : Nat) : sm f (n + 1) = sm f n + f n := rfl
theorem sm_congr {f g : Nat → Nat} : ∀ {n : Nat}, (∀ j, j < n → f j = g j) → sm f n = sm g n := by
  intro n
  induction n with
  | zero => intro _; rfl
  | succ n ih =>
    intro h
    rw [sm_s, sm_s, ih (fun j hj => h j (by omega)), h n (by omega)]
theorem sm_ins {f g : Nat → Nat} {j0 x : Nat} : ∀ {n : Nat}, j0 < n → f j0 = g j0 + x → (∀ j, j < n → j ≠ j0 → f j = g j) → sm f n = sm g n + x := by
  intro n
  induction n with
  | zero => intro h; omega
  | succ n ih =>
    intro h hx hh
    rw [sm_s, sm_s]
    rcases Nat.lt_or_ge j0 n with h2 | h2
    · have h3 := ih h2 hx (fun j hj => hh j (by omega))
      rw [hh n (by omega) (by omega)]
      omega
    · have h3 : j0 = n := by omega
      subst h3
      have h4 : sm f j0 = sm g j0 := sm_congr (fun j hj => hh j (by omega) (by omega))
      omega
theorem sm_zero {f : Nat → Nat} {n : Nat} (h : ∀ j, j < n → f j = 0) : sm f n = 0 := by
  induction n with
  | zero => rfl
  | succ n ih => rw [sm_s, ih (fun j hj => h j (by omega)), h n (by omega)]
theorem sm_le {f : Nat → Nat} {n j : Nat} (h : j < n) : f j ≤ sm f n := by
  induction n with
  | zero => omega
  | succ n ih =>
    rw [sm_s]
    rcases Nat.lt_or_ge j n with h2 | h2
    · have := ih h2
      omega
    · rw [show j = n by omega]
      omega
def isL (w p : Nat → Nat) (all x : Nat) : Prop := x < all ∧ p x = 0 ∧ ∀ k, k < all → p k = 0 → k = x ∨ w x < w k ∨ (w x = w k ∧ x < k)
theorem isL_u {w p : Nat → Nat} {all x y : Nat} (hx : isL w p all x) (hy : isL w p all y) : x = y := by
  have h1 := hx.2.2 y hy.1 hy.2.1
  have h2 := hy.2.2 x hx.1 hx.2.1
  omega
theorem isL_le {w p : Nat → Nat} {all x k : Nat} (hx : isL w p all x) (hk : k < all) (hp : p k = 0) : w x ≤ w k := by
  rcases hx.2.2 k hk hp with h | h | h
  · rw [h]; exact Nat.le_refl _
  · omega
  · omega
theorem isL_ex {w p : Nat → Nat} : ∀ {all : Nat}, (∃ k, k < all ∧ p k = 0) → ∃ x, isL w p all x := by
  intro all
  induction all with
  | zero => rintro ⟨k, hk, _⟩; omega
  | succ m ih =>
    intro h
    by_cases h1 : ∃ k, k < m ∧ p k = 0
    · obtain ⟨x, hx1, hx2, hx3⟩ := ih h1
      by_cases h2 : p m = 0 ∧ w m < w x
      · refine ⟨m, by omega, h2.1, fun k hk hp => ?_⟩
        rcases Nat.lt_or_ge k m with h3 | h3
        · rcases hx3 k h3 hp with h4 | h4 | h4
          · rw [h4]; exact Or.inr (Or.inl h2.2)
          · exact Or.inr (Or.inl (by omega))
          · exact Or.inr (Or.inl (by omega))
        · exact Or.inl (by omega)
      · refine ⟨x, by omega, hx2, fun k hk hp => ?_⟩
        rcases Nat.lt_or_ge k m with h3 | h3
        · exact hx3 k h3 hp
        · have h4 : k = m := by omega
          subst h4
          have h5 : ¬ w k < w x := fun q => h2 ⟨hp, q⟩
          rcases Nat.lt_or_ge (w x) (w k) with h6 | h6
          · exact Or.inr (Or.inl h6)
          · exact Or.inr (Or.inr ⟨by omega, by omega⟩)
    · obtain ⟨k, hk, hp⟩ := h
      have h3 : k = m := by
        refine Nat.le_antisymm (by omega) (Nat.le_of_not_lt (fun q => h1 ⟨k, q, hp⟩))
      subst h3
      exact ⟨k, by omega, hp, fun j hj hp2 => Or.inl (Nat.le_antisymm (by omega) (Nat.le_of_not_lt (fun q => h1 ⟨j, q, hp2⟩)))⟩
noncomputable def hpick (w p : Nat → Nat) (all : Nat) : Nat := Classical.epsilon (fun x => isL w p all x)
theorem hpick_eq {w p : Nat → Nat} {all x : Nat} (h : isL w p all x) : hpick w p all = x := isL_u (Classical.epsilon_spec (p := fun x => isL w p all x) ⟨x, h⟩) h
/-- weights and parents after r joins -/
noncomputable def hnx (W P : Nat → Nat) (m : Nat) : (Nat → Nat) × (Nat → Nat) :=
  (updN W m (W (hpick W P m) + W (hpick W (updN P (hpick W P m) m) m)), updN (updN (updN P (hpick W P m) m) (hpick W (updN P (hpick W P m) m) m) m) m 0)
noncomputable def hst (n : Nat) (w0 : Nat → Nat) : Nat → (Nat → Nat) × (Nat → Nat)
  | 0 => (w0, fun _ => 0)
  | r + 1 => hnx (hst n w0 r).1 (hst n w0 r).2 (n + r)
abbrev hI (n : Nat) (w0 : Nat → Nat) (r : Nat) (W P : Nat → Nat) : Prop :=
  (∀ k, k < n → W k = w0 k) ∧ cnt (fun k => decide (P k = 0)) (n + r) = n - r ∧ (∀ k, k < n + r → P k = 0 ∨ (k < P k ∧ n ≤ P k ∧ P k < n + r)) ∧
  (∀ m, n ≤ m → m < n + r → ∃ a b, a < m ∧ b < m ∧ a ≠ b ∧ P a = m ∧ P b = m ∧ (∀ k, k < n + r → P k = m → k = a ∨ k = b) ∧ W m = W a + W b) ∧
  (∀ x y, x < n + r → y < n + r → P x ≠ 0 → (P y = 0 ∨ P x < P y) → W x ≤ W y) ∧ sm (fun k => if P k = 0 then W k else 0) (n + r) = sm w0 n
theorem hI.A {n r : Nat} {w0 W P : Nat → Nat} (h : hI n w0 r W P) : ∀ k, k < n → W k = w0 k := h.1
theorem hI.B {n r : Nat} {w0 W P : Nat → Nat} (h : hI n w0 r W P) : cnt (fun k => decide (P k = 0)) (n + r) = n - r := h.2.1
theorem hI.C {n r : Nat} {w0 W P : Nat → Nat} (h : hI n w0 r W P) : ∀ k, k < n + r → P k = 0 ∨ (k < P k ∧ n ≤ P k ∧ P k < n + r) := h.2.2.1
theorem hI.D {n r : Nat} {w0 W P : Nat → Nat} (h : hI n w0 r W P) : ∀ m, n ≤ m → m < n + r → ∃ a b, a < m ∧ b < m ∧ a ≠ b ∧ P a = m ∧ P b = m ∧ (∀ k, k < n + r → P k = m → k = a ∨ k = b) ∧ W m = W a + W b := h.2.2.2.1
theorem hI.M {n r : Nat} {w0 W P : Nat → Nat} (h : hI n w0 r W P) : ∀ x y, x < n + r → y < n + r → P x ≠ 0 → (P y = 0 ∨ P x < P y) → W x ≤ W y := h.2.2.2.2.1
theorem hI.T {n r : Nat} {w0 W P : Nat → Nat} (h : hI n w0 r W P) : sm (fun k => if P k = 0 then W k else 0) (n + r) = sm w0 n := h.2.2.2.2.2
theorem hI_0 (n : Nat) (w0 : Nat → Nat) : hI n w0 0 w0 (fun _ => 0) :=
  ⟨fun _ _ => rfl, cnt_all (fun _ _ => rfl), fun _ _ => Or.inl rfl, fun m h1 h2 => by omega, fun x y _ _ h => absurd rfl h, sm_congr (fun _ _ => if_pos rfl)⟩
/-- two are left to be joined -/
theorem hI_two {n r : Nat} {w0 W P : Nat → Nat} (h : hI n w0 r W P) (hr : r + 2 ≤ n) : ∃ a b, isL W P (n + r) a ∧ isL W (updN P a (n + r)) (n + r) b := by
  have hB := h.B
  obtain ⟨k, hk, hp, _⟩ := cnt_at (p := fun k => decide (P k = 0)) (s := 0) (n := n + r) (by omega)
  obtain ⟨a, ha⟩ := isL_ex (w := W) ⟨k, hk, of_decide_eq_true hp⟩
  have h1 : cnt (fun k => decide (P k = 0)) (n + r) = cnt (fun k => decide (updN P a (n + r) k = 0)) (n + r) + 1 := by
    refine cnt_ins ha.1 (decide_eq_false (by rw [updN_s]; omega)) (decide_eq_true ha.2.1) (fun j _ hj => ?_)
    rw [updN_n P hj]
  obtain ⟨k2, hk2, hp2, _⟩ := cnt_at (p := fun k => decide (updN P a (n + r) k = 0)) (s := 0) (n := n + r) (by omega)
  obtain ⟨b, hb⟩ := isL_ex (w := W) ⟨k2, hk2, of_decide_eq_true hp2⟩
  exact ⟨a, b, ha, hb⟩
theorem hnx_eq {W P : Nat → Nat} {m a b : Nat} (ha : isL W P m a) (hb : isL W (updN P a m) m b) : hnx W P m = (updN W m (W a + W b), updN (updN (updN P a m) b m) m 0) := by
  unfold hnx
  rw [hpick_eq ha, hpick_eq hb]
theorem hI_s {n r : Nat} {w0 W P : Nat → Nat} (h : hI n w0 r W P) (hr : r + 2 ≤ n) {a b : Nat} (ha : isL W P (n + r) a) (hb : isL W (updN P a (n + r)) (n + r) b) : hI n w0 (r + 1) (updN W (n + r) (W a + W b)) (updN (updN (updN P a (n + r)) b (n + r)) (n + r) 0) := by
  have ha1 := ha.1
  have hb1 := hb.1
  have hpa := ha.2.1
  have hab : b ≠ a := fun q => by
    have h1 := hb.2.1
    rw [q, updN_s] at h1
    omega
  have hpb : P b = 0 := by
    have h1 := hb.2.1
    rwa [updN_n P hab] at h1
  have hWa : ∀ k, k < n + r → P k = 0 → W a ≤ W k := fun k hk hp => isL_le ha hk hp
  have hWb : ∀ k, k < n + r → P k = 0 → k ≠ a → W b ≤ W k := fun k hk hp hka => isL_le hb hk (by rw [updN_n P hka]; exact hp)
  obtain ⟨m, hm⟩ : ∃ m, m = n + r := ⟨_, rfl⟩
  rw [← hm] at ha1 hb1 hWa hWb ⊢
  obtain ⟨W2, hW2⟩ : ∃ W2, W2 = updN W m (W a + W b) := ⟨_, rfl⟩
  obtain ⟨P2, hP2⟩ : ∃ P2, P2 = updN (updN (updN P a m) b m) m 0 := ⟨_, rfl⟩
  rw [← hW2, ← hP2]
  have w1 : W2 m = W a + W b := by rw [hW2, updN_s]
  have w2 : ∀ k, k < m → W2 k = W k := fun k hk => by rw [hW2, updN_n W (by omega)]
  have p1 : P2 m = 0 := by rw [hP2, updN_s]
  have p2 : P2 a = m := by rw [hP2, updN_n _ (by omega), updN_n _ (fun q => hab q.symm), updN_s]
  have p3 : P2 b = m := by rw [hP2, updN_n _ (by omega), updN_s]
  have p4 : ∀ k, k < m → k ≠ a → k ≠ b → P2 k = P k := fun k hk h1 h2 => by rw [hP2, updN_n _ (by omega), updN_n _ h2, updN_n _ h1]
  have hB := h.B
  have hC := h.C
  have hD := h.D
  have hM := h.M
  have hT := h.T
  rw [← hm] at hB hC hD hM hT
  refine ⟨fun k hk => ?_, ?_, fun k hk => ?_, fun q h1 h2 => ?_, fun x y hx hy h1 h2 => ?_, ?_⟩
  · rw [w2 k (by omega)]
    exact h.A k hk
  · have h1 : cnt (fun k => decide (P k = 0)) m = cnt (fun k => decide (updN P a m k = 0)) m + 1 := by
      refine cnt_ins ha1 (decide_eq_false (by rw [updN_s]; omega)) (decide_eq_true hpa) (fun j _ hj => ?_)
      rw [updN_n P hj]
    have h2 : cnt (fun k => decide (updN P a m k = 0)) m = cnt (fun k => decide (P2 k = 0)) m + 1 := by
      refine cnt_ins hb1 (decide_eq_false (by rw [p3]; omega)) (decide_eq_true (by rw [updN_n P hab]; exact hpb)) (fun j hjm hj => ?_)
      by_cases hja : j = a
      · rw [hja, updN_s, p2]
      · rw [updN_n P hja, p4 j hjm hja hj]
    have h3 : cnt (fun k => decide (P2 k = 0)) (m + 1) = cnt (fun k => decide (P2 k = 0)) m + 1 := by
      rw [cnt_s, tN_t (decide_eq_true p1)]
    rw [show n + (r + 1) = m + 1 by omega, h3]
    omega
  · rcases Nat.lt_or_ge k m with h1 | h1
    · by_cases hka : k = a
      · rw [hka, p2]; omega
      · by_cases hkb : k = b
        · rw [hkb, p3]; omega
        · rw [p4 k h1 hka hkb]
          have := hC k h1
          omega
    · rw [show k = m by omega, p1]
      exact Or.inl rfl
  · rcases Nat.lt_or_ge q m with h3 | h3
    · obtain ⟨c, d, h4, h5, h6, h7, h8, h9, h10⟩ := hD q h1 h3
      have hca : c ≠ a := fun q2 => by rw [q2, hpa] at h7; omega
      have hcb : c ≠ b := fun q2 => by rw [q2, hpb] at h7; omega
      have hda : d ≠ a := fun q2 => by rw [q2, hpa] at h8; omega
      have hdb : d ≠ b := fun q2 => by rw [q2, hpb] at h8; omega
      refine ⟨c, d, h4, h5, h6, by rw [p4 c (by omega) hca hcb]; exact h7, by rw [p4 d (by omega) hda hdb]; exact h8, fun k hk hkq => ?_, by rw [w2 q h3, w2 c (by omega), w2 d (by omega)]; exact h10⟩
      rcases Nat.lt_or_ge k m with h11 | h11
      · by_cases hka : k = a
        · rw [hka, p2] at hkq; omega
        · by_cases hkb : k = b
          · rw [hkb, p3] at hkq; omega
          · rw [p4 k h11 hka hkb] at hkq
            exact h9 k h11 hkq
      · rw [show k = m by omega, p1] at hkq
        omega
    · have hq : q = m := by omega
      subst hq
      refine ⟨a, b, ha1, hb1, fun q2 => hab q2.symm, p2, p3, fun k hk hkq => ?_, by rw [w1, w2 a ha1, w2 b hb1]⟩
      rcases Nat.lt_or_ge k q with h11 | h11
      · by_cases hka : k = a
        · exact Or.inl hka
        · by_cases hkb : k = b
          · exact Or.inr hkb
          · rw [p4 k h11 hka hkb] at hkq
            have := hC k h11
            omega
      · rw [show k = q by omega, p1] at hkq
        omega
  · have hab2 : W a ≤ W b := hWa b hb1 hpb
    rcases Nat.lt_or_ge x m with hxm | hxm
    · rw [w2 x hxm]
      by_cases hxj : x = a ∨ x = b
      · have hxp : P2 x = m := by
          rcases hxj with q | q
          · rw [q, p2]
          · rw [q, p3]
        have hxb : W x ≤ W b := by
          rcases hxj with q | q
          · rw [q]; exact hab2
          · rw [q]; exact Nat.le_refl _
        rcases Nat.lt_or_ge y m with hym | hym
        · rw [w2 y hym]
          have hya : y ≠ a := fun q => by rw [q, p2, hxp] at h2; omega
          have hyb : y ≠ b := fun q => by rw [q, p3, hxp] at h2; omega
          rw [p4 y hym hya hyb] at h2
          have h3 : P y = 0 := by
            have := hC y hym
            omega
          exact Nat.le_trans hxb (hWb y hym h3 hya)
        · rw [show y = m by omega, w1]
          omega
      · have hxa : x ≠ a := fun q => hxj (Or.inl q)
        have hxb : x ≠ b := fun q => hxj (Or.inr q)
        rw [p4 x hxm hxa hxb] at h1 h2
        rcases Nat.lt_or_ge y m with hym | hym
        · rw [w2 y hym]
          by_cases hya : y = a
          · exact hM x y hxm hym h1 (Or.inl (by rw [hya]; exact hpa))
          · by_cases hyb : y = b
            · exact hM x y hxm hym h1 (Or.inl (by rw [hyb]; exact hpb))
            · rw [p4 y hym hya hyb] at h2
              exact hM x y hxm hym h1 h2
        · rw [show y = m by omega, w1]
          have := hM x a hxm ha1 h1 (Or.inl hpa)
          omega
    · exfalso
      rw [show x = m by omega, p1] at h1
      exact h1 rfl
  · rw [show n + (r + 1) = m + 1 by omega, sm_s, p1, w1, if_pos rfl, ← hT]
    have h1 : sm (fun k => if P k = 0 then W k else 0) m = sm (fun k => if updN P a m k = 0 then W k else 0) m + W a := by
      refine sm_ins ha1 ?_ (fun j _ hj => ?_)
      · show (if P a = 0 then W a else 0) = (if updN P a m a = 0 then W a else 0) + W a
        rw [if_pos hpa, updN_s, if_neg (by omega), Nat.zero_add]
      · rw [updN_n P hj]
    have h2 : sm (fun k => if updN P a m k = 0 then W k else 0) m = sm (fun k => if P2 k = 0 then W2 k else 0) m + W b := by
      refine sm_ins hb1 ?_ (fun j hjm hj => ?_)
      · show (if updN P a m b = 0 then W b else 0) = (if P2 b = 0 then W2 b else 0) + W b
        rw [updN_n P hab, if_pos hpb, p3, if_neg (by omega), Nat.zero_add]
      · rw [w2 j hjm]
        by_cases hja : j = a
        · rw [hja, updN_s, p2]
        · rw [updN_n P hja, p4 j hjm hja hj]
    omega
theorem hst_I {n : Nat} (w0 : Nat → Nat) : ∀ r, r + 1 ≤ n → hI n w0 r (hst n w0 r).1 (hst n w0 r).2 := by
  intro r
  induction r with
  | zero => intro _; exact hI_0 n w0
  | succ r ih =>
    intro hr
    have h := ih (by omega)
    obtain ⟨a, b, ha, hb⟩ := hI_two h (by omega)
    show hI n w0 (r + 1) (hnx (hst n w0 r).1 (hst n w0 r).2 (n + r)).1 (hnx (hst n w0 r).1 (hst n w0 r).2 (n + r)).2
    rw [hnx_eq ha hb]
    exact hI_s h (by omega) ha hb
/-- sums are made in the order of their weights -/
theorem hI_sums {n r : Nat} {w0 W P : Nat → Nat} (h : hI n w0 r W P) {x y : Nat} (hx : n ≤ x) (hxy : x < y) (hy : y < n + r) : W x ≤ W y := by
  obtain ⟨a, b, h1, h2, h3, h4, h5, h6, h7⟩ := h.D x hx (by omega)
  obtain ⟨c, d, k1, k2, k3, k4, k5, k6, k7⟩ := h.D y (by omega) hy
  have m1 := h.M a c (by omega) (by omega) (by omega) (Or.inr (by omega))
  have m2 := h.M b d (by omega) (by omega) (by omega) (Or.inr (by omega))
  omega
/-- how far below the root a node is -/
def dpf (P : Nat → Nat) : Nat → Nat → Nat
  | 0, _ => 0
  | f + 1, k => if P k = 0 then 0 else dpf P f (P k) + 1
theorem dpf_f {P : Nat → Nat} {N : Nat} (h : ∀ k, k < N → P k = 0 ∨ (k < P k ∧ P k < N)) : ∀ (f k : Nat), k < N → N - k ≤ f → dpf P f k = dpf P (f + 1) k := by
  intro f
  induction f with
  | zero => intro k hk h2; omega
  | succ f ih =>
    intro k hk h2
    show (if P k = 0 then 0 else dpf P f (P k) + 1) = (if P k = 0 then 0 else dpf P (f + 1) (P k) + 1)
    by_cases h0 : P k = 0
    · rw [if_pos h0, if_pos h0]
    · rw [if_neg h0, if_neg h0, ih (P k) (by have := h k hk; omega) (by have := h k hk; omega)]
noncomputable def hD (n : Nat) (w0 : Nat → Nat) (k : Nat) : Nat := dpf (hst n w0 (n - 1)).2 (2 * n) k
/-- the code's lengths: from n weights of 1 or more, together less than 2584 -/
abbrev hF (n : Nat) (w0 W P : Nat → Nat) (L : Nat → Nat) : Prop :=
  (∀ k, k + 2 < 2 * n → k < P k ∧ n ≤ P k ∧ P k + 1 < 2 * n ∧ L k = L (P k) + 1) ∧ (P (2 * n - 2) = 0 ∧ L (2 * n - 2) = 0)
theorem hF.up {n : Nat} {w0 W P L : Nat → Nat} (h : hF n w0 W P L) : ∀ k, k + 2 < 2 * n → k < P k ∧ n ≤ P k ∧ P k + 1 < 2 * n ∧ L k = L (P k) + 1 := h.1
theorem hF.root {n : Nat} {w0 W P L : Nat → Nat} (h : hF n w0 W P L) : P (2 * n - 2) = 0 ∧ L (2 * n - 2) = 0 := h.2
theorem hst_F {n : Nat} {w0 : Nat → Nat} (hn : 2 ≤ n) : hF n w0 (hst n w0 (n - 1)).1 (hst n w0 (n - 1)).2 (hD n w0) := by
  have h := hst_I (n := n) w0 (n - 1) (by omega)
  have hE : n + (n - 1) = 2 * n - 1 := by omega
  have hB := h.B
  have hC := h.C
  rw [hE] at hB hC
  have hr : (hst n w0 (n - 1)).2 (2 * n - 2) = 0 := by
    have := hC (2 * n - 2) (by omega)
    omega
  have hj : ∀ k, k + 2 < 2 * n → (hst n w0 (n - 1)).2 k ≠ 0 := by
    intro k hk q
    have h1 : 1 < cnt (fun k => decide ((hst n w0 (n - 1)).2 k = 0)) (2 * n - 1) := by
      rw [show 2 * n - 1 = (2 * n - 2) + 1 by omega, cnt_s, tN_t (decide_eq_true hr)]
      have := cnt_pos (p := fun k => decide ((hst n w0 (n - 1)).2 k = 0)) (show k < 2 * n - 2 by omega) (decide_eq_true q)
      omega
    omega
  have hC2 : ∀ k, k < 2 * n - 1 → (hst n w0 (n - 1)).2 k = 0 ∨ (k < (hst n w0 (n - 1)).2 k ∧ (hst n w0 (n - 1)).2 k < 2 * n - 1) := fun k hk => by
    have := hC k hk
    omega
  refine ⟨fun k hk => ?_, hr, ?_⟩
  · have h1 := hj k hk
    have h2 := hC k (by omega)
    refine ⟨by omega, by omega, by omega, ?_⟩
    unfold hD
    have h3 := dpf_f hC2 (2 * n - 1) ((hst n w0 (n - 1)).2 k) (by omega) (by omega)
    rw [show 2 * n - 1 + 1 = 2 * n by omega] at h3
    rw [← h3]
    have h4 : dpf (hst n w0 (n - 1)).2 (2 * n - 1 + 1) k = dpf (hst n w0 (n - 1)).2 (2 * n - 1) ((hst n w0 (n - 1)).2 k) + 1 := if_neg h1
    rwa [show 2 * n - 1 + 1 = 2 * n by omega] at h4
  · unfold hD
    have h4 : dpf (hst n w0 (n - 1)).2 (2 * n - 1 + 1) (2 * n - 2) = 0 := if_pos hr
    rwa [show 2 * n - 1 + 1 = 2 * n by omega] at h4
/-- a node's weight is great where a leaf is far below -/
def fb : Nat → Nat
  | 0 => 1
  | 1 => 2
  | i + 2 => fb (i + 1) + fb i
theorem fb_chain {n : Nat} {w0 W P L : Nat → Nat} (h : hI n w0 (n - 1) W P) (hn : 2 ≤ n) (hw : ∀ k, k < n → 1 ≤ w0 k) (hf : hF n w0 W P L) : ∀ (d i x : Nat), L x = d → x + 2 < 2 * n → fb i ≤ W x → fb (i + 1) ≤ W (P x) → fb (i + d) ≤ W (2 * n - 2) := by
  have hE : n + (n - 1) = 2 * n - 1 := by omega
  intro d
  induction d with
  | zero =>
    intro i x hx hx2 h1 h2
    have := (hf.up x hx2).2.2.2
    omega
  | succ d ih =>
    intro i x hx hx2 h1 h2
    obtain ⟨u1, u2, u3, u4⟩ := hf.up x hx2
    rcases Nat.lt_or_ge (P x + 2) (2 * n) with h3 | h3
    · obtain ⟨v1, v2, v3, v4⟩ := hf.up (P x) h3
      rw [show i + (d + 1) = i + 1 + d by omega]
      refine ih (i + 1) (P x) (by omega) h3 h2 ?_
      obtain ⟨a, b, k1, k2, k3, k4, k5, k6, k7⟩ := h.D (P (P x)) v2 (by omega)
      have k8 := k6 (P x) (by omega) rfl
      have ma := h.M x a (by omega) (by omega) (by omega) (Or.inr (by omega))
      have mb := h.M x b (by omega) (by omega) (by omega) (Or.inr (by omega))
      show fb (i + 1) + fb i ≤ W (P (P x))
      rw [k7]
      rcases k8 with q | q
      · rw [← q]; omega
      · rw [← q]; omega
    · have h4 : P x = 2 * n - 2 := by omega
      rw [h4, hf.root.2] at u4
      have h5 : d = 0 := by omega
      subst h5
      rw [← h4]
      exact h2
theorem hI_root {n : Nat} {w0 W P L : Nat → Nat} (h : hI n w0 (n - 1) W P) (hn : 2 ≤ n) (hf : hF n w0 W P L) : W (2 * n - 2) = sm w0 n := by
  have hT := h.T
  rw [show n + (n - 1) = (2 * n - 2) + 1 by omega, sm_s, if_pos hf.root.1, sm_zero (fun j hj => if_neg ?_), Nat.zero_add] at hT
  · exact hT
  · have := hf.up j (by omega)
    omega
theorem hI_pos {n r : Nat} {w0 W P : Nat → Nat} (h : hI n w0 r W P) (hw : ∀ k, k < n → 1 ≤ w0 k) : ∀ k, k < n + r → 1 ≤ W k := by
  intro k
  induction k using Nat.strongRecOn with
  | ind k ih =>
    intro hk
    rcases Nat.lt_or_ge k n with h1 | h1
    · rw [h.A k h1]
      exact hw k h1
    · obtain ⟨a, b, h2, h3, h4, h5, h6, h7, h8⟩ := h.D k h1 hk
      have := ih a h2 (by omega)
      omega
theorem fb_mono : ∀ i, fb i ≤ fb (i + 1) := by
  intro i
  cases i with
  | zero => decide
  | succ i => exact Nat.le_add_right _ _
theorem fb_le {i j : Nat} (h : i ≤ j) : fb i ≤ fb j := by
  induction j with
  | zero => rw [show i = 0 by omega]; exact Nat.le_refl _
  | succ j ih =>
    rcases Nat.lt_or_ge i (j + 1) with h2 | h2
    · exact Nat.le_trans (ih (by omega)) (fb_mono j)
    · rw [show i = j + 1 by omega]; exact Nat.le_refl _
/-- no length is more than 15, none less than 1 -/
theorem hD_b {n : Nat} {w0 : Nat → Nat} (hn : 2 ≤ n) (hw : ∀ k, k < n → 1 ≤ w0 k) (ht : sm w0 n < 2584) {k : Nat} (hk : k < n) : 1 ≤ hD n w0 k ∧ hD n w0 k ≤ 15 := by
  have h := hst_I (n := n) w0 (n - 1) (by omega)
  have hf := hst_F (w0 := w0) hn
  obtain ⟨u1, u2, u3, u4⟩ := hf.up k (by omega)
  refine ⟨by omega, Nat.le_of_not_lt (fun q => ?_)⟩
  have hp := hI_pos h hw
  have h2 : 2 ≤ (hst n w0 (n - 1)).1 ((hst n w0 (n - 1)).2 k) := by
    obtain ⟨a, b, k1, k2, k3, k4, k5, k6, k7⟩ := h.D _ u2 (by omega)
    have p1 := hp a (by omega)
    have p2 := hp b (by omega)
    omega
  have h3 := fb_chain h hn hw hf (hD n w0 k) 0 k rfl (by omega) (hp k (by omega)) h2
  rw [hI_root h hn hf, Nat.zero_add] at h3
  have h4 : fb 16 ≤ fb (hD n w0 k) := fb_le (by omega)
  have h5 : fb 16 = 2584 := by decide
  omega
