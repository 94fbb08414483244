/-! CODES: how codes fill the numbers from 0 on -/
def En (L : Nat → Nat) (n l : Nat) : Nat := (fstN L n l + cnt (fun j => decide (L j = l)) n) * 2 ^ (20 - l)
theorem En_s {L : Nat → Nat} {n l : Nat} (h : l + 1 ≤ 20) : En L n (l + 1) = En L n l + cnt (fun j => decide (L j = l + 1)) n * 2 ^ (20 - (l + 1)) := by
  unfold En
  rw [show 20 - l = 20 - (l + 1) + 1 by omega, Nat.pow_succ, Nat.add_mul, show fstN L n (l + 1) = (fstN L n l + cnt (fun j => decide (L j = l)) n) * 2 from rfl, Nat.mul_assoc, Nat.mul_comm 2]
theorem En_mono {L : Nat → Nat} {n l : Nat} : ∀ {m : Nat}, l ≤ m → m ≤ 20 → En L n l ≤ En L n m := by
  intro m
  induction m with
  | zero => intro h _; rw [show l = 0 by omega]; exact Nat.le_refl _
  | succ m ih =>
    intro h hm
    rcases Nat.lt_or_ge l (m + 1) with h2 | h2
    · have := ih (by omega) (by omega)
      rw [En_s hm]
      omega
    · rw [show l = m + 1 by omega]; exact Nat.le_refl _
theorem En_pred {L : Nat → Nat} {n l : Nat} (h : l + 1 ≤ 20) : En L n l = fstN L n (l + 1) * 2 ^ (20 - (l + 1)) := by
  unfold En
  rw [show 20 - l = 20 - (l + 1) + 1 by omega, Nat.pow_succ, show fstN L n (l + 1) = (fstN L n l + cnt (fun j => decide (L j = l)) n) * 2 from rfl, Nat.mul_assoc, Nat.mul_comm 2]
theorem sm_add {f g h : Nat → Nat} : ∀ {n : Nat}, (∀ j, j < n → h j = f j + g j) → sm h n = sm f n + sm g n := by
  intro n
  induction n with
  | zero => intro _; rfl
  | succ n ih =>
    intro hh
    rw [sm_s, sm_s, sm_s, ih (fun j hj => hh j (by omega)), hh n (by omega)]
    omega
theorem sm_cnt {p : Nat → Bool} {c : Nat} : ∀ n, sm (fun j => if p j = true then c else 0) n = cnt p n * c := by
  intro n
  induction n with
  | zero => show 0 = 0 * c; rw [Nat.zero_mul]
  | succ n ih =>
    rw [sm_s, cnt_s, ih, Nat.add_mul]
    cases hp : p n with
    | true => rw [if_pos rfl, tN_t (b := true) rfl, Nat.one_mul]
    | false => rw [if_neg Bool.noConfusion, tN_f (b := false) rfl, Nat.zero_mul]
theorem En_sum {L : Nat → Nat} {n : Nat} (hL : ∀ k, k < n → 1 ≤ L k) : ∀ l, l ≤ 20 → En L n l = sm (fun k => if L k ≤ l then 2 ^ (20 - L k) else 0) n := by
  intro l
  induction l with
  | zero =>
    intro _
    rw [sm_zero (fun j hj => if_neg (by have := hL j hj; omega))]
    unfold En
    rw [cnt_none (fun j hj => decide_eq_false (by have := hL j hj; omega))]
    show (0 + 0) * _ = 0
    rw [Nat.zero_mul]
  | succ l ih =>
    intro hl
    rw [En_s hl, ih (by omega), ← sm_cnt]
    refine (sm_add (fun j hj => ?_)).symm
    show (if L j ≤ l + 1 then 2 ^ (20 - L j) else 0) = (if L j ≤ l then 2 ^ (20 - L j) else 0) + (if decide (L j = l + 1) = true then 2 ^ (20 - (l + 1)) else 0)
    by_cases h1 : L j ≤ l
    · rw [if_pos (by omega), if_pos h1, decide_eq_false (by omega), if_neg Bool.noConfusion, Nat.add_zero]
    · rw [if_neg h1, Nat.zero_add]
      by_cases h2 : L j = l + 1
      · rw [if_pos (by omega), decide_eq_true h2, if_pos rfl, h2]
      · rw [if_neg (by omega), decide_eq_false h2, if_neg Bool.noConfusion]
theorem En_kf {L : Nat → Nat} {n : Nat} (hL : ∀ k, k < n → 1 ≤ L k ∧ L k ≤ 20) : En L n 20 = kf L n := by
  rw [En_sum (fun k hk => (hL k hk).1) 20 (Nat.le_refl _)]
  exact sm_congr (fun j hj => if_pos (hL j hj).2)
theorem cd_lt {L : Nat → Nat} {n k : Nat} (hk : k < n) : cdN L n k < fstN L n (L k) + cnt (fun j => decide (L j = L k)) n := by
  have h := cnt_mon_n (fun j => decide (L j = L k)) (show k + 1 ≤ n from hk)
  rw [cnt_s, tN_t (decide_eq_true rfl)] at h
  unfold cdN
  omega
theorem cd_at {L : Nat → Nat} {n l v : Nat} (h1 : fstN L n l ≤ v) (h2 : v < fstN L n l + cnt (fun j => decide (L j = l)) n) : ∃ k, k < n ∧ L k = l ∧ cdN L n k = v ∧ cnt (fun j => decide (L j = l)) k = v - fstN L n l := by
  obtain ⟨k, hk, h3, h4⟩ := cnt_at (p := fun j => decide (L j = l)) (s := v - fstN L n l) (n := n) (by omega)
  have h5 : L k = l := of_decide_eq_true h3
  refine ⟨k, hk, h5, ?_, h4⟩
  unfold cdN
  rw [h5, h4]
  omega
theorem cd_inj {L : Nat → Nat} {n j k : Nat} (h : L j = L k) (h2 : cdN L n j = cdN L n k) : j = k := by
  unfold cdN at h2
  rw [h] at h2
  have mono : ∀ a b, a < b → L a = L k → cnt (fun i => decide (L i = L k)) a < cnt (fun i => decide (L i = L k)) b := by
    intro a b hab ha
    have h3 := cnt_mon_n (fun i => decide (L i = L k)) (show a + 1 ≤ b from hab)
    rw [cnt_s, tN_t (decide_eq_true ha)] at h3
    omega
  rcases Nat.lt_trichotomy j k with h3 | h3 | h3
  · have := mono j k h3 h
    omega
  · exact h3
  · have := mono k j h3 rfl
    omega
/-- behind v there is a longer code, or none: v has m bits, and no code of at most m bits begins it -/
theorem any_iff {L : Nat → Nat} {n m v : Nat} (hm : m ≤ 20) (hL : ∀ k, k < n → 1 ≤ L k ∧ L k ≤ 20) (hv : fstN L n m + cnt (fun j => decide (L j = m)) n ≤ v) : (∃ k, k < n ∧ m < L k ∧ cdN L n k / 2 ^ (L k - m) = v) ↔ v * 2 ^ (20 - m) < kf L n := by
  have hp : ∀ l, m ≤ l → l ≤ 20 → v * 2 ^ (20 - m) = v * 2 ^ (l - m) * 2 ^ (20 - l) := by
    intro l h1 h2
    rw [Nat.mul_assoc, ← Nat.pow_add, show l - m + (20 - l) = 20 - m by omega]
  constructor
  · rintro ⟨k, hk, h1, h2⟩
    have h3 := hL k hk
    have h4 := cd_lt (L := L) hk
    have h5 : v * 2 ^ (L k - m) ≤ cdN L n k := by
      rw [← h2]
      exact Nat.div_mul_le_self _ _
    rw [← En_kf hL, hp (L k) (by omega) h3.2]
    refine Nat.lt_of_lt_of_le ?_ (En_mono (show L k ≤ 20 from h3.2) (Nat.le_refl _))
    unfold En
    exact Nat.mul_lt_mul_of_pos_right (by omega) (Nat.two_pow_pos _)
  · intro h
    rw [← En_kf hL] at h
    obtain ⟨l, h1, h2⟩ := pk_least (fun l => l ≤ 20 ∧ v * 2 ^ (20 - m) < En L n l) ⟨20, Nat.le_refl _, h⟩
    have h3 : m < l := by
      refine Nat.lt_of_not_le (fun q => ?_)
      have h4 := En_mono (L := L) (n := n) q hm
      have h5 : En L n m ≤ v * 2 ^ (20 - m) := Nat.mul_le_mul_right _ hv
      omega
    obtain ⟨l, rfl⟩ : ∃ l2, l = l2 + 1 := ⟨l - 1, by omega⟩
    have h4 : En L n l ≤ v * 2 ^ (20 - m) := Nat.le_of_not_lt (fun q => h2 l (by omega) ⟨by omega, q⟩)
    have h5 := h1.2
    rw [En_pred (by omega), hp (l + 1) (by omega) h1.1] at h4
    rw [hp (l + 1) (by omega) h1.1] at h5
    have h6 : fstN L n (l + 1) ≤ v * 2 ^ (l + 1 - m) := Nat.le_of_mul_le_mul_right h4 (Nat.two_pow_pos _)
    have h7 : v * 2 ^ (l + 1 - m) < fstN L n (l + 1) + cnt (fun j => decide (L j = l + 1)) n := Nat.lt_of_mul_lt_mul_right h5
    obtain ⟨k, hk, h8, h9, _⟩ := cd_at h6 h7
    refine ⟨k, hk, by omega, ?_⟩
    rw [h8, h9]
    exact Nat.mul_div_cancel _ (Nat.two_pow_pos _)
