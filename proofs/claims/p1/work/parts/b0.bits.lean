/-! BITS: what is written -/
abbrev bs : Type := (Nat → Nat) × Nat × Nat × Nat
abbrev bs.b (s : bs) : Nat → Nat := s.1
abbrev bs.c (s : bs) : Nat := s.2.1
abbrev bs.k (s : bs) : Nat := s.2.2.1
abbrev bs.h (s : bs) : Nat := s.2.2.2
def pu (s : bs) (x : Bool) : bs := if s.k = 7 then ⟨updN s.b s.c (2 * s.h + x.toNat), s.c + 1, 0, 0⟩ else ⟨s.b, s.c, s.k + 1, 2 * s.h + x.toNat⟩
def pus (s : bs) (l : List Bool) : bs := l.foldl pu s
theorem pus_nil (s : bs) : pus s [] = s := rfl
theorem pus_cons (s : bs) (x : Bool) (l : List Bool) : pus s (x :: l) = pus (pu s x) l := rfl
theorem pus_app (s : bs) (l1 l2 : List Bool) : pus s (l1 ++ l2) = pus (pus s l1) l2 := List.foldl_append
abbrev bok (s : bs) : Prop := s.k < 8 ∧ s.h < 2 ^ s.k ∧ ∀ j, j < s.c → s.b j < 256
theorem bok.k {s : bs} (h : bok s) : s.k < 8 := h.1
theorem bok.h {s : bs} (h : bok s) : s.h < 2 ^ s.k := h.2.1
theorem bok.b {s : bs} (h : bok s) : ∀ j, j < s.c → s.b j < 256 := h.2.2
def blen (s : bs) : Nat := 8 * s.c + s.k
theorem pu_len {s : bs} (x : Bool) (h : s.k < 8) : blen (pu s x) = blen s + 1 := by
  unfold pu blen
  by_cases h1 : s.k = 7
  · rw [if_pos h1]
    show 8 * (s.c + 1) + 0 = 8 * s.c + s.k + 1
    omega
  · rw [if_neg h1]
    show 8 * s.c + (s.k + 1) = 8 * s.c + s.k + 1
    omega
theorem pu_ok {s : bs} (x : Bool) (h : bok s) : bok (pu s x) := by
  have h1 := h.k
  have h2 := h.h
  have h3 := tN_le x
  unfold pu
  by_cases h4 : s.k = 7
  · rw [if_pos h4]
    rw [h4] at h2
    refine ⟨by show 0 < 8; omega, by show 0 < 2 ^ 0; omega, fun j hj => ?_⟩
    have hj : j < s.c + 1 := hj
    show updN s.b s.c (2 * s.h + x.toNat) j < 256
    by_cases h5 : j = s.c
    · rw [h5, updN_s]
      omega
    · rw [updN_n _ h5]
      exact h.b j (by omega)
  · rw [if_neg h4]
    refine ⟨by show s.k + 1 < 8; omega, ?_, h.b⟩
    show 2 * s.h + x.toNat < 2 ^ (s.k + 1)
    rw [Nat.pow_succ]
    omega
theorem pus_ok {l : List Bool} : ∀ {s : bs}, bok s → bok (pus s l) := by
  induction l with
  | nil => intro s h; exact h
  | cons x l ih => intro s h; exact ih (pu_ok x h)
theorem pus_len {l : List Bool} : ∀ {s : bs}, bok s → blen (pus s l) = blen s + l.length := by
  induction l with
  | nil => intro s _; rfl
  | cons x l ih =>
    intro s h
    rw [pus_cons, ih (pu_ok x h), pu_len x h.k, List.length_cons]
    omega
/-- the last k bits of a number, the highest first -/
def pb (v : Int32) : Nat → List Bool
  | 0 => []
  | k + 1 => bt v k :: pb v k
theorem pb_len (v : Int32) : ∀ k, (pb v k).length = k := by
  intro k
  induction k with
  | zero => rfl
  | succ k ih => show (pb v k).length + 1 = k + 1; rw [ih]
theorem pb_congr {v w : Int32} : ∀ {k : Nat}, (∀ i, i < k → bt v i = bt w i) → pb v k = pb w k := by
  intro k
  induction k with
  | zero => intro _; rfl
  | succ k ih =>
    intro h
    show bt v k :: pb v k = bt w k :: pb w k
    rw [h k (by omega), ih (fun i hi => h i (by omega))]
theorem pb_add {v w : Int32} {b : Nat} : ∀ {a : Nat}, (∀ i, i < a → bt w i = bt v (b + i)) → pb v (a + b) = pb w a ++ pb v b := by
  intro a
  induction a with
  | zero => intro _; rw [Nat.zero_add]; rfl
  | succ a ih =>
    intro h
    rw [show a + 1 + b = a + b + 1 by omega]
    show bt v (a + b) :: pb v (a + b) = bt w a :: pb w a ++ pb v b
    rw [ih (fun i hi => h i (by omega)), h a (by omega), Nat.add_comm a b]
    rfl
theorem pb_32 (v : Int32) : pb v 32 = pb (ush v (16 : Int32)) 16 ++ pb (v &&& (65535 : Int32)) 16 := by
  rw [show pb v 32 = pb v (16 + 16) from rfl, pb_add (w := ush v (16 : Int32)) (fun i _ => b_ushr 16 (by omega) v i)]
  rw [pb_congr (v := v &&& (65535 : Int32)) (w := v) (fun i hi => by rw [b_and, b_65535, decide_eq_true hi, Bool.and_true])]
theorem bt1 (i : Nat) : bt 1 i = decide (i = 0) := by
  rcases Nat.lt_or_ge i 32 with h | h
  · exact (by decide +kernel : ∀ i, i < 32 → bt 1 i = decide (i = 0)) i h
  · rw [b_big h, decide_eq_false (by omega)]
theorem and1 (x : Int32) : x &&& (1 : Int32) = nI (bt x 0).toNat := by
  apply b_ext
  intro i _
  rw [b_and, bt1]
  by_cases h : i = 0
  · subst h
    rw [decide_eq_true rfl, Bool.and_true]
    cases bt x 0 <;> rfl
  · rw [decide_eq_false h, Bool.and_false]
    cases bt x 0 with
    | false => exact (b_0 i).symm
    | true => exact ((bt1 i).trans (decide_eq_false h)).symm
theorem ush1 (v : Int32) {k : Nat} (hk : k < 32) : (ush v (nI k)) &&& (1 : Int32) = nI (bt v k).toNat := by
  rw [and1]
  have h := b_ushr k hk v 0
  rw [Nat.add_zero] at h
  rw [show bt (ush v (nI k)) 0 = bt v k from h]
theorem sshr1 (v : Int32) {k : Nat} (hk : k < 32) : (v >>> (nI k &&& 31)) &&& (1 : Int32) = nI (bt v k).toNat := by
  rw [and1, b_sshr k hk v (by omega), Nat.add_zero, if_pos hk]
theorem or_2h : ∀ h, h < 128 → ∀ b, b < 2 → nI (2 * h) ||| nI b = nI (2 * h + b) := by decide +kernel
/-- the class's writer has written s -/
abbrev CW (s : bs) (n0 : Nat) (held hc : Int32) (n : Nat) (f : Nat → Int32) (ct : Int32) : Prop :=
  (bok s) ∧ (held = nI s.h) ∧ (hc = nI s.k) ∧ (ct = nI s.c) ∧ (∀ j, j < s.c → f j = nI (s.b j)) ∧ (s.c ≤ n) ∧ (1 ≤ n) ∧ (n0 ≤ n) ∧ (n = n0 ∨ n ≤ 2 * s.c)
theorem CW.ok {s : bs} {n0 n : Nat} {held hc ct : Int32} {f : Nat → Int32} (h : CW s n0 held hc n f ct) : bok s := h.1
theorem CW.held {s : bs} {n0 n : Nat} {held hc ct : Int32} {f : Nat → Int32} (h : CW s n0 held hc n f ct) : held = nI s.h := h.2.1
theorem CW.hc {s : bs} {n0 n : Nat} {held hc ct : Int32} {f : Nat → Int32} (h : CW s n0 held hc n f ct) : hc = nI s.k := h.2.2.1
theorem CW.ct {s : bs} {n0 n : Nat} {held hc ct : Int32} {f : Nat → Int32} (h : CW s n0 held hc n f ct) : ct = nI s.c := h.2.2.2.1
theorem CW.f {s : bs} {n0 n : Nat} {held hc ct : Int32} {f : Nat → Int32} (h : CW s n0 held hc n f ct) : ∀ j, j < s.c → f j = nI (s.b j) := h.2.2.2.2.1
theorem CW.le {s : bs} {n0 n : Nat} {held hc ct : Int32} {f : Nat → Int32} (h : CW s n0 held hc n f ct) : s.c ≤ n := h.2.2.2.2.2.1
theorem CW.pos {s : bs} {n0 n : Nat} {held hc ct : Int32} {f : Nat → Int32} (h : CW s n0 held hc n f ct) : 1 ≤ n := h.2.2.2.2.2.2.1
theorem CW.n0 {s : bs} {n0 n : Nat} {held hc ct : Int32} {f : Nat → Int32} (h : CW s n0 held hc n f ct) : n0 ≤ n := h.2.2.2.2.2.2.2.1
theorem CW.gr {s : bs} {n0 n : Nat} {held hc ct : Int32} {f : Nat → Int32} (h : CW s n0 held hc n f ct) : n = n0 ∨ n ≤ 2 * s.c := h.2.2.2.2.2.2.2.2
theorem put_bit {s : bs} {n0 n k : Nat} {held hc ct v : Int32} {f : Nat → Int32} (hk : k < 32) (h : CW s n0 held hc n f ct) (hn0 : n0 ≤ 1000000) (hl : blen s ≤ 2000000) :
    ∃ held2 hc2 n2 f2 ct2, BitWriter_put_L4 v (nI k, held, hc, n, f, ct) = some (Sum.inl (nI k + (-1 : Int32), held2, hc2, n2, f2, ct2)) ∧ CW (pu s (bt v k)) n0 held2 hc2 n2 f2 ct2 := by
  have hk8 := h.ok.k
  have hh := h.ok.h
  have hh2 : s.h < 128 := Nat.lt_of_lt_of_le hh (by
    have := Nat.pow_le_pow_right (show 0 < 2 by omega) (show s.k ≤ 7 by omega)
    omega)
  have hx := tN_le (bt v k)
  unfold blen at hl
  have hgr := h.gr
  have hle := h.le
  have hpos := h.pos
  have e1 : (held <<< ((1 : Int32) &&& 31)) ||| ((ush v (nI k)) &&& (1 : Int32)) = nI (2 * s.h + (bt v k).toNat) := by
    rw [h.held, shl1 (by omega), ush1 v hk, Nat.mul_comm s.h 2, or_2h s.h hh2 _ (by omega)]
  have e2 : hc + (1 : Int32) = nI (s.k + 1) := by rw [h.hc, nI_1]
  have hL : BitWriter_put_L4 v (nI k, held, hc, n, f, ct) = (if nI (s.k + 1) = nI 8 then bd (ByteRow_add_f (nI s.c) n (nI (2 * s.h + (bt v k).toNat)) f) (fun u7 => some (Sum.inl (nI k + (-1 : Int32), (0 : Int32), (0 : Int32), u7.1, u7.2.1, u7.2.2))) else some (Sum.inl (nI k + (-1 : Int32), nI (2 * s.h + (bt v k).toNat), nI (s.k + 1), n, f, ct))) := by
    show (if nI k < 0 then _ else (if hc + (1 : Int32) = (8 : Int32) then bd (ByteRow_add_f ct n ((held <<< ((1 : Int32) &&& 31)) ||| ((ush v (nI k)) &&& (1 : Int32))) f) (fun u7 => some (Sum.inl (nI k + (-1 : Int32), (0 : Int32), (0 : Int32), u7.1, u7.2.1, u7.2.2))) else some (Sum.inl (nI k + (-1 : Int32), (held <<< ((1 : Int32) &&& 31)) ||| ((ush v (nI k)) &&& (1 : Int32)), hc + (1 : Int32), n, f, ct)))) = _
    rw [if_neg (nI_pos (by omega)), e1, e2, h.ct]
    rfl
  rw [hL]
  by_cases h7 : s.k = 7
  · obtain ⟨f2, ea, hf2, hf3⟩ := row_add (v := nI (2 * s.h + (bt v k).toNat)) (f := f) hle hpos (by omega)
    have hp : pu s (bt v k) = ⟨updN s.b s.c (2 * s.h + (bt v k).toNat), s.c + 1, 0, 0⟩ := if_pos h7
    rw [hp]
    refine ⟨(0 : Int32), (0 : Int32), _, f2, nI (s.c + 1), by rw [if_pos (by rw [h7]), ea, bd_s], ⟨by rw [← hp]; exact pu_ok _ h.ok, rfl, rfl, rfl, fun j hj => ?_, ?_, ?_, ?_, ?_⟩⟩
    · have hj : j < s.c + 1 := hj
      show f2 j = nI (updN s.b s.c (2 * s.h + (bt v k).toNat) j)
      by_cases h5 : j = s.c
      · rw [h5, updN_s, hf3]
      · rw [updN_n _ h5, hf2 j (by omega)]
        exact h.f j (by omega)
    · show s.c + 1 ≤ if s.c < n then n else 2 * n
      by_cases h8 : s.c < n
      · rw [if_pos h8]; omega
      · rw [if_neg h8]; omega
    · by_cases h8 : s.c < n
      · rw [if_pos h8]; omega
      · rw [if_neg h8]; omega
    · have := h.n0
      by_cases h8 : s.c < n
      · rw [if_pos h8]; omega
      · rw [if_neg h8]; omega
    · show (if s.c < n then n else 2 * n) = n0 ∨ (if s.c < n then n else 2 * n) ≤ 2 * (s.c + 1)
      by_cases h8 : s.c < n
      · rw [if_pos h8]; omega
      · rw [if_neg h8]; omega
  · have hp : pu s (bt v k) = ⟨s.b, s.c, s.k + 1, 2 * s.h + (bt v k).toNat⟩ := if_neg h7
    rw [hp]
    exact ⟨_, _, n, f, ct, by rw [if_neg (by rw [nI_eq (by omega) (by omega)]; omega)], ⟨by rw [← hp]; exact pu_ok _ h.ok, rfl, rfl, h.ct, h.f, hle, hpos, h.n0, hgr⟩⟩
theorem put_c {n0 : Nat} {v : Int32} (hn0 : n0 ≤ 1000000) : ∀ {k : Nat} {s : bs} {held hc ct : Int32} {n : Nat} {f : Nat → Int32}, k ≤ 32 → CW s n0 held hc n f ct → blen s + k ≤ 2000000 →
    ∃ held2 hc2 n2 f2 ct2, BitWriter_put_f v (nI k) held hc n f ct = some (held2, hc2, n2, f2, ct2) ∧ CW (pus s (pb v k)) n0 held2 hc2 n2 f2 ct2 := by
  intro k s held hc ct n f hk h hl
  have key : ∀ (k g : Nat) (s : bs) (held hc ct : Int32) (n : Nat) (f : Nat → Int32), k ≤ 32 → k < g → CW s n0 held hc n f ct → blen s + k ≤ 2000000 → ∃ held2 hc2 n2 f2 ct2, lpF (BitWriter_put_L4 v) g (nI k + (-1 : Int32), held, hc, n, f, ct) = some (held2, hc2, n2, f2, ct2) ∧ CW (pus s (pb v k)) n0 held2 hc2 n2 f2 ct2 := by
    intro k
    induction k with
    | zero =>
      intro g s held hc ct n f _ hg h _
      obtain ⟨g, rfl⟩ : ∃ g2, g = g2 + 1 := ⟨g - 1, by omega⟩
      refine ⟨held, hc, n, f, ct, ?_, h⟩
      have hb : BitWriter_put_L4 v (nI 0 + (-1 : Int32), held, hc, n, f, ct) = some (Sum.inr (held, hc, n, f, ct)) := by
        show (if nI 0 + (-1 : Int32) < 0 then _ else _) = _
        rw [if_pos (by decide)]
      rw [lpF_s, hb]
      rfl
    | succ k ih =>
      intro g s held hc ct n f hk hg h hl
      obtain ⟨g, rfl⟩ : ∃ g2, g = g2 + 1 := ⟨g - 1, by omega⟩
      rw [pk_m1]
      obtain ⟨held2, hc2, n2, f2, ct2, hb, h2⟩ := put_bit (v := v) (show k < 32 by omega) h hn0 (by omega)
      have hlen := pu_len (bt v k) h.ok.k
      obtain ⟨held3, hc3, n3, f3, ct3, hb3, h3⟩ := ih g (pu s (bt v k)) held2 hc2 ct2 n2 f2 (by omega) (by omega) h2 (by omega)
      refine ⟨held3, hc3, n3, f3, ct3, ?_, h3⟩
      rw [lpF_s, hb]
      exact hb3
  obtain ⟨held2, hc2, n2, f2, ct2, hb, h2⟩ := key k gas s held hc ct n f hk (Nat.lt_of_lt_of_le (by omega) gas_le) h hl
  refine ⟨held2, hc2, n2, f2, ct2, ?_, h2⟩
  unfold BitWriter_put_f
  rw [show nI k - (1 : Int32) = nI k + (-1 : Int32) from Int32.sub_eq_add_neg _ _, hb]
  rfl
/-- a byte as the reference keeps it -/
def nb (x : Nat) : Int32 := vp_nar .byte (nI x)
/-- the reference has written s -/
abbrev MW (s : bs) (out : Nat → Int32) (bit : Int32) : Prop :=
  (bok s) ∧ (bit = nI (blen s)) ∧ (∀ j, j < s.c → out j = nb (s.b j)) ∧ (0 < s.k → out s.c = nb (s.h * 2 ^ (8 - s.k)))
theorem MW.ok {s : bs} {out : Nat → Int32} {bit : Int32} (h : MW s out bit) : bok s := h.1
theorem MW.bit {s : bs} {out : Nat → Int32} {bit : Int32} (h : MW s out bit) : bit = nI (blen s) := h.2.1
theorem MW.f {s : bs} {out : Nat → Int32} {bit : Int32} (h : MW s out bit) : ∀ j, j < s.c → out j = nb (s.b j) := h.2.2.1
theorem MW.p {s : bs} {out : Nat → Int32} {bit : Int32} (h : MW s out bit) : 0 < s.k → out s.c = nb (s.h * 2 ^ (8 - s.k)) := h.2.2.2
theorem nb_or : ∀ k, k < 8 → ∀ h, h < 128 → ∀ b, b < 2 → h < 2 ^ k → ((nI (h * 2 ^ (8 - k))).toInt8.toInt32 ||| (nI b <<< ((7 - nI k) &&& 31))).toInt8.toInt32.toInt8.toInt32 = (nI ((2 * h + b) * 2 ^ (7 - k))).toInt8.toInt32 := by decide +kernel
theorem putm_bit {s : bs} {k : Nat} {bit v : Int32} {out : Nat → Int32} (hk : k < 32) (h : MW s out bit) (hl : blen s ≤ 2000000) :
    ∃ out2, Model_put_L4 v (nI k, out, bit) = some (Sum.inl (nI k + (-1 : Int32), out2, nI (blen s + 1))) ∧ MW (pu s (bt v k)) out2 (nI (blen s + 1)) := by
  have hk8 := h.ok.k
  have hh := h.ok.h
  have hh2 : s.h < 128 := Nat.lt_of_lt_of_le hh (by
    have := Nat.pow_le_pow_right (show 0 < 2 by omega) (show s.k ≤ 7 by omega)
    omega)
  have hx := tN_le (bt v k)
  have hlen : blen s = 8 * s.c + s.k := rfl
  have hd : nI (blen s) / (8 : Int32) = nI s.c := (pk_div (show blen s < 2 ^ 31 by omega) (show 0 < 8 by omega) (by omega)).trans (congrArg nI (by omega))
  have hr : nI (blen s) - nI (blen s) / (8 : Int32) * (8 : Int32) = nI s.k := (pk_rem (show blen s < 2 ^ 31 by omega) (show 0 < 8 by omega) (by omega)).trans (congrArg nI (by omega))
  have hci : ix (nI s.c) 262144 = true := ixN (by omega) (by omega)
  have hnar : ∀ x : Int32, vp_nar .byte x = x.toInt8.toInt32 := fun x => vp_nar_byte x
  have hJ : ∀ o : Nat → Int32, (∀ j, j < s.c → o j = nb (s.b j)) → o s.c = nb (s.h * 2 ^ (8 - s.k)) → ∃ out2, Model_put_J35 (nI k, out, nI (blen s)) v (nI s.c) o = some (Sum.inl (nI k + (-1 : Int32), out2, nI (blen s + 1))) ∧ MW (pu s (bt v k)) out2 (nI (blen s + 1)) := by
    intro o ho1 ho2
    have hval : vp_nar .byte (vp_nar .byte (o s.c ||| (((v >>> (nI k &&& 31)) &&& (1 : Int32)) <<< (((7 : Int32) - nI s.k) &&& 31)))) = nb ((2 * s.h + (bt v k).toNat) * 2 ^ (7 - s.k)) := by
      rw [ho2, sshr1 v hk]
      unfold nb
      rw [hnar, hnar, hnar, hnar]
      exact nb_or s.k hk8 s.h hh2 _ (by omega) hh
    refine ⟨upd o s.c (nb ((2 * s.h + (bt v k).toNat) * 2 ^ (7 - s.k))), ?_, ⟨pu_ok _ h.ok, by rw [pu_len _ hk8], fun j hj => ?_, fun hp => ?_⟩⟩
    · show gd (ix (nI s.c) 262144) (gd (ix (nI s.c) 262144) (some (Sum.inl (nI k + (-1 : Int32), upd o (nI s.c).toNatClampNeg (vp_nar .byte (vp_nar .byte (o (nI s.c).toNatClampNeg ||| (((v >>> (nI k &&& 31)) &&& (1 : Int32)) <<< (((7 : Int32) - (nI (blen s) - nI (blen s) / (8 : Int32) * (8 : Int32))) &&& 31))))), nI (blen s) + (1 : Int32))))) = _
      rw [hr, hci, nI_clamp (show s.c < 2 ^ 31 by omega), hval, nI_1]
      rfl
    · by_cases h7 : s.k = 7
      · have hp : pu s (bt v k) = ⟨updN s.b s.c (2 * s.h + (bt v k).toNat), s.c + 1, 0, 0⟩ := if_pos h7
        rw [hp] at hj ⊢
        have hj : j < s.c + 1 := hj
        show upd o s.c (nb ((2 * s.h + (bt v k).toNat) * 2 ^ (7 - s.k))) j = nb (updN s.b s.c (2 * s.h + (bt v k).toNat) j)
        by_cases h5 : j = s.c
        · rw [h5, updN_s, pk_us, h7, Nat.sub_self, Nat.pow_zero, Nat.mul_one]
        · rw [updN_n _ h5, pk_un h5]
          exact ho1 j (by omega)
      · have hp : pu s (bt v k) = ⟨s.b, s.c, s.k + 1, 2 * s.h + (bt v k).toNat⟩ := if_neg h7
        rw [hp] at hj ⊢
        have hj : j < s.c := hj
        rw [pk_un (by omega)]
        exact ho1 j hj
    · by_cases h7 : s.k = 7
      · have hp2 : pu s (bt v k) = ⟨updN s.b s.c (2 * s.h + (bt v k).toNat), s.c + 1, 0, 0⟩ := if_pos h7
        rw [hp2] at hp
        exact absurd hp (Nat.lt_irrefl 0)
      · have hp2 : pu s (bt v k) = ⟨s.b, s.c, s.k + 1, 2 * s.h + (bt v k).toNat⟩ := if_neg h7
        rw [hp2]
        show upd o s.c (nb ((2 * s.h + (bt v k).toNat) * 2 ^ (7 - s.k))) s.c = nb ((2 * s.h + (bt v k).toNat) * 2 ^ (8 - (s.k + 1)))
        rw [pk_us, show 8 - (s.k + 1) = 7 - s.k by omega]
  have hL : Model_put_L4 v (nI k, out, bit) = (if nI s.k = 0 then Model_put_J35 (nI k, out, nI (blen s)) v (nI s.c) (upd out s.c (vp_nar .byte (0 : Int32))) else Model_put_J35 (nI k, out, nI (blen s)) v (nI s.c) out) := by
    rw [h.bit]
    show (if nI k < 0 then _ else (if nI (blen s) - nI (blen s) / (8 : Int32) * (8 : Int32) = 0 then gd (ix (nI (blen s) / (8 : Int32)) 262144) (Model_put_J35 (nI k, out, nI (blen s)) v (nI (blen s) / (8 : Int32)) (upd out (nI (blen s) / (8 : Int32)).toNatClampNeg (vp_nar .byte (0 : Int32)))) else Model_put_J35 (nI k, out, nI (blen s)) v (nI (blen s) / (8 : Int32)) out)) = _
    rw [if_neg (nI_pos (by omega)), hr, hd, hci, nI_clamp (show s.c < 2 ^ 31 by omega)]
    rfl
  rw [hL]
  by_cases h0 : s.k = 0
  · rw [if_pos (by rw [h0]; rfl)]
    refine hJ _ (fun j hj => ?_) ?_
    · rw [pk_un (by omega)]
      exact h.f j hj
    · rw [pk_us]
      rw [h0] at hh
      have h1 : s.h = 0 := by omega
      rw [h1, Nat.zero_mul]
      rfl
  · rw [if_neg (nI_ne0 (by omega) (by omega))]
    exact hJ out h.f (h.p (by omega))
theorem put_m {v : Int32} {k : Nat} {s : bs} {out : Nat → Int32} {bit : Int32} (hk : k ≤ 32) (h : MW s out bit) (hl : blen s + k ≤ 2000000) :
    ∃ out2 bit2, Model_put_f v (nI k) out bit = some (out2, bit2) ∧ MW (pus s (pb v k)) out2 bit2 := by
  have key : ∀ (k g : Nat) (s : bs) (out : Nat → Int32) (bit : Int32), k ≤ 32 → k < g → MW s out bit → blen s + k ≤ 2000000 → ∃ out2 bit2, lpF (Model_put_L4 v) g (nI k + (-1 : Int32), out, bit) = some (out2, bit2) ∧ MW (pus s (pb v k)) out2 bit2 := by
    intro k
    induction k with
    | zero =>
      intro g s out bit _ hg h _
      obtain ⟨g, rfl⟩ : ∃ g2, g = g2 + 1 := ⟨g - 1, by omega⟩
      refine ⟨out, bit, ?_, h⟩
      have hb : Model_put_L4 v (nI 0 + (-1 : Int32), out, bit) = some (Sum.inr (out, bit)) := by
        show (if nI 0 + (-1 : Int32) < 0 then _ else _) = _
        rw [if_pos (by decide)]
      rw [lpF_s, hb]
      rfl
    | succ k ih =>
      intro g s out bit hk hg h hl
      obtain ⟨g, rfl⟩ : ∃ g2, g = g2 + 1 := ⟨g - 1, by omega⟩
      rw [pk_m1]
      obtain ⟨out2, hb, h2⟩ := putm_bit (v := v) (show k < 32 by omega) h (by omega)
      have hlen := pu_len (bt v k) h.ok.k
      obtain ⟨out3, bit3, hb3, h3⟩ := ih g (pu s (bt v k)) out2 (nI (blen s + 1)) (by omega) (by omega) h2 (by omega)
      refine ⟨out3, bit3, ?_, h3⟩
      rw [lpF_s, hb]
      exact hb3
  obtain ⟨out2, bit2, hb, h2⟩ := key k gas s out bit hk (Nat.lt_of_lt_of_le (by omega) gas_le) h hl
  refine ⟨out2, bit2, ?_, h2⟩
  unfold Model_put_f
  rw [show nI k - (1 : Int32) = nI k + (-1 : Int32) from Int32.sub_eq_add_neg _ _, hb]
  rfl
