/-! UNPACKING: which bytes the block has -/
noncomputable def r16 (E : Nat) (x : Nat → Bool) (q : Nat) : (Nat × Nat) ⊕ Int32 := if q + 16 ≤ E then (if bvI x q 16 = 0 then Sum.inl (4, q) else Sum.inr (bvI x q 16)) else Sum.inl (2, E)
def apN (v : Int32) (b0 : Nat) (c : Nat) (g : Nat → Nat) : Nat → Nat × (Nat → Nat)
  | 0 => (c, g)
  | i + 1 => if bt v (15 - i) = true then ((apN v b0 c g i).1 + 1, updN (apN v b0 c g i).2 (apN v b0 c g i).1 (b0 + i)) else apN v b0 c g i
noncomputable def usN (E : Nat) (x : Nat → Bool) (v : Int32) : Nat → Nat → Nat → (Nat → Nat) → (Nat × Nat) ⊕ (Nat × Nat × (Nat → Nat))
  | 0, q, c, g => Sum.inr (q, c, g)
  | f + 1, q, c, g => if bt v (15 - (16 - (f + 1))) = true then Sum.elim (fun e => Sum.inl e) (fun v2 => usN E x v f (q + 16) (apN v2 (16 * (16 - (f + 1))) c g 16).1 (apN v2 (16 * (16 - (f + 1))) c g 16).2) (r16 E x q) else usN E x v f q c g
noncomputable def ruN (E : Nat) (x : Nat → Bool) (q : Nat) : (Nat × Nat) ⊕ (Nat × Nat × (Nat → Nat)) := Sum.elim (fun e => Sum.inl e) (fun v => usN E x v 16 (q + 16) 0 (fun _ => 0)) (r16 E x q)
theorem apN_b (v : Int32) (b0 c : Nat) (g : Nat → Nat) : ∀ i, c ≤ (apN v b0 c g i).1 ∧ (apN v b0 c g i).1 ≤ c + i := by
  intro i
  induction i with
  | zero => exact ⟨Nat.le_refl _, Nat.le_refl _⟩
  | succ i ih =>
    rw [apN]
    by_cases h : bt v (15 - i) = true
    · rw [if_pos h]
      show c ≤ (apN v b0 c g i).1 + 1 ∧ (apN v b0 c g i).1 + 1 ≤ c + (i + 1)
      omega
    · rw [if_neg h]
      omega
theorem apN_pos {v : Int32} {b0 c : Nat} {g : Nat → Nat} : ∀ {n i : Nat}, i < n → bt v (15 - i) = true → 1 ≤ (apN v b0 c g n).1 := by
  intro n
  induction n with
  | zero => intro i h; omega
  | succ n ih =>
    intro i hi h
    have hb := apN_b v b0 c g n
    rw [apN]
    by_cases h2 : bt v (15 - n) = true
    · rw [if_pos h2]
      show 1 ≤ (apN v b0 c g n).1 + 1
      omega
    · rw [if_neg h2]
      have : i ≠ n := fun q => h2 (by rw [← q]; exact h)
      exact ih (show i < n by omega) h
theorem apN_v {v : Int32} {b0 c : Nat} {g : Nat → Nat} (hb : b0 + 16 ≤ 256) (h : ∀ j, j < c → g j < 256) : ∀ n, n ≤ 16 → ∀ j, j < (apN v b0 c g n).1 → (apN v b0 c g n).2 j < 256 := by
  intro n
  induction n with
  | zero => intro _; exact h
  | succ n ih =>
    intro hn j hj
    rw [apN] at hj ⊢
    by_cases h2 : bt v (15 - n) = true
    · rw [if_pos h2] at hj ⊢
      have hj : j < (apN v b0 c g n).1 + 1 := hj
      show updN (apN v b0 c g n).2 (apN v b0 c g n).1 (b0 + n) j < 256
      by_cases h3 : j = (apN v b0 c g n).1
      · rw [h3, updN_s]; omega
      · rw [updN_n _ h3]
        exact ih (by omega) j (by omega)
    · rw [if_neg h2] at hj ⊢
      exact ih (by omega) j hj
theorem bv16_ne {x : Nat → Bool} {q : Nat} (h : ¬ bvI x q 16 = 0) : ∃ i, i < 16 ∧ bt (bvI x q 16) (15 - i) = true := by
  refine Decidable.byContradiction (fun hno => h ?_)
  apply b_ext
  intro i hi
  rw [b_0]
  cases hb : bt (bvI x q 16) i with
  | false => rfl
  | true =>
    rcases Nat.lt_or_ge i 16 with h1 | h1
    · exact absurd ⟨15 - i, by omega, by rw [show 15 - (15 - i) = i by omega]; exact hb⟩ hno
    · rw [bvI_bt x q 16 (by omega) i hi, decide_eq_false (by omega), Bool.false_and] at hb
      cases hb
theorem usN_b {E : Nat} {x : Nat → Bool} {v : Int32} : ∀ (f q c : Nat) (g : Nat → Nat) (q2 c2 : Nat) (g2 : Nat → Nat), f ≤ 16 → q ≤ E → c ≤ 16 * (16 - f) → (∀ j, j < c → g j < 256) → ((∃ i, i < 16 - f ∧ bt v (15 - i) = true) → 1 ≤ c) → usN E x v f q c g = Sum.inr (q2, c2, g2) → q2 ≤ E ∧ c2 ≤ 256 ∧ (∀ j, j < c2 → g2 j < 256) ∧ ((∃ i, i < 16 ∧ bt v (15 - i) = true) → 1 ≤ c2) := by
  intro f
  induction f with
  | zero =>
    intro q c g q2 c2 g2 _ hq hc hg hp h
    have h2 := Sum.inr.inj h
    have e1 : q = q2 := congrArg Prod.fst h2
    have e2 : c = c2 := congrArg (fun z => z.2.1) h2
    have e3 : g = g2 := congrArg (fun z => z.2.2) h2
    rw [← e1, ← e2, ← e3]
    exact ⟨hq, by omega, hg, hp⟩
  | succ f ih =>
    intro q c g q2 c2 g2 hf hq hc hg hp h
    rw [usN] at h
    by_cases hb : bt v (15 - (16 - (f + 1))) = true
    · rw [if_pos hb] at h
      unfold r16 at h
      by_cases h1 : q + 16 ≤ E
      · rw [if_pos h1] at h
        by_cases h2 : bvI x q 16 = 0
        · rw [if_pos h2] at h
          cases h
        · rw [if_neg h2] at h
          have h : usN E x v f (q + 16) (apN (bvI x q 16) (16 * (16 - (f + 1))) c g 16).1 (apN (bvI x q 16) (16 * (16 - (f + 1))) c g 16).2 = Sum.inr (q2, c2, g2) := h
          have hab := apN_b (bvI x q 16) (16 * (16 - (f + 1))) c g 16
          obtain ⟨i0, hi0, hi1⟩ := bv16_ne h2
          have hap := apN_pos (b0 := 16 * (16 - (f + 1))) (c := c) (g := g) hi0 hi1
          exact ih _ _ _ _ _ _ (by omega) h1 (by omega) (apN_v (by omega) hg 16 (Nat.le_refl _)) (fun _ => hap) h
      · rw [if_neg h1] at h
        cases h
    · rw [if_neg hb] at h
      refine ih _ _ _ _ _ _ (by omega) hq (by omega) hg (fun ⟨i, hi, hi2⟩ => hp ⟨i, ?_, hi2⟩) h
      have : i ≠ 16 - (f + 1) := fun q3 => hb (by rw [← q3]; exact hi2)
      omega
theorem ruN_b {E q q2 c2 : Nat} {x : Nat → Bool} {g2 : Nat → Nat} (h : ruN E x q = Sum.inr (q2, c2, g2)) : q2 ≤ E ∧ c2 ≤ 256 ∧ (∀ j, j < c2 → g2 j < 256) ∧ 1 ≤ c2 := by
  unfold ruN r16 at h
  by_cases h1 : q + 16 ≤ E
  · rw [if_pos h1] at h
    by_cases h2 : bvI x q 16 = 0
    · rw [if_pos h2] at h
      cases h
    · rw [if_neg h2] at h
      have h : usN E x (bvI x q 16) 16 (q + 16) 0 (fun _ => 0) = Sum.inr (q2, c2, g2) := h
      obtain ⟨a1, a2, a3, a4⟩ := usN_b 16 _ _ _ _ _ _ (Nat.le_refl _) h1 (Nat.zero_le _) (fun j hj => absurd hj (Nat.not_lt_zero _)) (fun ⟨i, hi, _⟩ => by omega) h
      exact ⟨a1, a2, a3, a4 (bv16_ne h2)⟩
  · rw [if_neg h1] at h
    cases h
theorem append16_c {v : Int32} {b0 c : Nat} {g : Nat → Nat} {mem : Nat → Int32} (hc : c + 16 ≤ 256) (hb : b0 ≤ 1000) (h : RS c mem g) : ∃ mem2, Unpacker_appendSixteen_f v (nI b0) mem (nI c) = some (mem2, nI (apN v b0 c g 16).1) ∧ RS (apN v b0 c g 16).1 mem2 (apN v b0 c g 16).2 := by
  have l1 : ∃ q : (Nat → Int32) × Int32, lpF (Unpacker_appendSixteen_L2 v (nI b0)) gas ((0 : Int32), mem, nI c) = some q ∧ q.2 = nI (apN v b0 c g 16).1 ∧ RS (apN v b0 c g 16).1 q.1 (apN v b0 c g 16).2 := by
    refine lp_for (fun i s => ∃ m, s = (nI i, m, nI (apN v b0 c g i).1) ∧ RS (apN v b0 c g i).1 m (apN v b0 c g i).2) _ (i0 := 0) (N := 16) (by omega) (by omega) ?_ ?_ ⟨mem, rfl, h⟩
    · rintro i s _ hi ⟨m, rfl, hm⟩
      have hab := apN_b v b0 c g i
      have hS : Unpacker_appendSixteen_L2 v (nI b0) (nI i, m, nI (apN v b0 c g i).1) = (if nI (bt v (15 - i)).toNat = (1 : Int32) then bd (FrontList_append_f (nI (apN v b0 c g i).1) m (nI (b0 + i))) (fun u7 => some (Sum.inl (nI (i + 1), u7.1, u7.2))) else some (Sum.inl (nI (i + 1), m, nI (apN v b0 c g i).1))) := by
        show (if nI 16 ≤ nI i then _ else (if (v >>> (((15 : Int32) - nI i) &&& 31)) &&& (1 : Int32) = (1 : Int32) then bd (FrontList_append_f (nI (apN v b0 c g i).1) m (nI b0 + nI i)) (fun u7 => some (Sum.inl (nI i + (1 : Int32), u7.1, u7.2))) else some (Sum.inl (nI i + (1 : Int32), m, nI (apN v b0 c g i).1)))) = _
        rw [if_neg (nI_ge hi (by omega)), show (15 : Int32) - nI i = nI (15 - i) from pk_sub (show i ≤ 15 by omega), sshr1 v (by omega), nI_add, nI_1]
      rw [hS]
      by_cases hb1 : bt v (15 - i) = true
      · have hap : apN v b0 c g (i + 1) = ((apN v b0 c g i).1 + 1, updN (apN v b0 c g i).2 (apN v b0 c g i).1 (b0 + i)) := if_pos hb1
        rw [hb1, if_pos (show nI true.toNat = (1 : Int32) from rfl), fl_append (by omega), bd_s, hap]
        exact ⟨_, rfl, upd m (apN v b0 c g i).1 (nI (b0 + i)), rfl, RS_upd hm⟩
      · have hap : apN v b0 c g (i + 1) = apN v b0 c g i := if_neg hb1
        have hbf : bt v (15 - i) = false := by
          cases hbb : bt v (15 - i) with
          | false => rfl
          | true => exact absurd hbb hb1
        rw [hbf, if_neg (by decide), hap]
        exact ⟨_, rfl, m, rfl, hm⟩
    · rintro s ⟨m, rfl, hm⟩
      refine ⟨(m, nI (apN v b0 c g 16).1), ?_, rfl, hm⟩
      show (if nI 16 ≤ nI 16 then _ else _) = _
      rw [if_pos (nI_le (Nat.le_refl _) (by omega))]
  obtain ⟨⟨m, c2⟩, e1, hc2, hm⟩ := l1
  have hc2 : c2 = nI (apN v b0 c g 16).1 := hc2
  refine ⟨m, ?_, hm⟩
  unfold Unpacker_appendSixteen_f
  rw [e1, bd_s, hc2]
theorem sixteen_c {tp : Nat → Nat} {F nb q : Nat} {f : Nat → Int32} (hF : F ≤ nb) (hnb : nb < 1000000) (hf : ∀ j, j < F → f j = nI (tp j)) (hq : q ≤ 8 * F) : ∃ tk at2, Unpacker_readSixteen_f (nI (8 * F)) (nI F) nb f (0 : Int32) (-1 : Int32) (nI q) = some (Sum.elim (fun e => ((0 : Int32), tk, nI e.1, nI e.2, at2)) (fun v => ((1 : Int32), v, (0 : Int32), (-1 : Int32), nI (q + 16))) (r16 (8 * F) (xb tp) q)) := by
  unfold Unpacker_readSixteen_f Unpacker_readSixteen_J44 Unpacker_readSixteen_J49 r16
  by_cases h1 : q + 16 ≤ 8 * F
  · rw [show BitReader_take_f (16 : Int32) (nI (8 * F)) (nI F) nb f (0 : Int32) (-1 : Int32) (nI q) = _ from take_c (k := 16) hF hnb hf (by omega) h1, bd_s, if_pos h1]
    show ∃ tk at2, (if (1 : Int32) = 0 then _ else (if bvI (xb tp) q 16 = 0 then bd (BitReader_fail_f (4 : Int32) (nI q)) (fun u5 => (if u5.1 = 0 then gd (bl (0 : Int32)) (some ((0 : Int32), bvI (xb tp) q 16, u5.2.1, u5.2.2, nI (q + 16))) else gd (bl (1 : Int32)) (some ((1 : Int32), bvI (xb tp) q 16, u5.2.1, u5.2.2, nI (q + 16))))) else gd (bl (1 : Int32)) (some ((1 : Int32), bvI (xb tp) q 16, (0 : Int32), (-1 : Int32), nI (q + 16))))) = _
    rw [if_neg (show ¬ (1 : Int32) = 0 by decide)]
    by_cases h2 : bvI (xb tp) q 16 = 0
    · rw [if_pos h2, if_pos h2]
      exact ⟨bvI (xb tp) q 16, nI (q + 16), rfl⟩
    · rw [if_neg h2, if_neg h2]
      exact ⟨(0 : Int32), (0 : Int32), rfl⟩
  · obtain ⟨tk, et⟩ := take_ce (k := 16) (flt := (0 : Int32)) (fa := (-1 : Int32)) hF hnb hf (by omega) hq (show 8 * F < q + 16 by omega)
    rw [show BitReader_take_f (16 : Int32) (nI (8 * F)) (nI F) nb f (0 : Int32) (-1 : Int32) (nI q) = _ from et, bd_s, if_neg h1]
    exact ⟨tk, nI (8 * F), rfl⟩
/-- class and reference tell the same: a fault, or where the next bit stands, a list and its length -/
abbrev okB (r : (Nat × Nat) ⊕ (Nat × Nat × (Nat → Nat))) (rt cn flt fa at' : Int32) (mem : Nat → Int32) : Prop := (∀ e, r = Sum.inl e → rt = 0 ∧ flt = nI e.1 ∧ fa = nI e.2) ∧ ∀ v, r = Sum.inr v → rt = 1 ∧ flt = 0 ∧ fa = (-1 : Int32) ∧ at' = nI v.1 ∧ cn = nI v.2.1 ∧ RS v.2.1 mem v.2.2
theorem okB_e {e p : Nat} {cn at' : Int32} {mem : Nat → Int32} : okB (Sum.inl (e, p)) (0 : Int32) cn (nI e) (nI p) at' mem := ⟨fun e2 h => (by cases h; exact ⟨rfl, rfl, rfl⟩), fun v h => (by cases h)⟩
theorem okB_r {q c : Nat} {g : Nat → Nat} {mem : Nat → Int32} (h : RS c mem g) : okB (Sum.inr (q, c, g)) (1 : Int32) (nI c) (0 : Int32) (-1 : Int32) (nI q) mem := ⟨fun e h2 => (by cases h2), fun v h2 => (by cases h2; exact ⟨rfl, rfl, rfl, rfl, rfl, h⟩)⟩
theorem readUsed_c {tp : Nat → Nat} {F nb q : Nat} {f mem : Nat → Int32} (hF : F ≤ nb) (hF2 : F ≤ 10240) (hnb : nb < 1000000) (hf : ∀ j, j < F → f j = nI (tp j)) (hq : q ≤ 8 * F) :
    ∃ rt cn tk flt fa at2 mem2, Unpacker_readUsed_f (nI (8 * F)) (nI F) nb f (0 : Int32) (-1 : Int32) (nI q) mem = some (rt, cn, tk, flt, fa, at2, mem2) ∧ okB (ruN (8 * F) (xb tp) q) rt cn flt fa at2 mem2 := by
  obtain ⟨tk0, at0, e0⟩ := sixteen_c (tp := tp) hF hnb hf hq
  unfold Unpacker_readUsed_f ruN
  rw [e0, bd_s]
  cases hr : r16 (8 * F) (xb tp) q with
  | inl e =>
    obtain ⟨e1, e2⟩ := e
    exact ⟨_, _, _, _, _, _, _, rfl, okB_e⟩
  | inr v =>
    have hq2 : q + 16 ≤ 8 * F := by
      unfold r16 at hr
      by_cases h1 : q + 16 ≤ 8 * F
      · exact h1
      · rw [if_neg h1] at hr
        cases hr
    show ∃ rt cn tk flt fa at2 mem2, (if (1 : Int32) = 0 then _ else bd (lpF (Unpacker_readUsed_L27 ((1 : Int32), v, (0 : Int32), (-1 : Int32), nI (q + 16)) (nI (8 * F)) (nI F) nb f) gas ((0 : Int32), (0 : Int32), v, (0 : Int32), (-1 : Int32), nI (q + 16), mem)) (fun u4 => (Sum.elim (fun v5 => some ((0 : Int32), v5.1, v5.2.1, v5.2.2.1, v5.2.2.2.1, v5.2.2.2.2.1, v5.2.2.2.2.2)) (fun v6 => some ((1 : Int32), v6.1, v6.2.1, v6.2.2.1, v6.2.2.2.1, v6.2.2.2.2.1, v6.2.2.2.2.2))) u4)) = _ ∧ okB (usN (8 * F) (xb tp) v 16 (q + 16) 0 (fun _ => 0)) rt cn flt fa at2 mem2
    rw [if_neg (show ¬ (1 : Int32) = 0 by decide)]
    have key : ∀ (r z q c : Nat) (g : Nat → Nat) (mem : Nat → Int32) (tk : Int32), r ≤ 16 → r < z → q ≤ 8 * F → c ≤ 16 * (16 - r) → RS c mem g → ∃ rt cn tk2 flt fa at2 mem2, bd (lpF (Unpacker_readUsed_L27 ((1 : Int32), v, (0 : Int32), (-1 : Int32), at0) (nI (8 * F)) (nI F) nb f) z (nI (16 - r), nI c, tk, (0 : Int32), (-1 : Int32), nI q, mem)) (fun u4 => (Sum.elim (fun v5 => some ((0 : Int32), v5.1, v5.2.1, v5.2.2.1, v5.2.2.2.1, v5.2.2.2.2.1, v5.2.2.2.2.2)) (fun v6 => some ((1 : Int32), v6.1, v6.2.1, v6.2.2.1, v6.2.2.2.1, v6.2.2.2.2.1, v6.2.2.2.2.2))) u4) = some (rt, cn, tk2, flt, fa, at2, mem2) ∧ okB (usN (8 * F) (xb tp) v r q c g) rt cn flt fa at2 mem2 := by
      intro r
      induction r with
      | zero =>
        intro z q c g mem tk _ hz hq hc hR
        obtain ⟨z, rfl⟩ : ∃ z2, z = z2 + 1 := ⟨z - 1, by omega⟩
        have hb : Unpacker_readUsed_L27 ((1 : Int32), v, (0 : Int32), (-1 : Int32), at0) (nI (8 * F)) (nI F) nb f (nI (16 - 0), nI c, tk, (0 : Int32), (-1 : Int32), nI q, mem) = some (Sum.inr (Sum.inr (nI c, tk, (0 : Int32), (-1 : Int32), nI q, mem))) := by
          show (if nI 16 ≤ nI 16 then _ else _) = _
          rw [if_pos (nI_le (Nat.le_refl _) (by omega))]
        rw [lpF_s, hb]
        exact ⟨_, _, _, _, _, _, _, rfl, okB_r hR⟩
      | succ r ih =>
        intro z q c g mem tk hr hz hq hc hR
        obtain ⟨z, rfl⟩ : ∃ z2, z = z2 + 1 := ⟨z - 1, by omega⟩
        obtain ⟨s, hs⟩ : ∃ s, s = 16 - (r + 1) := ⟨_, rfl⟩
        have e3 : 16 - r = s + 1 := by omega
        rw [lpF_s, usN, ← hs]
        obtain ⟨tk1, at1, e1⟩ := sixteen_c (tp := tp) hF hnb hf hq
        have hS : Unpacker_readUsed_L27 ((1 : Int32), v, (0 : Int32), (-1 : Int32), at0) (nI (8 * F)) (nI F) nb f (nI s, nI c, tk, (0 : Int32), (-1 : Int32), nI q, mem) = (if nI (bt v (15 - s)).toNat = (1 : Int32) then bd (Unpacker_readSixteen_f (nI (8 * F)) (nI F) nb f (0 : Int32) (-1 : Int32) (nI q)) (fun u10 => (if u10.1 = 0 then some (Sum.inr (Sum.inl (nI c, u10.2.1, u10.2.2.1, u10.2.2.2.1, u10.2.2.2.2, mem))) else bd (Unpacker_appendSixteen_f u10.2.1 (nI (s * 16)) mem (nI c)) (fun u12 => some (Sum.inl (nI (s + 1), u12.2, u10.2.1, u10.2.2.1, u10.2.2.2.1, u10.2.2.2.2, u12.1))))) else some (Sum.inl (nI (s + 1), nI c, tk, (0 : Int32), (-1 : Int32), nI q, mem))) := by
          show (if nI 16 ≤ nI s then _ else (if (v >>> (((15 : Int32) - nI s) &&& 31)) &&& (1 : Int32) = (1 : Int32) then bd (Unpacker_readSixteen_f (nI (8 * F)) (nI F) nb f (0 : Int32) (-1 : Int32) (nI q)) (fun u10 => (if u10.1 = 0 then some (Sum.inr (Sum.inl (nI c, u10.2.1, u10.2.2.1, u10.2.2.2.1, u10.2.2.2.2, mem))) else bd (Unpacker_appendSixteen_f u10.2.1 (nI s * nI 16) mem (nI c)) (fun u12 => some (Sum.inl (nI s + (1 : Int32), u12.2, u10.2.1, u10.2.2.1, u10.2.2.2.1, u10.2.2.2.2, u12.1))))) else some (Sum.inl (nI s + (1 : Int32), nI c, tk, (0 : Int32), (-1 : Int32), nI q, mem)))) = _
          rw [if_neg (nI_ge (by omega) (by omega)), show (15 : Int32) - nI s = nI (15 - s) from pk_sub (show s ≤ 15 by omega), sshr1 v (by omega), nI_1, pk_mul]
        rw [hS]
        by_cases hb1 : bt v (15 - s) = true
        · rw [hb1, if_pos (show nI true.toNat = (1 : Int32) from rfl), if_pos (show true = true from rfl), e1, bd_s]
          cases hr2 : r16 (8 * F) (xb tp) q with
          | inl e =>
            obtain ⟨x1, x2⟩ := e
            exact ⟨_, _, _, _, _, _, _, rfl, okB_e⟩
          | inr v2 =>
            have hq3 : q + 16 ≤ 8 * F := by
              unfold r16 at hr2
              by_cases h1 : q + 16 ≤ 8 * F
              · exact h1
              · rw [if_neg h1] at hr2
                cases hr2
            obtain ⟨mem2, e4, h4⟩ := append16_c (v := v2) (b0 := s * 16) (show c + 16 ≤ 256 by omega) (by omega) hR
            rw [Nat.mul_comm s 16] at e4 h4
            have hab := apN_b v2 (16 * s) c g 16
            show ∃ rt cn tk2 flt fa at2 mem2, bd (bd (if (1 : Int32) = 0 then _ else bd (Unpacker_appendSixteen_f v2 (nI (s * 16)) mem (nI c)) (fun u12 => some (Sum.inl (nI (s + 1), u12.2, v2, (0 : Int32), (-1 : Int32), nI (q + 16), u12.1)))) _) _ = _ ∧ okB (usN (8 * F) (xb tp) v r (q + 16) (apN v2 (16 * s) c g 16).1 (apN v2 (16 * s) c g 16).2) rt cn flt fa at2 mem2
            rw [if_neg (show ¬ (1 : Int32) = 0 by decide), Nat.mul_comm s 16, e4, bd_s]
            have hih := ih z (q + 16) (apN v2 (16 * s) c g 16).1 (apN v2 (16 * s) c g 16).2 mem2 v2 (by omega) (by omega) hq3 (by omega) h4
            rw [e3] at hih
            exact hih
        · have hbf : bt v (15 - s) = false := by
            cases hbb : bt v (15 - s) with
            | false => rfl
            | true => exact absurd hbb hb1
          rw [hbf, if_neg (by decide), if_neg Bool.noConfusion]
          have hih := ih z q c g mem tk (by omega) (by omega) hq (by omega) hR
          rw [e3] at hih
          exact hih
    have hk := key 16 gas (q + 16) 0 (fun _ => 0) mem v (Nat.le_refl _) (Nat.lt_of_lt_of_le (by omega) gas_le) hq2 (Nat.zero_le _) (fun j hj => absurd hj (Nat.not_lt_zero _))
    exact hk
