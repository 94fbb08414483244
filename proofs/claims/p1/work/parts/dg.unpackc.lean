/-! UNPACKING: the whole file, the class's -/
theorem usN_m {E : Nat} {x : Nat → Bool} {v : Int32} : ∀ (f q c : Nat) (g : Nat → Nat) (q2 c2 : Nat) (g2 : Nat → Nat), usN E x v f q c g = Sum.inr (q2, c2, g2) → q ≤ q2 := by
  intro f
  induction f with
  | zero =>
    intro q c g q2 c2 g2 h
    have e1 : q = q2 := congrArg Prod.fst (Sum.inr.inj h)
    omega
  | succ f ih =>
    intro q c g q2 c2 g2 h
    rw [usN] at h
    by_cases hb : bt v (15 - (16 - (f + 1))) = true
    · rw [if_pos hb] at h
      cases hr : r16 E x q with
      | inl e => rw [hr] at h; cases h
      | inr v2 =>
        rw [hr] at h
        have := ih _ _ _ _ _ _ h
        omega
    · rw [if_neg hb] at h
      exact ih _ _ _ _ _ _ h
theorem ruN_m {E q q2 c2 : Nat} {x : Nat → Bool} {g2 : Nat → Nat} (h : ruN E x q = Sum.inr (q2, c2, g2)) : q ≤ q2 := by
  unfold ruN at h
  cases hr : r16 E x q with
  | inl e => rw [hr] at h; cases h
  | inr v =>
    rw [hr] at h
    have := usN_m _ _ _ _ _ _ _ h
    omega
theorem onN_m {E : Nat} {x : Nat → Bool} {tc q0 : Nat} : ∀ (r q o q2 : Nat), onN E x tc q0 r q = Sum.inr (o, q2) → q ≤ q2 := by
  intro r
  induction r with
  | zero => intro q o q2 h; cases h
  | succ r ih =>
    intro q o q2 h
    rw [onN] at h
    by_cases h1 : q < E
    · rw [if_pos h1] at h
      by_cases h2 : x q = true
      · rw [if_pos h2] at h
        have := ih _ _ _ h
        omega
      · rw [if_neg h2] at h
        have e2 : q + 1 = q2 := congrArg Prod.snd (Sum.inr.inj h)
        omega
    · rw [if_neg h1] at h; cases h
theorem grN_m {E : Nat} {x : Nat → Bool} {tc : Nat} : ∀ (f i q : Nat) (g T : Nat → Nat) (q2 : Nat) (T2 : Nat → Nat), grN E x tc f i q g T = Sum.inr (q2, T2) → q ≤ q2 := by
  intro f
  induction f with
  | zero =>
    intro i q g T q2 T2 h
    have e1 : q = q2 := congrArg Prod.fst (Sum.inr.inj h)
    omega
  | succ f ih =>
    intro i q g T q2 T2 h
    rw [grN] at h
    cases ho : onN E x tc q tc q with
    | inl e => rw [ho] at h; cases h
    | inr v =>
      obtain ⟨o, q3⟩ := v
      rw [ho] at h
      have h1 : q3 ≤ q2 := ih _ _ _ _ _ _ h
      have h2 := onN_m _ _ _ _ ho
      omega
theorem rgN_m {E q tc G q2 : Nat} {x : Nat → Bool} {T : Nat → Nat} (h : rgN E x q = Sum.inr (tc, G, q2, T)) : q ≤ q2 := by
  unfold rgN at h
  cases hc : rcN E x q with
  | inl e => rw [hc] at h; cases h
  | inr v =>
    obtain ⟨t, g⟩ := v
    rw [hc] at h
    have h : Sum.elim (fun e => Sum.inl e) (fun w => Sum.inr (t, g, w.1, w.2)) (grN E x t g 0 (q + 18) (fun j => j) (fun _ => 0)) = (Sum.inr (tc, G, q2, T) : (Nat × Nat) ⊕ (Nat × Nat × Nat × (Nat → Nat))) := h
    cases hg : grN E x t g 0 (q + 18) (fun j => j) (fun _ => 0) with
    | inl e => rw [hg] at h; cases h
    | inr w =>
      obtain ⟨q3, T3⟩ := w
      rw [hg] at h
      have e3 : q3 = q2 := congrArg (fun z => z.2.2.1) (Sum.inr.inj h)
      have := grN_m _ _ _ _ _ _ _ hg
      omega
theorem rnN_m {E : Nat} {x : Nat → Bool} : ∀ (f now q n2 q2 : Nat), rnN E x f now q = Sum.inr (n2, q2) → q ≤ q2 := by
  intro f
  induction f with
  | zero => intro now q n2 q2 h; cases h
  | succ f ih =>
    intro now q n2 q2 h
    rw [rnN] at h
    by_cases a1 : q < E
    · rw [if_pos a1] at h
      by_cases a2 : x q = true
      · rw [if_pos a2] at h
        by_cases a3 : q + 1 < E
        · rw [if_pos a3] at h
          by_cases a4 : 1 ≤ nw (x (q + 1)) now ∧ nw (x (q + 1)) now ≤ 20
          · rw [if_pos a4] at h
            have := ih _ _ _ _ h
            omega
          · rw [if_neg a4] at h; cases h
        · rw [if_neg a3] at h; cases h
      · rw [if_neg a2] at h
        have e2 : q + 1 = q2 := congrArg Prod.snd (Sum.inr.inj h)
        omega
    · rw [if_neg a1] at h; cases h
theorem leN_m {E : Nat} {x : Nat → Bool} : ∀ (r k now q : Nat) (L : Nat → Nat) (q2 : Nat) (L2 : Nat → Nat), leN E x r k now q L = Sum.inr (q2, L2) → q ≤ q2 := by
  intro r
  induction r with
  | zero =>
    intro k now q L q2 L2 h
    have e1 : q = q2 := congrArg Prod.fst (Sum.inr.inj h)
    omega
  | succ r ih =>
    intro k now q L q2 L2 h
    rw [leN] at h
    cases hr : rnN E x E now q with
    | inl e => rw [hr] at h; cases h
    | inr v =>
      obtain ⟨n2, q3⟩ := v
      rw [hr] at h
      have h1 : q3 ≤ q2 := ih _ _ _ _ _ _ h
      have h2 := rnN_m _ _ _ _ _ hr
      omega
theorem ltN_m {E n q q2 : Nat} {x : Nat → Bool} {L2 : Nat → Nat} (h : ltN E x n q = Sum.inr (q2, L2)) : q ≤ q2 := by
  unfold ltN at h
  cases hl : lhN E x n q with
  | inl e => rw [hl] at h; cases h
  | inr v =>
    obtain ⟨q3, L3⟩ := v
    rw [hl] at h
    have h : (if kf L3 n ≤ 2 ^ 20 then Sum.inr (q3, L3) else Sum.inl (6, q)) = (Sum.inr (q2, L2) : (Nat × Nat) ⊕ (Nat × (Nat → Nat))) := h
    by_cases hk : kf L3 n ≤ 2 ^ 20
    · rw [if_pos hk] at h
      have e1 : q3 = q2 := congrArg Prod.fst (Sum.inr.inj h)
      unfold lhN at hl
      by_cases a1 : q + 5 ≤ E
      · rw [if_pos a1] at hl
        by_cases a2 : 1 ≤ bvN x q 5 ∧ bvN x q 5 ≤ 20
        · rw [if_pos a2] at hl
          have := leN_m _ _ _ _ _ _ _ hl
          omega
        · rw [if_neg a2] at hl; cases hl
      · rw [if_neg a1] at hl; cases hl
    · rw [if_neg hk] at h; cases h
theorem tbN_m {E : Nat} {x : Nat → Bool} {n : Nat} : ∀ (r t q : Nat) (LT : Nat → Nat → Nat) (q2 : Nat) (LT2 : Nat → Nat → Nat), tbN E x n r t q LT = Sum.inr (q2, LT2) → q ≤ q2 := by
  intro r
  induction r with
  | zero =>
    intro t q LT q2 LT2 h
    have e1 : q = q2 := congrArg Prod.fst (Sum.inr.inj h)
    omega
  | succ r ih =>
    intro t q LT q2 LT2 h
    rw [tbN] at h
    cases hl : ltN E x n q with
    | inl e => rw [hl] at h; cases h
    | inr v =>
      obtain ⟨q3, L3⟩ := v
      rw [hl] at h
      have h1 : q3 ≤ q2 := ih _ _ _ _ _ h
      have h2 := ltN_m hl
      omega
theorem rlN_m {dec : Nat → Nat → (Nat × Nat) ⊕ (Nat × Nat)} {tbl : Nat → Nat} {G c most bAt : Nat} (hd : ∀ t q s q2, dec t q = Sum.inr (s, q2) → q ≤ q2) : ∀ (f i q n dg : Nat) (g R : Nat → Nat) (n2 : Nat) (R2 : Nat → Nat) (q2 : Nat), rlN dec tbl G c most bAt f i q n dg g R = Sum.inr (n2, R2, q2) → q ≤ q2 := by
  intro f
  induction f with
  | zero => intro i q n dg g R n2 R2 q2 h; cases h
  | succ f ih =>
    intro i q n dg g R n2 R2 q2 h
    rw [rlN] at h
    by_cases h1 : 50 * G ≤ i
    · rw [if_pos h1] at h; cases h
    · rw [if_neg h1] at h
      cases hdec : dec (tbl (i / 50)) q with
      | inl e => rw [hdec] at h; cases h
      | inr v =>
        obtain ⟨s, q3⟩ := v
        have hq3 := hd _ _ _ _ hdec
        rw [hdec] at h
        have h : (if s = c + 1 then (if i / 50 = G - 1 then Sum.inr (n, R, q3) else Sum.inl (10, bAt)) else if s ≤ 1 then (if n + dg * 2 ^ s ≤ most then rlN dec tbl G c most bAt f (i + 1) q3 (n + dg * 2 ^ s) (2 * dg) g (flN R n (n + dg * 2 ^ s) (g 0)) else Sum.inl (8, q)) else (if n + 1 ≤ most then rlN dec tbl G c most bAt f (i + 1) q3 (n + 1) 1 (mtfN g (s - 1)) (flN R n (n + 1) (g (s - 1))) else Sum.inl (8, q))) = (Sum.inr (n2, R2, q2) : (Nat × Nat) ⊕ (Nat × (Nat → Nat) × Nat)) := h
        by_cases h2 : s = c + 1
        · rw [if_pos h2] at h
          by_cases h3 : i / 50 = G - 1
          · rw [if_pos h3] at h
            have e3 : q3 = q2 := congrArg (fun z => z.2.2) (Sum.inr.inj h)
            omega
          · rw [if_neg h3] at h; cases h
        · rw [if_neg h2] at h
          by_cases h3 : s ≤ 1
          · rw [if_pos h3] at h
            by_cases h4 : n + dg * 2 ^ s ≤ most
            · rw [if_pos h4] at h
              have := ih _ _ _ _ _ _ _ _ _ h
              omega
            · rw [if_neg h4] at h; cases h
          · rw [if_neg h3] at h
            by_cases h4 : n + 1 ≤ most
            · rw [if_pos h4] at h
              have := ih _ _ _ _ _ _ _ _ _ h
              omega
            · rw [if_neg h4] at h; cases h
theorem rbN_m {E : Nat} {x : Nat → Bool} {most bAt q : Nat} {v : Int32 × Nat × Nat × (Nat → Nat) × Nat} (h : rbN E x most bAt q = Sum.inr v) : q + 48 ≤ v.2.2.2.2 := by
  unfold rbN at h
  by_cases h1 : q + 48 ≤ E
  · rw [if_pos h1] at h
    cases hu : ruN E x (q + 48) with
    | inl e => rw [hu] at h; cases h
    | inr a =>
      obtain ⟨q3, c, g⟩ := a
      rw [hu] at h
      have m1 := ruN_m hu
      have h : Sum.elim (fun e => Sum.inl e) (fun b => rb3 E x most bAt q (q3, c, g) b) (rgN E x q3) = Sum.inr v := h
      cases hg : rgN E x q3 with
      | inl e => rw [hg] at h; cases h
      | inr b =>
        obtain ⟨tc, G, q4, T⟩ := b
        have m2 := rgN_m hg
        rw [hg] at h
        have h : Sum.elim (fun e => Sum.inl e) (fun d => rb4 E x most bAt q (q3, c, g) (tc, G, q4, T) d) (tbN E x (c + 2) tc 0 q4 (fun _ _ => 0)) = Sum.inr v := h
        cases ht : tbN E x (c + 2) tc 0 q4 (fun _ _ => 0) with
        | inl e => rw [ht] at h; cases h
        | inr d =>
          obtain ⟨q5, LT⟩ := d
          have m3 := tbN_m _ _ _ _ _ _ ht
          rw [ht] at h
          have h : Sum.elim (fun e => Sum.inl e) (fun e => Sum.inr (bvI x q 32, bvN x (q + 32) 16, e.1, e.2.1, e.2.2)) (Sum.elim (fun e => Sum.inl e) (fun v => if bvN x (q + 32) 16 < v.1 then Sum.inr v else Sum.inl (9, q + 32)) (rlN (fun t q => dcN (LT t) (c + 2) E x q 20) T G c most bAt 2252 0 q5 0 1 g (fun _ => 0))) = (Sum.inr v : rbT) := h
          cases hr : rlN (fun t q => dcN (LT t) (c + 2) E x q 20) T G c most bAt 2252 0 q5 0 1 g (fun _ => 0) with
          | inl e => rw [hr] at h; cases h
          | inr w =>
            obtain ⟨n, R, q6⟩ := w
            have m4 := rlN_m (fun t q s q2 hd => Nat.le_of_lt (dc_b (Nat.le_refl 20) hd).2.2) _ _ _ _ _ _ _ _ _ _ hr
            rw [hr] at h
            have h : Sum.elim (fun e => Sum.inl e) (fun e => Sum.inr (bvI x q 32, bvN x (q + 32) 16, e.1, e.2.1, e.2.2)) (if bvN x (q + 32) 16 < n then Sum.inr (n, R, q6) else Sum.inl (9, q + 32)) = (Sum.inr v : rbT) := h
            by_cases h9 : bvN x (q + 32) 16 < n
            · rw [if_pos h9] at h
              have e5 : q6 = v.2.2.2.2 := congrArg (fun z => z.2.2.2.2) (Sum.inr.inj h)
              omega
            · rw [if_neg h9] at h; cases h
  · rw [if_neg h1] at h; cases h
abbrev upT : Type := (Nat × Nat) ⊕ (Nat × (Nat → Nat))
noncomputable def unN (E : Nat) (x : Nat → Bool) (most lim : Nat) : Nat → Nat → Int32 → Nat → (Nat → Nat) → upT
  | 0, _, _, _, _ => Sum.inl (2, E)
  | f + 1, q, coa, m, w => if q + 8 ≤ E then (if bvN x q 8 = 0 then Sum.elim (fun e => Sum.inl e) (fun _ => Sum.inr (m, w)) (fnN E x (q + 8) coa) else if bvN x q 8 = 1 then Sum.elim (fun e => Sum.inl e) (fun v => unN E x most lim f v.2.1 (jo coa v.1) v.2.2.1 v.2.2.2) (blN E x most lim q (q + 8) m w) else Sum.inl (3, q)) else Sum.inl (2, E)
theorem RW_mx {m n0 n lim : Nat} {w : Nat → Nat} {f : Nat → Int32} {ct : Int32} (hm : m ≤ lim) (h : RW m w n0 n f ct) : n0 ≤ n ∧ n ≤ max n0 (2 * lim) := by
  obtain ⟨h1, h2, h3, h4, h5, h6⟩ := h
  omega

abbrev xa : Type := Int32 × Int32 × Int32 × Int32 × Int32 × Int32 × Int32 × Int32 × Int32 × Int32 × (Nat → Int32) × Int32 × Int32 × Int32 × (Nat → Int32) × (Nat → Int32) × (Nat → Int32) × (Nat → Nat → Int32) × (Nat → Nat → Int32) × (Nat → Int32) × (Nat → Nat → Int32) × (Nat → Nat → Int32) × (Nat → Nat → Int32) × (Nat → Nat → Int32) × Int32 × (Nat → Int32) × (Nat → Int32) × (Nat → Int32) × Int32 × Nat × (Nat → Int32)
abbrev xc : Type := Int32 × Int32 × Int32 × Int32 × Int32 × Int32 × Int32 × Int32 × Int32 × Int32 × Int32 × (Nat → Int32) × Int32 × Int32 × Int32 × (Nat → Int32) × (Nat → Int32) × (Nat → Int32) × (Nat → Nat → Int32) × (Nat → Nat → Int32) × (Nat → Int32) × (Nat → Nat → Int32) × (Nat → Nat → Int32) × (Nat → Nat → Int32) × (Nat → Nat → Int32) × Int32 × (Nat → Int32) × (Nat → Int32) × (Nat → Int32) × Int32 × Nat × (Nat → Int32)
abbrev xe : Type := xa ⊕ (xc ⊕ (xa ⊕ (xa ⊕ xa)))
def PX (tp : Nat → Nat) (F n0 lim : Nat) (r : upT) (e : xe) : Prop := Sum.elim (fun v => (n0 ≤ v.2.2.2.2.2.2.2.2.2.2.2.2.2.2.2.2.2.2.2.2.2.2.2.2.2.2.2.2.2.1 ∧ v.2.2.2.2.2.2.2.2.2.2.2.2.2.2.2.2.2.2.2.2.2.2.2.2.2.2.2.2.2.1 ≤ max n0 (2 * lim) ∧ TZ v.2.2.2.2.2.2.2.2.2.2.2.2.2.2.2.2.2.2.2.2.1 v.2.2.2.2.2.2.2.2.2.2.2.2.2.2.2.2.2.2.2.2.2.1) ∧ ∃ e, r = Sum.inl e ∧ v.2.2.1 = nI e.1 ∧ v.2.2.2.1 = nI e.2) (Sum.elim (fun v => (n0 ≤ v.2.2.2.2.2.2.2.2.2.2.2.2.2.2.2.2.2.2.2.2.2.2.2.2.2.2.2.2.2.2.1 ∧ v.2.2.2.2.2.2.2.2.2.2.2.2.2.2.2.2.2.2.2.2.2.2.2.2.2.2.2.2.2.2.1 ≤ max n0 (2 * lim) ∧ TZ v.2.2.2.2.2.2.2.2.2.2.2.2.2.2.2.2.2.2.2.2.2.1 v.2.2.2.2.2.2.2.2.2.2.2.2.2.2.2.2.2.2.2.2.2.2.1) ∧ v.2.2.2.1 = 0 ∧ v.2.2.2.2.1 = (-1 : Int32) ∧ ∃ q m w, v.2.1 = nI q ∧ q ≤ 8 * F ∧ m ≤ lim ∧ r = Sum.elim (fun e => Sum.inl e) (fun _ => Sum.inr (m, w)) (fnN (8 * F) (xb tp) q v.1) ∧ RW m w n0 v.2.2.2.2.2.2.2.2.2.2.2.2.2.2.2.2.2.2.2.2.2.2.2.2.2.2.2.2.2.2.1 v.2.2.2.2.2.2.2.2.2.2.2.2.2.2.2.2.2.2.2.2.2.2.2.2.2.2.2.2.2.2.2 v.2.2.2.2.2.1) (Sum.elim (fun v => (n0 ≤ v.2.2.2.2.2.2.2.2.2.2.2.2.2.2.2.2.2.2.2.2.2.2.2.2.2.2.2.2.2.1 ∧ v.2.2.2.2.2.2.2.2.2.2.2.2.2.2.2.2.2.2.2.2.2.2.2.2.2.2.2.2.2.1 ≤ max n0 (2 * lim) ∧ TZ v.2.2.2.2.2.2.2.2.2.2.2.2.2.2.2.2.2.2.2.2.1 v.2.2.2.2.2.2.2.2.2.2.2.2.2.2.2.2.2.2.2.2.2.1) ∧ ∃ q, r = Sum.inl (3, q) ∧ v.2.2.2.2.2.1 = nI q) (Sum.elim (fun v => (n0 ≤ v.2.2.2.2.2.2.2.2.2.2.2.2.2.2.2.2.2.2.2.2.2.2.2.2.2.2.2.2.2.1 ∧ v.2.2.2.2.2.2.2.2.2.2.2.2.2.2.2.2.2.2.2.2.2.2.2.2.2.2.2.2.2.1 ≤ max n0 (2 * lim) ∧ TZ v.2.2.2.2.2.2.2.2.2.2.2.2.2.2.2.2.2.2.2.2.1 v.2.2.2.2.2.2.2.2.2.2.2.2.2.2.2.2.2.2.2.2.2.1) ∧ ∃ e, r = Sum.inl e ∧ v.2.2.1 = nI e.1 ∧ v.2.2.2.1 = nI e.2) (fun v => (n0 ≤ v.2.2.2.2.2.2.2.2.2.2.2.2.2.2.2.2.2.2.2.2.2.2.2.2.2.2.2.2.2.1 ∧ v.2.2.2.2.2.2.2.2.2.2.2.2.2.2.2.2.2.2.2.2.2.2.2.2.2.2.2.2.2.1 ≤ max n0 (2 * lim) ∧ TZ v.2.2.2.2.2.2.2.2.2.2.2.2.2.2.2.2.2.2.2.2.1 v.2.2.2.2.2.2.2.2.2.2.2.2.2.2.2.2.2.2.2.2.2.1) ∧ r = Sum.inl (2, 8 * F))))) e
theorem step_c {tp : Nat → Nat} {F nb most lim n0 : Nat} {f lv : Nat → Int32} {u1 : Int32 × Int32 × Int32 × Int32 × Int32} {u2 : Int32 × Int32 × Int32 × Int32 × Int32 × Int32} {r n q m : Nat} {w : Nat → Nat} {coa tk ct bA : Int32} {bck : Int32} {oa : Int32} {og : Int32} {lc : Int32} {lm : (Nat → Int32)} {tc : Int32} {gc : Int32} {tlc : Int32} {tlm : (Nat → Int32)} {gt : (Nat → Int32)} {ki : (Nat → Int32)} {le : (Nat → Nat → Int32)} {co : (Nat → Nat → Int32)} {fi : (Nat → Int32)} {fs : (Nat → Nat → Int32)} {pl : (Nat → Nat → Int32)} {cd : (Nat → Nat → Int32)} {so : (Nat → Nat → Int32)} {nc : Int32} {la : (Nat → Int32)} {sl : (Nat → Int32)} {nx : (Nat → Int32)} {ckb : Int32} {nr : Nat} {fr : (Nat → Int32)} (hF : F ≤ nb) (hF2 : F ≤ 10240) (hnb : nb < 1000000) (hf : ∀ j, j < F → f j = nI (tp j)) (hlv : ∀ j, j < 256 → lv j = chkT j) (hlim : lim ≤ 60000) (hn0 : n0 ≤ 1000000) (hmost : most ≤ 2250) (hu1 : u1.1 = nI (8 * F)) (hu2 : u2.2.2.2.2.2 = nI most) (hn : n < 8 * F) (hq : q ≤ 8 * F) (hm : m ≤ lim) (hR : RW m w n0 nr fr ct) (hZ : TZ fs pl) :
    ∃ o, Unpacker_unpackFile_L33 u1 (nI F) nb f u2 (nI lim) lv (coa, nI n, nI q, tk, (0 : Int32), (-1 : Int32), ct, bA, bck, oa, og, lc, lm, tc, gc, tlc, tlm, gt, ki, le, co, fi, fs, pl, cd, so, nc, la, sl, nx, ckb, nr, fr) = some o ∧ ((∃ e, o = Sum.inr e ∧ PX tp F n0 lim (unN (8 * F) (xb tp) most lim (r + 1) q coa m w) e) ∨ ∃ q2 m2 w2 coa2 tk2 ct2 bA2 bck2 oa2 og2 lc2 lm2 tc2 gc2 tlc2 tlm2 gt2 ki2 le2 co2 fi2 fs2 pl2 cd2 so2 nc2 la2 sl2 nx2 ckb2 nr2 fr2, o = Sum.inl (coa2, nI (n + 1), nI q2, tk2, (0 : Int32), (-1 : Int32), ct2, bA2, bck2, oa2, og2, lc2, lm2, tc2, gc2, tlc2, tlm2, gt2, ki2, le2, co2, fi2, fs2, pl2, cd2, so2, nc2, la2, sl2, nx2, ckb2, nr2, fr2) ∧ unN (8 * F) (xb tp) most lim (r + 1) q coa m w = unN (8 * F) (xb tp) most lim r q2 coa2 m2 w2 ∧ q2 ≤ 8 * F ∧ m2 ≤ lim ∧ RW m2 w2 n0 nr2 fr2 ct2 ∧ TZ fs2 pl2) := by
  obtain ⟨x1, x2⟩ := RW_mx hm hR
  unfold Unpacker_unpackFile_L33
  dsimp only
  rw [hu1, if_neg (nI_ge hn (by omega)), unN]
  by_cases h8 : q + 8 ≤ 8 * F
  · rw [show BitReader_take_f (8 : Int32) (nI (8 * F)) (nI F) nb f (0 : Int32) (-1 : Int32) (nI q) = _ from take_c (k := 8) hF hnb hf (by omega) h8, bd_s, if_pos h8, bvI_N _ _ 8 (by omega)]
    have hb := bvN_lt (xb tp) q 8
    generalize bvN (xb tp) q 8 = b at *
    dsimp only
    rw [if_neg (show ¬ (1 : Int32) = 0 by decide)]
    by_cases b0 : b = 0
    · rw [if_pos (show nI b = 0 by rw [b0]; rfl), if_pos b0]
      exact ⟨_, rfl, Or.inl ⟨_, rfl, ⟨x1, x2, hZ⟩, rfl, rfl, q + 8, m, w, rfl, h8, hm, rfl, hR⟩⟩
    · rw [if_neg (nI_ne0 (by omega) (by omega)), if_neg b0]
      by_cases b1 : b = 1
      · rw [if_pos (show nI b = (1 : Int32) by rw [b1]; rfl), if_pos b1, hu2]
        obtain ⟨rt, tk9, flt9, fa9, at9, bck9, oa9, og9, lc9, lm9, tc9, gc9, tlc9, tlm9, gt9, ki9, le9, co9, fi9, fs9, pl9, cd9, so9, nc9, la9, e9, h9⟩ := readBlock_c (tp := tp) (bAt := q) (most := most) (bck := bck) (oa := oa) (og := og) (lcn := lc) (lm := lm) (tc0 := tc) (gc0 := gc) (tlc := tlc) (tlm := tlm) (gt := gt) (ki := ki) (le := le) (co := co) (fi := fi) (cd := cd) (so := so) (nc := nc) (la := la) hF hF2 hnb hf h8 hmost (by omega) hZ
        rw [e9, bd_s]
        dsimp only
        obtain ⟨hZ9, g1, g2⟩ := h9
        unfold blN
        cases hr : rbN (8 * F) (xb tp) most q (q + 8) with
        | inl e =>
          obtain ⟨a1, a2, a3⟩ := g1 _ hr
          rw [if_pos a1]
          exact ⟨_, rfl, Or.inl ⟨_, rfl, ⟨x1, x2, hZ9⟩, e, rfl, a2, a3⟩⟩
        | inr v =>
          obtain ⟨due, ogn, n9, R, q6⟩ := v
          obtain ⟨a1, a2, a3, a4, a5, a6, a7, a8⟩ := g2 _ hr
          obtain ⟨c1, c2, c3, c4⟩ := rbN_b hr
          have a4 : bck9 = due := a4
          have a5 : og9 = nI ogn := a5
          have a6 : nc9 = nI n9 := a6
          have a7 : RS n9 la9 R := a7
          have a8 : at9 = nI q6 := a8
          have c1 : ogn < n9 := c1
          have c2 : n9 ≤ most := c2
          have c3 : ∀ j, j < n9 → R j < 256 := c3
          have c4 : q6 ≤ 8 * F := c4
          rw [a1, if_neg (show ¬ (1 : Int32) = 0 by decide), a2, a3, a4, a5, a6, a8]
          obtain ⟨rt7, S7, O7, ck7, flt7, fa7, nr7, fr7, ct7, e7, k1, k2, k3, k4⟩ := unrotate_c (R := R) (n := n9) (lim := lim) (bAt := q) (n0 := n0) (og := ogn) (due := due) (sl := sl) (nx := nx) (by omega) hlv hlim hn0 (fun j hj => ⟨a7 j hj, c3 j hj⟩) c1 hm hR
          rw [e7, bd_s]
          dsimp only
          show ∃ o, _ = some o ∧ ((∃ e, o = Sum.inr e ∧ PX tp F n0 lim (Sum.elim (fun e => Sum.inl e) (fun v => unN (8 * F) (xb tp) most lim r v.2.1 (jo coa v.1) v.2.2.1 v.2.2.2) (Sum.elim (fun e => Sum.inl e) (fun u => Sum.inr (due, q6, u.1, u.2)) (exF (exN R n9 lim q n9 ogn 0 0 (-1 : Int32) m w) due q))) e) ∨ ∃ q2 m2 w2 coa2 tk2 ct2 bA2 bck2 oa2 og2 lc2 lm2 tc2 gc2 tlc2 tlm2 gt2 ki2 le2 co2 fi2 fs2 pl2 cd2 so2 nc2 la2 sl2 nx2 ckb2 nr2 fr2, o = Sum.inl (coa2, nI (n + 1), nI q2, tk2, (0 : Int32), (-1 : Int32), ct2, bA2, bck2, oa2, og2, lc2, lm2, tc2, gc2, tlc2, tlm2, gt2, ki2, le2, co2, fi2, fs2, pl2, cd2, so2, nc2, la2, sl2, nx2, ckb2, nr2, fr2) ∧ Sum.elim (fun e => Sum.inl e) (fun v => unN (8 * F) (xb tp) most lim r v.2.1 (jo coa v.1) v.2.2.1 v.2.2.2) (Sum.elim (fun e => Sum.inl e) (fun u => Sum.inr (due, q6, u.1, u.2)) (exF (exN R n9 lim q n9 ogn 0 0 (-1 : Int32) m w) due q)) = unN (8 * F) (xb tp) most lim r q2 coa2 m2 w2 ∧ q2 ≤ 8 * F ∧ m2 ≤ lim ∧ RW m2 w2 n0 nr2 fr2 ct2 ∧ TZ fs2 pl2)
          cases hx : exF (exN R n9 lim q n9 ogn 0 0 (-1 : Int32) m w) due q with
          | inl e =>
            obtain ⟨d1, d2, d3⟩ := k3 _ hx
            rw [if_pos d1]
            exact ⟨_, rfl, Or.inl ⟨_, rfl, ⟨k1, k2, hZ9⟩, e, rfl, d2, d3⟩⟩
          | inr u =>
            obtain ⟨m2, w2⟩ := u
            obtain ⟨d1, d2, d3, d4, d5⟩ := k4 _ hx
            have d4 : m2 ≤ lim := d4
            have d5 : RW m2 w2 n0 nr7 fr7 ct7 := d5
            rw [d1, if_neg (show ¬ (1 : Int32) = 0 by decide), d2, d3, show Check_ofAll_f coa due = some (jo coa due) from rfl, bd_s, nI_1]
            exact ⟨_, rfl, Or.inr ⟨q6, m2, w2, jo coa due, _, _, _, _, _, _, _, _, _, _, _, _, _, _, _, _, _, _, _, _, _, _, _, _, _, _, _, _, rfl, rfl, c4, d4, d5, hZ9⟩⟩
      · rw [if_neg (show ¬ nI b = (1 : Int32) from fun h => b1 ((nI_eq (b := 1) (by omega) (by omega)).1 h)), if_neg b1]
        exact ⟨_, rfl, Or.inl ⟨_, rfl, ⟨x1, x2, hZ⟩, q, rfl, rfl⟩⟩
  · obtain ⟨tk9, et⟩ := take_ce (k := 8) (flt := (0 : Int32)) (fa := (-1 : Int32)) hF hnb hf (by omega) hq (show 8 * F < q + 8 by omega)
    rw [show BitReader_take_f (8 : Int32) (nI (8 * F)) (nI F) nb f (0 : Int32) (-1 : Int32) (nI q) = _ from et, bd_s, if_neg h8]
    dsimp only
    rw [if_pos rfl]
    exact ⟨_, rfl, Or.inl ⟨_, rfl, ⟨x1, x2, hZ⟩, (2, 8 * F), rfl, rfl, rfl⟩⟩
theorem loop_c {tp : Nat → Nat} {F nb most lim n0 : Nat} {f lv : Nat → Int32} {u1 : Int32 × Int32 × Int32 × Int32 × Int32} {u2 : Int32 × Int32 × Int32 × Int32 × Int32 × Int32} (hF : F ≤ nb) (hF2 : F ≤ 10240) (hnb : nb < 1000000) (hf : ∀ j, j < F → f j = nI (tp j)) (hlv : ∀ j, j < 256 → lv j = chkT j) (hlim : lim ≤ 60000) (hn0 : n0 ≤ 1000000) (hmost : most ≤ 2250) (hu1 : u1.1 = nI (8 * F)) (hu2 : u2.2.2.2.2.2 = nI most) : ∀ (r n q m z : Nat) (w : Nat → Nat) (coa tk ct bA : Int32) (bck : Int32) (oa : Int32) (og : Int32) (lc : Int32) (lm : (Nat → Int32)) (tc : Int32) (gc : Int32) (tlc : Int32) (tlm : (Nat → Int32)) (gt : (Nat → Int32)) (ki : (Nat → Int32)) (le : (Nat → Nat → Int32)) (co : (Nat → Nat → Int32)) (fi : (Nat → Int32)) (fs : (Nat → Nat → Int32)) (pl : (Nat → Nat → Int32)) (cd : (Nat → Nat → Int32)) (so : (Nat → Nat → Int32)) (nc : Int32) (la : (Nat → Int32)) (sl : (Nat → Int32)) (nx : (Nat → Int32)) (ckb : Int32) (nr : Nat) (fr : (Nat → Int32)), r + n = 8 * F → r < z → q ≤ 8 * F → m ≤ lim → RW m w n0 nr fr ct → TZ fs pl → ∃ e, lpF (Unpacker_unpackFile_L33 u1 (nI F) nb f u2 (nI lim) lv) z (coa, nI n, nI q, tk, (0 : Int32), (-1 : Int32), ct, bA, bck, oa, og, lc, lm, tc, gc, tlc, tlm, gt, ki, le, co, fi, fs, pl, cd, so, nc, la, sl, nx, ckb, nr, fr) = some e ∧ PX tp F n0 lim (unN (8 * F) (xb tp) most lim r q coa m w) e := by
  intro r
  induction r with
  | zero =>
    intro n q m z w coa tk ct bA bck oa og lc lm tc gc tlc tlm gt ki le co fi fs pl cd so nc la sl nx ckb nr fr hrn hz hq hm hR hZ
    obtain ⟨z, rfl⟩ : ∃ z2, z = z2 + 1 := ⟨z - 1, by omega⟩
    obtain ⟨x1, x2⟩ := RW_mx hm hR
    have hb : Unpacker_unpackFile_L33 u1 (nI F) nb f u2 (nI lim) lv (coa, nI n, nI q, tk, (0 : Int32), (-1 : Int32), ct, bA, bck, oa, og, lc, lm, tc, gc, tlc, tlm, gt, ki, le, co, fi, fs, pl, cd, so, nc, la, sl, nx, ckb, nr, fr) = some (Sum.inr (Sum.inr (Sum.inr (Sum.inr (Sum.inr (nI q, tk, (0 : Int32), (-1 : Int32), ct, bA, bck, oa, og, lc, lm, tc, gc, tlc, tlm, gt, ki, le, co, fi, fs, pl, cd, so, nc, la, sl, nx, ckb, nr, fr)))))) := by
      unfold Unpacker_unpackFile_L33
      dsimp only
      rw [hu1, if_pos (nI_le (by omega) (by omega))]
    rw [lpF_s, hb, unN]
    exact ⟨_, rfl, ⟨x1, x2, hZ⟩, rfl⟩
  | succ r ih =>
    intro n q m z w coa tk ct bA bck oa og lc lm tc gc tlc tlm gt ki le co fi fs pl cd so nc la sl nx ckb nr fr hrn hz hq hm hR hZ
    obtain ⟨z, rfl⟩ : ∃ z2, z = z2 + 1 := ⟨z - 1, by omega⟩
    obtain ⟨o, eo, ho⟩ := step_c (tp := tp) (r := r) (n := n) (q := q) (m := m) (w := w) (coa := coa) (tk := tk) (ct := ct) (bA := bA) (bck := bck) (oa := oa) (og := og) (lc := lc) (lm := lm) (tc := tc) (gc := gc) (tlc := tlc) (tlm := tlm) (gt := gt) (ki := ki) (le := le) (co := co) (fi := fi) (fs := fs) (pl := pl) (cd := cd) (so := so) (nc := nc) (la := la) (sl := sl) (nx := nx) (ckb := ckb) (nr := nr) (fr := fr) hF hF2 hnb hf hlv hlim hn0 hmost hu1 hu2 (by omega) hq hm hR hZ
    rw [lpF_s, eo, bd_s]
    rcases ho with ⟨e, rfl, he⟩ | ⟨q2, m2, w2, coa2, tk2, ct2, bA2, bck2, oa2, og2, lc2, lm2, tc2, gc2, tlc2, tlm2, gt2, ki2, le2, co2, fi2, fs2, pl2, cd2, so2, nc2, la2, sl2, nx2, ckb2, nr2, fr2, rfl, hu, g1, g2, g3, g4⟩
    · exact ⟨e, rfl, he⟩
    · rw [hu]
      exact ih (n + 1) q2 m2 z w2 coa2 tk2 ct2 bA2 bck2 oa2 og2 lc2 lm2 tc2 gc2 tlc2 tlm2 gt2 ki2 le2 co2 fi2 fs2 pl2 cd2 so2 nc2 la2 sl2 nx2 ckb2 nr2 fr2 (by omega) (by omega) g1 g2 g3 g4
abbrev uo : Type := Int32 × Int32 × Int32 × Int32 × Int32 × Int32 × Int32 × Int32 × Int32 × Int32 × Int32 × Int32 × Int32 × Int32 × (Nat → Int32) × Int32 × Int32 × Int32 × (Nat → Int32) × (Nat → Int32) × (Nat → Int32) × (Nat → Nat → Int32) × (Nat → Nat → Int32) × (Nat → Int32) × (Nat → Nat → Int32) × (Nat → Nat → Int32) × (Nat → Nat → Int32) × (Nat → Nat → Int32) × Int32 × (Nat → Int32) × (Nat → Int32) × (Nat → Int32) × Int32 × Nat × (Nat → Int32)
def okP (n0 lim : Nat) (r : upT) (t : uo) : Prop := (n0 ≤ t.2.2.2.2.2.2.2.2.2.2.2.2.2.2.2.2.2.2.2.2.2.2.2.2.2.2.2.2.2.2.2.2.2.1 ∧ t.2.2.2.2.2.2.2.2.2.2.2.2.2.2.2.2.2.2.2.2.2.2.2.2.2.2.2.2.2.2.2.2.2.1 ≤ max n0 (2 * lim) ∧ TZ t.2.2.2.2.2.2.2.2.2.2.2.2.2.2.2.2.2.2.2.2.2.2.2.2.1 t.2.2.2.2.2.2.2.2.2.2.2.2.2.2.2.2.2.2.2.2.2.2.2.2.2.1) ∧ (∀ e, r = Sum.inl e → t.1 = 0 ∧ t.2.2.2.2.1 = nI e.1 ∧ t.2.2.2.2.2.1 = nI e.2) ∧ ∀ v, r = Sum.inr v → t.1 = 1 ∧ t.2.2.2.2.1 = 0 ∧ t.2.2.2.2.2.1 = (-1 : Int32) ∧ v.1 ≤ lim ∧ RW v.1 v.2 n0 t.2.2.2.2.2.2.2.2.2.2.2.2.2.2.2.2.2.2.2.2.2.2.2.2.2.2.2.2.2.2.2.2.2.1 t.2.2.2.2.2.2.2.2.2.2.2.2.2.2.2.2.2.2.2.2.2.2.2.2.2.2.2.2.2.2.2.2.2.2 t.2.2.2.2.2.2.1
/-- what unpacking the first F bytes of a tape comes to -/
noncomputable def UP1 (tp : Nat → Nat) (F lim : Nat) : upT := Sum.elim (fun e => Sum.inl e) (fun most => unN (8 * F) (xb tp) most lim (8 * F) 24 (0 : Int32) 0 (fun _ => 0)) (hdN (8 * F) (xb tp))
theorem unpackFile_c {tp : Nat → Nat} {F nb lim nr : Nat} {f lv fr : Nat → Int32} {most bA : Int32} {bck : Int32} {oa : Int32} {og : Int32} {lc : Int32} {lm : (Nat → Int32)} {tc : Int32} {gc : Int32} {tlc : Int32} {tlm : (Nat → Int32)} {gt : (Nat → Int32)} {ki : (Nat → Int32)} {le : (Nat → Nat → Int32)} {co : (Nat → Nat → Int32)} {fi : (Nat → Int32)} {fs : (Nat → Nat → Int32)} {pl : (Nat → Nat → Int32)} {cd : (Nat → Nat → Int32)} {so : (Nat → Nat → Int32)} {nc : Int32} {la : (Nat → Int32)} {sl : (Nat → Int32)} {nx : (Nat → Int32)} {ckb : Int32} (hF : F ≤ nb) (hF2 : F ≤ 10240) (hnb : nb < 1000000) (hf : ∀ j, j < F → f j = nI (tp j)) (hlv : ∀ j, j < 256 → lv j = chkT j) (hlim : lim ≤ 60000) (hnr : nr ≤ 1000000) (hnr1 : 1 ≤ nr) (hZ : TZ fs pl) :
    ∃ t, Unpacker_unpackFile_f (nI F) nb f most (nI lim) bA bck oa og lc lm tc gc tlc tlm gt ki le co fi fs pl cd so nc la sl nx ckb nr fr lv = some t ∧ okP nr lim (UP1 tp F lim) t := by
  have hR0 : RW 0 (fun _ => 0) nr nr fr (0 : Int32) := ⟨rfl, fun j hj => absurd hj (Nat.not_lt_zero _), Nat.zero_le _, hnr1, Nat.le_refl _, Or.inl rfl⟩
  unfold Unpacker_unpackFile_f UP1
  have hB : BitReader_begin_f (nI F) = some (nI (8 * F), (0 : Int32), (0 : Int32), (0 : Int32), (-1 : Int32)) := by
    unfold BitReader_begin_f
    rw [show (8 : Int32) * nI F = nI (8 * F) from pk_mul 8 F]
  rw [hB, bd_s]
  dsimp only
  obtain ⟨tk1, at1, e1⟩ := head_c (tp := tp) (most := most) hF hF2 hnb hf
  cases hh : hdN (8 * F) (xb tp) with
  | inl e =>
    rw [hh] at e1
    have e1 : Unpacker_readFirstBytes_f (nI (8 * F)) (nI F) nb f (0 : Int32) (-1 : Int32) (0 : Int32) most = some ((0 : Int32), tk1, nI e.1, nI e.2, at1, most) := e1
    rw [e1, bd_s]
    dsimp only
    rw [if_pos rfl]
    exact ⟨_, rfl, ⟨Nat.le_refl _, Nat.le_max_left _ _, hZ⟩, fun e2 he => (by cases he; exact ⟨rfl, rfl, rfl⟩), fun v hv => (by cases hv)⟩
  | inr mo =>
    obtain ⟨h24, hmo⟩ := hdN_r hh
    rw [hh] at e1
    have e1 : Unpacker_readFirstBytes_f (nI (8 * F)) (nI F) nb f (0 : Int32) (-1 : Int32) (0 : Int32) most = some ((1 : Int32), tk1, (0 : Int32), (-1 : Int32), nI 24, nI mo) := e1
    rw [e1, bd_s]
    dsimp only
    rw [if_neg (show ¬ (1 : Int32) = 0 by decide)]
    obtain ⟨e, el, hp⟩ := loop_c (tp := tp) (F := F) (nb := nb) (most := mo) (lim := lim) (n0 := nr) (f := f) (lv := lv) (u1 := (nI (8 * F), (0 : Int32), (0 : Int32), (0 : Int32), (-1 : Int32))) (u2 := ((1 : Int32), tk1, (0 : Int32), (-1 : Int32), nI 24, nI mo)) hF hF2 hnb hf hlv hlim hnr hmo rfl rfl (8 * F) 0 24 0 gas (fun _ => 0) (0 : Int32) tk1 (0 : Int32) bA bck oa og lc lm tc gc tlc tlm gt ki le co fi fs pl cd so nc la sl nx ckb nr fr (by omega) (Nat.lt_of_lt_of_le (by omega) gas_le) h24 (Nat.zero_le _) hR0 hZ
    rw [show lpF (Unpacker_unpackFile_L33 (nI (8 * F), (0 : Int32), (0 : Int32), (0 : Int32), (-1 : Int32)) (nI F) nb f ((1 : Int32), tk1, (0 : Int32), (-1 : Int32), nI 24, nI mo) (nI lim) lv) gas ((0 : Int32), (0 : Int32), nI 24, tk1, (0 : Int32), (-1 : Int32), (0 : Int32), bA, bck, oa, og, lc, lm, tc, gc, tlc, tlm, gt, ki, le, co, fi, fs, pl, cd, so, nc, la, sl, nx, ckb, nr, fr) = _ from el, bd_s]
    show ∃ t, _ = some t ∧ okP nr lim (unN (8 * F) (xb tp) mo lim (8 * F) 24 (0 : Int32) 0 (fun _ => 0)) t
    generalize unN (8 * F) (xb tp) mo lim (8 * F) 24 (0 : Int32) 0 (fun _ => 0) = r at hp ⊢
    rcases e with v | v | v | v | v
    · obtain ⟨hz, e2, hr, h1, h2⟩ := hp
      exact ⟨_, rfl, hz, fun e3 he => (by rw [hr] at he; cases he; exact ⟨rfl, h1, h2⟩), fun v2 hv => (by rw [hr] at hv; cases hv)⟩
    · obtain ⟨hz, h1, h2, q, m, w, h3, h4, h5, hr, h6⟩ := hp
      dsimp only [Sum.elim_inl, Sum.elim_inr]
      rw [h1, h2, h3]
      obtain ⟨tk2, at2, e2⟩ := ending_c (tp := tp) (coa := v.1) hF hF2 hnb hf h4
      rw [e2, bd_s, hr]
      cases hn : fnN (8 * F) (xb tp) q v.1 with
      | inl e3 => exact ⟨_, rfl, hz, fun e4 he => (by cases he; exact ⟨rfl, rfl, rfl⟩), fun v2 hv => (by cases hv)⟩
      | inr u => exact ⟨_, rfl, hz, fun e4 he => (by cases he), fun v2 hv => (by cases hv; exact ⟨rfl, rfl, rfl, h5, h6⟩)⟩
    · obtain ⟨hz, q, hr, h1⟩ := hp
      exact ⟨_, rfl, hz, fun e3 he => (by rw [hr] at he; cases he; exact ⟨rfl, rfl, h1⟩), fun v2 hv => (by rw [hr] at hv; cases hv)⟩
    · obtain ⟨hz, e2, hr, h1, h2⟩ := hp
      exact ⟨_, rfl, hz, fun e3 he => (by rw [hr] at he; cases he; exact ⟨rfl, h1, h2⟩), fun v2 hv => (by rw [hr] at hv; cases hv)⟩
    · obtain ⟨hz, hr⟩ := hp
      exact ⟨_, rfl, hz, fun e3 he => (by rw [hr] at he; cases he; exact ⟨rfl, rfl, rfl⟩), fun v2 hv => (by rw [hr] at hv; cases hv)⟩
