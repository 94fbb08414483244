/-! UNPACKING: a block, the class's -/
theorem flN_b {R : Nat → Nat} {a b v c : Nat} (h : ∀ j, j < a → R j < c) (hv : v < c) : ∀ j, j < b → a ≤ b → flN R a b v j < c := by
  intro j hj hab
  unfold flN
  by_cases h1 : a ≤ j ∧ j < b
  · rw [if_pos h1]; exact hv
  · rw [if_neg h1]; exact h j (by omega)
theorem rlN_b {dec : Nat → Nat → (Nat × Nat) ⊕ (Nat × Nat)} {tbl : Nat → Nat} {G c most bAt E : Nat} (hc : 1 ≤ c) (hd : ∀ t q s q2, dec t q = Sum.inr (s, q2) → s < c + 2 ∧ q2 ≤ E) : ∀ (f i q n dg : Nat) (g R : Nat → Nat) (n2 : Nat) (R2 : Nat → Nat) (q2 : Nat), n ≤ most → (∀ j, j < c → g j < 256) → (∀ j, j < n → R j < 256) → rlN dec tbl G c most bAt f i q n dg g R = Sum.inr (n2, R2, q2) → n2 ≤ most ∧ q2 ≤ E ∧ ∀ j, j < n2 → R2 j < 256 := by
  intro f
  induction f with
  | zero => intro i q n dg g R n2 R2 q2 _ _ _ h; cases h
  | succ f ih =>
    intro i q n dg g R n2 R2 q2 hn hg hR h
    rw [rlN] at h
    by_cases h1 : 50 * G ≤ i
    · rw [if_pos h1] at h; cases h
    · rw [if_neg h1] at h
      cases hdec : dec (tbl (i / 50)) q with
      | inl e => rw [hdec] at h; cases h
      | inr v =>
        obtain ⟨s, q3⟩ := v
        obtain ⟨hs, hq3⟩ := hd _ _ _ _ hdec
        rw [hdec] at h
        have h : (if s = c + 1 then (if i / 50 = G - 1 then Sum.inr (n, R, q3) else Sum.inl (10, bAt)) else if s ≤ 1 then (if n + dg * 2 ^ s ≤ most then rlN dec tbl G c most bAt f (i + 1) q3 (n + dg * 2 ^ s) (2 * dg) g (flN R n (n + dg * 2 ^ s) (g 0)) else Sum.inl (8, q)) else (if n + 1 ≤ most then rlN dec tbl G c most bAt f (i + 1) q3 (n + 1) 1 (mtfN g (s - 1)) (flN R n (n + 1) (g (s - 1))) else Sum.inl (8, q))) = (Sum.inr (n2, R2, q2) : (Nat × Nat) ⊕ (Nat × (Nat → Nat) × Nat)) := h
        by_cases h2 : s = c + 1
        · rw [if_pos h2] at h
          by_cases h3 : i / 50 = G - 1
          · rw [if_pos h3] at h
            have h5 := Sum.inr.inj h
            have e1 : n = n2 := congrArg Prod.fst h5
            have e2 : R = R2 := congrArg (fun z => z.2.1) h5
            have e3 : q3 = q2 := congrArg (fun z => z.2.2) h5
            rw [← e1, ← e2, ← e3]
            exact ⟨hn, hq3, hR⟩
          · rw [if_neg h3] at h; cases h
        · rw [if_neg h2] at h
          by_cases h3 : s ≤ 1
          · rw [if_pos h3] at h
            by_cases h4 : n + dg * 2 ^ s ≤ most
            · rw [if_pos h4] at h
              exact ih _ _ _ _ _ _ _ _ _ h4 hg (fun j hj => flN_b hR (hg 0 (by omega)) j hj (Nat.le_add_right _ _)) h
            · rw [if_neg h4] at h; cases h
          · rw [if_neg h3] at h
            by_cases h4 : n + 1 ≤ most
            · rw [if_pos h4] at h
              exact ih _ _ _ _ _ _ _ _ _ h4 (mtfN_lt (by omega) hg) (fun j hj => flN_b hR (hg _ (by omega)) j hj (Nat.le_add_right _ _)) h
            · rw [if_neg h4] at h; cases h
theorem rlN_e {dec : Nat → Nat → (Nat × Nat) ⊕ (Nat × Nat)} {tbl : Nat → Nat} {G c most bAt : Nat} (hd : ∀ t q e p, dec t q = Sum.inl (e, p) → 0 < e ∧ e < 16) : ∀ (f i q n dg : Nat) (g R : Nat → Nat) (e p : Nat), rlN dec tbl G c most bAt f i q n dg g R = Sum.inl (e, p) → 0 < e ∧ e < 16 := by
  have hk : ∀ (a b e p : Nat), (Sum.inl (a, b) : (Nat × Nat) ⊕ (Nat × (Nat → Nat) × Nat)) = Sum.inl (e, p) → 0 < a → a < 16 → 0 < e ∧ e < 16 := by
    intro a b e p h h1 h2
    have e1 : a = e := congrArg Prod.fst (Sum.inl.inj h)
    omega
  intro f
  induction f with
  | zero => intro i q n dg g R e p h; exact hk _ _ _ _ h (by omega) (by omega)
  | succ f ih =>
    intro i q n dg g R e p h
    rw [rlN] at h
    by_cases h1 : 50 * G ≤ i
    · rw [if_pos h1] at h; exact hk _ _ _ _ h (by omega) (by omega)
    · rw [if_neg h1] at h
      cases hdec : dec (tbl (i / 50)) q with
      | inl e2 =>
        obtain ⟨x1, x2⟩ := e2
        rw [hdec] at h
        have h6 := hd _ _ _ _ hdec
        exact hk _ _ _ _ h h6.1 h6.2
      | inr v =>
        obtain ⟨s, q3⟩ := v
        rw [hdec] at h
        have h : (if s = c + 1 then (if i / 50 = G - 1 then Sum.inr (n, R, q3) else Sum.inl (10, bAt)) else if s ≤ 1 then (if n + dg * 2 ^ s ≤ most then rlN dec tbl G c most bAt f (i + 1) q3 (n + dg * 2 ^ s) (2 * dg) g (flN R n (n + dg * 2 ^ s) (g 0)) else Sum.inl (8, q)) else (if n + 1 ≤ most then rlN dec tbl G c most bAt f (i + 1) q3 (n + 1) 1 (mtfN g (s - 1)) (flN R n (n + 1) (g (s - 1))) else Sum.inl (8, q))) = (Sum.inl (e, p) : (Nat × Nat) ⊕ (Nat × (Nat → Nat) × Nat)) := h
        by_cases h2 : s = c + 1
        · rw [if_pos h2] at h
          by_cases h3 : i / 50 = G - 1
          · rw [if_pos h3] at h; cases h
          · rw [if_neg h3] at h; exact hk _ _ _ _ h (by omega) (by omega)
        · rw [if_neg h2] at h
          by_cases h3 : s ≤ 1
          · rw [if_pos h3] at h
            by_cases h4 : n + dg * 2 ^ s ≤ most
            · rw [if_pos h4] at h
              exact ih _ _ _ _ _ _ _ _ h
            · rw [if_neg h4] at h; exact hk _ _ _ _ h (by omega) (by omega)
          · rw [if_neg h3] at h
            by_cases h4 : n + 1 ≤ most
            · rw [if_pos h4] at h
              exact ih _ _ _ _ _ _ _ _ h
            · rw [if_neg h4] at h; exact hk _ _ _ _ h (by omega) (by omega)
abbrev rbT : Type := (Nat × Nat) ⊕ (Int32 × Nat × Nat × (Nat → Nat) × Nat)
noncomputable def rb4 (E : Nat) (x : Nat → Bool) (most bAt q : Nat) (a : Nat × Nat × (Nat → Nat)) (b : Nat × Nat × Nat × (Nat → Nat)) (d : Nat × (Nat → Nat → Nat)) : rbT := Sum.elim (fun e => Sum.inl e) (fun e => Sum.inr (bvI x q 32, bvN x (q + 32) 16, e.1, e.2.1, e.2.2)) (rl2 (rlN (fun t q => dcN (d.2 t) (a.2.1 + 2) E x q 20) b.2.2.2 b.2.1 a.2.1 most bAt 2252 0 d.1 0 1 a.2.2 (fun _ => 0)) (bvN x (q + 32) 16) (q + 32))
noncomputable def rb3 (E : Nat) (x : Nat → Bool) (most bAt q : Nat) (a : Nat × Nat × (Nat → Nat)) (b : Nat × Nat × Nat × (Nat → Nat)) : rbT := Sum.elim (fun e => Sum.inl e) (fun d => rb4 E x most bAt q a b d) (tbN E x (a.2.1 + 2) b.1 0 b.2.2.1 (fun _ _ => 0))
noncomputable def rb2 (E : Nat) (x : Nat → Bool) (most bAt q : Nat) (a : Nat × Nat × (Nat → Nat)) : rbT := Sum.elim (fun e => Sum.inl e) (fun b => rb3 E x most bAt q a b) (rgN E x a.1)
noncomputable def rbN (E : Nat) (x : Nat → Bool) (most bAt q : Nat) : rbT := if q + 48 ≤ E then Sum.elim (fun e => Sum.inl e) (fun a => rb2 E x most bAt q a) (ruN E x (q + 48)) else Sum.inl (2, E)
theorem rgN_b {E q tc G q2 : Nat} {x : Nat → Bool} {T : Nat → Nat} (h : rgN E x q = Sum.inr (tc, G, q2, T)) : 2 ≤ tc ∧ tc ≤ 6 ∧ 0 < G ∧ G < 32768 ∧ q2 ≤ E ∧ ∀ j, j < G → T j < tc := by
  unfold rgN at h
  cases hc : rcN E x q with
  | inl e => rw [hc] at h; cases h
  | inr v =>
    obtain ⟨t, g⟩ := v
    rw [hc] at h
    have h : Sum.elim (fun e => Sum.inl e) (fun w => Sum.inr (t, g, w.1, w.2)) (grN E x t g 0 (q + 18) (fun j => j) (fun _ => 0)) = (Sum.inr (tc, G, q2, T) : (Nat × Nat) ⊕ (Nat × Nat × Nat × (Nat → Nat))) := h
    obtain ⟨b1, b2, b3, b4, b5⟩ := rcN_b hc
    cases hg : grN E x t g 0 (q + 18) (fun j => j) (fun _ => 0) with
    | inl e => rw [hg] at h; cases h
    | inr w =>
      obtain ⟨q3, T3⟩ := w
      rw [hg] at h
      have h5 := Sum.inr.inj h
      have e1 : t = tc := congrArg Prod.fst h5
      have e2 : g = G := congrArg (fun z => z.2.1) h5
      have e3 : q3 = q2 := congrArg (fun z => z.2.2.1) h5
      have e4 : T3 = T := congrArg (fun z => z.2.2.2) h5
      obtain ⟨d1, d2⟩ := grN_b _ _ _ _ _ _ _ b5 (fun j hj => hj) (fun j hj => absurd hj (Nat.not_lt_zero _)) hg
      rw [← e1, ← e2, ← e3, ← e4]
      exact ⟨b1, b2, b3, b4, d1, fun j hj => d2 j (by omega)⟩
theorem rb4_b {E : Nat} {x : Nat → Bool} {most bAt q c tc G q4 q5 : Nat} {g T : Nat → Nat} {LT : Nat → Nat → Nat} {q3 : Nat} {v : Int32 × Nat × Nat × (Nat → Nat) × Nat} (hc : 1 ≤ c) (hg : ∀ j, j < c → g j < 256) (h : rb4 E x most bAt q (q3, c, g) (tc, G, q4, T) (q5, LT) = Sum.inr v) : v.1 = bvI x q 32 ∧ v.2.1 < v.2.2.1 ∧ v.2.2.1 ≤ most ∧ (∀ j, j < v.2.2.1 → v.2.2.2.1 j < 256) ∧ v.2.2.2.2 ≤ E := by
  unfold rb4 rl2 at h
  have h : Sum.elim (fun e => Sum.inl e) (fun e => Sum.inr (bvI x q 32, bvN x (q + 32) 16, e.1, e.2.1, e.2.2)) (Sum.elim (fun e => Sum.inl e) (fun v => if bvN x (q + 32) 16 < v.1 then Sum.inr v else Sum.inl (9, q + 32)) (rlN (fun t q => dcN (LT t) (c + 2) E x q 20) T G c most bAt 2252 0 q5 0 1 g (fun _ => 0))) = (Sum.inr v : rbT) := h
  cases hr : rlN (fun t q => dcN (LT t) (c + 2) E x q 20) T G c most bAt 2252 0 q5 0 1 g (fun _ => 0) with
  | inl e => rw [hr] at h; cases h
  | inr w =>
    obtain ⟨n, R, q6⟩ := w
    obtain ⟨r1, r2, r3⟩ := rlN_b (E := E) hc (fun t q s q2 hd => ⟨(dc_b (Nat.le_refl 20) hd).1, (dc_b (Nat.le_refl 20) hd).2.1⟩) _ _ _ _ _ _ _ _ _ _ (Nat.zero_le _) hg (fun j hj => absurd hj (Nat.not_lt_zero _)) hr
    rw [hr] at h
    have h : Sum.elim (fun e => Sum.inl e) (fun e => Sum.inr (bvI x q 32, bvN x (q + 32) 16, e.1, e.2.1, e.2.2)) (if bvN x (q + 32) 16 < n then Sum.inr (n, R, q6) else Sum.inl (9, q + 32)) = (Sum.inr v : rbT) := h
    by_cases h9 : bvN x (q + 32) 16 < n
    · rw [if_pos h9] at h
      have h5 := Sum.inr.inj h
      rw [← h5]
      exact ⟨rfl, h9, r1, r3, r2⟩
    · rw [if_neg h9] at h; cases h
theorem rbN_b {E : Nat} {x : Nat → Bool} {most bAt q : Nat} {v : Int32 × Nat × Nat × (Nat → Nat) × Nat} (h : rbN E x most bAt q = Sum.inr v) : v.2.1 < v.2.2.1 ∧ v.2.2.1 ≤ most ∧ (∀ j, j < v.2.2.1 → v.2.2.2.1 j < 256) ∧ v.2.2.2.2 ≤ E := by
  unfold rbN at h
  by_cases h1 : q + 48 ≤ E
  · rw [if_pos h1] at h
    cases hu : ruN E x (q + 48) with
    | inl e => rw [hu] at h; cases h
    | inr a =>
      obtain ⟨q3, c, g⟩ := a
      rw [hu] at h
      obtain ⟨u1, u2, u3, u4⟩ := ruN_b hu
      have h : rb2 E x most bAt q (q3, c, g) = Sum.inr v := h
      unfold rb2 at h
      cases hg : rgN E x q3 with
      | inl e =>
        have h : Sum.elim (fun e => Sum.inl e) (fun b => rb3 E x most bAt q (q3, c, g) b) (rgN E x q3) = Sum.inr v := h
        rw [hg] at h; cases h
      | inr b =>
        obtain ⟨tc, G, q4, T⟩ := b
        have h : Sum.elim (fun e => Sum.inl e) (fun b => rb3 E x most bAt q (q3, c, g) b) (rgN E x q3) = Sum.inr v := h
        rw [hg] at h
        have h : rb3 E x most bAt q (q3, c, g) (tc, G, q4, T) = Sum.inr v := h
        unfold rb3 at h
        have h : Sum.elim (fun e => Sum.inl e) (fun d => rb4 E x most bAt q (q3, c, g) (tc, G, q4, T) d) (tbN E x (c + 2) tc 0 q4 (fun _ _ => 0)) = Sum.inr v := h
        cases ht : tbN E x (c + 2) tc 0 q4 (fun _ _ => 0) with
        | inl e => rw [ht] at h; cases h
        | inr d =>
          obtain ⟨q5, LT⟩ := d
          rw [ht] at h
          have h : rb4 E x most bAt q (q3, c, g) (tc, G, q4, T) (q5, LT) = Sum.inr v := h
          exact (rb4_b u4 u3 h).2
  · rw [if_neg h1] at h; cases h
abbrev okF (r : rbT) (rt flt fa at' bck og nc : Int32) (la : Nat → Int32) (fs pl : Nat → Nat → Int32) : Prop := TZ fs pl ∧ (∀ e, r = Sum.inl e → rt = 0 ∧ flt = nI e.1 ∧ fa = nI e.2) ∧ ∀ v, r = Sum.inr v → rt = 1 ∧ flt = 0 ∧ fa = (-1 : Int32) ∧ bck = v.1 ∧ og = nI v.2.1 ∧ nc = nI v.2.2.1 ∧ RS v.2.2.1 la v.2.2.2.1 ∧ at' = nI v.2.2.2.2
theorem okF_e {e p : Nat} {at' bck og nc : Int32} {la : Nat → Int32} {fs pl : Nat → Nat → Int32} (h : TZ fs pl) : okF (Sum.inl (e, p)) (0 : Int32) (nI e) (nI p) at' bck og nc la fs pl := ⟨h, fun e2 h => (by cases h; exact ⟨rfl, rfl, rfl⟩), fun v h => (by cases h)⟩
theorem readBlock_c {tp : Nat → Nat} {F nb q most bAt : Nat} {f : Nat → Int32} {bck oa og lcn tc0 gc0 tlc nc : Int32} {lm tlm gt : Nat → Int32} {ki : Nat → Int32} {le co : Nat → Nat → Int32} {fi : Nat → Int32} {fs pl cd so : Nat → Nat → Int32} {la : Nat → Int32} (hF : F ≤ nb) (hF2 : F ≤ 10240) (hnb : nb < 1000000) (hf : ∀ j, j < F → f j = nI (tp j)) (hq : q ≤ 8 * F) (hmost : most ≤ 2250) (hbAt : bAt < 100000) (hZ : TZ fs pl) :
    ∃ rt tk flt fa at2 bck2 oa2 og2 lc2 lm2 tc2 gc2 tlc2 tlm2 gt2 ki2 le2 co2 fi2 fs2 pl2 cd2 so2 nc2 la2, Unpacker_readBlock_f (nI (8 * F)) (nI F) nb f (0 : Int32) (-1 : Int32) (nI q) bck oa og lcn lm tc0 gc0 tlc tlm gt ki le co fi fs pl cd so nc la (nI most) (nI bAt) = some (rt, tk, flt, fa, at2, bck2, oa2, og2, lc2, lm2, tc2, gc2, tlc2, tlm2, gt2, ki2, le2, co2, fi2, fs2, pl2, cd2, so2, nc2, la2) ∧ okF (rbN (8 * F) (xb tp) most bAt q) rt flt fa at2 bck2 og2 nc2 la2 fs2 pl2 := by
  unfold Unpacker_readBlock_f rbN
  by_cases h48 : q + 48 ≤ 8 * F
  · rw [show BitReader_take_f (32 : Int32) (nI (8 * F)) (nI F) nb f (0 : Int32) (-1 : Int32) (nI q) = _ from take_c (k := 32) hF hnb hf (by omega) (by omega), bd_s]
    dsimp only
    rw [if_neg (show ¬ (1 : Int32) = 0 by decide), show BitReader_take_f (16 : Int32) (nI (8 * F)) (nI F) nb f (0 : Int32) (-1 : Int32) (nI (q + 32)) = _ from take_c (k := 16) hF hnb hf (by omega) (by omega), bd_s]
    dsimp only
    rw [if_neg (show ¬ (1 : Int32) = 0 by decide), if_pos h48, show q + 32 + 16 = q + 48 by omega, bvI_N _ (q + 32) 16 (by omega)]
    have hog := bvN_lt (xb tp) (q + 32) 16
    obtain ⟨rt, cn, tk, flt, fa, at2, mem2, e1, h1, h2⟩ := readUsed_c (tp := tp) (mem := lm) hF hF2 hnb hf h48
    rw [e1, bd_s]
    dsimp only
    cases hu : ruN (8 * F) (xb tp) (q + 48) with
    | inl e =>
      obtain ⟨x1, x2⟩ := e
      obtain ⟨a1, a2, a3⟩ := h1 _ hu
      rw [if_pos a1, a2, a3]
      exact ⟨_, _, _, _, _, _, _, _, _, _, _, _, _, _, _, _, _, _, _, _, _, _, _, _, _, rfl, okF_e hZ⟩
    | inr a =>
      obtain ⟨q3, c, g⟩ := a
      obtain ⟨u1, u2, u3, u4⟩ := ruN_b hu
      obtain ⟨a1, a2, a3, a4, a5, a6⟩ := h2 _ hu
      have a4 : at2 = nI q3 := a4
      have a5 : cn = nI c := a5
      have a6 : RS c mem2 g := a6
      rw [a1, if_neg (show ¬ (1 : Int32) = 0 by decide), a2, a3, a4, a5]
      obtain ⟨tk3, at3, tc3, gc3, e3⟩ := counts_c (tp := tp) (tc0 := tc0) (gc0 := gc0) hF hF2 hnb hf u1
      show ∃ rt tk flt fa at2 bck2 oa2 og2 lc2 lm2 tc2 gc2 tlc2 tlm2 gt2 ki2 le2 co2 fi2 fs2 pl2 cd2 so2 nc2 la2, _ = _ ∧ okF (Sum.elim (fun e => Sum.inl e) (fun b => rb3 (8 * F) (xb tp) most bAt q (q3, c, g) b) (Sum.elim (fun e => Sum.inl e) (fun v => Sum.elim (fun e => Sum.inl e) (fun w => Sum.inr (v.1, v.2, w.1, w.2)) (grN (8 * F) (xb tp) v.1 v.2 0 (q3 + 18) (fun j => j) (fun _ => 0))) (rcN (8 * F) (xb tp) q3))) rt flt fa at2 bck2 og2 nc2 la2 fs2 pl2
      cases hrc : rcN (8 * F) (xb tp) q3 with
      | inl e =>
        obtain ⟨x1, x2⟩ := e
        rw [hrc] at e3
        rw [e3, bd_s]
        exact ⟨_, _, _, _, _, _, _, _, _, _, _, _, _, _, _, _, _, _, _, _, _, _, _, _, _, rfl, okF_e hZ⟩
      | inr v =>
        obtain ⟨tc, G⟩ := v
        rw [hrc] at e3
        have e3 : Unpacker_readCounts_f (nI (8 * F)) (nI F) nb f (0 : Int32) (-1 : Int32) (nI q3) tc0 gc0 = some ((1 : Int32), tk3, (0 : Int32), (-1 : Int32), nI (q3 + 18), nI tc, nI G) := e3
        rw [e3, bd_s]
        obtain ⟨v1, v2, v3, v4, v5⟩ := rcN_b hrc
        obtain ⟨rt4, mem4, flt4, fa4, at4, gt4, e4, h4, h5⟩ := readGroups_c (tp := tp) (mem := tlm) (gt := gt) hF hF2 hnb hf (show 1 ≤ tc by omega) v2 v4 v5
        dsimp only
        rw [if_neg (show ¬ (1 : Int32) = 0 by decide), e4, bd_s]
        dsimp only
        show ∃ rt tk flt fa at2 bck2 oa2 og2 lc2 lm2 tc2 gc2 tlc2 tlm2 gt2 ki2 le2 co2 fi2 fs2 pl2 cd2 so2 nc2 la2, _ = _ ∧ okF (Sum.elim (fun e => Sum.inl e) (fun b => rb3 (8 * F) (xb tp) most bAt q (q3, c, g) b) (Sum.elim (fun e => Sum.inl e) (fun w => Sum.inr (tc, G, w.1, w.2)) (grN (8 * F) (xb tp) tc G 0 (q3 + 18) (fun j => j) (fun _ => 0)))) rt flt fa at2 bck2 og2 nc2 la2 fs2 pl2
        cases hg : grN (8 * F) (xb tp) tc G 0 (q3 + 18) (fun j => j) (fun _ => 0) with
        | inl e =>
          obtain ⟨x1, x2⟩ := e
          obtain ⟨b1, b2, b3⟩ := h4 _ hg
          rw [if_pos b1, b2, b3]
          exact ⟨_, _, _, _, _, _, _, _, _, _, _, _, _, _, _, _, _, _, _, _, _, _, _, _, _, rfl, okF_e hZ⟩
        | inr w =>
          obtain ⟨q4, T⟩ := w
          obtain ⟨b1, b2, b3, b4, b5⟩ := h5 _ hg
          have b4 : at4 = nI q4 := b4
          have b5 : ∀ j, j < 46 → j < G → gt4 j = nI (T j) := b5
          obtain ⟨w1, w2⟩ := grN_b _ _ _ _ _ _ _ v5 (fun j hj => hj) (fun j hj => absurd hj (Nat.not_lt_zero _)) hg
          rw [b1, if_neg (show ¬ (1 : Int32) = 0 by decide), b2, b3, b4]
          obtain ⟨rt5, tk5, flt5, fa5, at5, ki5, le5, co5, fi5, fs5, pl5, cd5, so5, e5, h6, h7, h8⟩ := readTables_c (tp := tp) (c := c) (tc := tc) hF hF2 hnb hf u2 v2 tc 0 gas q4 (fun _ _ => 0) tk3 ki le co fi fs pl cd so (by omega) (Nat.lt_of_lt_of_le (by omega) gas_le) w1 hZ (fun s hs => absurd hs (Nat.not_lt_zero _))
          rw [show Unpacker_readTables_f (nI tc) (nI (8 * F)) (nI F) nb f (nI c) tk3 (0 : Int32) (-1 : Int32) (nI q4) ki le co fi fs pl cd so = _ from e5, bd_s]
          dsimp only
          show ∃ rt tk flt fa at2 bck2 oa2 og2 lc2 lm2 tc2 gc2 tlc2 tlm2 gt2 ki2 le2 co2 fi2 fs2 pl2 cd2 so2 nc2 la2, _ = _ ∧ okF (Sum.elim (fun e => Sum.inl e) (fun d => rb4 (8 * F) (xb tp) most bAt q (q3, c, g) (tc, G, q4, T) d) (tbN (8 * F) (xb tp) (c + 2) tc 0 q4 (fun _ _ => 0))) rt flt fa at2 bck2 og2 nc2 la2 fs2 pl2
          cases htb : tbN (8 * F) (xb tp) (c + 2) tc 0 q4 (fun _ _ => 0) with
          | inl e =>
            obtain ⟨x1, x2⟩ := e
            obtain ⟨c1, c2, c3⟩ := h7 _ htb
            rw [if_pos c1, c2, c3]
            exact ⟨_, _, _, _, _, _, _, _, _, _, _, _, _, _, _, _, _, _, _, _, _, _, _, _, _, rfl, okF_e h6⟩
          | inr d =>
            obtain ⟨q5, LT⟩ := d
            obtain ⟨c1, c2, c3, c4, c5⟩ := h8 _ htb
            have c4 : at5 = nI q5 := c4
            have c5 : TT tc (c + 2) LT co5 fi5 fs5 pl5 cd5 so5 := c5
            have hq5 := tbN_r _ _ _ _ _ _ w1 htb
            rw [c1, if_neg (show ¬ (1 : Int32) = 0 by decide), c2, c3, c4]
            obtain ⟨rt6, lc6, flt6, fa6, at6, mem6, last6, e6, h9, h10⟩ := readLast_c (tp := tp) (c := c) (G := G) (most := most) (og := bvN (xb tp) (q + 32) 16) (ogAt := q + 32) (bAt := bAt) (fb := f) (gt := gt4) (fs := fs5) (co := co5) (pl := pl5) (cd := cd5) (so := so5) (fi := fi5) (tbl := T) (Lt := LT) (tc := tc) hF hF2 hnb hf u4 u2 v4 hmost v2 (fun g2 hg1 hg2 => ⟨b5 g2 hg1 hg2, w2 g2 (by omega)⟩) c5 hog (by omega) hbAt 2252 0 q5 0 1 g (fun _ => 0) mem2 la gas (by omega) (by omega) (by omega) (by omega) (by omega) hq5 a6 (fun j hj => absurd hj (Nat.not_lt_zero _)) (Nat.lt_of_lt_of_le (by omega) gas_le)
            rw [show Unpacker_readLast_f (nI G) gt4 (nI (8 * F)) (nI F) nb f fs5 fi5 co5 pl5 so5 (nI c) (nI most) (0 : Int32) (-1 : Int32) (nI q5) mem2 la (nI (bvN (xb tp) (q + 32) 16)) (nI (q + 32)) (nI bAt) = _ from e6, bd_s]
            dsimp only
            show ∃ rt tk flt fa at2 bck2 oa2 og2 lc2 lm2 tc2 gc2 tlc2 tlm2 gt2 ki2 le2 co2 fi2 fs2 pl2 cd2 so2 nc2 la2, _ = _ ∧ okF (Sum.elim (fun e => Sum.inl e) (fun e => Sum.inr (bvI (xb tp) q 32, bvN (xb tp) (q + 32) 16, e.1, e.2.1, e.2.2)) (rl2 (rlN (fun t q => dcN (LT t) (c + 2) (8 * F) (xb tp) q 20) T G c most bAt 2252 0 q5 0 1 g (fun _ => 0)) (bvN (xb tp) (q + 32) 16) (q + 32))) rt flt fa at2 bck2 og2 nc2 la2 fs2 pl2
            cases hrl : rl2 (rlN (fun t q => dcN (LT t) (c + 2) (8 * F) (xb tp) q 20) T G c most bAt 2252 0 q5 0 1 g (fun _ => 0)) (bvN (xb tp) (q + 32) 16) (q + 32) with
            | inl e =>
              obtain ⟨x1, x2⟩ := e
              obtain ⟨d1, d2, d3⟩ := h9 _ hrl
              rw [if_pos d1, d2, d3]
              exact ⟨_, _, _, _, _, _, _, _, _, _, _, _, _, _, _, _, _, _, _, _, _, _, _, _, _, rfl, okF_e h6⟩
            | inr y =>
              obtain ⟨n, R, q6⟩ := y
              obtain ⟨d1, d2, d3, d4, d5, d6⟩ := h10 _ hrl
              rw [d1, if_neg (show ¬ (1 : Int32) = 0 by decide), d3, d4]
              exact ⟨_, _, _, _, _, _, _, _, _, _, _, _, _, _, _, _, _, _, _, _, _, _, _, _, _, rfl, h6, fun e he => (by cases he), fun v hv => (by cases hv; exact ⟨rfl, rfl, rfl, rfl, rfl, d2, d6, d5⟩)⟩
  · rw [if_neg h48]
    by_cases h32 : q + 32 ≤ 8 * F
    · rw [show BitReader_take_f (32 : Int32) (nI (8 * F)) (nI F) nb f (0 : Int32) (-1 : Int32) (nI q) = _ from take_c (k := 32) hF hnb hf (by omega) h32, bd_s]
      dsimp only
      obtain ⟨tk, et⟩ := take_ce (k := 16) (flt := (0 : Int32)) (fa := (-1 : Int32)) hF hnb hf (by omega) h32 (show 8 * F < q + 32 + 16 by omega)
      rw [if_neg (show ¬ (1 : Int32) = 0 by decide), show BitReader_take_f (16 : Int32) (nI (8 * F)) (nI F) nb f (0 : Int32) (-1 : Int32) (nI (q + 32)) = _ from et, bd_s]
      exact ⟨_, _, _, _, _, _, _, _, _, _, _, _, _, _, _, _, _, _, _, _, _, _, _, _, _, rfl, okF_e hZ⟩
    · obtain ⟨tk, et⟩ := take_ce (k := 32) (flt := (0 : Int32)) (fa := (-1 : Int32)) hF hnb hf (by omega) hq (show 8 * F < q + 32 by omega)
      rw [show BitReader_take_f (32 : Int32) (nI (8 * F)) (nI F) nb f (0 : Int32) (-1 : Int32) (nI q) = _ from et, bd_s]
      exact ⟨_, _, _, _, _, _, _, _, _, _, _, _, _, _, _, _, _, _, _, _, _, _, _, _, _, rfl, okF_e hZ⟩
