/-! PACKING: blocks, one after the other; what stands after them -/
abbrev pacc : Type := bs × Int32 × Nat × Nat × Nat × Nat × (Nat → Nat) × Nat × Int32
abbrev pacc.s (a : pacc) : bs := a.1
abbrev pacc.coa (a : pacc) : Int32 := a.2.1
abbrev pacc.nbl (a : pacc) : Nat := a.2.2.1
abbrev pacc.aT (a : pacc) : Nat := a.2.2.2.1
abbrev pacc.aS (a : pacc) : Nat := a.2.2.2.2.1
abbrev pacc.aG (a : pacc) : Nat := a.2.2.2.2.2.1
abbrev pacc.t (a : pacc) : Nat → Nat := a.2.2.2.2.2.2.1
abbrev pacc.n (a : pacc) : Nat := a.2.2.2.2.2.2.2.1
abbrev pacc.ck (a : pacc) : Int32 := a.2.2.2.2.2.2.2.2
noncomputable def pst (a : pacc) (T : rst1) : pacc := (pus a.s (BB T.d T.n (T.c ^^^ (-1 : Int32))), jc a.coa (T.c ^^^ (-1 : Int32)), a.nbl + 1, a.aT + T.n, a.aS + MN T.d T.n, a.aG + GN T.d T.n, T.d, T.n, T.c ^^^ (-1 : Int32))
theorem pr1 {α β : Type} (x : α) (y : β) : (x, y).1 = x := rfl
theorem pst_s (a : pacc) (T : rst1) : (pst a T).s = pus a.s (BB T.d T.n (T.c ^^^ (-1 : Int32))) := by
  unfold pst
  exact pr1 _ _
noncomputable def TK (tp : Nat → Nat) (F most k : Nat) : rst1 := tk tp F most (k, (fun _ => 0), 0, (-1 : Int32))
noncomputable def PK (tp : Nat → Nat) (F most : Nat) : Nat → Nat → pacc → pacc
  | 0, _, a => a
  | f + 1, k, a => if F ≤ k then a else PK tp F most f (TK tp F most k).k (pst a (TK tp F most k))
theorem TK_ok {tp : Nat → Nat} {F most k : Nat} (ht : ∀ j, j < F → tp j < 256) (hmost : 5 ≤ most) (hk : k < F) : tok F most (TK tp F most k) ∧ k < (TK tp F most k).k ∧ 0 < (TK tp F most k).n ∧ 4 * (TK tp F most k).n ≤ 5 * ((TK tp F most k).k - k) ∧ (F ≤ (TK tp F most k).k ∨ most < (TK tp F most k).n + 5) := by
  have r := rln_spec (tp := tp) hk
  have hnd := nd_b r.1
  have hstep : (0 : Nat) + nd (rln tp F k) ≤ most := by omega
  have hok0 : tok F most (k, (fun _ => 0), 0, (-1 : Int32)) := ⟨Nat.le_of_lt hk, Nat.zero_le _, fun j h => absurd h (Nat.not_lt_zero _)⟩
  have hok1 := stp_ok (tp := tp) ht hok0 hk hstep
  have h := tk_ind (tp := tp) (F := F) (most := most) (fun s => k < s.k ∧ 0 < s.n ∧ 4 * s.n ≤ 5 * (s.k - k)) ht (fun s hs h1 h2 hq => by
    have r2 := rln_spec (tp := tp) h1
    have hnd2 := nd_b r2.1
    obtain ⟨q1, q2, q3⟩ := hq
    refine ⟨?_, ?_, ?_⟩
    · show k < s.k + rln tp F s.k
      omega
    · show 0 < s.n + nd (rln tp F s.k)
      omega
    · show 4 * (s.n + nd (rln tp F s.k)) ≤ 5 * (s.k + rln tp F s.k - k)
      omega) F (stp tp F (k, (fun _ => 0), 0, (-1 : Int32))) (Nat.sub_le _ _) hok1 (by
    refine ⟨?_, ?_, ?_⟩
    · show k < k + rln tp F k
      omega
    · show 0 < 0 + nd (rln tp F k)
      omega
    · show 4 * (0 + nd (rln tp F k)) ≤ 5 * (k + rln tp F k - k)
      omega)
  have e : TK tp F most k = tk tp F most (stp tp F (k, (fun _ => 0), 0, (-1 : Int32))) := tk_step hk hstep
  rw [e]
  obtain ⟨⟨h1, h2, h3⟩, h4, h5⟩ := h
  refine ⟨h4, h1, h2, h3, ?_⟩
  rcases h5 with h5 | h5
  · exact Or.inl h5
  · rcases Nat.lt_or_ge (tk tp F most (stp tp F (k, (fun _ => 0), 0, (-1 : Int32)))).k F with h6 | h6
    · have r3 := nd_b (rln_spec (tp := tp) h6).1
      exact Or.inr (by omega)
    · exact Or.inl h6
theorem PK_f {tp : Nat → Nat} {F most : Nat} (ht : ∀ j, j < F → tp j < 256) (hmost : 5 ≤ most) : ∀ (f k : Nat) (a : pacc), F - k ≤ f → PK tp F most f k a = PK tp F most (f + 1) k a := by
  intro f
  induction f with
  | zero =>
    intro k a h
    show a = if F ≤ k then a else _
    rw [if_pos (by omega)]
  | succ f ih =>
    intro k a h
    show (if F ≤ k then a else PK tp F most f (TK tp F most k).k (pst a (TK tp F most k))) = (if F ≤ k then a else PK tp F most (f + 1) (TK tp F most k).k (pst a (TK tp F most k)))
    by_cases h1 : F ≤ k
    · rw [if_pos h1, if_pos h1]
    · have := (TK_ok (most := most) ht hmost (show k < F by omega)).2.1
      rw [if_neg h1, if_neg h1, ih _ _ (by omega)]
theorem PK_end {tp : Nat → Nat} {F most k : Nat} (ht : ∀ j, j < F → tp j < 256) (hmost : 5 ≤ most) (a : pacc) (h : F ≤ k) : PK tp F most F k a = a := by
  rw [PK_f ht hmost F k a (by omega)]
  exact if_pos h
theorem PK_step {tp : Nat → Nat} {F most k : Nat} (ht : ∀ j, j < F → tp j < 256) (hmost : 5 ≤ most) (a : pacc) (h : k < F) : PK tp F most F k a = PK tp F most F (TK tp F most k).k (pst a (TK tp F most k)) := by
  rw [PK_f ht hmost F k a (by omega)]
  exact if_neg (by omega)
theorem tc_3 {m : Nat} (h : m < 600) : tcN m ≤ 3 := by
  unfold tcN
  by_cases h1 : m < 200
  · rw [if_pos h1]; omega
  · rw [if_neg h1, if_pos h]; omega
theorem tc_5 {m : Nat} (h : m < 2400) : tcN m ≤ 5 := by
  unfold tcN
  by_cases h1 : m < 200
  · rw [if_pos h1]; omega
  · rw [if_neg h1]
    by_cases h2 : m < 600
    · rw [if_pos h2]; omega
    · rw [if_neg h2]
      by_cases h3 : m < 1200
      · rw [if_pos h3]; omega
      · rw [if_neg h3, if_pos h]; omega
theorem BB_len {t : Nat → Nat} {n : Nat} {ck : Int32} (h0 : 0 < n) (hn : n ≤ 2250) (ht : ∀ j, j < n → t j < 256) : (BB t n ck).length ≤ 80000 ∧ (246 ≤ n → (BB t n ck).length ≤ 130 * n) := by
  have hcn := CN_b t n
  have hmn := MN_b h0 ht
  have htc := TC_b t n
  have b10' := ub2_len (us t n) 256
  have b12 := gb_len (tb := TB t n) (tc := TC t n) (G := (MN t n + 49) / 50) (fun g hgg => by have := (up_in (l := TB t n) (g0 := fun j => j) (c := TC t n) (n := (MN t n + 49) / 50) (fun i hi => ⟨TB t n i, TB_b h0 ht hi, rfl⟩) hgg).1; omega) _ (Nat.le_refl _)
  have b13 := tl_len (Lt := LT t n) (n := CN t n + 2) (tc := TC t n) (fun k j hk hj => LT_b h0 hn ht hj) (TC t n) (Nat.le_refl _)
  have b15 := sb_len (s := SY t n) (tb := TB t n) (Lt := LT t n) (Ct := CT t n) (m := MN t n) (fun i hi => (LT_b h0 hn ht (hmn.2.2 i hi)).2) (MN t n) (Nat.le_refl _)
  have e : (BB t n ck).length = 8 + (32 + (16 + ((16 + (ub2 (us t n) 256).length) + (3 + (15 + ((gb (TB t n) (TC t n) ((MN t n + 49) / 50)).length + ((tl (LT t n) (CN t n + 2) (TC t n)).length + (sb (SY t n) (TB t n) (LT t n) (CT t n) (MN t n)).length))))))) := by
    unfold BB blb
    rw [List.length_append, List.length_append, List.length_append, List.length_append, List.length_append, List.length_append, List.length_append, List.length_append, List.length_append, pb_len, pb_len, pb_len, pb_len, pb_len, ub1_len]
  rw [e]
  have h5 : TC t n ≤ 5 := tc_5 (by omega)
  have b14 : (5 + 29 * (CN t n + 2)) * TC t n ≤ 7487 * 5 := Nat.mul_le_mul (by omega) h5
  refine ⟨by omega, fun h => ?_⟩
  rcases Nat.lt_or_ge (MN t n) 600 with h6 | h6
  · have h3 : TC t n ≤ 3 := tc_3 h6
    have b16 : (5 + 29 * (CN t n + 2)) * TC t n ≤ 7487 * 3 := Nat.mul_le_mul (by omega) h3
    omega
  · omega
/-- how much is written when the tape is read up to k -/
abbrev pin (F k : Nat) (a : pacc) : Prop := bok a.s ∧ 4 * a.aT ≤ 5 * k ∧ blen a.s ≤ 24 + 130 * a.aT + (if F ≤ k then 80000 else 0) ∧ a.nbl ≤ k ∧ (F ≤ k → 0 < k → 0 < a.nbl)
theorem pin_step {tp : Nat → Nat} {F most k : Nat} {a : pacc} (ht : ∀ j, j < F → tp j < 256) (hm1 : 250 ≤ most) (hm2 : most ≤ 2250) (hk : k < F) (h : pin F k a) : pin F (TK tp F most k).k (pst a (TK tp F most k)) := by
  obtain ⟨h1, h2, h3, h4, h5⟩ := TK_ok (most := most) ht (by omega) hk
  obtain ⟨q1, q2, q3, q4, _⟩ := h
  have h6 := h1.n
  have hb := BB_len (ck := (TK tp F most k).c ^^^ (-1 : Int32)) h3 (show (TK tp F most k).n ≤ 2250 by omega) h1.d
  have hl := pus_len (l := BB (TK tp F most k).d (TK tp F most k).n ((TK tp F most k).c ^^^ (-1 : Int32))) q1
  rw [if_neg (by omega)] at q3
  have hs := pst_s a (TK tp F most k)
  refine ⟨?_, ?_, ?_, ?_, fun _ _ => ?_⟩
  · rw [hs]
    exact pus_ok q1
  · show 4 * (a.aT + (TK tp F most k).n) ≤ 5 * (TK tp F most k).k
    omega
  · rw [hs, hl]
    show _ ≤ 24 + 130 * (a.aT + (TK tp F most k).n) + _
    by_cases h7 : F ≤ (TK tp F most k).k
    · rw [if_pos h7]
      omega
    · rw [if_neg h7]
      have := hb.2 (by omega)
      omega
  · show a.nbl + 1 ≤ (TK tp F most k).k
    omega
  · show 0 < a.nbl + 1
    omega
