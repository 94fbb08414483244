/-! UNPACKING: the lengths of the codes -/
def nw (b : Bool) (n : Nat) : Nat := if b = true then n - 1 else n + 1
noncomputable def rnN (E : Nat) (x : Nat → Bool) : Nat → Nat → Nat → (Nat × Nat) ⊕ (Nat × Nat)
  | 0, _, _ => Sum.inl (2, E)
  | f + 1, now, q => if q < E then (if x q = true then (if q + 1 < E then (if 1 ≤ nw (x (q + 1)) now ∧ nw (x (q + 1)) now ≤ 20 then rnN E x f (nw (x (q + 1)) now) (q + 2) else Sum.inl (6, q)) else Sum.inl (2, E)) else Sum.inr (now, q + 1)) else Sum.inl (2, E)
noncomputable def leN (E : Nat) (x : Nat → Bool) : Nat → Nat → Nat → Nat → (Nat → Nat) → (Nat × Nat) ⊕ (Nat × (Nat → Nat))
  | 0, _, _, q, L => Sum.inr (q, L)
  | r + 1, k, now, q, L => Sum.elim (fun e => Sum.inl e) (fun v => leN E x r (k + 1) v.1 v.2 (updN L k v.1)) (rnN E x E now q)
noncomputable def lhN (E : Nat) (x : Nat → Bool) (n q : Nat) : (Nat × Nat) ⊕ (Nat × (Nat → Nat)) := if q + 5 ≤ E then (if 1 ≤ bvN x q 5 ∧ bvN x q 5 ≤ 20 then leN E x n 0 (bvN x q 5) (q + 5) (fun _ => 0) else Sum.inl (6, q)) else Sum.inl (2, E)
noncomputable def ltN (E : Nat) (x : Nat → Bool) (n q : Nat) : (Nat × Nat) ⊕ (Nat × (Nat → Nat)) := Sum.elim (fun e => Sum.inl e) (fun v => if kf v.2 n ≤ 2 ^ 20 then Sum.inr v else Sum.inl (6, q)) (lhN E x n q)
def fuN (LT : Nat → Nat → Nat) (t : Nat) (L : Nat → Nat) : Nat → Nat → Nat := fun s => if s = t then L else LT s
noncomputable def tbN (E : Nat) (x : Nat → Bool) (n : Nat) : Nat → Nat → Nat → (Nat → Nat → Nat) → (Nat × Nat) ⊕ (Nat × (Nat → Nat → Nat))
  | 0, _, q, LT => Sum.inr (q, LT)
  | r + 1, t, q, LT => Sum.elim (fun e => Sum.inl e) (fun v => tbN E x n r (t + 1) v.1 (fuN LT t v.2)) (ltN E x n q)
theorem nw_b {b : Bool} {n : Nat} (h : n ≤ 20) : nw b n ≤ 21 := by
  unfold nw
  by_cases h1 : b = true
  · rw [if_pos h1]; omega
  · rw [if_neg h1]; omega
theorem nw_i : ∀ n, n ≤ 20 → 1 ≤ n → ∀ b : Bool, (nI n + (if b = true then (-1 : Int32) else (1 : Int32))) = nI (nw b n) := by decide
theorem isLen_c {n : Nat} (h : n < 1000) : Unpacker_isLength_f (nI n) = some (if 1 ≤ n ∧ n ≤ 20 then (1 : Int32) else (0 : Int32)) := by
  unfold Unpacker_isLength_f Unpacker_isLength_J15 Unpacker_isLength_J16
  by_cases h1 : n < 1
  · rw [if_pos (show nI n < (1 : Int32) from nI_lt (b := 1) h1 (by omega)), if_neg (show ¬ (1 ≤ n ∧ n ≤ 20) by omega)]
    rfl
  · rw [if_neg (show ¬ nI n < (1 : Int32) from nI_nlt (a := n) (b := 1) (by omega) (by omega))]
    by_cases h2 : 20 < n
    · rw [if_pos (show (20 : Int32) < nI n from nI_lt (a := 20) h2 (by omega)), if_neg (show ¬ (1 ≤ n ∧ n ≤ 20) by omega)]
      rfl
    · rw [if_neg (show ¬ (20 : Int32) < nI n from nI_nlt (a := 20) (by omega) (by omega)), if_pos (show 1 ≤ n ∧ n ≤ 20 by omega)]
      rfl
theorem rnN_r {E : Nat} {x : Nat → Bool} : ∀ {f now q n2 q2 : Nat}, 1 ≤ now → now ≤ 20 → rnN E x f now q = Sum.inr (n2, q2) → 1 ≤ n2 ∧ n2 ≤ 20 ∧ q2 ≤ E := by
  intro f
  induction f with
  | zero => intro now q n2 q2 _ _ h; cases h
  | succ f ih =>
    intro now q n2 q2 h1 h2 h
    rw [rnN] at h
    by_cases a1 : q < E
    · rw [if_pos a1] at h
      by_cases a2 : x q = true
      · rw [if_pos a2] at h
        by_cases a3 : q + 1 < E
        · rw [if_pos a3] at h
          by_cases a4 : 1 ≤ nw (x (q + 1)) now ∧ nw (x (q + 1)) now ≤ 20
          · rw [if_pos a4] at h
            exact ih a4.1 a4.2 h
          · rw [if_neg a4] at h; cases h
        · rw [if_neg a3] at h; cases h
      · rw [if_neg a2] at h
        have h5 := Sum.inr.inj h
        have e1 : now = n2 := congrArg Prod.fst h5
        have e2 : q + 1 = q2 := congrArg Prod.snd h5
        omega
    · rw [if_neg a1] at h; cases h
theorem rnN_e {E : Nat} {x : Nat → Bool} : ∀ {f now q e p : Nat}, rnN E x f now q = Sum.inl (e, p) → 0 < e ∧ e < 16 := by
  intro f
  induction f with
  | zero =>
    intro now q e p h
    have e1 : 2 = e := congrArg Prod.fst (Sum.inl.inj h)
    omega
  | succ f ih =>
    intro now q e p h
    rw [rnN] at h
    by_cases a1 : q < E
    · rw [if_pos a1] at h
      by_cases a2 : x q = true
      · rw [if_pos a2] at h
        by_cases a3 : q + 1 < E
        · rw [if_pos a3] at h
          by_cases a4 : 1 ≤ nw (x (q + 1)) now ∧ nw (x (q + 1)) now ≤ 20
          · rw [if_pos a4] at h
            exact ih h
          · rw [if_neg a4] at h
            have e1 : 6 = e := congrArg Prod.fst (Sum.inl.inj h)
            omega
        · rw [if_neg a3] at h
          have e1 : 2 = e := congrArg Prod.fst (Sum.inl.inj h)
          omega
      · rw [if_neg a2] at h; cases h
    · rw [if_neg a1] at h
      have e1 : 2 = e := congrArg Prod.fst (Sum.inl.inj h)
      omega
theorem leN_r {E : Nat} {x : Nat → Bool} : ∀ (r k now q : Nat) (L : Nat → Nat) (q2 : Nat) (L2 : Nat → Nat), 1 ≤ now → now ≤ 20 → q ≤ E → (∀ j, j < k → 1 ≤ L j ∧ L j ≤ 20) → leN E x r k now q L = Sum.inr (q2, L2) → q2 ≤ E ∧ ∀ j, j < k + r → 1 ≤ L2 j ∧ L2 j ≤ 20 := by
  intro r
  induction r with
  | zero =>
    intro k now q L q2 L2 _ _ hq hL h
    have h5 := Sum.inr.inj h
    have e1 : q = q2 := congrArg Prod.fst h5
    have e2 : L = L2 := congrArg Prod.snd h5
    rw [← e1, ← e2]
    exact ⟨hq, hL⟩
  | succ r ih =>
    intro k now q L q2 L2 h1 h2 hq hL h
    rw [leN] at h
    cases hr : rnN E x E now q with
    | inl e => rw [hr] at h; cases h
    | inr v =>
      obtain ⟨n2, q3⟩ := v
      rw [hr] at h
      have h : leN E x r (k + 1) n2 q3 (updN L k n2) = Sum.inr (q2, L2) := h
      obtain ⟨b1, b2, b3⟩ := rnN_r h1 h2 hr
      obtain ⟨a1, a2⟩ := ih _ _ _ _ _ _ b1 b2 b3 (fun j hj => by
        by_cases hji : j = k
        · rw [hji, updN_s]; exact ⟨b1, b2⟩
        · rw [updN_n _ hji]; exact hL j (by omega)) h
      exact ⟨a1, fun j hj => a2 j (by omega)⟩
theorem ltN_r {E n q q2 : Nat} {x : Nat → Bool} {L2 : Nat → Nat} (h : ltN E x n q = Sum.inr (q2, L2)) : q2 ≤ E ∧ kf L2 n ≤ 2 ^ 20 ∧ ∀ j, j < n → 1 ≤ L2 j ∧ L2 j ≤ 20 := by
  unfold ltN at h
  cases hl : lhN E x n q with
  | inl e => rw [hl] at h; cases h
  | inr v =>
    obtain ⟨q3, L3⟩ := v
    rw [hl] at h
    have h : (if kf L3 n ≤ 2 ^ 20 then Sum.inr (q3, L3) else Sum.inl (6, q)) = (Sum.inr (q2, L2) : (Nat × Nat) ⊕ (Nat × (Nat → Nat))) := h
    by_cases hk : kf L3 n ≤ 2 ^ 20
    · rw [if_pos hk] at h
      have h5 := Sum.inr.inj h
      have e1 : q3 = q2 := congrArg Prod.fst h5
      have e2 : L3 = L2 := congrArg Prod.snd h5
      rw [← e1, ← e2]
      unfold lhN at hl
      by_cases a1 : q + 5 ≤ E
      · rw [if_pos a1] at hl
        by_cases a2 : 1 ≤ bvN x q 5 ∧ bvN x q 5 ≤ 20
        · rw [if_pos a2] at hl
          obtain ⟨c1, c2⟩ := leN_r _ _ _ _ _ _ _ a2.1 a2.2 a1 (fun j hj => absurd hj (Nat.not_lt_zero _)) hl
          exact ⟨c1, hk, fun j hj => c2 j (by omega)⟩
        · rw [if_neg a2] at hl; cases hl
      · rw [if_neg a1] at hl; cases hl
    · rw [if_neg hk] at h; cases h
theorem readLen_c {tp : Nat → Nat} {F nb : Nat} {f : Nat → Int32} (hF : F ≤ nb) (hF2 : F ≤ 10240) (hnb : nb < 1000000) (hf : ∀ j, j < F → f j = nI (tp j)) : ∀ (r n now q z : Nat), r + n = 8 * F → r < z → 1 ≤ now → now ≤ 20 → q ≤ 8 * F → ∃ at2, bd (lpF (Unpacker_readLength_L4 (nI (8 * F)) (nI F) nb f) z (nI now, nI n, (0 : Int32), (-1 : Int32), nI q)) (fun u2 => (Sum.elim (fun v3 => some (v3.1, v3.2.1, v3.2.2.1, v3.2.2.2)) (Sum.elim (fun v4 => some ((-1 : Int32), v4.1, v4.2.1, v4.2.2)) (Sum.elim (fun v5 => bd (BitReader_fail_f (6 : Int32) v5.1) (fun u6 => some ((-1 : Int32), u6.2.1, u6.2.2, v5.2.2.2))) (fun v7 => bd (BitReader_fail_f (2 : Int32) (nI (8 * F))) (fun u8 => some ((-1 : Int32), u8.2.1, u8.2.2, v7.2.2)))))) u2) = some (Sum.elim (fun e => ((-1 : Int32), nI e.1, nI e.2, at2)) (fun v => (nI v.1, (0 : Int32), (-1 : Int32), nI v.2)) (rnN (8 * F) (xb tp) r now q)) := by
  intro r
  induction r with
  | zero =>
    intro n now q z hrn hz _ _ hq
    obtain ⟨z, rfl⟩ : ∃ z2, z = z2 + 1 := ⟨z - 1, by omega⟩
    have hb : Unpacker_readLength_L4 (nI (8 * F)) (nI F) nb f (nI now, nI n, (0 : Int32), (-1 : Int32), nI q) = some (Sum.inr (Sum.inr (Sum.inr (Sum.inr ((0 : Int32), (-1 : Int32), nI q))))) := by
      show (if nI (8 * F) ≤ nI n then _ else _) = _
      rw [if_pos (nI_le (by omega) (by omega))]
    rw [lpF_s, hb, rnN]
    exact ⟨nI q, rfl⟩
  | succ r ih =>
    intro n now q z hrn hz h1 h2 hq
    obtain ⟨z, rfl⟩ : ∃ z2, z = z2 + 1 := ⟨z - 1, by omega⟩
    rw [lpF_s, rnN]
    have hL : Unpacker_readLength_L4 (nI (8 * F)) (nI F) nb f (nI now, nI n, (0 : Int32), (-1 : Int32), nI q) = (if (bq F tp q).1 = 0 then some (Sum.inr (Sum.inl (nI now, (bq F tp q).2.1, (bq F tp q).2.2.1, (bq F tp q).2.2.2))) else (if (bq F tp q).1 = (-1 : Int32) then Unpacker_readLength_J57 (nI now, nI n, (0 : Int32), (-1 : Int32), nI q) (nI q) (-1 : Int32) (bq F tp q).2.1 (bq F tp q).2.2.1 (bq F tp q).2.2.2 else bd (BitReader_bit_f (bq F tp q).2.2.2 (nI (8 * F)) (nI F) nb f (bq F tp q).2.1 (bq F tp q).2.2.1) (fun u18 => Unpacker_readLength_J57 (nI now, nI n, (0 : Int32), (-1 : Int32), nI q) (nI q) u18.1 u18.2.1 u18.2.2.1 u18.2.2.2))) := by
      show (if nI (8 * F) ≤ nI n then _ else bd (BitReader_bit_f (nI q) (nI (8 * F)) (nI F) nb f (0 : Int32) (-1 : Int32)) _) = _
      rw [if_neg (nI_ge (by omega) (by omega)), bit_q hF hF2 hnb hf hq, bd_s]
    rw [hL]
    by_cases a1 : q < 8 * F
    · have hq1 : bq F tp q = (nI (xb tp q).toNat, (0 : Int32), (-1 : Int32), nI (q + 1)) := if_pos a1
      rw [hq1, if_pos a1]
      show ∃ at2, bd (bd (if nI (xb tp q).toNat = 0 then some (Sum.inr (Sum.inl (nI now, (0 : Int32), (-1 : Int32), nI (q + 1)))) else (if nI (xb tp q).toNat = (-1 : Int32) then _ else bd (BitReader_bit_f (nI (q + 1)) (nI (8 * F)) (nI F) nb f (0 : Int32) (-1 : Int32)) (fun u18 => Unpacker_readLength_J57 (nI now, nI n, (0 : Int32), (-1 : Int32), nI q) (nI q) u18.1 u18.2.1 u18.2.2.1 u18.2.2.2))) _) _ = _
      cases hx : xb tp q with
      | false =>
        rw [if_pos (show nI false.toNat = (0 : Int32) from rfl), if_neg Bool.noConfusion]
        exact ⟨nI q, rfl⟩
      | true =>
        rw [if_neg (show ¬ nI true.toNat = (0 : Int32) by decide), if_neg (show ¬ nI true.toNat = (-1 : Int32) by decide), if_pos (show true = true from rfl), bit_q hF hF2 hnb hf (show q + 1 ≤ 8 * F by omega), bd_s]
        by_cases a3 : q + 1 < 8 * F
        · have hq2 : bq F tp (q + 1) = (nI (xb tp (q + 1)).toNat, (0 : Int32), (-1 : Int32), nI (q + 1 + 1)) := if_pos a3
          have hJ : Unpacker_readLength_J57 (nI now, nI n, (0 : Int32), (-1 : Int32), nI q) (nI q) (nI (xb tp (q + 1)).toNat) (0 : Int32) (-1 : Int32) (nI (q + 1 + 1)) = (if 1 ≤ nw (xb tp (q + 1)) now ∧ nw (xb tp (q + 1)) now ≤ 20 then some (Sum.inl (nI (nw (xb tp (q + 1)) now), nI (n + 1), (0 : Int32), (-1 : Int32), nI (q + 2))) else some (Sum.inr (Sum.inr (Sum.inr (Sum.inl (nI q, (0 : Int32), (-1 : Int32), nI (q + 2))))))) := by
            have hbr : Unpacker_readLength_J57 (nI now, nI n, (0 : Int32), (-1 : Int32), nI q) (nI q) (nI (xb tp (q + 1)).toNat) (0 : Int32) (-1 : Int32) (nI (q + 1 + 1)) = bd (Unpacker_isLength_f (nI (nw (xb tp (q + 1)) now))) (fun u10 => (if u10 = 0 then some (Sum.inr (Sum.inr (Sum.inr (Sum.inl (nI q, (0 : Int32), (-1 : Int32), nI (q + 2)))))) else some (Sum.inl (nI (nw (xb tp (q + 1)) now), nI n + (1 : Int32), (0 : Int32), (-1 : Int32), nI (q + 2))))) := by
              have hn := nw_i now h2 h1 (xb tp (q + 1))
              rw [← hn]
              cases hb2 : xb tp (q + 1) with
              | true => rfl
              | false => rfl
            have hnb2 := nw_b (b := xb tp (q + 1)) h2
            rw [hbr, isLen_c (by omega), bd_s, nI_1]
            by_cases a4 : 1 ≤ nw (xb tp (q + 1)) now ∧ nw (xb tp (q + 1)) now ≤ 20
            · rw [if_pos a4, if_neg (show ¬ (1 : Int32) = 0 by decide), if_pos a4]
            · rw [if_neg a4, if_pos (show (0 : Int32) = 0 from rfl), if_neg a4]
          rw [hq2]
          show ∃ at2, bd (bd (Unpacker_readLength_J57 (nI now, nI n, (0 : Int32), (-1 : Int32), nI q) (nI q) (nI (xb tp (q + 1)).toNat) (0 : Int32) (-1 : Int32) (nI (q + 1 + 1))) _) _ = _
          rw [hJ, if_pos a3]
          by_cases a4 : 1 ≤ nw (xb tp (q + 1)) now ∧ nw (xb tp (q + 1)) now ≤ 20
          · rw [if_pos a4, if_pos a4, bd_s]
            exact ih (n + 1) _ (q + 2) z (by omega) (by omega) a4.1 a4.2 (by omega)
          · rw [if_neg a4, if_neg a4]
            exact ⟨nI (q + 2), rfl⟩
        · have hq2 : bq F tp (q + 1) = ((-1 : Int32), nI 2, nI (8 * F), nI (8 * F)) := if_neg a3
          rw [hq2, if_neg a3]
          exact ⟨nI (8 * F), rfl⟩
    · have hq1 : bq F tp q = ((-1 : Int32), nI 2, nI (8 * F), nI (8 * F)) := if_neg a1
      rw [hq1, if_neg a1]
      exact ⟨nI (8 * F), rfl⟩
theorem nI_ne1 : ∀ n, n ≤ 20 → ¬ nI n = (-1 : Int32) := by decide
abbrev okE (n : Nat) (r : (Nat × Nat) ⊕ (Nat × (Nat → Nat))) (rt flt fa at' ki : Int32) (lens : Nat → Int32) : Prop := (∀ e, r = Sum.inl e → rt = 0 ∧ flt = nI e.1 ∧ fa = nI e.2) ∧ ∀ v, r = Sum.inr v → rt = 1 ∧ flt = 0 ∧ fa = (-1 : Int32) ∧ at' = nI v.1 ∧ ki = nI n ∧ RS n lens v.2
theorem okE_e {n e p : Nat} {at' ki : Int32} {lens : Nat → Int32} : okE n (Sum.inl (e, p)) (0 : Int32) (nI e) (nI p) at' ki lens := ⟨fun e2 h => (by cases h; exact ⟨rfl, rfl, rfl⟩), fun v h => (by cases h)⟩
theorem okE_r {n q : Nat} {L : Nat → Nat} {lens : Nat → Int32} (h : RS n lens L) : okE n (Sum.inr (q, L)) (1 : Int32) (0 : Int32) (-1 : Int32) (nI q) (nI n) lens := ⟨fun e h2 => (by cases h2), fun v h2 => (by cases h2; exact ⟨rfl, rfl, rfl, rfl, rfl, h⟩)⟩
theorem readLens_c {tp : Nat → Nat} {F nb c q : Nat} {f lens : Nat → Int32} {ki : Int32} (hF : F ≤ nb) (hF2 : F ≤ 10240) (hnb : nb < 1000000) (hf : ∀ j, j < F → f j = nI (tp j)) (hc : c ≤ 256) (hq : q ≤ 8 * F) : ∃ rt tk flt fa at2 ki2 lens2, Unpacker_readLengths_f (nI (8 * F)) (nI F) nb f (0 : Int32) (-1 : Int32) (nI q) ki lens (nI c) = some (rt, tk, flt, fa, at2, ki2, lens2) ∧ okE (c + 2) (lhN (8 * F) (xb tp) (c + 2) q) rt flt fa at2 ki2 lens2 := by
  have key : ∀ (r k now q z : Nat) (L : Nat → Nat) (lens : Nat → Int32) (tk : Int32), r + k = c + 2 → r < z → 1 ≤ now → now ≤ 20 → q ≤ 8 * F → RS k lens L → ∃ rt flt fa at2 lens2, bd (lpF (Unpacker_readLengths_L63 (nI c) (nI (8 * F)) (nI F) nb f) z (nI now, nI k, (0 : Int32), (-1 : Int32), nI q, lens)) (fun u6 => (Sum.elim (fun v7 => some ((0 : Int32), tk, v7.1, v7.2.1, v7.2.2.1, (nI c + (2 : Int32)), v7.2.2.2)) (fun v8 => some ((1 : Int32), tk, v8.1, v8.2.1, v8.2.2.1, (nI c + (2 : Int32)), v8.2.2.2))) u6) = some (rt, tk, flt, fa, at2, nI (c + 2), lens2) ∧ okE (c + 2) (leN (8 * F) (xb tp) r k now q L) rt flt fa at2 (nI (c + 2)) lens2 := by
    intro r
    induction r with
    | zero =>
      intro k now q z L lens tk hrk hz _ _ hq hR
      obtain ⟨z, rfl⟩ : ∃ z2, z = z2 + 1 := ⟨z - 1, by omega⟩
      have hb : Unpacker_readLengths_L63 (nI c) (nI (8 * F)) (nI F) nb f (nI now, nI k, (0 : Int32), (-1 : Int32), nI q, lens) = some (Sum.inr (Sum.inr ((0 : Int32), (-1 : Int32), nI q, lens))) := by
        show (if nI c + nI 2 ≤ nI k then _ else _) = _
        rw [nI_add, if_pos (nI_le (by omega) (by omega))]
      rw [lpF_s, hb, leN, show nI c + (2 : Int32) = nI (c + 2) from nI_add c 2]
      refine ⟨(1 : Int32), (0 : Int32), (-1 : Int32), nI q, lens, rfl, okE_r (fun j hj => hR j (by omega))⟩
    | succ r ih =>
      intro k now q z L lens tk hrk hz h1 h2 hq hR
      obtain ⟨z, rfl⟩ : ∃ z2, z = z2 + 1 := ⟨z - 1, by omega⟩
      rw [lpF_s, leN]
      obtain ⟨at1, e1⟩ := readLen_c (tp := tp) hF hF2 hnb hf (8 * F) 0 now q gas (by omega) (Nat.lt_of_lt_of_le (by omega) gas_le) h1 h2 hq
      have hS : Unpacker_readLengths_L63 (nI c) (nI (8 * F)) (nI F) nb f (nI now, nI k, (0 : Int32), (-1 : Int32), nI q, lens) = bd (some (Sum.elim (fun e => ((-1 : Int32), nI e.1, nI e.2, at1)) (fun v => (nI v.1, (0 : Int32), (-1 : Int32), nI v.2)) (rnN (8 * F) (xb tp) (8 * F) now q))) (fun u11 => (if u11.1 = (-1 : Int32) then some (Sum.inr (Sum.inl (u11.2.1, u11.2.2.1, u11.2.2.2, lens))) else some (Sum.inl (u11.1, nI (k + 1), u11.2.1, u11.2.2.1, u11.2.2.2, upd lens k u11.1)))) := by
        rw [← e1]
        show (if nI c + nI 2 ≤ nI k then _ else bd (Unpacker_readLength_f (nI (8 * F)) (nI F) nb f (nI now) (0 : Int32) (-1 : Int32) (nI q)) (fun u11 => (if u11.1 = (-1 : Int32) then some (Sum.inr (Sum.inl (u11.2.1, u11.2.2.1, u11.2.2.2, lens))) else gd (ix (nI k) 258) (some (Sum.inl (u11.1, nI k + (1 : Int32), u11.2.1, u11.2.2.1, u11.2.2.2, upd lens (nI k).toNatClampNeg u11.1)))))) = _
        rw [nI_add, if_neg (nI_ge (by omega) (by omega)), ixN (show k < 258 by omega) (by omega), nI_clamp (by omega), nI_1]
        rfl
      rw [hS, bd_s]
      cases hr : rnN (8 * F) (xb tp) (8 * F) now q with
      | inl e =>
        obtain ⟨x1, x2⟩ := e
        rw [show nI c + (2 : Int32) = nI (c + 2) from nI_add c 2]
        refine ⟨(0 : Int32), nI x1, nI x2, at1, lens, rfl, okE_e⟩
      | inr v =>
        obtain ⟨n2, q2⟩ := v
        obtain ⟨b1, b2, b3⟩ := rnN_r h1 h2 hr
        show ∃ rt flt fa at2 lens2, bd (bd (if nI n2 = (-1 : Int32) then _ else some (Sum.inl (nI n2, nI (k + 1), (0 : Int32), (-1 : Int32), nI q2, upd lens k (nI n2)))) _) _ = _ ∧ okE (c + 2) (leN (8 * F) (xb tp) r (k + 1) n2 q2 (updN L k n2)) rt flt fa at2 (nI (c + 2)) lens2
        rw [if_neg (nI_ne1 n2 b2), bd_s]
        exact ih (k + 1) n2 q2 z (updN L k n2) (upd lens k (nI n2)) tk (by omega) (by omega) b1 b2 b3 (RS_upd hR)
  unfold Unpacker_readLengths_f lhN
  by_cases h1 : q + 5 ≤ 8 * F
  · rw [show BitReader_take_f (5 : Int32) (nI (8 * F)) (nI F) nb f (0 : Int32) (-1 : Int32) (nI q) = _ from take_c (k := 5) hF hnb hf (by omega) h1, bd_s, if_pos h1, bvI_N _ _ 5 (by omega)]
    have hb5 := bvN_lt (xb tp) q 5
    generalize bvN (xb tp) q 5 = v5 at *
    show ∃ rt tk flt fa at2 ki2 lens2, (if (1 : Int32) = 0 then _ else bd (Unpacker_isLength_f (nI v5)) (fun u3 => (if u3 = 0 then some ((0 : Int32), nI v5, nI 6, nI q, nI (q + 5), ki, lens) else bd (lpF (Unpacker_readLengths_L63 (nI c) (nI (8 * F)) (nI F) nb f) gas (nI v5, (0 : Int32), (0 : Int32), (-1 : Int32), nI (q + 5), lens)) (fun u6 => (Sum.elim (fun v7 => some ((0 : Int32), nI v5, v7.1, v7.2.1, v7.2.2.1, (nI c + (2 : Int32)), v7.2.2.2)) (fun v8 => some ((1 : Int32), nI v5, v8.1, v8.2.1, v8.2.2.1, (nI c + (2 : Int32)), v8.2.2.2))) u6)))) = _ ∧ _
    rw [if_neg (show ¬ (1 : Int32) = 0 by decide), isLen_c (by omega), bd_s]
    by_cases h2 : 1 ≤ v5 ∧ v5 ≤ 20
    · rw [if_pos h2, if_pos h2, if_neg (show ¬ (1 : Int32) = 0 by decide)]
      obtain ⟨rt, flt, fa, at2, lens2, ek, hk⟩ := key (c + 2) 0 v5 (q + 5) gas (fun _ => 0) lens (nI v5) (by omega) (Nat.lt_of_lt_of_le (by omega) gas_le) h2.1 h2.2 h1 (fun j hj => absurd hj (Nat.not_lt_zero _))
      exact ⟨rt, nI v5, flt, fa, at2, nI (c + 2), lens2, ek, hk⟩
    · rw [if_neg h2, if_neg h2, if_pos (show (0 : Int32) = 0 from rfl)]
      exact ⟨_, _, _, _, _, _, _, rfl, okE_e⟩
  · obtain ⟨tk, et⟩ := take_ce (k := 5) (flt := (0 : Int32)) (fa := (-1 : Int32)) hF hnb hf (by omega) hq (show 8 * F < q + 5 by omega)
    rw [show BitReader_take_f (5 : Int32) (nI (8 * F)) (nI F) nb f (0 : Int32) (-1 : Int32) (nI q) = _ from et, bd_s, if_neg h1]
    exact ⟨_, _, _, _, _, _, _, rfl, okE_e⟩
