/-! UNPACKING: the tables, the class's -/
abbrev TZ (fs pl : Nat → Nat → Int32) : Prop := ∀ s, s < 6 → fs s 0 = 0 ∧ pl s 0 = 0
abbrev TT (t n : Nat) (LT : Nat → Nat → Nat) (co : Nat → Nat → Int32) (fi : Nat → Int32) (fs pl cd so : Nat → Nat → Int32) : Prop := ∀ s, s < t → tab (LT s) n (co s) (fs s) (pl s) (cd s) (so s) ∧ fi s = nI (kf (LT s) n) ∧ kf (LT s) n ≤ 2 ^ 20 ∧ ∀ k, k < n → 1 ≤ LT s k ∧ LT s k ≤ 20
abbrev okT (tc n : Nat) (r : (Nat × Nat) ⊕ (Nat × (Nat → Nat → Nat))) (rt flt fa at' : Int32) (co : Nat → Nat → Int32) (fi : Nat → Int32) (fs pl cd so : Nat → Nat → Int32) : Prop := TZ fs pl ∧ (∀ e, r = Sum.inl e → rt = 0 ∧ flt = nI e.1 ∧ fa = nI e.2) ∧ ∀ v, r = Sum.inr v → rt = 1 ∧ flt = 0 ∧ fa = (-1 : Int32) ∧ at' = nI v.1 ∧ TT tc n v.2 co fi fs pl cd so
theorem okT_e {tc n e p : Nat} {at' : Int32} {fi : Nat → Int32} {co fs pl cd so : Nat → Nat → Int32} (h : TZ fs pl) : okT tc n (Sum.inl (e, p)) (0 : Int32) (nI e) (nI p) at' co fi fs pl cd so := ⟨h, fun e2 h => (by cases h; exact ⟨rfl, rfl, rfl⟩), fun v h => (by cases h)⟩
theorem okT_r {tc n q : Nat} {LT : Nat → Nat → Nat} {fi : Nat → Int32} {co fs pl cd so : Nat → Nat → Int32} (h : TZ fs pl) (h2 : TT tc n LT co fi fs pl cd so) : okT tc n (Sum.inr (q, LT)) (1 : Int32) (0 : Int32) (-1 : Int32) (nI q) co fi fs pl cd so := ⟨h, fun e h2 => (by cases h2), fun v h3 => (by cases h3; exact ⟨rfl, rfl, rfl, rfl, h2⟩)⟩
theorem TZ_up {fs pl : Nat → Nat → Int32} {t : Nat} {f p : Nat → Int32} (h : TZ fs pl) (h1 : f 0 = 0) (h2 : p 0 = 0) : TZ (va_up fs t f) (va_up pl t p) := by
  intro s hs
  by_cases hst : s = t
  · rw [hst, va_up_self, va_up_self]; exact ⟨h1, h2⟩
  · rw [va_up_ne _ _ hst, va_up_ne _ _ hst]; exact h s hs
theorem readTables_c {tp : Nat → Nat} {F nb c tc : Nat} {f : Nat → Int32} (hF : F ≤ nb) (hF2 : F ≤ 10240) (hnb : nb < 1000000) (hf : ∀ j, j < F → f j = nI (tp j)) (hc : c ≤ 256) (htc : tc ≤ 6) : ∀ (r t z q : Nat) (LT : Nat → Nat → Nat) (tk : Int32) (ki : Nat → Int32) (le co : Nat → Nat → Int32) (fi : Nat → Int32) (fs pl cd so : Nat → Nat → Int32), r + t = tc → r < z → q ≤ 8 * F → TZ fs pl → TT t (c + 2) LT co fi fs pl cd so →
    ∃ rt tk2 flt fa at2 ki2 le2 co2 fi2 fs2 pl2 cd2 so2, bd (lpF (Unpacker_readTables_L2 (nI tc) (nI (8 * F)) (nI F) nb f (nI c)) z (nI t, tk, (0 : Int32), (-1 : Int32), nI q, ki, le, co, fi, fs, pl, cd, so)) (fun u2 => (Sum.elim (fun v3 => some ((0 : Int32), v3.1, v3.2.1, v3.2.2.1, v3.2.2.2.1, v3.2.2.2.2.1, v3.2.2.2.2.2.1, v3.2.2.2.2.2.2.1, v3.2.2.2.2.2.2.2.1, v3.2.2.2.2.2.2.2.2.1, v3.2.2.2.2.2.2.2.2.2.1, v3.2.2.2.2.2.2.2.2.2.2.1, v3.2.2.2.2.2.2.2.2.2.2.2)) (Sum.elim (fun v4 => bd (BitReader_fail_f (6 : Int32) v4.1) (fun u5 => gd (bl u5.1) (some (u5.1, v4.2.1, u5.2.1, u5.2.2, v4.2.2.2.2.1, v4.2.2.2.2.2.1, v4.2.2.2.2.2.2.1, v4.2.2.2.2.2.2.2.1, v4.2.2.2.2.2.2.2.2.1, v4.2.2.2.2.2.2.2.2.2.1, v4.2.2.2.2.2.2.2.2.2.2.1, v4.2.2.2.2.2.2.2.2.2.2.2.1, v4.2.2.2.2.2.2.2.2.2.2.2.2)))) (fun v7 => some ((1 : Int32), v7.1, v7.2.1, v7.2.2.1, v7.2.2.2.1, v7.2.2.2.2.1, v7.2.2.2.2.2.1, v7.2.2.2.2.2.2.1, v7.2.2.2.2.2.2.2.1, v7.2.2.2.2.2.2.2.2.1, v7.2.2.2.2.2.2.2.2.2.1, v7.2.2.2.2.2.2.2.2.2.2.1, v7.2.2.2.2.2.2.2.2.2.2.2)))) u2) = some (rt, tk2, flt, fa, at2, ki2, le2, co2, fi2, fs2, pl2, cd2, so2) ∧ okT tc (c + 2) (tbN (8 * F) (xb tp) (c + 2) r t q LT) rt flt fa at2 co2 fi2 fs2 pl2 cd2 so2 := by
  intro r
  induction r with
  | zero =>
    intro t z q LT tk ki le co fi fs pl cd so hrt hz hq hZ hT
    obtain ⟨z, rfl⟩ : ∃ z2, z = z2 + 1 := ⟨z - 1, by omega⟩
    have hb : Unpacker_readTables_L2 (nI tc) (nI (8 * F)) (nI F) nb f (nI c) (nI t, tk, (0 : Int32), (-1 : Int32), nI q, ki, le, co, fi, fs, pl, cd, so) = some (Sum.inr (Sum.inr (Sum.inr (tk, (0 : Int32), (-1 : Int32), nI q, ki, le, co, fi, fs, pl, cd, so)))) := by
      show (if nI tc ≤ nI t then _ else _) = _
      rw [if_pos (nI_le (by omega) (by omega))]
    rw [lpF_s, hb, tbN]
    exact ⟨_, _, _, _, _, _, _, _, _, _, _, _, _, rfl, okT_r hZ (fun s hs => hT s (by omega))⟩
  | succ r ih =>
    intro t z q LT tk ki le co fi fs pl cd so hrt hz hq hZ hT
    obtain ⟨z, rfl⟩ : ∃ z2, z = z2 + 1 := ⟨z - 1, by omega⟩
    rw [lpF_s, tbN]
    obtain ⟨rt, tk2, flt, fa, at2, ki2, le2, e1, h1, h2⟩ := readLens_c (tp := tp) (ki := ki t) (lens := le t) hF hF2 hnb hf hc hq
    have hL : Unpacker_readTables_L2 (nI tc) (nI (8 * F)) (nI F) nb f (nI c) (nI t, tk, (0 : Int32), (-1 : Int32), nI q, ki, le, co, fi, fs, pl, cd, so) = (if rt = 0 then some (Sum.inr (Sum.inl (tk2, flt, fa, at2, va_up ki t ki2, va_up le t le2, co, fi, fs, pl, cd, so))) else bd (CodeTable_assign_f (co t) ki2 le2 (fs t) (pl t) (cd t) (so t)) (fun u14 => (if u14.1 = 0 then some (Sum.inr (Sum.inr (Sum.inl (nI q, tk2, flt, fa, at2, va_up ki t ki2, va_up le t le2, va_up co t u14.2.1, va_up fi t u14.2.2.1, va_up fs t u14.2.2.2.1, va_up pl t u14.2.2.2.2.1, va_up cd t u14.2.2.2.2.2.1, va_up so t u14.2.2.2.2.2.2)))) else some (Sum.inl (nI (t + 1), tk2, flt, fa, at2, va_up ki t ki2, va_up le t le2, va_up co t u14.2.1, va_up fi t u14.2.2.1, va_up fs t u14.2.2.2.1, va_up pl t u14.2.2.2.2.1, va_up cd t u14.2.2.2.2.2.1, va_up so t u14.2.2.2.2.2.2))))) := by
      show (if nI tc ≤ nI t then _ else gd (ix (nI t) 6) (bd (Unpacker_readLengths_f (nI (8 * F)) (nI F) nb f (0 : Int32) (-1 : Int32) (nI q) (ki (nI t).toNatClampNeg) (le (nI t).toNatClampNeg) (nI c)) (fun u11 => (if u11.1 = 0 then some (Sum.inr (Sum.inl (u11.2.1, u11.2.2.1, u11.2.2.2.1, u11.2.2.2.2.1, va_up ki (nI t).toNatClampNeg u11.2.2.2.2.2.1, va_up le (nI t).toNatClampNeg u11.2.2.2.2.2.2, co, fi, fs, pl, cd, so))) else gd (ix (nI t) 6) (bd (CodeTable_assign_f (co (nI t).toNatClampNeg) ((va_up ki (nI t).toNatClampNeg u11.2.2.2.2.2.1) (nI t).toNatClampNeg) ((va_up le (nI t).toNatClampNeg u11.2.2.2.2.2.2) (nI t).toNatClampNeg) (fs (nI t).toNatClampNeg) (pl (nI t).toNatClampNeg) (cd (nI t).toNatClampNeg) (so (nI t).toNatClampNeg)) (fun u14 => (if u14.1 = 0 then some (Sum.inr (Sum.inr (Sum.inl (nI q, u11.2.1, u11.2.2.1, u11.2.2.2.1, u11.2.2.2.2.1, va_up ki (nI t).toNatClampNeg u11.2.2.2.2.2.1, va_up le (nI t).toNatClampNeg u11.2.2.2.2.2.2, va_up co (nI t).toNatClampNeg u14.2.1, va_up fi (nI t).toNatClampNeg u14.2.2.1, va_up fs (nI t).toNatClampNeg u14.2.2.2.1, va_up pl (nI t).toNatClampNeg u14.2.2.2.2.1, va_up cd (nI t).toNatClampNeg u14.2.2.2.2.2.1, va_up so (nI t).toNatClampNeg u14.2.2.2.2.2.2)))) else some (Sum.inl (nI t + (1 : Int32), u11.2.1, u11.2.2.1, u11.2.2.2.1, u11.2.2.2.2.1, va_up ki (nI t).toNatClampNeg u11.2.2.2.2.2.1, va_up le (nI t).toNatClampNeg u11.2.2.2.2.2.2, va_up co (nI t).toNatClampNeg u14.2.1, va_up fi (nI t).toNatClampNeg u14.2.2.1, va_up fs (nI t).toNatClampNeg u14.2.2.2.1, va_up pl (nI t).toNatClampNeg u14.2.2.2.2.1, va_up cd (nI t).toNatClampNeg u14.2.2.2.2.2.1, va_up so (nI t).toNatClampNeg u14.2.2.2.2.2.2))))))))) = _
      rw [if_neg (nI_ge (by omega) (by omega)), ixN (show t < 6 by omega) (by omega), gd_t, nI_clamp (show t < 2 ^ 31 by omega), e1, bd_s, gd_t, nI_1]
      show (if rt = 0 then _ else bd (CodeTable_assign_f (co t) ((va_up ki t ki2) t) ((va_up le t le2) t) (fs t) (pl t) (cd t) (so t)) _) = _
      rw [va_up_self, va_up_self]
    rw [hL]
    unfold ltN
    cases hl : lhN (8 * F) (xb tp) (c + 2) q with
    | inl e =>
      obtain ⟨x1, x2⟩ := e
      obtain ⟨a1, a2, a3⟩ := h1 _ hl
      have a2 : flt = nI x1 := a2
      have a3 : fa = nI x2 := a3
      rw [if_pos a1, a2, a3]
      exact ⟨_, _, _, _, _, _, _, _, _, _, _, _, _, rfl, okT_e hZ⟩
    | inr v =>
      obtain ⟨q2, L2⟩ := v
      obtain ⟨a1, a2, a3, a4, a5, a6⟩ := h2 _ hl
      have a4 : at2 = nI q2 := a4
      have a6 : RS (c + 2) le2 L2 := a6
      rw [a1, if_neg (show ¬ (1 : Int32) = 0 by decide), a2, a3, a4, a5]
      have hlr : q2 ≤ 8 * F ∧ ∀ j, j < c + 2 → 1 ≤ L2 j ∧ L2 j ≤ 20 := by
        unfold lhN at hl
        by_cases b1 : q + 5 ≤ 8 * F
        · rw [if_pos b1] at hl
          by_cases b2 : 1 ≤ bvN (xb tp) q 5 ∧ bvN (xb tp) q 5 ≤ 20
          · rw [if_pos b2] at hl
            obtain ⟨c1, c2⟩ := leN_r _ _ _ _ _ _ _ b2.1 b2.2 b1 (fun j hj => absurd hj (Nat.not_lt_zero _)) hl
            exact ⟨c1, fun j hj => c2 j (by omega)⟩
          · rw [if_neg b2] at hl; cases hl
        · rw [if_neg b1] at hl; cases hl
      obtain ⟨as1, as2⟩ := assign_eq (n := c + 2) (counts := co t) (lens := le2) (firsts := fs t) (places := pl t) (codes := cd t) (sorted := so t) (L := L2) (by omega) (fun k hk => ⟨a6 k hk, (hlr.2 k hk).1, (hlr.2 k hk).2⟩) (hZ t (by omega)).1 (hZ t (by omega)).2
      by_cases hk : kf L2 (c + 2) ≤ 2 ^ 20
      · obtain ⟨c2, f2, p2, d2, s2, e3, h3, h4, h5⟩ := as1 hk
        rw [e3, bd_s]
        show ∃ rt tk2 flt fa at2 ki2 le2 co2 fi2 fs2 pl2 cd2 so2, bd (bd (if (1 : Int32) = 0 then _ else some (Sum.inl (nI (t + 1), _, (0 : Int32), (-1 : Int32), nI q2, va_up ki t _, va_up le t _, va_up co t c2, va_up fi t (nI (kf L2 (c + 2))), va_up fs t f2, va_up pl t p2, va_up cd t d2, va_up so t s2))) _) _ = _ ∧ okT tc (c + 2) (Sum.elim (fun e => Sum.inl e) (fun v => tbN (8 * F) (xb tp) (c + 2) r (t + 1) v.1 (fuN LT t v.2)) (if kf L2 (c + 2) ≤ 2 ^ 20 then Sum.inr (q2, L2) else Sum.inl (6, q))) rt flt fa at2 co2 fi2 fs2 pl2 cd2 so2
        rw [if_neg (show ¬ (1 : Int32) = 0 by decide), bd_s, if_pos hk]
        refine ih (t + 1) z q2 (fuN LT t L2) _ _ _ _ _ _ _ _ _ (by omega) (by omega) hlr.1 (TZ_up hZ h4 h5) (fun s hs => ?_)
        unfold fuN
        by_cases hst : s = t
        · rw [if_pos hst, hst, va_up_self, va_up_self, va_up_self, va_up_self, va_up_self, va_up_self]
          exact ⟨h3, rfl, hk, hlr.2⟩
        · rw [if_neg hst, va_up_ne _ _ hst, va_up_ne _ _ hst, va_up_ne _ _ hst, va_up_ne _ _ hst, va_up_ne _ _ hst, va_up_ne _ _ hst]
          exact hT s (by omega)
      · obtain ⟨c2, e3⟩ := as2 (by omega)
        rw [e3, bd_s]
        show ∃ rt tk2 flt fa at2 ki2 le2 co2 fi2 fs2 pl2 cd2 so2, bd (bd (if (0 : Int32) = 0 then some (Sum.inr (Sum.inr (Sum.inl (nI q, _, (0 : Int32), (-1 : Int32), nI q2, va_up ki t _, va_up le t _, va_up co t c2, va_up fi t (nI (kf L2 (c + 2))), va_up fs t (fs t), va_up pl t (pl t), va_up cd t (cd t), va_up so t (so t))))) else _) _) _ = _ ∧ okT tc (c + 2) (Sum.elim (fun e => Sum.inl e) (fun v => tbN (8 * F) (xb tp) (c + 2) r (t + 1) v.1 (fuN LT t v.2)) (if kf L2 (c + 2) ≤ 2 ^ 20 then Sum.inr (q2, L2) else Sum.inl (6, q))) rt flt fa at2 co2 fi2 fs2 pl2 cd2 so2
        rw [if_pos rfl, if_neg hk]
        exact ⟨_, _, _, _, _, _, _, _, _, _, _, _, _, rfl, okT_e (TZ_up hZ (hZ t (by omega)).1 (hZ t (by omega)).2)⟩
