/-! UNPACKING: LAST, from the symbols -/
def flN (R : Nat → Nat) (a b v : Nat) : Nat → Nat := fun j => if a ≤ j ∧ j < b then v else R j
theorem RS_fl {n b v : Nat} {f : Nat → Int32} {R : Nat → Nat} (h : RS n f R) (hb : n ≤ b) : RS b (flr f n b (nI v)) (flN R n b v) := by
  intro j hj
  unfold flr flN
  by_cases h1 : n ≤ j ∧ j < b
  · rw [if_pos h1, if_pos h1]
  · rw [if_neg h1, if_neg h1]
    exact h j (by omega)
theorem mtfN_0 (g : Nat → Nat) : mtfN g 0 = g := by
  funext j
  unfold mtfN
  by_cases h : j = 0
  · rw [if_pos h, h]
  · rw [if_neg h, if_neg (by omega)]
theorem dc_b {L : Nat → Nat} {N E q : Nat} {x : Nat → Bool} : ∀ {r s q2 : Nat}, r ≤ 20 → dcN L N E x q r = Sum.inr (s, q2) → s < N ∧ q2 ≤ E ∧ q < q2 := by
  intro r
  induction r with
  | zero => intro s q2 _ h; cases h
  | succ r ih =>
    intro s q2 hr h
    rw [dcN] at h
    by_cases h1 : E < q + (20 - r)
    · rw [if_pos h1] at h
      cases h
    · rw [if_neg h1] at h
      by_cases h2 : fstN L N (20 - r) ≤ bvN x q (20 - r) ∧ bvN x q (20 - r) < fstN L N (20 - r) + cnt (fun j => decide (L j = 20 - r)) N
      · rw [if_pos h2] at h
        obtain ⟨k, hk1, hk2, hk3, _⟩ := cd_at h2.1 h2.2
        rw [hk_eq hk1 hk2 hk3] at h
        have h3 := Sum.inr.inj h
        have h4 : k = s := congrArg Prod.fst h3
        have h5 : q + (20 - r) = q2 := congrArg Prod.snd h3
        omega
      · rw [if_neg h2] at h
        by_cases h3 : bvN x q (20 - r) * 2 ^ r < kf L N
        · rw [if_pos h3] at h
          exact ih (by omega) h
        · rw [if_neg h3] at h
          cases h
/-- the symbols from the i-th on; n bytes of LAST are there -/
noncomputable def rlN (dec : Nat → Nat → (Nat × Nat) ⊕ (Nat × Nat)) (tbl : Nat → Nat) (G c most bAt : Nat) : Nat → Nat → Nat → Nat → Nat → (Nat → Nat) → (Nat → Nat) → (Nat × Nat) ⊕ (Nat × (Nat → Nat) × Nat)
  | 0, _, _, _, _, _, _ => Sum.inl (10, bAt)
  | f + 1, i, q, n, dg, g, R => if 50 * G ≤ i then Sum.inl (10, bAt) else Sum.elim (fun e => Sum.inl e) (fun v => if v.1 = c + 1 then (if i / 50 = G - 1 then Sum.inr (n, R, v.2) else Sum.inl (10, bAt)) else if v.1 ≤ 1 then (if n + dg * 2 ^ v.1 ≤ most then rlN dec tbl G c most bAt f (i + 1) v.2 (n + dg * 2 ^ v.1) (2 * dg) g (flN R n (n + dg * 2 ^ v.1) (g 0)) else Sum.inl (8, q)) else (if n + 1 ≤ most then rlN dec tbl G c most bAt f (i + 1) v.2 (n + 1) 1 (mtfN g (v.1 - 1)) (flN R n (n + 1) (g (v.1 - 1))) else Sum.inl (8, q))) (dec (tbl (i / 50)) q)
/-- then: where the block's first byte is to be found there -/
noncomputable def rl2 (r : (Nat × Nat) ⊕ (Nat × (Nat → Nat) × Nat)) (og ogAt : Nat) : (Nat × Nat) ⊕ (Nat × (Nat → Nat) × Nat) := Sum.elim (fun e => Sum.inl e) (fun v => if og < v.1 then Sum.inr v else Sum.inl (9, ogAt)) r
abbrev okL (r : (Nat × Nat) ⊕ (Nat × (Nat → Nat) × Nat)) (rt lc flt fa at' : Int32) (last : Nat → Int32) : Prop := (∀ e, r = Sum.inl e → rt = 0 ∧ flt = nI e.1 ∧ fa = nI e.2) ∧ ∀ v, r = Sum.inr v → rt = 1 ∧ lc = nI v.1 ∧ flt = 0 ∧ fa = (-1 : Int32) ∧ at' = nI v.2.2 ∧ RS v.1 last v.2.1
theorem okL_e {e p : Nat} {lc at' : Int32} {last : Nat → Int32} : okL (Sum.inl (e, p)) (0 : Int32) lc (nI e) (nI p) at' last := ⟨fun e2 h => by cases h; exact ⟨rfl, rfl, rfl⟩, fun v h => by cases h⟩
theorem okL_r {n q : Nat} {R : Nat → Nat} {last : Nat → Int32} (h : RS n last R) : okL (Sum.inr (n, R, q)) (1 : Int32) (nI n) (0 : Int32) (-1 : Int32) (nI q) last := ⟨fun e h2 => (by cases h2), fun v h2 => (by cases h2; exact ⟨rfl, rfl, rfl, rfl, rfl, h⟩)⟩
theorem readLast_c {tp : Nat → Nat} {F nb c G most og ogAt bAt : Nat} {fb gt : Nat → Int32} {fs co pl cd so : Nat → Nat → Int32} {fi : Nat → Int32} {tbl : Nat → Nat} {Lt : Nat → Nat → Nat} {tc : Nat} (hF : F ≤ nb) (hF2 : F ≤ 10240) (hnb : nb < 1000000) (hf : ∀ j, j < F → fb j = nI (tp j)) (hc1 : 1 ≤ c) (hc : c ≤ 256) (hG : G < 32768) (hmost : most ≤ 2250) (htc : tc ≤ 6) (hgt : ∀ g, g < 46 → g < G → gt g = nI (tbl g) ∧ tbl g < tc) (hT : ∀ t, t < tc → tab (Lt t) (c + 2) (co t) (fs t) (pl t) (cd t) (so t) ∧ fi t = nI (kf (Lt t) (c + 2)) ∧ kf (Lt t) (c + 2) ≤ 2 ^ 20 ∧ ∀ k, k < c + 2 → 1 ≤ Lt t k ∧ Lt t k ≤ 20) (hog : og < 65536) (hogAt : ogAt < 100000) (hbAt : bAt < 100000) :
    ∀ (f i q n dg : Nat) (g R : Nat → Nat) (mem last : Nat → Int32) (z : Nat), f + i = 2252 → i ≤ n → n ≤ most → 1 ≤ dg → dg ≤ n + 1 → q ≤ 8 * F → RS c mem g → RS n last R → f < z →
    ∃ rt lc flt fa at2 mem2 last2, bd (lpF (Unpacker_readLast_L9 (nI G) gt (nI (8 * F)) (nI F) nb fb fs fi co pl so (nI c) (nI most)) z (nI dg, nI i, nI n, (0 : Int32), (-1 : Int32), nI q, mem, last)) (fun u2 => (Sum.elim (fun v3 => some ((0 : Int32), v3.1, v3.2.1, v3.2.2.1, v3.2.2.2.1, v3.2.2.2.2.1, v3.2.2.2.2.2)) (Sum.elim (fun v4 => bd (Unpacker_endLast_f (v4.1 / (50 : Int32)) (nI G) (nI og) v4.2.1 v4.2.2.1 v4.2.2.2.1 (nI ogAt) (nI bAt)) (fun u5 => gd (bl u5.1) (some (u5.1, v4.2.1, u5.2.1, u5.2.2, v4.2.2.2.2.1, v4.2.2.2.2.2.1, v4.2.2.2.2.2.2)))) (Sum.elim (fun v7 => bd (BitReader_fail_f (8 : Int32) v7.1) (fun u8 => gd (bl u8.1) (some (u8.1, v7.2.1, u8.2.1, u8.2.2, v7.2.2.2.2.1, v7.2.2.2.2.2.1, v7.2.2.2.2.2.2)))) (fun v10 => bd (BitReader_fail_f (10 : Int32) (nI bAt)) (fun u11 => gd (bl u11.1) (some (u11.1, v10.1, u11.2.1, u11.2.2, v10.2.2.2.1, v10.2.2.2.2.1, v10.2.2.2.2.2))))))) u2) = some (rt, lc, flt, fa, at2, mem2, last2) ∧ okL (rl2 (rlN (fun t q => dcN (Lt t) (c + 2) (8 * F) (xb tp) q 20) tbl G c most bAt f i q n dg g R) og ogAt) rt lc flt fa at2 last2 := by
  intro f
  induction f with
  | zero => intro i q n dg g R mem last z h1 h2 h3; omega
  | succ f ih =>
    intro i q n dg g R mem last z hfi hin hnm hdg1 hdg2 hq hmem hlast hz
    obtain ⟨z, rfl⟩ : ∃ z2, z = z2 + 1 := ⟨z - 1, by omega⟩
    rw [lpF_s]
    by_cases hend : 50 * G ≤ i
    · have hb : Unpacker_readLast_L9 (nI G) gt (nI (8 * F)) (nI F) nb fb fs fi co pl so (nI c) (nI most) (nI dg, nI i, nI n, (0 : Int32), (-1 : Int32), nI q, mem, last) = some (Sum.inr (Sum.inr (Sum.inr (Sum.inr (nI n, (0 : Int32), (-1 : Int32), nI q, mem, last))))) := by
        show (if nI 2251 ≤ nI i then _ else (if nI G * nI 50 ≤ nI i then _ else _)) = _
        rw [if_neg (nI_ge (by omega) (by omega)), pk_mul, if_pos (nI_le (by omega) (by omega))]
      rw [hb, rlN, if_pos hend]
      exact ⟨_, _, _, _, _, _, _, rfl, okL_e⟩
    · rw [rlN, if_neg hend]
      obtain ⟨hg1, hg2⟩ := hgt (i / 50) (by omega) (by omega)
      obtain ⟨ht1, ht2, ht3, ht4⟩ := hT (tbl (i / 50)) hg2
      obtain ⟨at2, er⟩ := read_c (tp := tp) (q := q) hF hF2 hnb hf (show c + 2 ≤ 258 by omega) ht4 ht1 ht3 hq
      have hL : Unpacker_readLast_L9 (nI G) gt (nI (8 * F)) (nI F) nb fb fs fi co pl so (nI c) (nI most) (nI dg, nI i, nI n, (0 : Int32), (-1 : Int32), nI q, mem, last) = bd (some (ansC (dcN (Lt (tbl (i / 50))) (c + 2) (8 * F) (xb tp) q 20) at2)) (fun u24 => (if u24.1 = (-1 : Int32) then some (Sum.inr (Sum.inl (nI n, u24.2.1, u24.2.2.1, u24.2.2.2, mem, last))) else (if u24.1 = nI c + (1 : Int32) then some (Sum.inr (Sum.inr (Sum.inl (nI i, nI n, u24.2.1, u24.2.2.1, u24.2.2.2, mem, last)))) else (if (1 : Int32) < u24.1 then Unpacker_readLast_J100 (nI dg, nI i, nI n, (0 : Int32), (-1 : Int32), nI q, mem, last) (nI most) (nI c) (nI q) u24.1 (0 : Int32) u24.2.1 u24.2.2.1 u24.2.2.2 else Unpacker_readLast_J100 (nI dg, nI i, nI n, (0 : Int32), (-1 : Int32), nI q, mem, last) (nI most) (nI c) (nI q) u24.1 (1 : Int32) u24.2.1 u24.2.2.1 u24.2.2.2)))) := by
        rw [← er, ← ht2]
        show (if nI 2251 ≤ nI i then _ else (if nI G * nI 50 ≤ nI i then _ else gd (ix (nI i / nI 50) 46) (gd (ix (gt (nI i / nI 50).toNatClampNeg) 6) (bd (CodeTable_read_f (nI (8 * F)) (nI F) nb fb (fs (gt (nI i / nI 50).toNatClampNeg).toNatClampNeg) (fi (gt (nI i / nI 50).toNatClampNeg).toNatClampNeg) (co (gt (nI i / nI 50).toNatClampNeg).toNatClampNeg) (0 : Int32) (-1 : Int32) (nI q) (pl (gt (nI i / nI 50).toNatClampNeg).toNatClampNeg) (so (gt (nI i / nI 50).toNatClampNeg).toNatClampNeg)) _)))) = _
        rw [if_neg (nI_ge (by omega) (by omega)), pk_mul, if_neg (nI_ge (by omega) (by omega)), pk_div (show i < 2 ^ 31 by omega) (by omega) (by omega), nI_clamp (show i / 50 < 2 ^ 31 by omega), hg1, nI_clamp (show tbl (i / 50) < 2 ^ 31 by omega), ixN (show i / 50 < 46 by omega) (by omega), ixN (show tbl (i / 50) < 6 by omega) (by omega)]
        rfl
      rw [hL, bd_s]
      show ∃ rt lc flt fa at2 mem2 last2, _ ∧ okL (rl2 (Sum.elim _ _ (dcN (Lt (tbl (i / 50))) (c + 2) (8 * F) (xb tp) q 20)) og ogAt) rt lc flt fa at2 last2
      cases hd : dcN (Lt (tbl (i / 50))) (c + 2) (8 * F) (xb tp) q 20 with
      | inl e =>
        obtain ⟨e1, e2⟩ := e
        exact ⟨_, _, _, _, _, _, _, rfl, okL_e⟩
      | inr v =>
        obtain ⟨s, q2⟩ := v
        obtain ⟨hs, hq2, _⟩ := dc_b (Nat.le_refl 20) hd
        have hsn : ¬ nI s = (-1 : Int32) := fun q3 => by
          have h5 := congrArg Int32.toInt q3
          rw [nI_toInt (by omega)] at h5
          have h6 : ((-1 : Int32)).toInt = -1 := by decide
          omega
        show ∃ rt lc flt fa at2 mem2 last2, bd (bd (if nI s = (-1 : Int32) then some (Sum.inr (Sum.inl (nI n, (0 : Int32), (-1 : Int32), nI q2, mem, last))) else (if nI s = nI c + (1 : Int32) then some (Sum.inr (Sum.inr (Sum.inl (nI i, nI n, (0 : Int32), (-1 : Int32), nI q2, mem, last)))) else (if (1 : Int32) < nI s then Unpacker_readLast_J100 (nI dg, nI i, nI n, (0 : Int32), (-1 : Int32), nI q, mem, last) (nI most) (nI c) (nI q) (nI s) (0 : Int32) (0 : Int32) (-1 : Int32) (nI q2) else Unpacker_readLast_J100 (nI dg, nI i, nI n, (0 : Int32), (-1 : Int32), nI q, mem, last) (nI most) (nI c) (nI q) (nI s) (1 : Int32) (0 : Int32) (-1 : Int32) (nI q2)))) (fun u => Sum.elim (lpF (Unpacker_readLast_L9 (nI G) gt (nI (8 * F)) (nI F) nb fb fs fi co pl so (nI c) (nI most)) z) some u)) _ = _ ∧ okL (rl2 (if s = c + 1 then (if i / 50 = G - 1 then Sum.inr (n, R, q2) else Sum.inl (10, bAt)) else if s ≤ 1 then (if n + dg * 2 ^ s ≤ most then rlN (fun t q => dcN (Lt t) (c + 2) (8 * F) (xb tp) q 20) tbl G c most bAt f (i + 1) q2 (n + dg * 2 ^ s) (2 * dg) g (flN R n (n + dg * 2 ^ s) (g 0)) else Sum.inl (8, q)) else (if n + 1 ≤ most then rlN (fun t q => dcN (Lt t) (c + 2) (8 * F) (xb tp) q 20) tbl G c most bAt f (i + 1) q2 (n + 1) 1 (mtfN g (s - 1)) (flN R n (n + 1) (g (s - 1))) else Sum.inl (8, q))) og ogAt) rt lc flt fa at2 last2
        rw [if_neg hsn, nI_1]
        by_cases hsc : s = c + 1
        · rw [if_pos (show nI s = nI (c + 1) by rw [hsc]), if_pos hsc]
          show ∃ rt lc flt fa at2 mem2 last2, bd (Unpacker_endLast_f (nI i / nI 50) (nI G) (nI og) (nI n) (0 : Int32) (-1 : Int32) (nI ogAt) (nI bAt)) (fun u5 => gd (bl u5.1) (some (u5.1, nI n, u5.2.1, u5.2.2, nI q2, mem, last))) = _ ∧ _
          rw [pk_div (show i < 2 ^ 31 by omega) (by omega) (by omega)]
          unfold Unpacker_endLast_f Unpacker_endLast_J51 Unpacker_endLast_J56
          rw [show nI G - (1 : Int32) = nI (G - 1) from pk_sub (show 1 ≤ G by omega)]
          by_cases hgr : i / 50 = G - 1
          · rw [if_pos (show nI (i / 50) = nI (G - 1) by rw [hgr]), if_pos hgr]
            by_cases ho : og < n
            · have hr2 : rl2 (Sum.inr (n, R, q2)) og ogAt = Sum.inr (n, R, q2) := if_pos ho
              rw [if_pos (nI_lt ho (by omega)), hr2]
              exact ⟨_, _, _, _, _, _, _, rfl, okL_r hlast⟩
            · have hr2 : rl2 (Sum.inr (n, R, q2)) og ogAt = Sum.inl (9, ogAt) := if_neg ho
              rw [if_neg (nI_nlt (by omega) (by omega)), hr2]
              exact ⟨_, _, _, _, _, _, _, rfl, okL_e⟩
          · rw [if_neg (show ¬ nI (i / 50) = nI (G - 1) by rw [nI_eq (by omega) (by omega)]; exact hgr), if_neg hgr]
            exact ⟨_, _, _, _, _, _, _, rfl, okL_e⟩
        · rw [if_neg (show ¬ nI s = nI (c + 1) by rw [nI_eq (by omega) (by omega)]; exact hsc), if_neg hsc]
          have hJ159 : ∀ (j0 j1 j2 : Int32) (times a : Nat), j1 = nI times → j2 = nI a → a < c → 1 ≤ times → n + times ≤ 2250 → Unpacker_readLast_J159 (nI dg, nI i, nI n, (0 : Int32), (-1 : Int32), nI q, mem, last) (nI c) j0 j1 j2 (0 : Int32) (-1 : Int32) (nI q2) = (if j0 = 0 then some (Sum.inl (nI 1, nI (i + 1), nI (n + times), (0 : Int32), (-1 : Int32), nI q2, mtf mem a, flr last n (n + times) (nI (g a)))) else some (Sum.inl (nI (2 * dg), nI (i + 1), nI (n + times), (0 : Int32), (-1 : Int32), nI q2, mtf mem a, flr last n (n + times) (nI (g a))))) := by
            intro j0 j1 j2 times a hj1 hj2 ha ht0 htm
            unfold Unpacker_readLast_J159 Unpacker_readLast_J207
            rw [hj1, hj2]
            show bd (FrontList_raiseAt_f (nI a) mem (nI c)) (fun u14 => bd (Arrays_fill1_f (nI n) (nI n + nI times) 2250 u14.1 last) (fun u15 => (if j0 = 0 then some (Sum.inl (nI 1, nI i + (1 : Int32), nI n + nI times, (0 : Int32), (-1 : Int32), nI q2, u14.2, u15)) else some (Sum.inl (nI 2 * nI dg, nI i + (1 : Int32), nI n + nI times, (0 : Int32), (-1 : Int32), nI q2, u14.2, u15))))) = _
            rw [fl_raiseAt ha hc, bd_s, nI_add, nI_1, pk_mul]
            show bd (Arrays_fill1_f (nI n) (nI (n + times)) 2250 (mem a) last) _ = _
            rw [hmem a ha, fill1_eq (by omega) htm (by omega), bd_s]
          have hfail : ∀ st : Int32 × Int32 × Int32 × Int32 × (Nat → Int32) × (Nat → Int32), okL (rl2 (Sum.inl (8, q)) og ogAt) (0 : Int32) st.1 (nI 8) (nI q) st.2.1 st.2.2.2.2.1 := fun st => okL_e
          by_cases hs1 : s ≤ 1
          · have hp2 : dg * 2 ^ s ≤ 2 * dg ∧ 1 ≤ dg * 2 ^ s := by
              have h01 : s = 0 ∨ s = 1 := by omega
              rcases h01 with rfl | rfl
              · rw [Nat.pow_zero, Nat.mul_one]; omega
              · rw [Nat.pow_one]; omega
            rw [if_neg (show ¬ (1 : Int32) < nI s from nI_nlt (a := 1) (b := s) hs1 (by omega)), if_pos hs1]
            have hsh : nI dg <<< (nI s &&& 31) = nI (dg * 2 ^ s) := pk_shlN _ s (shk s (by omega)) (by omega)
            unfold Unpacker_readLast_J100 Unpacker_readLast_J115
            rw [if_neg (show ¬ (1 : Int32) = 0 by decide)]
            show ∃ rt lc flt fa at2 mem2 last2, bd (bd (if nI n + (nI dg <<< (nI s &&& 31)) ≤ nI most then (if (1 : Int32) = 0 then _ else Unpacker_readLast_J159 (nI dg, nI i, nI n, (0 : Int32), (-1 : Int32), nI q, mem, last) (nI c) (1 : Int32) (nI dg <<< (nI s &&& 31)) (0 : Int32) (0 : Int32) (-1 : Int32) (nI q2)) else some (Sum.inr (Sum.inr (Sum.inr (Sum.inl (nI q, nI n, (0 : Int32), (-1 : Int32), nI q2, mem, last)))))) _) _ = _ ∧ _
            rw [if_neg (show ¬ (1 : Int32) = 0 by decide), hsh, nI_add]
            by_cases hfit : n + dg * 2 ^ s ≤ most
            · rw [if_pos (nI_le hfit (by omega)), if_pos hfit, hJ159 (1 : Int32) _ (0 : Int32) (dg * 2 ^ s) 0 rfl rfl (by omega) hp2.2 (by omega), if_neg (show ¬ (1 : Int32) = 0 by decide)]
              have hm0 : RS c (mtf mem 0) g := by
                have := RS_mtf (show 0 < c by omega) hmem
                rwa [mtfN_0] at this
              exact ih (i + 1) q2 (n + dg * 2 ^ s) (2 * dg) g (flN R n (n + dg * 2 ^ s) (g 0)) (mtf mem 0) (flr last n (n + dg * 2 ^ s) (nI (g 0))) z (by omega) (by omega) hfit (by omega) (by
                have h01 : s = 0 ∨ s = 1 := by omega
                rcases h01 with rfl | rfl
                · rw [Nat.pow_zero, Nat.mul_one]; omega
                · rw [Nat.pow_one]; omega) hq2 hm0 (RS_fl hlast (by omega)) (by omega)
            · rw [if_neg (nI_ge (by omega) (by omega)), if_neg hfit]
              exact ⟨_, _, _, _, _, _, _, rfl, okL_e⟩
          · rw [if_pos (show (1 : Int32) < nI s from nI_lt (a := 1) (b := s) (by omega) (by omega)), if_neg hs1]
            unfold Unpacker_readLast_J100 Unpacker_readLast_J115
            rw [if_pos rfl]
            show ∃ rt lc flt fa at2 mem2 last2, bd (bd (if nI n + nI 1 ≤ nI most then (if (0 : Int32) = 0 then Unpacker_readLast_J159 (nI dg, nI i, nI n, (0 : Int32), (-1 : Int32), nI q, mem, last) (nI c) (0 : Int32) (nI 1) (nI s - nI 1) (0 : Int32) (-1 : Int32) (nI q2) else _) else some (Sum.inr (Sum.inr (Sum.inr (Sum.inl (nI q, nI n, (0 : Int32), (-1 : Int32), nI q2, mem, last)))))) _) _ = _ ∧ _
            rw [if_pos rfl, nI_add, pk_sub (show 1 ≤ s by omega)]
            by_cases hfit : n + 1 ≤ most
            · rw [if_pos (nI_le hfit (by omega)), if_pos hfit, hJ159 (0 : Int32) _ _ 1 (s - 1) rfl rfl (by omega) (Nat.le_refl _) (by omega), if_pos rfl]
              exact ih (i + 1) q2 (n + 1) 1 (mtfN g (s - 1)) (flN R n (n + 1) (g (s - 1))) (mtf mem (s - 1)) (flr last n (n + 1) (nI (g (s - 1)))) z (by omega) (by omega) hfit (by omega) (by omega) hq2 (RS_mtf (by omega) hmem) (RS_fl hlast (by omega)) (by omega)
            · rw [if_neg (nI_ge (by omega) (by omega)), if_neg hfit]
              exact ⟨_, _, _, _, _, _, _, rfl, okL_e⟩
