/-! UNPACKING: LAST, from the symbols, the reference's -/
theorem dc_e {L : Nat → Nat} {N E q : Nat} {x : Nat → Bool} : ∀ {r e p : Nat}, dcN L N E x q r = Sum.inl (e, p) → (e = 2 ∧ p = E) ∨ (e = 7 ∧ p = q) := by
  intro r
  induction r with
  | zero =>
    intro e p h
    have h2 := Sum.inl.inj h
    exact Or.inr ⟨(congrArg Prod.fst h2).symm, (congrArg Prod.snd h2).symm⟩
  | succ r ih =>
    intro e p h
    rw [dcN] at h
    by_cases h1 : E < q + (20 - r)
    · rw [if_pos h1] at h
      have h2 := Sum.inl.inj h
      exact Or.inl ⟨(congrArg Prod.fst h2).symm, (congrArg Prod.snd h2).symm⟩
    · rw [if_neg h1] at h
      by_cases h2 : fstN L N (20 - r) ≤ bvN x q (20 - r) ∧ bvN x q (20 - r) < fstN L N (20 - r) + cnt (fun j => decide (L j = 20 - r)) N
      · rw [if_pos h2] at h
        cases h
      · rw [if_neg h2] at h
        by_cases h3 : bvN x q (20 - r) * 2 ^ r < kf L N
        · rw [if_pos h3] at h
          exact ih h
        · rw [if_neg h3] at h
          have h4 := Sum.inl.inj h
          exact Or.inr ⟨(congrArg Prod.fst h4).symm, (congrArg Prod.snd h4).symm⟩
theorem add_m {z rc : Nat} {list rows : Nat → Int32} (h : rc + z ≤ 2250) : Model_add_f (nI z) (nI rc) list rows = some (flr rows rc (rc + z) (list 0), nI (rc + z)) := by
  have key : lpF (Model_add_L2 (nI z) (nI rc) list) gas (nI 0, flr rows rc (rc + 0) (list 0)) = some (flr rows rc (rc + z) (list 0)) := by
    refine lp_gas (fun i => (nI i, flr rows rc (rc + i) (list 0))) (i0 := 0) (N := z) (Nat.zero_le _) (by omega) ?_ ?_
    · intro i _ hi
      show (if nI z ≤ nI i then _ else gd (ix (0 : Int32) 256) (gd (ix (nI rc + nI i) 2250) (some (Sum.inl (nI i + (1 : Int32), upd (flr rows rc (rc + i) (list 0)) (nI rc + nI i).toNatClampNeg (list (0 : Int32).toNatClampNeg)))))) = _
      rw [if_neg (nI_ge hi (by omega)), show ix (0 : Int32) 256 = true by decide, nI_add, ixN (show rc + i < 2250 by omega) (by omega), nI_clamp (show rc + i < 2 ^ 31 by omega), c0, flr_s rows (list 0) (show rc ≤ rc + i by omega), nI_1]
      rfl
    · show (if nI z ≤ nI z then _ else _) = _
      rw [if_pos (nI_le (Nat.le_refl _) (by omega))]
  rw [Nat.add_zero, flr_0] at key
  unfold Model_add_f
  rw [show lpF (Model_add_L2 (nI z) (nI rc) list) gas ((0 : Int32), rows) = some (flr rows rc (rc + z) (list 0)) from key, bd_s, nI_add]
abbrev okM (r : (Nat × Nat) ⊕ (Nat × (Nat → Nat) × Nat)) (lc flt pl bit : Int32) (rows : Nat → Int32) : Prop := (∀ e, r = Sum.inl e → flt = nI e.1 ∧ pl = nI e.2) ∧ ∀ v, r = Sum.inr v → lc = nI v.1 ∧ flt = 0 ∧ pl = (-1 : Int32) ∧ bit = nI v.2.2 ∧ RS v.1 rows v.2.1
theorem okM_e {e p : Nat} {lc bit : Int32} {rows : Nat → Int32} : okM (Sum.inl (e, p)) lc (nI e) (nI p) bit rows := ⟨fun e2 h => (by cases h; exact ⟨rfl, rfl⟩), fun v h => (by cases h)⟩
theorem okM_r {n q : Nat} {R : Nat → Nat} {rows : Nat → Int32} (h : RS n rows R) : okM (Sum.inr (n, R, q)) (nI n) (0 : Int32) (-1 : Int32) (nI q) rows := ⟨fun e h2 => (by cases h2), fun v h2 => (by cases h2; exact ⟨rfl, rfl, rfl, rfl, h⟩)⟩
theorem readSymbols_m {tp : Nat → Nat} {F c G most bAt : Nat} {tape ch seen pre : Nat → Int32} {tbl : Nat → Nat} {Lt : Nat → Nat → Nat} {tc : Nat} (hF : F ≤ 10240) (htp : ∀ j, j < F → tape j = nb (tp j) ∧ tp j < 256) (hc1 : 1 ≤ c) (hc : c ≤ 256) (hG : G < 32768) (hmost : most ≤ 2250) (htc : tc ≤ 6) (hch : ∀ g, g < 46 → g < G → ch g = nI (tbl g) ∧ tbl g < tc) (hT : ∀ t k, t < tc → k < c + 2 → seen (258 * t + k) = nI (Lt t k) ∧ pre (258 * t + k) = nI (cdN (Lt t) (c + 2) k) ∧ 1 ≤ Lt t k ∧ Lt t k ≤ 20) (hbAt : bAt < 100000) :
    ∀ (f i q n dg rc zs : Nat) (g R : Nat → Nat) (list rows : Nat → Int32) (z : Nat), f + i = 2252 → i ≤ n → n ≤ most → n = rc + zs → 1 ≤ dg → dg ≤ n + 1 → q ≤ 8 * F → RS c list g → RS rc rows R → (∀ j, rc ≤ j → j < n → R j = g 0) → f < z →
    ∃ lc flt pl bit2 rows2 list2, bd (lpF (Model_readSymbols_L13 (nI G) (nI (8 * F)) tape (nI c) ch seen pre (nI most)) z (nI zs, nI dg, nI i, nI rc, (0 : Int32), (-1 : Int32), nI q, rows, list)) (fun u2 => (Sum.elim (fun v3 => some (v3.1, v3.2.1, v3.2.2.1, v3.2.2.2.1, v3.2.2.2.2.1, v3.2.2.2.2.2)) (Sum.elim (fun v4 => (if (v4.1 / (50 : Int32)) = (nI G - (1 : Int32)) then Model_readSymbols_J149 v4.2.1 v4.2.2.1 v4.2.2.2.1 v4.2.2.2.2.1 v4.2.2.2.2.2.1 v4.2.2.2.2.2.2 else bd (Model_stop_f v4.2.2.1 (10 : Int32) (nI bAt) v4.2.2.2.1) (fun u6 => Model_readSymbols_J149 v4.2.1 u6.2.1 u6.2.2 v4.2.2.2.2.1 v4.2.2.2.2.2.1 v4.2.2.2.2.2.2))) (Sum.elim (fun v7 => bd (Model_stop_f v7.2.2.1 (8 : Int32) v7.1 v7.2.2.2.1) (fun u8 => some (v7.2.1, u8.2.1, u8.2.2, v7.2.2.2.2.1, v7.2.2.2.2.2.1, v7.2.2.2.2.2.2))) (fun v9 => bd (Model_isFine_f v9.2.1) (fun u10 => (if u10 = 0 then Model_readSymbols_J203 v9.1 v9.2.1 v9.2.2.1 v9.2.2.2.1 v9.2.2.2.2.1 v9.2.2.2.2.2 else bd (Model_stop_f v9.2.1 (10 : Int32) (nI bAt) v9.2.2.1) (fun u12 => Model_readSymbols_J203 v9.1 u12.2.1 u12.2.2 v9.2.2.2.1 v9.2.2.2.2.1 v9.2.2.2.2.2))))))) u2) = some (lc, flt, pl, bit2, rows2, list2) ∧ okM (rlN (fun t q => dcN (Lt t) (c + 2) (8 * F) (xb tp) q 20) tbl G c most bAt f i q n dg g R) lc flt pl bit2 rows2 := by
  have hstop : ∀ (z : Nat) (a1 a2 a3 a4 fl p bt' : Int32) (a8 a9 : Nat → Int32), ¬ fl = 0 → 0 < z → lpF (Model_readSymbols_L13 (nI G) (nI (8 * F)) tape (nI c) ch seen pre (nI most)) z (a1, a2, a3, a4, fl, p, bt', a8, a9) = some (Sum.inr (Sum.inr (Sum.inr (a4, fl, p, bt', a8, a9)))) := by
    intro z a1 a2 a3 a4 fl p bt' a8 a9 hfl hz
    obtain ⟨z, rfl⟩ : ∃ z2, z = z2 + 1 := ⟨z - 1, by omega⟩
    have hb : Model_readSymbols_L13 (nI G) (nI (8 * F)) tape (nI c) ch seen pre (nI most) (a1, a2, a3, a4, fl, p, bt', a8, a9) = some (Sum.inr (Sum.inr (Sum.inr (Sum.inr (a4, fl, p, bt', a8, a9))))) := by
      show (if (50 : Int32) * nI G ≤ a3 then some (Sum.inr (Sum.inr (Sum.inr (Sum.inr (a4, fl, p, bt', a8, a9))))) else bd (Model_isFine_f fl) (fun u15 => (if u15 = 0 then some (Sum.inr (Sum.inr (Sum.inr (Sum.inr (a4, fl, p, bt', a8, a9))))) else _))) = _
      by_cases h : (50 : Int32) * nI G ≤ a3
      · rw [if_pos h]
      · rw [if_neg h, fine_n hfl, bd_s, if_pos rfl]
    rw [lpF_s, hb]
    rfl
  intro f
  induction f with
  | zero => intro i q n dg rc zs g R list rows z h1 h2 h3; omega
  | succ f ih =>
    intro i q n dg rc zs g R list rows z hfi hin hnm hnrc hdg1 hdg2 hq hlist hrows hzero hz
    obtain ⟨z, rfl⟩ : ∃ z2, z = z2 + 1 := ⟨z - 1, by omega⟩
    rw [lpF_s]
    by_cases hend : 50 * G ≤ i
    · have hb : Model_readSymbols_L13 (nI G) (nI (8 * F)) tape (nI c) ch seen pre (nI most) (nI zs, nI dg, nI i, nI rc, (0 : Int32), (-1 : Int32), nI q, rows, list) = some (Sum.inr (Sum.inr (Sum.inr (Sum.inr (nI rc, (0 : Int32), (-1 : Int32), nI q, rows, list))))) := by
        show (if nI 50 * nI G ≤ nI i then _ else _) = _
        rw [pk_mul, if_pos (nI_le hend (by omega))]
      rw [hb, rlN, if_pos hend]
      refine ⟨nI rc, nI 10, nI bAt, nI q, rows, list, ?_, okM_e⟩
      show bd (Model_isFine_f (0 : Int32)) (fun u10 => (if u10 = 0 then Model_readSymbols_J203 (nI rc) (0 : Int32) (-1 : Int32) (nI q) rows list else bd (Model_stop_f (0 : Int32) (10 : Int32) (nI bAt) (-1 : Int32)) (fun u12 => Model_readSymbols_J203 (nI rc) u12.2.1 u12.2.2 (nI q) rows list))) = _
      rw [fine_0, bd_s, if_neg (show ¬ (1 : Int32) = 0 by decide), stop_0, bd_s]
      rfl
    · rw [rlN, if_neg hend]
      obtain ⟨hg1, hg2⟩ := hch (i / 50) (by omega) (by omega)
      obtain ⟨bit2, er⟩ := readSymbol_m (tp := tp) (q := q) (c := c) (N := c + 2) (t := tbl (i / 50)) (L := Lt (tbl (i / 50))) hF htp rfl (by omega) (by omega) (fun k hk => hT _ k hg2 hk) hq
      have hL : Model_readSymbols_L13 (nI G) (nI (8 * F)) tape (nI c) ch seen pre (nI most) (nI zs, nI dg, nI i, nI rc, (0 : Int32), (-1 : Int32), nI q, rows, list) = bd (some (ansC (dcN (Lt (tbl (i / 50))) (c + 2) (8 * F) (xb tp) q 20) bit2)) (fun u18 => bd (Model_isFine_f u18.2.1) (fun u19 => (if u19 = 0 then some (Sum.inr (Sum.inl (nI rc, u18.2.1, u18.2.2.1, u18.2.2.2, rows, list))) else (if (2 : Int32) ≤ u18.1 then bd (Model_add_f (nI zs) (nI rc) list rows) (fun u22 => (if u18.1 = (nI c + (1 : Int32)) then some (Sum.inr (Sum.inr (Sum.inl (nI i, u22.2, u18.2.1, u18.2.2.1, u18.2.2.2, u22.1, list)))) else (if u22.2 = nI most then some (Sum.inr (Sum.inr (Sum.inr (Sum.inl (nI q, u22.2, u18.2.1, u18.2.2.1, u18.2.2.2, u22.1, list))))) else bd (Model_toFront_f (u18.1 - (1 : Int32)) list) (fun u25 => bd (Model_add_f (1 : Int32) u22.2 u25.2 u22.1) (fun u26 => Model_readSymbols_J182 (nI zs, nI dg, nI i, nI rc, (0 : Int32), (-1 : Int32), nI q, rows, list) (0 : Int32) (1 : Int32) u26.2 u18.2.1 u18.2.2.1 u18.2.2.2 u26.1 u25.2))))) else (if (nI rc + (nI zs + ((u18.1 + (1 : Int32)) * nI dg))) ≤ nI most then Model_readSymbols_J182 (nI zs, nI dg, nI i, nI rc, (0 : Int32), (-1 : Int32), nI q, rows, list) (nI zs + ((u18.1 + (1 : Int32)) * nI dg)) (nI dg * (2 : Int32)) (nI rc) u18.2.1 u18.2.2.1 u18.2.2.2 rows list else bd (Model_stop_f u18.2.1 (8 : Int32) (nI q) u18.2.2.1) (fun u28 => Model_readSymbols_J182 (nI zs, nI dg, nI i, nI rc, (0 : Int32), (-1 : Int32), nI q, rows, list) (nI zs + ((u18.1 + (1 : Int32)) * nI dg)) (nI dg * (2 : Int32)) (nI rc) u28.2.1 u28.2.2 u18.2.2.2 rows list)))))) := by
        rw [← er]
        show (if nI 50 * nI G ≤ nI i then _ else bd (Model_isFine_f (0 : Int32)) (fun u15 => (if u15 = 0 then _ else gd (ix (nI i / nI 50) 32767) (bd (Model_readSymbol_f (nI (8 * F)) tape (nI c) (ch (nI i / nI 50).toNatClampNeg) seen pre (nI q) (0 : Int32) (-1 : Int32)) _)))) = _
        rw [pk_mul, if_neg (nI_ge (by omega) (by omega)), fine_0, bd_s, if_neg (show ¬ (1 : Int32) = 0 by decide), pk_div (show i < 2 ^ 31 by omega) (by omega) (by omega), nI_clamp (show i / 50 < 2 ^ 31 by omega), hg1, ixN (show i / 50 < 32767 by omega) (by omega)]
        rfl
      rw [hL, bd_s]
      show ∃ lc flt pl bit2 rows2 list2, _ ∧ okM (Sum.elim _ _ (dcN (Lt (tbl (i / 50))) (c + 2) (8 * F) (xb tp) q 20)) lc flt pl bit2 rows2
      cases hd : dcN (Lt (tbl (i / 50))) (c + 2) (8 * F) (xb tp) q 20 with
      | inl e =>
        obtain ⟨e1, e2⟩ := e
        have he := dc_e hd
        have hne : ¬ nI e1 = 0 := nI_ne0 (by omega) (by omega)
        refine ⟨nI rc, nI e1, nI e2, bit2, rows, list, ?_, okM_e⟩
        show bd (bd (bd (Model_isFine_f (nI e1)) (fun u19 => (if u19 = 0 then some (Sum.inr (Sum.inl (nI rc, nI e1, nI e2, bit2, rows, list))) else _))) _) _ = _
        rw [fine_n hne, bd_s, if_pos rfl]
        rfl
      | inr v =>
        obtain ⟨s, q2⟩ := v
        obtain ⟨hs, hq2, _⟩ := dc_b (Nat.le_refl 20) hd
        show ∃ lc flt pl bit2 rows2 list2, bd (bd (bd (Model_isFine_f (0 : Int32)) (fun u19 => (if u19 = 0 then some (Sum.inr (Sum.inl (nI rc, (0 : Int32), (-1 : Int32), nI q2, rows, list))) else (if (2 : Int32) ≤ nI s then bd (Model_add_f (nI zs) (nI rc) list rows) (fun u22 => (if nI s = (nI c + (1 : Int32)) then some (Sum.inr (Sum.inr (Sum.inl (nI i, u22.2, (0 : Int32), (-1 : Int32), nI q2, u22.1, list)))) else (if u22.2 = nI most then some (Sum.inr (Sum.inr (Sum.inr (Sum.inl (nI q, u22.2, (0 : Int32), (-1 : Int32), nI q2, u22.1, list))))) else bd (Model_toFront_f (nI s - (1 : Int32)) list) (fun u25 => bd (Model_add_f (1 : Int32) u22.2 u25.2 u22.1) (fun u26 => some (Sum.inl ((0 : Int32), (1 : Int32), nI i + (1 : Int32), u26.2, (0 : Int32), (-1 : Int32), nI q2, u26.1, u25.2))))))) else (if (nI rc + (nI zs + ((nI s + (1 : Int32)) * nI dg))) ≤ nI most then some (Sum.inl (nI zs + ((nI s + (1 : Int32)) * nI dg), nI dg * (2 : Int32), nI i + (1 : Int32), nI rc, (0 : Int32), (-1 : Int32), nI q2, rows, list)) else bd (Model_stop_f (0 : Int32) (8 : Int32) (nI q) (-1 : Int32)) (fun u28 => some (Sum.inl (nI zs + ((nI s + (1 : Int32)) * nI dg), nI dg * (2 : Int32), nI i + (1 : Int32), nI rc, u28.2.1, u28.2.2, nI q2, rows, list))))))) ) (fun u => Sum.elim (lpF (Model_readSymbols_L13 (nI G) (nI (8 * F)) tape (nI c) ch seen pre (nI most)) z) some u)) _ = _ ∧ okM (if s = c + 1 then (if i / 50 = G - 1 then Sum.inr (n, R, q2) else Sum.inl (10, bAt)) else if s ≤ 1 then (if n + dg * 2 ^ s ≤ most then rlN (fun t q => dcN (Lt t) (c + 2) (8 * F) (xb tp) q 20) tbl G c most bAt f (i + 1) q2 (n + dg * 2 ^ s) (2 * dg) g (flN R n (n + dg * 2 ^ s) (g 0)) else Sum.inl (8, q)) else (if n + 1 ≤ most then rlN (fun t q => dcN (Lt t) (c + 2) (8 * F) (xb tp) q 20) tbl G c most bAt f (i + 1) q2 (n + 1) 1 (mtfN g (s - 1)) (flN R n (n + 1) (g (s - 1))) else Sum.inl (8, q))) lc flt pl bit2 rows2
        rw [fine_0, bd_s, if_neg (show ¬ (1 : Int32) = 0 by decide)]
        have hadd : Model_add_f (nI zs) (nI rc) list rows = some (flr rows rc n (nI (g 0)), nI n) := by
          rw [add_m (by omega), ← hnrc, hlist 0 (by omega)]
        have hrows2 : RS n (flr rows rc n (nI (g 0))) R := by
          intro j hj
          unfold flr
          by_cases h1 : rc ≤ j ∧ j < n
          · rw [if_pos h1, hzero j h1.1 h1.2]
          · rw [if_neg h1]
            exact hrows j (by omega)
        by_cases hs1 : s ≤ 1
        · have hsc : ¬ s = c + 1 := by omega
          have hpe : dg * 2 ^ s = (s + 1) * dg := by
            have h01 : s = 0 ∨ s = 1 := by omega
            rcases h01 with rfl | rfl
            · rw [Nat.pow_zero, Nat.mul_one, Nat.zero_add, Nat.one_mul]
            · rw [Nat.pow_one, Nat.mul_comm]
          have hpb : (s + 1) * dg ≤ 2 * dg := Nat.mul_le_mul_right dg (by omega)
          rw [if_neg (show ¬ (2 : Int32) ≤ nI s from nI_ge (a := s) (b := 2) (by omega) (by omega)), if_neg hsc, if_pos hs1, nI_1, pk_mul, nI_add, nI_add, show nI dg * (2 : Int32) = nI (dg * 2) from pk_mul dg 2, nI_1, ← hpe, show rc + (zs + dg * 2 ^ s) = n + dg * 2 ^ s by omega]
          by_cases hfit : n + dg * 2 ^ s ≤ most
          · rw [if_pos (nI_le hfit (by omega)), if_pos hfit, Nat.mul_comm dg 2]
            refine ih (i + 1) q2 (n + dg * 2 ^ s) (2 * dg) rc (zs + dg * 2 ^ s) g (flN R n (n + dg * 2 ^ s) (g 0)) list rows z (by omega) (by
              have : 1 ≤ dg * 2 ^ s := Nat.mul_pos hdg1 (Nat.two_pow_pos s)
              omega) hfit (by omega) (by omega) (by
              have h01 : s = 0 ∨ s = 1 := by omega
              rcases h01 with rfl | rfl
              · rw [Nat.pow_zero, Nat.mul_one]; omega
              · rw [Nat.pow_one]; omega) hq2 hlist (fun j hj => ?_) (fun j h1 h2 => ?_) (by omega)
            · unfold flN
              rw [if_neg (by omega)]
              exact hrows j hj
            · unfold flN
              by_cases h3 : n ≤ j ∧ j < n + dg * 2 ^ s
              · rw [if_pos h3]
              · rw [if_neg h3]
                exact hzero j h1 (by omega)
          · rw [if_neg (nI_ge (by omega) (by omega)), if_neg hfit, stop_0, bd_s]
            refine ⟨nI rc, nI 8, nI q, nI q2, rows, list, ?_, okM_e⟩
            show bd (lpF (Model_readSymbols_L13 (nI G) (nI (8 * F)) tape (nI c) ch seen pre (nI most)) z (nI (zs + dg * 2 ^ s), nI (dg * 2), nI (i + 1), nI rc, (8 : Int32), nI q, nI q2, rows, list)) _ = _
            rw [hstop z _ _ _ _ _ _ _ _ _ (by decide) (by omega), bd_s]
            show bd (Model_isFine_f (8 : Int32)) (fun u10 => (if u10 = 0 then Model_readSymbols_J203 (nI rc) (8 : Int32) (nI q) (nI q2) rows list else bd (Model_stop_f (8 : Int32) (10 : Int32) (nI bAt) (nI q)) (fun u12 => Model_readSymbols_J203 (nI rc) u12.2.1 u12.2.2 (nI q2) rows list))) = _
            rw [fine_n (by decide), bd_s, if_pos rfl]
            rfl
        · rw [if_pos (show (2 : Int32) ≤ nI s from nI_le (a := 2) (b := s) (by omega) (by omega)), hadd, bd_s, nI_1]
          show ∃ lc flt pl bit2 rows2 list2, bd (bd (if nI s = nI (c + 1) then some (Sum.inr (Sum.inr (Sum.inl (nI i, nI n, (0 : Int32), (-1 : Int32), nI q2, flr rows rc n (nI (g 0)), list)))) else (if nI n = nI most then some (Sum.inr (Sum.inr (Sum.inr (Sum.inl (nI q, nI n, (0 : Int32), (-1 : Int32), nI q2, flr rows rc n (nI (g 0)), list))))) else bd (Model_toFront_f (nI s - (1 : Int32)) list) (fun u25 => bd (Model_add_f (1 : Int32) (nI n) u25.2 (flr rows rc n (nI (g 0)))) (fun u26 => some (Sum.inl ((0 : Int32), (1 : Int32), nI i + (1 : Int32), u26.2, (0 : Int32), (-1 : Int32), nI q2, u26.1, u25.2)))))) (fun u => Sum.elim (lpF (Model_readSymbols_L13 (nI G) (nI (8 * F)) tape (nI c) ch seen pre (nI most)) z) some u)) _ = _ ∧ _
          by_cases hsc : s = c + 1
          · rw [if_pos (show nI s = nI (c + 1) by rw [hsc]), if_pos hsc]
            show ∃ lc flt pl bit2 rows2 list2, (if nI i / nI 50 = nI G - (1 : Int32) then some (nI n, (0 : Int32), (-1 : Int32), nI q2, flr rows rc n (nI (g 0)), list) else bd (Model_stop_f (0 : Int32) (10 : Int32) (nI bAt) (-1 : Int32)) (fun u6 => some (nI n, u6.2.1, u6.2.2, nI q2, flr rows rc n (nI (g 0)), list))) = _ ∧ _
            rw [pk_div (show i < 2 ^ 31 by omega) (by omega) (by omega), show nI G - (1 : Int32) = nI (G - 1) from pk_sub (show 1 ≤ G by omega)]
            by_cases hgr : i / 50 = G - 1
            · rw [if_pos (show nI (i / 50) = nI (G - 1) by rw [hgr]), if_pos hgr]
              exact ⟨_, _, _, _, _, _, rfl, okM_r hrows2⟩
            · rw [if_neg (show ¬ nI (i / 50) = nI (G - 1) by rw [nI_eq (by omega) (by omega)]; exact hgr), if_neg hgr, stop_0, bd_s]
              exact ⟨_, _, _, _, _, _, rfl, okM_e⟩
          · rw [if_neg (show ¬ nI s = nI (c + 1) by rw [nI_eq (by omega) (by omega)]; exact hsc), if_neg hsc, if_neg hs1]
            by_cases hfit : n + 1 ≤ most
            · rw [if_neg (show ¬ nI n = nI most by rw [nI_eq (by omega) (by omega)]; omega), if_pos hfit, show nI s - (1 : Int32) = nI (s - 1) from pk_sub (show 1 ≤ s by omega), toFront_eq (show s - 1 < 256 by omega), bd_s]
              have hadd2 : Model_add_f (1 : Int32) (nI n) (mtf list (s - 1)) (flr rows rc n (nI (g 0))) = some (flr (flr rows rc n (nI (g 0))) n (n + 1) (nI (g (s - 1))), nI (n + 1)) := by
                rw [show Model_add_f (1 : Int32) (nI n) (mtf list (s - 1)) (flr rows rc n (nI (g 0))) = _ from add_m (z := 1) (rc := n) (by omega), show mtf list (s - 1) 0 = list (s - 1) from if_pos rfl, hlist (s - 1) (by omega)]
              show ∃ lc flt pl bit2 rows2 list2, bd (bd (bd (Model_add_f (1 : Int32) (nI n) (mtf list (s - 1)) (flr rows rc n (nI (g 0)))) (fun u26 => some (Sum.inl ((0 : Int32), (1 : Int32), nI i + (1 : Int32), u26.2, (0 : Int32), (-1 : Int32), nI q2, u26.1, mtf list (s - 1))))) _) _ = _ ∧ _
              rw [hadd2, bd_s, nI_1]
              exact ih (i + 1) q2 (n + 1) 1 (n + 1) 0 (mtfN g (s - 1)) (flN R n (n + 1) (g (s - 1))) (mtf list (s - 1)) (flr (flr rows rc n (nI (g 0))) n (n + 1) (nI (g (s - 1)))) z (by omega) (by omega) hfit (by omega) (by omega) (by omega) hq2 (RS_mtf (by omega) hlist) (RS_fl hrows2 (by omega)) (fun j h1 h2 => by omega) (by omega)
            · rw [if_pos (show nI n = nI most by rw [show n = most by omega]), if_neg hfit]
              refine ⟨nI n, nI 8, nI q, nI q2, flr rows rc n (nI (g 0)), list, ?_, okM_e⟩
              show bd (Model_stop_f (0 : Int32) (8 : Int32) (nI q) (-1 : Int32)) (fun u8 => some (nI n, u8.2.1, u8.2.2, nI q2, flr rows rc n (nI (g 0)), list)) = _
              rw [stop_0, bd_s]
              rfl
