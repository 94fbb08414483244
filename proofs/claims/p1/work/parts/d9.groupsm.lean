/-! UNPACKING: how many tables and groups; which group has which table: the reference's -/
def dgS (g : Nat → Nat) : Nat := g 0 + 10 * g 1 + 100 * g 2 + 1000 * g 3 + 10000 * g 4 + 100000 * g 5
theorem dg_b {g : Nat → Nat} (h : ∀ j, j < 6 → g j < 10) : dgS g < 1000000 := by
  unfold dgS
  have h0 := h 0 (by omega); have h1 := h 1 (by omega); have h2 := h 2 (by omega); have h3 := h 3 (by omega); have h4 := h 4 (by omega); have h5 := h 5 (by omega)
  omega
theorem dg_at {g : Nat → Nat} (h : ∀ j, j < 6 → g j < 10) {o : Nat} (ho : o < 6) : dgS g / 10 ^ o % 10 = g o := by
  unfold dgS
  have h0 := h 0 (by omega); have h1 := h 1 (by omega); have h2 := h 2 (by omega); have h3 := h 3 (by omega); have h4 := h 4 (by omega); have h5 := h 5 (by omega)
  have hc : o = 0 ∨ o = 1 ∨ o = 2 ∨ o = 3 ∨ o = 4 ∨ o = 5 := by omega
  rcases hc with rfl | rfl | rfl | rfl | rfl | rfl
  · show _ / 1 % 10 = _; omega
  · show _ / 10 % 10 = _; omega
  · show _ / 100 % 10 = _; omega
  · show _ / 1000 % 10 = _; omega
  · show _ / 10000 % 10 = _; omega
  · show _ / 100000 % 10 = _; omega
theorem dg_mtf {g : Nat → Nat} (h : ∀ j, j < 6 → g j < 10) {o : Nat} (ho : o < 6) : dgS g / (10 ^ o * 10) * (10 ^ o * 10) + dgS g % 10 ^ o * 10 + dgS g / 10 ^ o % 10 = dgS (mtfN g o) := by
  have h0 := h 0 (by omega); have h1 := h 1 (by omega); have h2 := h 2 (by omega); have h3 := h 3 (by omega); have h4 := h 4 (by omega); have h5 := h 5 (by omega)
  have hc : o = 0 ∨ o = 1 ∨ o = 2 ∨ o = 3 ∨ o = 4 ∨ o = 5 := by omega
  rcases hc with rfl | rfl | rfl | rfl | rfl | rfl
  · show dgS g / 10 * 10 + dgS g % 1 * 10 + dgS g / 1 % 10 = g 0 + 10 * g 1 + 100 * g 2 + 1000 * g 3 + 10000 * g 4 + 100000 * g 5
    unfold dgS; omega
  · show dgS g / 100 * 100 + dgS g % 10 * 10 + dgS g / 10 % 10 = g 1 + 10 * g 0 + 100 * g 2 + 1000 * g 3 + 10000 * g 4 + 100000 * g 5
    unfold dgS; omega
  · show dgS g / 1000 * 1000 + dgS g % 100 * 10 + dgS g / 100 % 10 = g 2 + 10 * g 0 + 100 * g 1 + 1000 * g 3 + 10000 * g 4 + 100000 * g 5
    unfold dgS; omega
  · show dgS g / 10000 * 10000 + dgS g % 1000 * 10 + dgS g / 1000 % 10 = g 3 + 10 * g 0 + 100 * g 1 + 1000 * g 2 + 10000 * g 4 + 100000 * g 5
    unfold dgS; omega
  · show dgS g / 100000 * 100000 + dgS g % 10000 * 10 + dgS g / 10000 % 10 = g 4 + 10 * g 0 + 100 * g 1 + 1000 * g 2 + 10000 * g 3 + 100000 * g 5
    unfold dgS; omega
  · show dgS g / 1000000 * 1000000 + dgS g % 100000 * 10 + dgS g / 100000 % 10 = g 5 + 10 * g 0 + 100 * g 1 + 1000 * g 2 + 10000 * g 3 + 100000 * g 4
    unfold dgS; omega
theorem ten_m {v : Int32 × Int32 × Int32 × Int32} {o : Nat} (hv : v.1 = nI o) (ho : o ≤ 6) : lpF (Model_readGroups_L153 v) gas ((1 : Int32), (0 : Int32)) = some (nI (10 ^ o)) := by
  have key : lpF (Model_readGroups_L153 v) gas (nI (10 ^ 0), nI 0) = some (nI (10 ^ o)) := by
    refine lp_gas (fun i => (nI (10 ^ i), nI i)) (i0 := 0) (N := o) (Nat.zero_le _) (by omega) ?_ ?_
    · intro i _ hi
      show (if v.1 ≤ nI i then _ else some (Sum.inl (nI (10 ^ i) * nI 10, nI i + (1 : Int32)))) = _
      rw [hv, if_neg (nI_ge hi (by omega)), pk_mul, nI_1]
      rfl
    · show (if v.1 ≤ nI o then _ else _) = _
      rw [hv, if_pos (nI_le (Nat.le_refl _) (by omega))]
  exact key
theorem bv1 (x : Nat → Bool) (q : Nat) : bvI x q 1 = nI (x q).toNat := by
  rw [bvI_N x q 1 (by omega)]
  show nI (2 * 0 + (x (q + 0)).toNat) = _
  rw [Nat.mul_zero, Nat.zero_add]
  rfl
abbrev okO (r : (Nat × Nat) ⊕ (Nat × Nat)) (o : Nat) (flt pl bit : Int32) : Prop := (∀ e, r = Sum.inl e → flt = nI e.1 ∧ pl = nI e.2 ∧ 0 < e.1 ∧ e.1 < 16) ∧ ∀ v, r = Sum.inr v → o = v.1 ∧ flt = 0 ∧ pl = (-1 : Int32) ∧ bit = nI v.2
theorem ones_m {tp : Nat → Nat} {F tc q0 : Nat} {tape : Nat → Int32} {s1 : Int32 × Int32 × Int32 × Int32 × Int32 × (Nat → Int32)} (hF : F ≤ 10240) (ht : ∀ j, j < F → tape j = nb (tp j) ∧ tp j < 256) (hs1 : s1.2.2.2.2.1 = nI q0) (htc : tc ≤ 6) : ∀ (r z q : Nat), r + 1 ≤ tc → r + 1 < z → q ≤ 8 * F → ∃ o flt pl bit, lpF (Model_readGroups_L109 (nI (8 * F)) tape (nI tc) s1) z (nI (tc - (r + 1)), (0 : Int32), (-1 : Int32), nI q) = some (nI o, flt, pl, bit) ∧ o ≤ tc ∧ okO (onN (8 * F) (xb tp) tc q0 (r + 1) q) o flt pl bit := by
  have hstop : ∀ (z : Nat) (a1 fl p b : Int32), ¬ fl = 0 → 0 < z → lpF (Model_readGroups_L109 (nI (8 * F)) tape (nI tc) s1) z (a1, fl, p, b) = some (a1, fl, p, b) := by
    intro z a1 fl p b hfl hz
    obtain ⟨z, rfl⟩ : ∃ z2, z = z2 + 1 := ⟨z - 1, by omega⟩
    have hb : Model_readGroups_L109 (nI (8 * F)) tape (nI tc) s1 (a1, fl, p, b) = some (Sum.inr (a1, fl, p, b)) := by
      show bd (Model_isFine_f fl) (fun u21 => (if u21 = 0 then some (Sum.inr (a1, fl, p, b)) else _)) = _
      rw [fine_n hfl, bd_s, if_pos rfl]
    rw [lpF_s, hb]
    rfl
  intro r
  induction r with
  | zero =>
    intro z q hr hz hq
    obtain ⟨z, rfl⟩ : ∃ z2, z = z2 + 1 := ⟨z - 1, by omega⟩
    rw [lpF_s, onN]
    by_cases h : q < 8 * F
    · have hL : Model_readGroups_L109 (nI (8 * F)) tape (nI tc) s1 (nI (tc - (0 + 1)), (0 : Int32), (-1 : Int32), nI q) = (if nI (xb tp q).toNat = (1 : Int32) then some (Sum.inl (nI tc, nI 5, nI q0, nI (q + 1))) else some (Sum.inr (nI (tc - 1), (0 : Int32), (-1 : Int32), nI (q + 1)))) := by
        show bd (Model_isFine_f (0 : Int32)) (fun u21 => (if u21 = 0 then _ else bd (Model_read_f (0 : Int32) (nI 1) (nI (8 * F)) tape (nI q) (-1 : Int32)) (fun u23 => (if u23.1 = (1 : Int32) then (if nI (tc - (0 + 1)) + (1 : Int32) = nI tc then bd (Model_stop_f u23.2.1 (5 : Int32) s1.2.2.2.2.1 u23.2.2.1) (fun u26 => some (Sum.inl (nI (tc - (0 + 1)) + (1 : Int32), u26.2.1, u26.2.2, u23.2.2.2))) else _) else some (Sum.inr (nI (tc - (0 + 1)), u23.2.1, u23.2.2.1, u23.2.2.2)))))) = _
        rw [fine_0, bd_s, if_neg (show ¬ (1 : Int32) = 0 by decide), read_m hF ht (by omega) (show q + 1 ≤ 8 * F by omega), bd_s, bv1, nI_1, show tc - (0 + 1) + 1 = tc by omega, if_pos (show nI tc = nI tc from rfl), hs1, stop_0, bd_s]
        rfl
      rw [hL, if_pos h]
      cases hx : xb tp q with
      | true =>
        rw [if_pos (show nI true.toNat = (1 : Int32) from rfl), if_pos (show true = true from rfl)]
        exact ⟨tc, nI 5, nI q0, nI (q + 1), hstop z _ _ _ _ (by decide) (by omega), Nat.le_refl _, ⟨fun e he => (by cases he; exact ⟨rfl, rfl, by show 0 < _; omega, by show _ < 16; omega⟩), fun w hw => (by cases hw)⟩⟩
      | false =>
        rw [if_neg (show ¬ nI false.toNat = (1 : Int32) by decide), if_neg Bool.noConfusion]
        exact ⟨tc - 1, (0 : Int32), (-1 : Int32), nI (q + 1), rfl, by omega, ⟨fun e he => (by cases he), fun w hw => (by cases hw; exact ⟨rfl, rfl, rfl, rfl⟩)⟩⟩
    · have hL : Model_readGroups_L109 (nI (8 * F)) tape (nI tc) s1 (nI (tc - (0 + 1)), (0 : Int32), (-1 : Int32), nI q) = some (Sum.inr (nI (tc - 1), nI 2, nI (8 * F), nI (8 * F))) := by
        show bd (Model_isFine_f (0 : Int32)) (fun u21 => (if u21 = 0 then _ else bd (Model_read_f (0 : Int32) (nI 1) (nI (8 * F)) tape (nI q) (-1 : Int32)) (fun u23 => (if u23.1 = (1 : Int32) then _ else some (Sum.inr (nI (tc - (0 + 1)), u23.2.1, u23.2.2.1, u23.2.2.2)))))) = _
        rw [fine_0, bd_s, if_neg (show ¬ (1 : Int32) = 0 by decide), read_me hF ht (by omega) hq (show 8 * F < q + 1 by omega), bd_s, if_neg (show ¬ (0 : Int32) = 1 by decide)]
      rw [hL, if_neg h]
      exact ⟨tc - 1, nI 2, nI (8 * F), nI (8 * F), rfl, by omega, ⟨fun e he => (by cases he; exact ⟨rfl, rfl, by show 0 < _; omega, by show _ < 16; omega⟩), fun w hw => (by cases hw)⟩⟩
  | succ r ih =>
    intro z q hr hz hq
    obtain ⟨z, rfl⟩ : ∃ z2, z = z2 + 1 := ⟨z - 1, by omega⟩
    rw [lpF_s, onN]
    by_cases h : q < 8 * F
    · have hL : Model_readGroups_L109 (nI (8 * F)) tape (nI tc) s1 (nI (tc - (r + 1 + 1)), (0 : Int32), (-1 : Int32), nI q) = (if nI (xb tp q).toNat = (1 : Int32) then some (Sum.inl (nI (tc - (r + 1)), (0 : Int32), (-1 : Int32), nI (q + 1))) else some (Sum.inr (nI (tc - (r + 1 + 1)), (0 : Int32), (-1 : Int32), nI (q + 1)))) := by
        show bd (Model_isFine_f (0 : Int32)) (fun u21 => (if u21 = 0 then _ else bd (Model_read_f (0 : Int32) (nI 1) (nI (8 * F)) tape (nI q) (-1 : Int32)) (fun u23 => (if u23.1 = (1 : Int32) then (if nI (tc - (r + 1 + 1)) + (1 : Int32) = nI tc then bd (Model_stop_f u23.2.1 (5 : Int32) s1.2.2.2.2.1 u23.2.2.1) (fun u26 => some (Sum.inl (nI (tc - (r + 1 + 1)) + (1 : Int32), u26.2.1, u26.2.2, u23.2.2.2))) else some (Sum.inl (nI (tc - (r + 1 + 1)) + (1 : Int32), u23.2.1, u23.2.2.1, u23.2.2.2))) else some (Sum.inr (nI (tc - (r + 1 + 1)), u23.2.1, u23.2.2.1, u23.2.2.2)))))) = _
        rw [fine_0, bd_s, if_neg (show ¬ (1 : Int32) = 0 by decide), read_m hF ht (by omega) (show q + 1 ≤ 8 * F by omega), bd_s, bv1, nI_1, show tc - (r + 1 + 1) + 1 = tc - (r + 1) by omega, if_neg (show ¬ nI (tc - (r + 1)) = nI tc by rw [nI_eq (by omega) (by omega)]; omega)]
      rw [hL, if_pos h]
      cases hx : xb tp q with
      | true =>
        rw [if_pos (show nI true.toNat = (1 : Int32) from rfl), if_pos (show true = true from rfl)]
        exact ih z (q + 1) (by omega) (by omega) (by omega)
      | false =>
        rw [if_neg (show ¬ nI false.toNat = (1 : Int32) by decide), if_neg Bool.noConfusion]
        exact ⟨tc - (r + 1 + 1), (0 : Int32), (-1 : Int32), nI (q + 1), rfl, by omega, ⟨fun e he => (by cases he), fun w hw => (by cases hw; exact ⟨rfl, rfl, rfl, rfl⟩)⟩⟩
    · have hL : Model_readGroups_L109 (nI (8 * F)) tape (nI tc) s1 (nI (tc - (r + 1 + 1)), (0 : Int32), (-1 : Int32), nI q) = some (Sum.inr (nI (tc - (r + 1 + 1)), nI 2, nI (8 * F), nI (8 * F))) := by
        show bd (Model_isFine_f (0 : Int32)) (fun u21 => (if u21 = 0 then _ else bd (Model_read_f (0 : Int32) (nI 1) (nI (8 * F)) tape (nI q) (-1 : Int32)) (fun u23 => (if u23.1 = (1 : Int32) then _ else some (Sum.inr (nI (tc - (r + 1 + 1)), u23.2.1, u23.2.2.1, u23.2.2.2)))))) = _
        rw [fine_0, bd_s, if_neg (show ¬ (1 : Int32) = 0 by decide), read_me hF ht (by omega) hq (show 8 * F < q + 1 by omega), bd_s, if_neg (show ¬ (0 : Int32) = 1 by decide)]
      rw [hL, if_neg h]
      exact ⟨tc - (r + 1 + 1), nI 2, nI (8 * F), nI (8 * F), rfl, by omega, ⟨fun e he => (by cases he; exact ⟨rfl, rfl, by show 0 < _; omega, by show _ < 16; omega⟩), fun w hw => (by cases hw)⟩⟩
abbrev okD (G : Nat) (r : (Nat × Nat) ⊕ (Nat × (Nat → Nat))) (flt pl bit : Int32) (ch : Nat → Int32) : Prop := (∀ e, r = Sum.inl e → flt = nI e.1 ∧ pl = nI e.2 ∧ 0 < e.1 ∧ e.1 < 16) ∧ ∀ v, r = Sum.inr v → flt = 0 ∧ pl = (-1 : Int32) ∧ bit = nI v.1 ∧ ∀ j, j < G → ch j = nI (v.2 j)
theorem okD_e {G e p : Nat} {bit : Int32} {ch : Nat → Int32} (h1 : 0 < e) (h2 : e < 16) : okD G (Sum.inl (e, p)) (nI e) (nI p) bit ch := ⟨fun e2 h => (by cases h; exact ⟨rfl, rfl, h1, h2⟩), fun v h => (by cases h)⟩
theorem okD_r {G q : Nat} {T : Nat → Nat} {ch : Nat → Int32} (h : ∀ j, j < G → ch j = nI (T j)) : okD G (Sum.inr (q, T)) (0 : Int32) (-1 : Int32) (nI q) ch := ⟨fun e h2 => (by cases h2), fun v h2 => (by cases h2; exact ⟨rfl, rfl, rfl, h⟩)⟩
theorem grStop {fl p b a1 a2 : Int32} {ch : Nat → Int32} {F : Nat} {tape : Nat → Int32} {t g : Int32} {z : Nat} (hfl : ¬ fl = 0) (hz : 0 < z) : lpF (Model_readGroups_L86 g (nI (8 * F)) tape t) z (a1, a2, fl, p, b, ch) = some (fl, p, b, ch) := by
  obtain ⟨z, rfl⟩ : ∃ z2, z = z2 + 1 := ⟨z - 1, by omega⟩
  have hb : Model_readGroups_L86 g (nI (8 * F)) tape t (a1, a2, fl, p, b, ch) = some (Sum.inr (fl, p, b, ch)) := by
    show (if g ≤ a2 then some (Sum.inr (fl, p, b, ch)) else bd (Model_isFine_f fl) (fun u6 => (if u6 = 0 then some (Sum.inr (fl, p, b, ch)) else _))) = _
    by_cases h : g ≤ a2
    · rw [if_pos h]
    · rw [if_neg h, fine_n hfl, bd_s, if_pos rfl]
  rw [lpF_s, hb]
  rfl
theorem grps_m {tp : Nat → Nat} {F tc G : Nat} {tape : Nat → Int32} (hF : F ≤ 10240) (ht : ∀ j, j < F → tape j = nb (tp j) ∧ tp j < 256) (htc1 : 1 ≤ tc) (htc : tc ≤ 6) (hG : G < 32768) : ∀ (r i z q : Nat) (g T : Nat → Nat) (ch : Nat → Int32), r + i = G → r < z → q ≤ 8 * F → (∀ j, j < 6 → g j < 10) → (∀ j, j < i → ch j = nI (T j)) → ∃ flt pl bit ch2, lpF (Model_readGroups_L86 (nI G) (nI (8 * F)) tape (nI tc)) z (nI (dgS g), nI i, (0 : Int32), (-1 : Int32), nI q, ch) = some (flt, pl, bit, ch2) ∧ okD G (grN (8 * F) (xb tp) tc r i q g T) flt pl bit ch2 := by
  intro r
  induction r with
  | zero =>
    intro i z q g T ch hri hz hq hg hch
    obtain ⟨z, rfl⟩ : ∃ z2, z = z2 + 1 := ⟨z - 1, by omega⟩
    have hb : Model_readGroups_L86 (nI G) (nI (8 * F)) tape (nI tc) (nI (dgS g), nI i, (0 : Int32), (-1 : Int32), nI q, ch) = some (Sum.inr ((0 : Int32), (-1 : Int32), nI q, ch)) := by
      show (if nI G ≤ nI i then _ else _) = _
      rw [if_pos (nI_le (by omega) (by omega))]
    rw [lpF_s, hb, grN]
    exact ⟨_, _, _, _, rfl, okD_r (fun j h1 => hch j (by omega))⟩
  | succ r ih =>
    intro i z q g T ch hri hz hq hg hch
    obtain ⟨z, rfl⟩ : ∃ z2, z = z2 + 1 := ⟨z - 1, by omega⟩
    rw [lpF_s, grN]
    obtain ⟨o, flt, pl, bit, ev, hoc, hv1, hv2⟩ := ones_m (tp := tp) (q0 := q) (s1 := (nI (dgS g), nI i, (0 : Int32), (-1 : Int32), nI q, ch)) hF ht rfl htc (tc - 1) gas q (by omega) (Nat.lt_of_lt_of_le (by omega) gas_le) hq
    rw [show tc - 1 + 1 = tc by omega, show tc - tc = 0 by omega] at ev
    rw [show tc - 1 + 1 = tc by omega] at hv1 hv2
    have hdb := dg_b hg
    have hp1 : 1 ≤ 10 ^ o := Nat.pow_pos (by omega)
    have hp2 : 10 ^ o ≤ 10 ^ 6 := Nat.pow_le_pow_right (by omega) (by omega)
    have hnz : nz (nI (10 ^ o)) = true := by
      unfold nz
      exact decide_eq_true (nI_ne0 (by omega) (by omega))
    have hnz2 : nz (nI (10 ^ o * 10)) = true := by
      unfold nz
      exact decide_eq_true (nI_ne0 (by omega) (by omega))
    have hS : Model_readGroups_L86 (nI G) (nI (8 * F)) tape (nI tc) (nI (dgS g), nI i, (0 : Int32), (-1 : Int32), nI q, ch) = some (Sum.inl (nI (dgS g / (10 ^ o * 10) * (10 ^ o * 10) + dgS g % 10 ^ o * 10 + dgS g / 10 ^ o % 10), nI (i + 1), flt, pl, bit, upd ch i (nI (dgS g / 10 ^ o % 10)))) := by
      show (if nI G ≤ nI i then _ else bd (Model_isFine_f (0 : Int32)) (fun u6 => (if u6 = 0 then _ else bd (lpF (Model_readGroups_L109 (nI (8 * F)) tape (nI tc) (nI (dgS g), nI i, (0 : Int32), (-1 : Int32), nI q, ch)) gas ((0 : Int32), (0 : Int32), (-1 : Int32), nI q)) _))) = _
      rw [if_neg (nI_ge (by omega) (by omega)), fine_0, bd_s, if_neg (show ¬ (1 : Int32) = 0 by decide), show lpF (Model_readGroups_L109 (nI (8 * F)) tape (nI tc) (nI (dgS g), nI i, (0 : Int32), (-1 : Int32), nI q, ch)) gas ((0 : Int32), (0 : Int32), (-1 : Int32), nI q) = _ from ev, bd_s]
      show bd (lpF (Model_readGroups_L153 (nI o, flt, pl, bit)) gas ((1 : Int32), (0 : Int32))) _ = _
      rw [ten_m rfl (by omega), bd_s]
      show gd (nz (nI (10 ^ o))) (gd (nz (nI (10 ^ o) * nI 10)) (gd (nz (nI (10 ^ o))) (gd (ix (nI i) 32767) (some (Sum.inl (((nI (dgS g) / (nI (10 ^ o) * nI 10)) * (nI (10 ^ o) * nI 10) + (nI (dgS g) - nI (dgS g) / nI (10 ^ o) * nI (10 ^ o)) * nI 10) + (nI (dgS g) / nI (10 ^ o) - (nI (dgS g) / nI (10 ^ o)) / nI 10 * nI 10), nI i + (1 : Int32), flt, pl, bit, upd ch (nI i).toNatClampNeg (nI (dgS g) / nI (10 ^ o) - (nI (dgS g) / nI (10 ^ o)) / nI 10 * nI 10))))))) = _
      have hd1 : dgS g / 10 ^ o ≤ dgS g := Nat.div_le_self _ _
      rw [pk_mul, hnz, gd_t, hnz2, gd_t, gd_t, ixN (show i < 32767 by omega) (by omega), gd_t, pk_rem (show dgS g < 2 ^ 31 by omega) (show 0 < 10 ^ o by omega) (by omega), pk_div (show dgS g < 2 ^ 31 by omega) (show 0 < 10 ^ o by omega) (by omega), pk_div (show dgS g < 2 ^ 31 by omega) (show 0 < 10 ^ o * 10 by omega) (by omega), pk_rem (a := dgS g / 10 ^ o) (d := 10) (by omega) (by omega) (by omega), pk_mul, pk_mul, nI_add, nI_add, nI_1, nI_clamp (by omega)]
    rw [hS, bd_s]
    cases ho : onN (8 * F) (xb tp) tc q tc q with
    | inl e =>
      obtain ⟨e1, e2⟩ := e
      obtain ⟨h1, h2, h3, h4⟩ := hv1 _ ho
      have h1 : flt = nI e1 := h1
      have h2 : pl = nI e2 := h2
      have h3 : 0 < e1 := h3
      have h4 : e1 < 16 := h4
      have hne : ¬ flt = 0 := by rw [h1]; exact nI_ne0 (by omega) (by omega)
      exact ⟨flt, pl, bit, _, grStop hne (by omega), by rw [h1, h2]; exact okD_e h3 h4⟩
    | inr w =>
      obtain ⟨o2, q2⟩ := w
      obtain ⟨ho1, ho2⟩ := onN_r (Nat.le_refl _) ho
      obtain ⟨h1, h2, h3, h4⟩ := hv2 _ ho
      have h1 : o = o2 := h1
      have h4 : bit = nI q2 := h4
      rw [h2, h3, h4, dg_mtf hg (show o < 6 by omega), dg_at hg (show o < 6 by omega), h1]
      refine ih (i + 1) z q2 (mtfN g o2) (updN T i (g o2)) (upd ch i (nI (g o2))) (by omega) (by omega) ho2 (mtfN_lt (by omega) hg) (fun j h1 => ?_)
      by_cases hji : j = i
      · rw [hji, updN_s]; exact if_pos rfl
      · rw [updN_n _ hji]
        exact (if_neg hji).trans (hch j (by omega))
noncomputable def rgN (E : Nat) (x : Nat → Bool) (q : Nat) : (Nat × Nat) ⊕ (Nat × Nat × Nat × (Nat → Nat)) := Sum.elim (fun e => Sum.inl e) (fun v => Sum.elim (fun e => Sum.inl e) (fun w => Sum.inr (v.1, v.2, w.1, w.2)) (grN E x v.1 v.2 0 (q + 18) (fun j => j) (fun _ => 0))) (rcN E x q)
abbrev okH (r : (Nat × Nat) ⊕ (Nat × Nat × Nat × (Nat → Nat))) (flt pl bit tc gc : Int32) (ch : Nat → Int32) : Prop := (∀ e, r = Sum.inl e → flt = nI e.1 ∧ pl = nI e.2 ∧ 0 < e.1 ∧ e.1 < 16) ∧ ∀ v, r = Sum.inr v → flt = 0 ∧ pl = (-1 : Int32) ∧ bit = nI v.2.2.1 ∧ tc = nI v.1 ∧ gc = nI v.2.1 ∧ ∀ j, j < v.2.1 → ch j = nI (v.2.2.2 j)
theorem okH_e {e p : Nat} {bit tc gc : Int32} {ch : Nat → Int32} (h1 : 0 < e) (h2 : e < 16) : okH (Sum.inl (e, p)) (nI e) (nI p) bit tc gc ch := ⟨fun e2 h => (by cases h; exact ⟨rfl, rfl, h1, h2⟩), fun v h => (by cases h)⟩
theorem readGroups_m {tp : Nat → Nat} {F q : Nat} {tape ch : Nat → Int32} (hF : F ≤ 10240) (ht : ∀ j, j < F → tape j = nb (tp j) ∧ tp j < 256) (hq : q ≤ 8 * F) : ∃ flt pl bit tc gc ch2, Model_readGroups_f (0 : Int32) (nI (8 * F)) tape (nI q) (-1 : Int32) ch = some (flt, pl, bit, tc, gc, ch2) ∧ okH (rgN (8 * F) (xb tp) q) flt pl bit tc gc ch2 := by
  have hJ81 : ∀ (fl p b t g : Int32), ¬ fl = 0 → Model_readGroups_J81 (nI (8 * F)) tape ch fl p b t g = some (fl, p, b, t, g, ch) := by
    intro fl p b t g hfl
    unfold Model_readGroups_J81
    rw [grStop hfl (Nat.lt_of_lt_of_le (by omega) gas_le), bd_s]
  have hJ45 : ∀ (fl p b t : Int32), ¬ fl = 0 → Model_readGroups_J45 (nI (8 * F)) tape ch fl p b t = some (fl, p, b, t, (0 : Int32), ch) := by
    intro fl p b t hfl
    unfold Model_readGroups_J45
    rw [read_mf hfl, bd_s]
    show bd (Model_isFine_f fl) (fun u28 => (if u28 = 0 then Model_readGroups_J81 (nI (8 * F)) tape ch fl p b t (0 : Int32) else _)) = _
    rw [fine_n hfl, bd_s, if_pos rfl, hJ81 _ _ _ _ _ hfl]
  have hJ38 : ∀ (b t : Int32), Model_readGroups_J38 (nI (8 * F)) tape ch (nI q) (0 : Int32) (-1 : Int32) b t = some (nI 5, nI q, b, t, (0 : Int32), ch) := by
    intro b t
    unfold Model_readGroups_J38
    rw [stop_0, bd_s]
    exact hJ45 (5 : Int32) (nI q) b t (by decide)
  unfold Model_readGroups_f rgN rcN
  by_cases h1 : q + 3 ≤ 8 * F
  · rw [show Model_read_f (0 : Int32) (3 : Int32) (nI (8 * F)) tape (nI q) (-1 : Int32) = _ from read_m (k := 3) hF ht (by omega) h1, bd_s, if_pos h1, bvI_N _ _ 3 (by omega)]
    have hb3 := bvN_lt (xb tp) q 3
    show ∃ flt pl bit tc gc ch2, bd (Model_isFine_f (0 : Int32)) (fun u34 => (if u34 = 0 then _ else (if nI (bvN (xb tp) q 3) < nI 2 then Model_readGroups_J38 (nI (8 * F)) tape ch (nI q) (0 : Int32) (-1 : Int32) (nI (q + 3)) (nI (bvN (xb tp) q 3)) else (if nI (bvN (xb tp) q 3) ≤ nI 6 then Model_readGroups_J45 (nI (8 * F)) tape ch (0 : Int32) (-1 : Int32) (nI (q + 3)) (nI (bvN (xb tp) q 3)) else Model_readGroups_J38 (nI (8 * F)) tape ch (nI q) (0 : Int32) (-1 : Int32) (nI (q + 3)) (nI (bvN (xb tp) q 3)))))) = _ ∧ _
    rw [fine_0, bd_s, if_neg (show ¬ (1 : Int32) = 0 by decide)]
    by_cases h2 : bvN (xb tp) q 3 < 2
    · rw [if_pos (nI_lt h2 (by omega)), if_pos (Or.inl h2), hJ38]
      exact ⟨_, _, _, _, _, _, rfl, okH_e (by omega) (by omega)⟩
    · rw [if_neg (nI_nlt (by omega) (by omega))]
      by_cases h3 : 6 < bvN (xb tp) q 3
      · rw [if_neg (nI_ge h3 (by omega)), if_pos (Or.inr h3), hJ38]
        exact ⟨_, _, _, _, _, _, rfl, okH_e (by omega) (by omega)⟩
      · rw [if_pos (nI_le (by omega) (by omega)), if_neg (show ¬ (bvN (xb tp) q 3 < 2 ∨ 6 < bvN (xb tp) q 3) by omega)]
        generalize bvN (xb tp) q 3 = tcn at *
        by_cases h4 : q + 18 ≤ 8 * F
        · unfold Model_readGroups_J45
          rw [show Model_read_f (0 : Int32) (15 : Int32) (nI (8 * F)) tape (nI (q + 3)) (-1 : Int32) = _ from read_m (k := 15) hF ht (by omega) (show q + 3 + 15 ≤ 8 * F by omega), bd_s, if_pos h4, bvI_N _ _ 15 (by omega)]
          have hb15 := bvN_lt (xb tp) (q + 3) 15
          generalize bvN (xb tp) (q + 3) 15 = gn at *
          show ∃ flt pl bit tc gc ch2, bd (Model_isFine_f (0 : Int32)) (fun u28 => (if u28 = 0 then _ else (if nI gn = 0 then bd (Model_stop_f (0 : Int32) (5 : Int32) (nI (q + 3)) (-1 : Int32)) (fun u31 => Model_readGroups_J81 (nI (8 * F)) tape ch u31.2.1 u31.2.2 (nI (q + 3 + 15)) (nI tcn) (nI gn)) else Model_readGroups_J81 (nI (8 * F)) tape ch (0 : Int32) (-1 : Int32) (nI (q + 3 + 15)) (nI tcn) (nI gn)))) = _ ∧ _
          rw [fine_0, bd_s, if_neg (show ¬ (1 : Int32) = 0 by decide)]
          by_cases h5 : gn = 0
          · rw [if_pos (show nI gn = 0 by rw [h5]; rfl), if_pos h5, stop_0, bd_s, hJ81 _ _ _ _ _ (show ¬ (5 : Int32) = 0 by decide)]
            exact ⟨_, _, _, _, _, _, rfl, okH_e (e := 5) (by omega) (by omega)⟩
          · rw [if_neg (nI_ne0 (by omega) (by omega)), if_neg h5]
            unfold Model_readGroups_J81
            obtain ⟨flt, pl, bit, ch2, ev, hv1, hv2⟩ := grps_m (tp := tp) (tc := tcn) (G := gn) hF ht (by omega) (by omega) (by omega) gn 0 gas (q + 18) (fun j => j) (fun _ => 0) ch (by omega) (Nat.lt_of_lt_of_le (by omega) gas_le) h4 (fun j hj => (by omega)) (fun j hj => absurd hj (Nat.not_lt_zero _))
            rw [show lpF (Model_readGroups_L86 (nI gn) (nI (8 * F)) tape (nI tcn)) gas ((543210 : Int32), (0 : Int32), (0 : Int32), (-1 : Int32), nI (q + 3 + 15), ch) = _ from ev, bd_s]
            refine ⟨flt, pl, bit, nI tcn, nI gn, ch2, rfl, ?_⟩
            show okH (Sum.elim (fun e => Sum.inl e) (fun w => Sum.inr (tcn, gn, w.1, w.2)) (grN (8 * F) (xb tp) tcn gn 0 (q + 18) (fun j => j) (fun _ => 0))) flt pl bit (nI tcn) (nI gn) ch2
            cases hgr : grN (8 * F) (xb tp) tcn gn 0 (q + 18) (fun j => j) (fun _ => 0) with
            | inl e => exact ⟨fun e2 h => (by cases h; exact hv1 _ hgr), fun v h => (by cases h)⟩
            | inr w =>
              obtain ⟨a1, a2, a3, a4⟩ := hv2 _ hgr
              exact ⟨fun e2 h => (by cases h), fun v h => (by cases h; exact ⟨a1, a2, a3, rfl, rfl, a4⟩)⟩
        · unfold Model_readGroups_J45
          rw [show Model_read_f (0 : Int32) (15 : Int32) (nI (8 * F)) tape (nI (q + 3)) (-1 : Int32) = _ from read_me (k := 15) hF ht (by omega) (show q + 3 ≤ 8 * F from h1) (show 8 * F < q + 3 + 15 by omega), bd_s, if_neg h4]
          show ∃ flt pl bit tc gc ch2, bd (Model_isFine_f (nI 2)) (fun u28 => (if u28 = 0 then Model_readGroups_J81 (nI (8 * F)) tape ch (nI 2) (nI (8 * F)) (nI (8 * F)) (nI tcn) (0 : Int32) else _)) = _ ∧ _
          rw [fine_n (by decide), bd_s, if_pos rfl, hJ81 _ _ _ _ _ (by decide)]
          exact ⟨_, _, _, _, _, _, rfl, okH_e (by omega) (by omega)⟩
  · rw [show Model_read_f (0 : Int32) (3 : Int32) (nI (8 * F)) tape (nI q) (-1 : Int32) = _ from read_me (k := 3) hF ht (by omega) hq (show 8 * F < q + 3 by omega), bd_s, if_neg h1]
    show ∃ flt pl bit tc gc ch2, bd (Model_isFine_f (nI 2)) (fun u34 => (if u34 = 0 then Model_readGroups_J45 (nI (8 * F)) tape ch (nI 2) (nI (8 * F)) (nI (8 * F)) (0 : Int32) else _)) = _ ∧ _
    rw [fine_n (by decide), bd_s, if_pos rfl, hJ45 _ _ _ _ (by decide)]
    exact ⟨_, _, _, _, _, _, rfl, okH_e (by omega) (by omega)⟩
