/-! RUNS: how long the run is that begins at k -/
def rg (tp : Nat → Nat) (F k i : Nat) : Nat := if 0 < i ∧ (F ≤ k + i ∨ tp (k + i) ≠ tp k) then 1 else 0
def rl0 (tp : Nat → Nat) (F k : Nat) : Nat := fp (rg tp F k) 1 255
theorem rl0_spec {tp : Nat → Nat} {F k : Nat} (hk : k < F) : 1 ≤ rl0 tp F k ∧ rl0 tp F k ≤ 255 ∧ k + rl0 tp F k ≤ F ∧ (∀ i, 0 < i → i < rl0 tp F k → k + i < F ∧ tp (k + i) = tp k) ∧ (rl0 tp F k < 255 → F ≤ k + rl0 tp F k ∨ tp (k + rl0 tp F k) ≠ tp k) := by
  obtain ⟨h1, h2, h3⟩ := fp_spec (rg tp F k) 1 255
  have h4 : ∀ i, 0 < i → i < rl0 tp F k → k + i < F ∧ tp (k + i) = tp k := by
    intro i hi hir
    have h5 := h2 i hir
    unfold rg at h5
    by_cases h6 : 0 < i ∧ (F ≤ k + i ∨ tp (k + i) ≠ tp k)
    · rw [if_pos h6] at h5
      exact absurd rfl h5
    · exact ⟨by omega, Decidable.byContradiction (fun q => h6 ⟨hi, Or.inr q⟩)⟩
  have h0 : rl0 tp F k ≠ 0 := by
    intro q
    have h5 := h3 (by unfold rl0 at q; omega)
    unfold rl0 at q
    rw [q] at h5
    unfold rg at h5
    rw [if_neg (by omega)] at h5
    omega
  refine ⟨by omega, h1, ?_, h4, fun h => ?_⟩
  · by_cases h5 : rl0 tp F k = 1
    · omega
    · have := (h4 (rl0 tp F k - 1) (by omega) (by omega)).1
      omega
  · have h5 := h3 h
    unfold rg at h5
    by_cases h6 : 0 < fp (rg tp F k) 1 255 ∧ (F ≤ k + fp (rg tp F k) 1 255 ∨ tp (k + fp (rg tp F k) 1 255) ≠ tp k)
    · exact h6.2
    · have h7 : rg tp F k (fp (rg tp F k) 1 255) = 0 := if_neg h6
      have h8 := h3 h
      omega
theorem rln_ex (tp : Nat → Nat) (F k : Nat) : ∃ r, k < F → 1 ≤ r ∧ r ≤ 255 ∧ k + r ≤ F ∧ (∀ i, 0 < i → i < r → k + i < F ∧ tp (k + i) = tp k) ∧ (r < 255 → F ≤ k + r ∨ tp (k + r) ≠ tp k) := ⟨rl0 tp F k, fun h => rl0_spec h⟩
noncomputable def rln (tp : Nat → Nat) (F k : Nat) : Nat := Classical.choose (rln_ex tp F k)
theorem rln_spec {tp : Nat → Nat} {F k : Nat} (hk : k < F) : 1 ≤ rln tp F k ∧ rln tp F k ≤ 255 ∧ k + rln tp F k ≤ F ∧ (∀ i, 0 < i → i < rln tp F k → k + i < F ∧ tp (k + i) = tp k) ∧ (rln tp F k < 255 → F ≤ k + rln tp F k ∨ tp (k + rln tp F k) ≠ tp k) := Classical.choose_spec (rln_ex tp F k) hk
theorem runFrom_c {tp : Nat → Nat} {F k nb : Nat} {f : Nat → Int32} (hk : k < F) (hF : F ≤ nb) (hnb : nb < 1000000) (hf : ∀ j, j < F → f j = nI (tp j) ∧ tp j < 256) : Block_runFrom_f (nI F) (nI k) nb f = some (nI (rln tp F k)) := by
  obtain ⟨r1, r2, r3, r4, r5⟩ := rln_spec (tp := tp) hk
  generalize rln tp F k = r at *
  have key : lpF (Block_runFrom_L2 (nI F) (nI k) nb f) gas (nI 1) = some (nI r) := by
    refine lp_gas (fun i => nI i) (i0 := 1) (N := r) r1 (by omega) ?_ ?_
    · intro i hi hir
      obtain ⟨h1, h2⟩ := r4 i (by omega) hir
      show (if nI 255 ≤ nI i then _ else (if nI F ≤ nI k + nI i then _ else bd (ByteRow_get_f (nI k + nI i) (nI F) nb f) (fun u7 => bd (ByteRow_get_f (nI k) (nI F) nb f) (fun u8 => (if u7 = u8 then some (Sum.inl (nI i + (1 : Int32))) else some (Sum.inr (nI i))))))) = _
      rw [if_neg (nI_ge (by omega) (by omega)), nI_add, if_neg (nI_ge (by omega) (by omega)), row_get h1 hF (by omega), bd_s, row_get hk hF (by omega), bd_s, (hf _ h1).1, (hf _ hk).1, h2, if_pos rfl, nI_1]
    · show (if nI 255 ≤ nI r then _ else (if nI F ≤ nI k + nI r then some (Sum.inr (nI r)) else bd (ByteRow_get_f (nI k + nI r) (nI F) nb f) (fun u7 => bd (ByteRow_get_f (nI k) (nI F) nb f) (fun u8 => (if u7 = u8 then some (Sum.inl (nI r + (1 : Int32))) else some (Sum.inr (nI r))))))) = _
      by_cases h1 : 255 ≤ r
      · rw [if_pos (nI_le h1 (by omega))]
      · rw [if_neg (nI_ge (by omega) (by omega)), nI_add]
        by_cases h2 : F ≤ k + r
        · rw [if_pos (nI_le h2 (by omega))]
        · have h3 := r5 (by omega)
          have t1 := (hf (k + r) (by omega)).2
          have t2 := (hf k hk).2
          rw [if_neg (nI_ge (by omega) (by omega)), row_get (show k + r < F by omega) hF (by omega), bd_s, row_get hk hF (by omega), bd_s, (hf _ (show k + r < F by omega)).1, (hf _ hk).1, if_neg (by rw [nI_eq (by omega) (by omega)]; omega)]
  unfold Block_runFrom_f
  rw [show lpF (Block_runFrom_L2 (nI F) (nI k) nb f) gas (1 : Int32) = some (nI r) from key]
  rfl
/-- what a run tells: how many; the bytes; the check -/
def nd (r : Nat) : Nat := if r < 4 then r else 5
def dx0 (d : Nat → Nat) (n b i : Nat) : Nat → Nat := fun j => if n ≤ j ∧ j < n + i then b else d j
def dx (d : Nat → Nat) (n b r : Nat) : Nat → Nat := if r < 4 then dx0 d n b r else updN (dx0 d n b 4) (n + 4) (r - 4)
def ckN (c : Int32) (b : Nat) : Nat → Int32
  | 0 => c
  | i + 1 => chk (ckN c b i) b
theorem RS_dx0 {f : Nat → Int32} {d : Nat → Nat} {n b i : Nat} (h : RS (n + i) f (dx0 d n b i)) : RS (n + (i + 1)) (upd f (n + i) (nI b)) (dx0 d n b (i + 1)) := by
  intro j hj
  unfold dx0
  by_cases h1 : j = n + i
  · rw [h1, pk_us, if_pos (by omega)]
  · rw [pk_un h1, h j (by omega)]
    unfold dx0
    by_cases h2 : n ≤ j ∧ j < n + i
    · rw [if_pos h2, if_pos (by omega)]
    · rw [if_neg h2, if_neg (by omega)]
theorem RS_dx00 {f : Nat → Int32} {d : Nat → Nat} {n b : Nat} (h : RS n f d) : RS (n + 0) f (dx0 d n b 0) := by
  intro j hj
  unfold dx0
  rw [if_neg (by omega)]
  exact h j hj
theorem dx_b {d : Nat → Nat} {n b r : Nat} (hd : ∀ j, j < n → d j < 256) (hb : b < 256) (hr : r ≤ 255) : ∀ j, j < n + nd r → dx d n b r j < 256 := by
  intro j hj
  unfold nd at hj
  unfold dx
  by_cases h1 : r < 4
  · rw [if_pos h1] at hj ⊢
    unfold dx0
    by_cases h2 : n ≤ j ∧ j < n + r
    · rw [if_pos h2]; exact hb
    · rw [if_neg h2]; exact hd j (by omega)
  · rw [if_neg h1] at hj ⊢
    by_cases h3 : j = n + 4
    · rw [h3, updN_s]; omega
    · rw [updN_n _ h3]
      unfold dx0
      by_cases h2 : n ≤ j ∧ j < n + 4
      · rw [if_pos h2]; exact hb
      · rw [if_neg h2]; exact hd j (by omega)
theorem tellRun_c {n b r : Nat} {c : Int32} {lv f : Nat → Int32} {d : Nat → Nat} (hlv : ∀ j, j < 256 → lv j = chkT j) (hb : b < 256) (hr : r ≤ 255) (hn : n + nd r ≤ 2250) (h : RS n f d) :
    ∃ f2, Block_tellRun_f (nI r) (nI b) lv c f (nI n) = some (ckN c b r, f2, nI (n + nd r)) ∧ RS (n + nd r) f2 (dx d n b r) := by
  have hnd : min r 4 ≤ nd r := by
    unfold nd
    by_cases h1 : r < 4
    · rw [if_pos h1]; omega
    · rw [if_neg h1]; omega
  have l1 : ∃ p : Int32 × (Nat → Int32) × Int32, lpF (Block_tellRun_L3 (nI r) (nI b) lv) gas ((0 : Int32), c, f, nI n) = some p ∧ p.1 = ckN c b r ∧ p.2.2 = nI (n + min r 4) ∧ RS (n + min r 4) p.2.1 (dx0 d n b (min r 4)) := by
    refine lp_for (fun i s => ∃ f, s = (nI i, ckN c b i, f, nI (n + min i 4)) ∧ RS (n + min i 4) f (dx0 d n b (min i 4))) _ (i0 := 0) (N := r) (Nat.zero_le _) (by omega) ?_ ?_ ⟨f, rfl, RS_dx00 h⟩
    · rintro i s _ hi ⟨f, rfl, hf⟩
      have hL : Block_tellRun_L3 (nI r) (nI b) lv (nI i, ckN c b i, f, nI (n + min i 4)) = (if nI 4 ≤ nI i then some (Sum.inl (nI (i + 1), ckN c b (i + 1), f, nI (n + min i 4))) else gd (ix (nI (n + min i 4)) 2250) (some (Sum.inl (nI (i + 1), ckN c b (i + 1), upd f (nI (n + min i 4)).toNatClampNeg (nI b), nI (n + min i 4 + 1))))) := by
        unfold Block_tellRun_L3 Block_tellRun_J40
        show (if nI r ≤ nI i then _ else bd (Check_add_f (ckN c b i) (nI b) lv) (fun u8 => (if nI 4 ≤ nI i then some (Sum.inl (nI i + (1 : Int32), u8, f, nI (n + min i 4))) else gd (ix (nI (n + min i 4)) 2250) (some (Sum.inl (nI i + (1 : Int32), u8, upd f (nI (n + min i 4)).toNatClampNeg (nI b), nI (n + min i 4) + (1 : Int32))))))) = _
        rw [if_neg (nI_ge hi (by omega)), chk_add _ hb lv hlv, bd_s, nI_1, nI_1]
        rfl
      rw [hL]
      by_cases h4 : 4 ≤ i
      · rw [if_pos (nI_le h4 (by omega))]
        refine ⟨_, rfl, f, ?_, ?_⟩
        · rw [show min (i + 1) 4 = min i 4 by omega]
        · rw [show min (i + 1) 4 = min i 4 by omega]
          exact hf
      · rw [if_neg (nI_ge (by omega) (by omega)), ixN (show n + min i 4 < 2250 by omega) (by omega), gd_t, nI_clamp (by omega)]
        refine ⟨_, rfl, upd f (n + min i 4) (nI b), ?_, ?_⟩
        · rw [show min (i + 1) 4 = min i 4 + 1 by omega]
          rfl
        · rw [show min (i + 1) 4 = min i 4 + 1 by omega]
          exact RS_dx0 hf
    · rintro s ⟨f, rfl, hf⟩
      refine ⟨(ckN c b r, f, nI (n + min r 4)), ?_, rfl, rfl, hf⟩
      show (if nI r ≤ nI r then _ else _) = _
      rw [if_pos (nI_le (Nat.le_refl _) (by omega))]
  obtain ⟨⟨c1, f1, n1⟩, e1, hc1, hn1, hf1⟩ := l1
  have hc1 : c1 = ckN c b r := hc1
  have hn1 : n1 = nI (n + min r 4) := hn1
  have hf1 : RS (n + min r 4) f1 (dx0 d n b (min r 4)) := hf1
  subst hc1 hn1
  unfold Block_tellRun_f Block_tellRun_J73
  rw [e1, bd_s]
  show ∃ f2, (if nI r < nI 4 then some (ckN c b r, f1, nI (n + min r 4)) else gd (ix (nI (n + min r 4)) 2250) (some (ckN c b r, upd f1 (nI (n + min r 4)).toNatClampNeg (nI r - nI 4), nI (n + min r 4) + (1 : Int32)))) = some (ckN c b r, f2, nI (n + nd r)) ∧ RS (n + nd r) f2 (dx d n b r)
  unfold nd dx
  unfold nd at hn hnd
  by_cases h4 : r < 4
  · rw [if_pos (nI_lt h4 (by omega)), if_pos h4, if_pos h4]
    rw [show min r 4 = r by omega] at hf1 ⊢
    exact ⟨f1, rfl, hf1⟩
  · rw [if_neg h4] at hn
    rw [if_neg (nI_nlt (by omega) (by omega)), if_neg h4, if_neg h4]
    rw [show min r 4 = 4 by omega] at hf1 ⊢
    rw [ixN (show n + 4 < 2250 by omega) (by omega), gd_t, nI_clamp (show n + 4 < 2 ^ 31 by omega), pk_sub (show 4 ≤ r by omega), nI_1]
    exact ⟨_, rfl, RS_upd hf1⟩
