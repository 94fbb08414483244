/-! UNPACKING: from LAST back to the bytes -/
noncomputable def NX (R : Nat → Nat) (n q : Nat) : Nat := Classical.epsilon (fun b => b < n ∧ kpos (lexk R (fun x => x) n) n b = q)
theorem NX_ok {R : Nat → Nat} {n q : Nat} {O : Nat → Int32} (hO : ∀ b, b < n → O (kpos (lexk R (fun x => x) n) n b) = nI b) (hq : q < n) : O q = nI (NX R n q) ∧ NX R n q < n := by
  have h := Classical.epsilon_spec (p := fun b => b < n ∧ kpos (lexk R (fun x => x) n) n b = q) (kpos_sur (K := lexk R (fun x => x) n) (fun x y hx hy h => lexk_inj (fun _ h => h) (fun _ _ _ _ h => h) hx hy h) hq)
  refine ⟨?_, h.1⟩
  have h2 := hO _ h.1
  rw [h.2] at h2
  exact h2
noncomputable def exN (R : Nat → Nat) (n lim bAt : Nat) : Nat → Nat → Nat → Nat → Int32 → Nat → (Nat → Nat) → (Nat × Nat) ⊕ (Nat × Int32 × Nat × (Nat → Nat))
  | 0, _, e, _, c, m, w => Sum.inr (e, c, m, w)
  | f + 1, a, e, bf, c, m, w => if e = 4 then (if R (NX R n a) ≤ 251 then (if m + R (NX R n a) ≤ lim then exN R n lim bAt f (NX R n a) 0 bf (ckN c bf (R (NX R n a))) (m + R (NX R n a)) (flN w m (m + R (NX R n a)) bf) else Sum.inl (12, bAt)) else Sum.inl (11, bAt)) else (if m + 1 ≤ lim then exN R n lim bAt f (NX R n a) (if e ≠ 0 ∧ R (NX R n a) = bf then e + 1 else 1) (R (NX R n a)) (ckN c (R (NX R n a)) 1) (m + 1) (flN w m (m + 1) (R (NX R n a))) else Sum.inl (12, bAt))
noncomputable def exF (r : (Nat × Nat) ⊕ (Nat × Int32 × Nat × (Nat → Nat))) (due : Int32) (bAt : Nat) : (Nat × Nat) ⊕ (Nat × (Nat → Nat)) := Sum.elim (fun e => Sum.inl e) (fun v => if v.1 = 4 then Sum.inl (11, bAt) else if v.2.1 ^^^ (-1 : Int32) = due then Sum.inr v.2.2 else Sum.inl (13, bAt)) r
/-- a row of bytes holds the first m of w -/
abbrev RW (m : Nat) (w : Nat → Nat) (n0 n : Nat) (f : Nat → Int32) (ct : Int32) : Prop := ct = nI m ∧ RS m f w ∧ m ≤ n ∧ 1 ≤ n ∧ n0 ≤ n ∧ (n = n0 ∨ n ≤ 2 * m)
theorem RW_add {m n0 n b : Nat} {w : Nat → Nat} {f : Nat → Int32} {ct : Int32} (h : RW m w n0 n f ct) (hm : m ≤ 100000) (hn0 : n0 ≤ 1000000) : ∃ n2 f2, ByteRow_add_f ct n (nI b) f = some (n2, f2, nI (m + 1)) ∧ RW (m + 1) (flN w m (m + 1) b) n0 n2 f2 (nI (m + 1)) := by
  obtain ⟨h1, h2, h3, h4, h5, h6⟩ := h
  obtain ⟨f2, e, hf1, hf2⟩ := row_add (v := nI b) (f := f) h3 h4 (by omega)
  refine ⟨if m < n then n else 2 * n, f2, by rw [h1]; exact e, rfl, fun j hj => ?_, ?_, ?_, ?_, ?_⟩
  · unfold flN
    by_cases hj2 : j = m
    · rw [if_pos (by omega), hj2, hf2]
    · rw [if_neg (by omega), hf1 j (by omega)]
      exact h2 j (by omega)
  all_goals
    by_cases h7 : m < n
    · rw [if_pos h7]; omega
    · rw [if_neg h7]; omega
theorem fl_fl (w : Nat → Nat) (m i b : Nat) : flN (flN w m (m + i) b) (m + i) (m + i + 1) b = flN w m (m + (i + 1)) b := by
  funext j
  unfold flN
  by_cases h1 : m + i ≤ j ∧ j < m + i + 1
  · rw [if_pos h1, if_pos (by omega)]
  · rw [if_neg h1]
    by_cases h2 : m ≤ j ∧ j < m + i
    · rw [if_pos h2, if_pos (by omega)]
    · rw [if_neg h2, if_neg (by omega)]
theorem fl_0 (w : Nat → Nat) (m b : Nat) : flN w m (m + 0) b = w := by
  funext j
  exact if_neg (by omega)
theorem giveOut_c {m n0 n b t lim : Nat} {w : Nat → Nat} {f lv : Nat → Int32} {ct c : Int32} (hlv : ∀ j, j < 256 → lv j = chkT j) (hb : b < 256) (ht : t ≤ 255) (hlim : lim ≤ 60000) (hm : m ≤ lim) (hn0 : n0 ≤ 1000000) (h : RW m w n0 n f ct) :
    ∃ n2 f2 ct2 c2, Unpacker_giveOut_f ct (nI t) (nI lim) (nI b) lv n f c = some ((if m + t ≤ lim then (1 : Int32) else (0 : Int32)), n2, f2, ct2, c2) ∧ n0 ≤ n2 ∧ n2 ≤ max n0 (2 * lim) ∧ (m + t ≤ lim → c2 = ckN c b t ∧ RW (m + t) (flN w m (m + t) b) n0 n2 f2 ct2) := by
  have h1 := h.1
  unfold Unpacker_giveOut_f
  rw [h1, nI_add]
  by_cases hfit : m + t ≤ lim
  · have l1 : ∃ q : Nat × (Nat → Int32) × Int32 × Int32, lpF (Unpacker_giveOut_L20 (nI t) (nI b) lv) gas ((0 : Int32), n, f, nI m, c) = some q ∧ q.2.2.2 = ckN c b t ∧ RW (m + t) (flN w m (m + t) b) n0 q.1 q.2.1 q.2.2.1 := by
      refine lp_for (fun i s => ∃ n f ct, s = (nI i, n, f, ct, ckN c b i) ∧ RW (m + i) (flN w m (m + i) b) n0 n f ct) _ (i0 := 0) (N := t) (Nat.zero_le _) (by omega) ?_ ?_ ⟨n, f, nI m, rfl, by rw [fl_0, Nat.add_zero, ← h1]; exact h⟩
      · rintro i s _ hi ⟨n, f, ct, rfl, hR⟩
        obtain ⟨n2, f2, e2, hR2⟩ := RW_add (b := b) hR (by omega) hn0
        rw [fl_fl] at hR2
        refine ⟨(nI (i + 1), n2, f2, nI (m + i + 1), ckN c b (i + 1)), ?_, n2, f2, _, rfl, hR2⟩
        show (if nI t ≤ nI i then _ else bd (ByteRow_add_f ct n (nI b) f) (fun u7 => bd (Check_add_f (ckN c b i) (nI b) lv) (fun u8 => some (Sum.inl (nI i + (1 : Int32), u7.1, u7.2.1, u7.2.2, u8))))) = _
        rw [if_neg (nI_ge hi (by omega)), e2, bd_s, chk_add _ hb lv hlv, bd_s, nI_1]
        rfl
      · rintro s ⟨n, f, ct, rfl, hR⟩
        refine ⟨(n, f, ct, ckN c b t), ?_, rfl, hR⟩
        show (if nI t ≤ nI t then _ else _) = _
        rw [if_pos (nI_le (Nat.le_refl _) (by omega))]
    obtain ⟨⟨n2, f2, ct2, c2⟩, e1, hc2, hR⟩ := l1
    have hR2 : RW (m + t) (flN w m (m + t) b) n0 n2 f2 ct2 := hR
    refine ⟨n2, f2, ct2, c2, ?_, hR2.2.2.2.2.1, ?_, fun _ => ⟨hc2, hR2⟩⟩
    · rw [if_pos (nI_le hfit (by omega)), if_pos hfit, e1, bd_s]
    · have := hR2.2.2.2.2.2
      omega
  · refine ⟨n, f, nI m, c, ?_, h.2.2.2.2.1, ?_, fun q => absurd q hfit⟩
    · rw [if_neg (nI_ge (by omega) (by omega)), if_neg hfit]
    · have := h.2.2.2.2.2
      omega
abbrev okU (r : (Nat × Nat) ⊕ (Nat × (Nat → Nat))) (n0 lim : Nat) (rt flt fa : Int32) (n : Nat) (f : Nat → Int32) (ct : Int32) : Prop := n0 ≤ n ∧ n ≤ max n0 (2 * lim) ∧ (∀ e, r = Sum.inl e → rt = 0 ∧ flt = nI e.1 ∧ fa = nI e.2) ∧ ∀ v, r = Sum.inr v → rt = 1 ∧ flt = 0 ∧ fa = (-1 : Int32) ∧ v.1 ≤ lim ∧ RW v.1 v.2 n0 n f ct
theorem okU_e {e p n0 lim n : Nat} {f : Nat → Int32} {ct : Int32} (h1 : n0 ≤ n) (h2 : n ≤ max n0 (2 * lim)) : okU (Sum.inl (e, p)) n0 lim (0 : Int32) (nI e) (nI p) n f ct := ⟨h1, h2, fun e2 h => (by cases h; exact ⟨rfl, rfl, rfl⟩), fun v h => (by cases h)⟩
theorem okU_r {m n0 lim n : Nat} {w : Nat → Nat} {f : Nat → Int32} {ct : Int32} (hm : m ≤ lim) (h : RW m w n0 n f ct) : okU (Sum.inr (m, w)) n0 lim (1 : Int32) (0 : Int32) (-1 : Int32) n f ct := ⟨h.2.2.2.2.1, by have := h.2.2.2.2.2; omega, fun e h2 => (by cases h2), fun v h2 => (by cases h2; exact ⟨rfl, rfl, rfl, hm, h⟩)⟩
theorem unrotate_l {R : Nat → Nat} {n lim bAt n0 : Nat} {due : Int32} {last S O lv : Nat → Int32} (hn : n ≤ 2250) (hlv : ∀ j, j < 256 → lv j = chkT j) (hlim : lim ≤ 60000) (hn0 : n0 ≤ 1000000) (hla : ∀ j, j < n → last j = nI (R j) ∧ R j < 256) (hO : ∀ q, q < n → O q = nI (NX R n q) ∧ NX R n q < n) :
    ∀ (f a e bf : Nat) (c : Int32) (m : Nat) (w : Nat → Nat) (i : Nat) (bef : Int32) (nr : Nat) (fr : Nat → Int32) (ct : Int32) (z : Nat), f + i = n → a < n → e ≤ 4 → (0 < e → bef = nI bf) → bf < 256 → m ≤ lim → RW m w n0 nr fr ct → f < z →
    ∃ rt c2 flt fa nr2 fr2 ct2, bd (lpF (Unpacker_unrotate_L38 (nI n) (S, O) (nI lim) lv last) z (nI e, bef, nI a, nI i, c, nr, fr, ct)) (fun u5 => (Sum.elim (fun v6 => bd (BitReader_fail_f (11 : Int32) (nI bAt)) (fun u7 => gd (bl u7.1) (some (u7.1, S, O, v6.1, u7.2.1, u7.2.2, v6.2.1, v6.2.2.1, v6.2.2.2)))) (Sum.elim (fun v9 => bd (BitReader_fail_f (12 : Int32) (nI bAt)) (fun u10 => gd (bl u10.1) (some (u10.1, S, O, v9.1, u10.2.1, u10.2.2, v9.2.1, v9.2.2.1, v9.2.2.2)))) (fun v12 => (if v12.1 = (4 : Int32) then bd (BitReader_fail_f (11 : Int32) (nI bAt)) (fun u18 => gd (bl u18.1) (some (u18.1, S, O, v12.2.1, u18.2.1, u18.2.2, v12.2.2.1, v12.2.2.2.1, v12.2.2.2.2))) else bd (Check_ofBlock_f v12.2.1) (fun u14 => (if u14 = due then Unpacker_unrotate_J226 S O v12.2.1 (0 : Int32) (-1 : Int32) v12.2.2.1 v12.2.2.2.1 v12.2.2.2.2 else bd (BitReader_fail_f (13 : Int32) (nI bAt)) (fun u16 => (if u16.1 = 0 then Unpacker_unrotate_J231 (0 : Int32) S O v12.2.1 u16.2.1 u16.2.2 v12.2.2.1 v12.2.2.2.1 v12.2.2.2.2 else Unpacker_unrotate_J226 S O v12.2.1 u16.2.1 u16.2.2 v12.2.2.1 v12.2.2.2.1 v12.2.2.2.2)))))))) u5) = some (rt, S, O, c2, flt, fa, nr2, fr2, ct2) ∧ okU (exF (exN R n lim bAt f a e bf c m w) due bAt) n0 lim rt flt fa nr2 fr2 ct2 := by
  intro f
  induction f with
  | zero =>
    intro a e bf c m w i bef nr fr ct z hfi ha he hbef hbf hm hR hz
    obtain ⟨z, rfl⟩ : ∃ z2, z = z2 + 1 := ⟨z - 1, by omega⟩
    have hb : Unpacker_unrotate_L38 (nI n) (S, O) (nI lim) lv last (nI e, bef, nI a, nI i, c, nr, fr, ct) = some (Sum.inr (Sum.inr (Sum.inr (nI e, c, nr, fr, ct)))) := by
      show (if nI n ≤ nI i then _ else _) = _
      rw [if_pos (nI_le (by omega) (by omega))]
    rw [lpF_s, hb]
    have hg1 : n0 ≤ nr := hR.2.2.2.2.1
    have hg2 : nr ≤ max n0 (2 * lim) := by have := hR.2.2.2.2.2; omega
    show ∃ rt c2 flt fa nr2 fr2 ct2, (if nI e = (4 : Int32) then bd (BitReader_fail_f (11 : Int32) (nI bAt)) (fun u18 => gd (bl u18.1) (some (u18.1, S, O, c, u18.2.1, u18.2.2, nr, fr, ct))) else bd (Check_ofBlock_f c) (fun u14 => (if u14 = due then Unpacker_unrotate_J226 S O c (0 : Int32) (-1 : Int32) nr fr ct else bd (BitReader_fail_f (13 : Int32) (nI bAt)) (fun u16 => (if u16.1 = 0 then Unpacker_unrotate_J231 (0 : Int32) S O c u16.2.1 u16.2.2 nr fr ct else Unpacker_unrotate_J226 S O c u16.2.1 u16.2.2 nr fr ct))))) = some (rt, S, O, c2, flt, fa, nr2, fr2, ct2) ∧ okU (if e = 4 then Sum.inl (11, bAt) else if c ^^^ (-1 : Int32) = due then Sum.inr (m, w) else Sum.inl (13, bAt)) n0 lim rt flt fa nr2 fr2 ct2
    by_cases h4 : e = 4
    · rw [if_pos (show nI e = (4 : Int32) by rw [h4]; rfl), if_pos h4]
      exact ⟨_, _, _, _, _, _, _, rfl, okU_e hg1 hg2⟩
    · rw [if_neg (show ¬ nI e = (4 : Int32) from fun q => h4 ((nI_eq (a := e) (b := 4) (by omega) (by omega)).mp q)), if_neg h4]
      unfold Check_ofBlock_f Unpacker_unrotate_J226 Unpacker_unrotate_J231
      rw [bd_s]
      by_cases h5 : c ^^^ (-1 : Int32) = due
      · rw [if_pos h5, if_pos h5]
        exact ⟨_, _, _, _, _, _, _, rfl, okU_r hm hR⟩
      · rw [if_neg h5, if_neg h5]
        exact ⟨_, _, _, _, _, _, _, rfl, okU_e hg1 hg2⟩
  | succ f ih =>
    intro a e bf c m w i bef nr fr ct z hfi ha he hbef hbf hm hR hz
    obtain ⟨z, rfl⟩ : ∃ z2, z = z2 + 1 := ⟨z - 1, by omega⟩
    obtain ⟨ho1, ho2⟩ := hO a ha
    obtain ⟨hl1, hl2⟩ := hla _ ho2
    rw [lpF_s, exN]
    generalize NX R n a = a2 at *
    have hg1 : n0 ≤ nr := hR.2.2.2.2.1
    have hg2 : nr ≤ max n0 (2 * lim) := by have := hR.2.2.2.2.2; omega
    have hL : Unpacker_unrotate_L38 (nI n) (S, O) (nI lim) lv last (nI e, bef, nI a, nI i, c, nr, fr, ct) = (if nI e = (4 : Int32) then Unpacker_unrotate_J72 (nI e, bef, nI a, nI i, c, nr, fr, ct) (nI lim) lv (nI a2) (nI (R a2)) (1 : Int32) else Unpacker_unrotate_J72 (nI e, bef, nI a, nI i, c, nr, fr, ct) (nI lim) lv (nI a2) (nI (R a2)) (0 : Int32)) := by
      show (if nI n ≤ nI i then _ else gd (ix (nI a) 2250) (gd (ix (O (nI a).toNatClampNeg) 2250) (if nI e = (4 : Int32) then Unpacker_unrotate_J72 (nI e, bef, nI a, nI i, c, nr, fr, ct) (nI lim) lv (O (nI a).toNatClampNeg) (last (O (nI a).toNatClampNeg).toNatClampNeg) (1 : Int32) else Unpacker_unrotate_J72 (nI e, bef, nI a, nI i, c, nr, fr, ct) (nI lim) lv (O (nI a).toNatClampNeg) (last (O (nI a).toNatClampNeg).toNatClampNeg) (0 : Int32)))) = _
      rw [if_neg (nI_ge (by omega) (by omega)), nI_clamp (show a < 2 ^ 31 by omega), ho1, nI_clamp (show a2 < 2 ^ 31 by omega), hl1, ixN (show a < 2250 by omega) (by omega), ixN (show a2 < 2250 by omega) (by omega)]
      rfl
    rw [hL]
    by_cases h4 : e = 4
    · rw [if_pos (show nI e = (4 : Int32) by rw [h4]; rfl), if_pos h4]
      unfold Unpacker_unrotate_J72
      rw [if_neg (show ¬ (1 : Int32) = 0 by decide)]
      by_cases h5 : R a2 ≤ 251
      · rw [if_pos (show nI (R a2) ≤ (251 : Int32) from nI_le (a := R a2) (b := 251) h5 (by omega)), if_pos h5]
        unfold Unpacker_unrotate_J101 Unpacker_unrotate_J113 Unpacker_unrotate_J124
        rw [if_neg (show ¬ (1 : Int32) = 0 by decide), if_neg (show ¬ (1 : Int32) = 0 by decide)]
        obtain ⟨n2, f2, ct2, c2, e1, g1, g2, g3⟩ := giveOut_c (c := c) (b := bf) (t := R a2) hlv hbf (by omega) hlim hm hn0 hR
        rw [← hbef (by omega)] at e1
        show ∃ rt c2 flt fa nr2 fr2 ct2, bd (bd (bd (Unpacker_giveOut_f ct (nI (R a2)) (nI lim) bef lv nr fr c) (fun u21 => (if u21.1 = 0 then some (Sum.inr (Sum.inr (Sum.inl (u21.2.2.2.2, u21.2.1, u21.2.2.1, u21.2.2.2.1)))) else (if (1 : Int32) = 0 then (if nI (R a2) = bef then Unpacker_unrotate_J167 (nI e, bef, nI a, nI i, c, nr, fr, ct) (nI a2) (nI (R a2)) (nI e + (1 : Int32)) u21.2.2.2.2 u21.2.1 u21.2.2.1 u21.2.2.2.1 else Unpacker_unrotate_J167 (nI e, bef, nI a, nI i, c, nr, fr, ct) (nI a2) (nI (R a2)) (1 : Int32) u21.2.2.2.2 u21.2.1 u21.2.2.1 u21.2.2.2.1) else some (Sum.inl ((0 : Int32), bef, nI a2, nI i + (1 : Int32), u21.2.2.2.2, u21.2.1, u21.2.2.1, u21.2.2.2.1)))))) _) _ = _ ∧ _
        rw [e1, bd_s]
        by_cases h6 : m + R a2 ≤ lim
        · obtain ⟨g4, g5⟩ := g3 h6
          rw [if_pos h6, if_pos h6, if_neg (show ¬ (1 : Int32) = 0 by decide), if_neg (show ¬ (1 : Int32) = 0 by decide), nI_1, ← g4]
          exact ih a2 0 bf c2 (m + R a2) (flN w m (m + R a2) bf) (i + 1) bef n2 f2 ct2 z (by omega) ho2 (by omega) (fun q => absurd q (Nat.lt_irrefl _)) hbf h6 g5 (by omega)
        · rw [if_neg h6, if_neg h6, if_pos rfl]
          exact ⟨_, _, _, _, _, _, _, rfl, okU_e g1 g2⟩
      · rw [if_neg (show ¬ nI (R a2) ≤ (251 : Int32) from nI_ge (a := 251) (b := R a2) (by omega) (by omega)), if_neg h5]
        exact ⟨_, _, _, _, _, _, _, rfl, okU_e hg1 hg2⟩
    · rw [if_neg (show ¬ nI e = (4 : Int32) from fun q => h4 ((nI_eq (a := e) (b := 4) (by omega) (by omega)).mp q)), if_neg h4]
      unfold Unpacker_unrotate_J72 Unpacker_unrotate_J101 Unpacker_unrotate_J113 Unpacker_unrotate_J124
      rw [if_pos rfl, if_pos rfl, if_pos rfl]
      obtain ⟨n2, f2, ct2, c2, e1, g1, g2, g3⟩ := giveOut_c (c := c) (b := R a2) (t := 1) hlv hl2 (by omega) hlim hm hn0 hR
      show ∃ rt c2 flt fa nr2 fr2 ct2, bd (bd (bd (Unpacker_giveOut_f ct (nI 1) (nI lim) (nI (R a2)) lv nr fr c) (fun u21 => (if u21.1 = 0 then some (Sum.inr (Sum.inr (Sum.inl (u21.2.2.2.2, u21.2.1, u21.2.2.1, u21.2.2.2.1)))) else (if (0 : Int32) = 0 then (if nI (R a2) = bef then some (Sum.inl (nI e + (1 : Int32), nI (R a2), nI a2, nI i + (1 : Int32), u21.2.2.2.2, u21.2.1, u21.2.2.1, u21.2.2.2.1)) else some (Sum.inl ((1 : Int32), nI (R a2), nI a2, nI i + (1 : Int32), u21.2.2.2.2, u21.2.1, u21.2.2.1, u21.2.2.2.1))) else some (Sum.inl ((0 : Int32), bef, nI a2, nI i + (1 : Int32), u21.2.2.2.2, u21.2.1, u21.2.2.1, u21.2.2.2.1)))))) _) _ = _ ∧ _
      rw [e1, bd_s]
      by_cases h6 : m + 1 ≤ lim
      · obtain ⟨g4, g5⟩ := g3 h6
        rw [if_pos h6, if_pos h6, if_neg (show ¬ (1 : Int32) = 0 by decide), if_pos (show (0 : Int32) = 0 from rfl), nI_1, nI_1, ← g4]
        by_cases h7 : nI (R a2) = bef
        · rw [if_pos h7]
          have h8 : (if e ≠ 0 ∧ R a2 = bf then e + 1 else 1) = e + 1 := by
            by_cases h9 : e = 0
            · rw [if_neg (fun q => q.1 h9), h9]
            · have h10 : R a2 = bf := by
                rw [hbef (by omega)] at h7
                exact (nI_eq (by omega) (by omega)).mp h7
              rw [if_pos ⟨h9, h10⟩]
          rw [h8]
          exact ih a2 (e + 1) (R a2) c2 (m + 1) (flN w m (m + 1) (R a2)) (i + 1) (nI (R a2)) n2 f2 ct2 z (by omega) ho2 (by omega) (fun _ => rfl) hl2 h6 g5 (by omega)
        · rw [if_neg h7]
          have h8 : (if e ≠ 0 ∧ R a2 = bf then e + 1 else 1) = 1 := by
            by_cases h9 : e = 0
            · rw [if_neg (fun q => q.1 h9)]
            · refine if_neg (fun q => h7 ?_)
              rw [hbef (by omega), q.2]
          rw [h8]
          exact ih a2 1 (R a2) c2 (m + 1) (flN w m (m + 1) (R a2)) (i + 1) (nI (R a2)) n2 f2 ct2 z (by omega) ho2 (by omega) (fun _ => rfl) hl2 h6 g5 (by omega)
      · rw [if_neg h6, if_neg h6, if_pos rfl]
        exact ⟨_, _, _, _, _, _, _, rfl, okU_e g1 g2⟩
theorem unrotate_c {R : Nat → Nat} {n lim bAt n0 og m : Nat} {due ct : Int32} {sl last nx lv fr : Nat → Int32} {w : Nat → Nat} {nr : Nat} (hn : n ≤ 2250) (hlv : ∀ j, j < 256 → lv j = chkT j) (hlim : lim ≤ 60000) (hn0 : n0 ≤ 1000000) (hla : ∀ j, j < n → last j = nI (R j) ∧ R j < 256) (hog : og < n) (hm : m ≤ lim) (hR : RW m w n0 nr fr ct) :
    ∃ rt S O c2 flt fa nr2 fr2 ct2, Unpacker_unrotate_f sl (nI n) last nx (nI lim) lv (nI og) nr fr ct (nI bAt) due (0 : Int32) (-1 : Int32) = some (rt, S, O, c2, flt, fa, nr2, fr2, ct2) ∧ okU (exF (exN R n lim bAt n og 0 0 (-1 : Int32) m w) due bAt) n0 lim rt flt fa nr2 fr2 ct2 := by
  obtain ⟨S, O, e1, hO⟩ := sortByByte_eq (n0 := 2250) (n2 := 2250) (n3 := 257) (f2 := nx) (f3 := sl) hn (by omega) (by omega) hn (by omega) (by omega) (by omega) hla
  obtain ⟨rt, c2, flt, fa, nr2, fr2, ct2, e2, h2⟩ := unrotate_l (S := S) (O := O) (due := due) (bAt := bAt) hn hlv hlim hn0 hla (fun q hq => NX_ok hO hq) n og 0 0 (-1 : Int32) m w 0 (-1 : Int32) nr fr ct gas (by omega) hog (by omega) (fun q => absurd q (Nat.lt_irrefl _)) (by omega) hm hR (Nat.lt_of_lt_of_le (by omega) gas_le)
  refine ⟨rt, S, O, c2, flt, fa, nr2, fr2, ct2, ?_, h2⟩
  unfold Unpacker_unrotate_f Check_begin_f
  rw [e1, bd_s, bd_s]
  exact e2
