/-! PACKING, the reference's -/
abbrev Min (a : pacc) (bit : Int32) (coa : Int32) (nbl : Int32) (aT : Int32) (aS : Int32) (aG : Int32) (out : Nat → Int32) (ck : Int32) (last : Nat → Int32) (og : Int32) (lc : Int32) (mn : Int32) (up : Nat → Int32) (sy : Nat → Int32) (gn : Int32) (tn : Int32) (tbl : Nat → Int32) (lens : Nat → Int32) : Prop :=
  MW a.s out bit ∧ coa = a.coa ∧ nbl = nI a.nbl ∧ aT = nI a.aT ∧ aS = nI a.aS ∧ aG = nI a.aG ∧ (0 < a.nbl → ck = a.ck ∧ og = nI (OG a.t a.n) ∧ lc = nI (CN a.t a.n) ∧ mn = nI (MN a.t a.n) ∧ gn = nI (GN a.t a.n) ∧ tn = nI (TC a.t a.n) ∧ mblk a.t a.n last up sy tbl lens)
theorem runlen_m {tp : Nat → Nat} {F k : Nat} {tape : Nat → Int32} {s15 : Int32 × Int32 × Int32 × Int32 × Int32 × Int32 × Int32 × Int32 × (Nat → Int32) × Int32 × Int32 × (Nat → Int32) × (Nat → Int32) × (Nat → Int32) × Int32 × Int32 × (Nat → Int32) × Int32 × (Nat → Int32) × (Nat → Int32) × Int32 × Int32 × (Nat → Int32) × (Nat → Int32) × (Nat → Int32) × (Nat → Int32) × (Nat → Int32) × (Nat → Int32) × (Nat → Int32)} (hs : s15.2.1 = nI k) (hk : k < F) (hF : F ≤ 10240) (hf : ∀ j, j < F → tape j = nb (tp j) ∧ tp j < 256) : lpF (Model_pack_L119 (nI F) s15 tape) gas (1 : Int32) = some (nI (rln tp F k)) := by
  obtain ⟨r1, r2, r3, r4, r5⟩ := rln_spec (tp := tp) hk
  generalize rln tp F k = r at *
  have hb : ∀ j, j < F → tape j &&& (255 : Int32) = nI (tp j) := fun j hj => by rw [(hf j hj).1, nb255 (hf j hj).2]
  have hL : ∀ i, i ≤ 255 → Model_pack_L119 (nI F) s15 tape (nI i) = (if nI 255 ≤ nI i then some (Sum.inr (nI i)) else (if nI F ≤ nI (k + i) then some (Sum.inr (nI i)) else gd (ix (nI (k + i)) 10240) (if tape (nI (k + i)).toNatClampNeg &&& (255 : Int32) = nI (tp k) then some (Sum.inl (nI (i + 1))) else some (Sum.inr (nI i))))) := by
    intro i _
    unfold Model_pack_L119
    rw [hs, nI_add, nI_1, nI_clamp (show k < 2 ^ 31 by omega), hb k hk]
    rfl
  have key : lpF (Model_pack_L119 (nI F) s15 tape) gas (nI 1) = some (nI r) := by
    refine lp_gas (fun i => nI i) (i0 := 1) (N := r) r1 (by omega) ?_ ?_
    · intro i hi hir
      obtain ⟨h1, h2⟩ := r4 i (by omega) hir
      rw [hL i (by omega), if_neg (nI_ge (by omega) (by omega)), if_neg (nI_ge (by omega) (by omega)), ixN (show k + i < 10240 by omega) (by omega), gd_t, nI_clamp (show k + i < 2 ^ 31 by omega), hb _ h1, h2, if_pos rfl]
    · rw [hL r r2]
      by_cases h1 : 255 ≤ r
      · rw [if_pos (nI_le h1 (by omega))]
      · rw [if_neg (nI_ge (by omega) (by omega))]
        by_cases h2 : F ≤ k + r
        · rw [if_pos (nI_le h2 (by omega))]
        · have h3 := r5 (by omega)
          have t1 := (hf (k + r) (by omega)).2
          have t2 := (hf k hk).2
          rw [if_neg (nI_ge (by omega) (by omega)), ixN (show k + r < 10240 by omega) (by omega), gd_t, nI_clamp (show k + r < 2 ^ 31 by omega), hb _ (show k + r < F by omega), if_neg (by rw [nI_eq (by omega) (by omega)]; omega)]
  exact key
theorem J203_m {n b r k0 : Nat} {d : Nat → Nat} {cc : Int32} {bit coa nbl aT aS aG ck og lc mn gn tn : Int32} {out od mgd last list up sy tbl cts we pa lens cds : Nat → Int32} {told : Nat → Int32} (hr : 1 ≤ r) (hr2 : r ≤ 255) (hn : n + nd r ≤ 2250) (h : RS n told d) {s15 : Int32 × Int32 × Int32 × Int32 × Int32 × Int32 × Int32 × Int32 × (Nat → Int32) × Int32 × Int32 × (Nat → Int32) × (Nat → Int32) × (Nat → Int32) × Int32 × Int32 × (Nat → Int32) × Int32 × (Nat → Int32) × (Nat → Int32) × Int32 × Int32 × (Nat → Int32) × (Nat → Int32) × (Nat → Int32) × (Nat → Int32) × (Nat → Int32) × (Nat → Int32) × (Nat → Int32)} (hk : s15.2.1 = nI k0) (ht : s15.2.2.2.2.2.2.2.2.2.2.2.2.2.2.2.2.2.2.2.2.2.2.2.2.2.2.2.2 = told) :
    ∃ told2, Model_pack_J203 s15 cc (nI b) (nI r) (nI (nd r)) bit coa nbl aT aS aG out (nI n) ck od mgd last og lc list mn up sy gn tn tbl cts we pa lens cds = some (Sum.inl (ckN cc b r, nI (k0 + r), bit, coa, nbl, aT, aS, aG, out, nI (n + nd r), ck, od, mgd, last, og, lc, list, mn, up, sy, gn, tn, tbl, cts, we, pa, lens, cds, told2)) ∧ RS (n + nd r) told2 (dx d n b r) := by
  obtain ⟨f2, e1, h1⟩ := toldloop_m (b := b) hr hr2 hn h
  refine ⟨f2, ?_, h1⟩
  unfold Model_pack_J203
  rw [ht, e1, bd_s, ckloop_m hr2, bd_s, hk, nI_add]
