/-! PACKING, the reference's: all runs, and the whole file -/
theorem packloop_m {a0 : pacc} {tp : Nat → Nat} {F lv : Nat} {tape : Nat → Int32} {bit coa nbl aT aS aG ck og lc mn gn tn : Int32} {out od mgd last list up sy tbl cts we pa lens cds told : Nat → Int32} (hF : F ≤ 10240) (hlv1 : 1 ≤ lv) (hlv9 : lv ≤ 9) (hf : ∀ j, j < F → tape j = nb (tp j) ∧ tp j < 256) (hp : pin F 0 a0) (h : Min a0 bit coa nbl aT aS aG out ck last og lc mn up sy gn tn tbl lens) :
    ∃ e : Int32 × Int32 × Int32 × Int32 × Int32 × Int32 × Int32 × (Nat → Int32) × Int32 × Int32 × (Nat → Int32) × (Nat → Int32) × (Nat → Int32) × Int32 × Int32 × (Nat → Int32) × Int32 × (Nat → Int32) × (Nat → Int32) × Int32 × Int32 × (Nat → Int32) × (Nat → Int32) × (Nat → Int32) × (Nat → Int32) × (Nat → Int32) × (Nat → Int32) × (Nat → Int32), lpF (Model_pack_L96 (nI F) tape (nI lv)) gas ((-1 : Int32), nI 0, bit, coa, nbl, aT, aS, aG, out, nI 0, ck, od, mgd, last, og, lc, list, mn, up, sy, gn, tn, tbl, cts, we, pa, lens, cds, told) = some e ∧ ∃ (st : rst1) (a : pacc) (k0 : Nat) (bit2 : Int32) (coa2 : Int32) (nbl2 : Int32) (aT2 : Int32) (aS2 : Int32) (aG2 : Int32) (out2 : Nat → Int32) (ck2 : Int32) (od2 : Nat → Int32) (mgd2 : Nat → Int32) (last2 : Nat → Int32) (og2 : Int32) (lc2 : Int32) (list2 : Nat → Int32) (mn2 : Int32) (up2 : Nat → Int32) (sy2 : Nat → Int32) (gn2 : Int32) (tn2 : Int32) (tbl2 : Nat → Int32) (cts2 : Nat → Int32) (we2 : Nat → Int32) (pa2 : Nat → Int32) (lens2 : Nat → Int32) (cds2 : Nat → Int32) (told2 : Nat → Int32), e = (st.c, bit2, coa2, nbl2, aT2, aS2, aG2, out2, nI st.n, ck2, od2, mgd2, last2, og2, lc2, list2, mn2, up2, sy2, gn2, tn2, tbl2, cts2, we2, pa2, lens2, cds2, told2) ∧ RS st.n told2 st.d ∧ tok F (lv * 250) st ∧ pin F k0 a ∧ Min a bit2 coa2 nbl2 aT2 aS2 aG2 out2 ck2 last2 og2 lc2 mn2 up2 sy2 gn2 tn2 tbl2 lens2 ∧ ((st.n = 0 ∧ (PK tp F (lv * 250) F 0 a0) = a ∧ a = a0) ∨ (0 < st.n ∧ k0 < F ∧ (PK tp F (lv * 250) F 0 a0) = pst a st ∧ F ≤ st.k)) := by
  have ht : ∀ j, j < F → tp j < 256 := fun j hj => (hf j hj).2
  refine lp_totg (fun s => ∃ (st : rst1) (a : pacc) (k0 : Nat) (bit : Int32) (coa : Int32) (nbl : Int32) (aT : Int32) (aS : Int32) (aG : Int32) (out : Nat → Int32) (ck : Int32) (od : Nat → Int32) (mgd : Nat → Int32) (last : Nat → Int32) (og : Int32) (lc : Int32) (list : Nat → Int32) (mn : Int32) (up : Nat → Int32) (sy : Nat → Int32) (gn : Int32) (tn : Int32) (tbl : Nat → Int32) (cts : Nat → Int32) (we : Nat → Int32) (pa : Nat → Int32) (lens : Nat → Int32) (cds : Nat → Int32) (told : Nat → Int32), s = (st.c, nI st.k, bit, coa, nbl, aT, aS, aG, out, nI st.n, ck, od, mgd, last, og, lc, list, mn, up, sy, gn, tn, tbl, cts, we, pa, lens, cds, told) ∧ RS st.n told st.d ∧ tok F (lv * 250) st ∧ tk tp F (lv * 250) st = TK tp F (lv * 250) k0 ∧ ((st.n = 0 ∧ st.k = k0 ∧ a = a0) ∨ (0 < st.n ∧ k0 < st.k)) ∧ pin F k0 a ∧ PK tp F (lv * 250) F k0 a = (PK tp F (lv * 250) F 0 a0) ∧ Min a bit coa nbl aT aS aG out ck last og lc mn up sy gn tn tbl lens) (fun s => 20000 - s.2.1.toNatClampNeg) _ ?_ ⟨(0, (fun _ => 0), 0, (-1 : Int32)), a0, 0, bit, coa, nbl, aT, aS, aG, out, ck, od, mgd, last, og, lc, list, mn, up, sy, gn, tn, tbl, cts, we, pa, lens, cds, told, rfl, fun j h => absurd h (Nat.not_lt_zero _), ⟨Nat.zero_le _, Nat.zero_le _, fun j h => absurd h (Nat.not_lt_zero _)⟩, rfl, Or.inl ⟨rfl, rfl, rfl⟩, hp, rfl, h⟩ (by show 20000 - _ < 1000000; omega)
  rintro s ⟨st, a, k0, bit, coa, nbl, aT, aS, aG, out, ck, od, mgd, last, og, lc, list, mn, up, sy, gn, tn, tbl, cts, we, pa, lens, cds, told, rfl, hR, hok, htk, hsn, hpk, hPK, hM⟩
  have hsk := hok.k
  rcases Nat.lt_or_ge st.k F with hk | hk
  · obtain ⟨r1, r2, r3, _, _⟩ := rln_spec (tp := tp) hk
    have hnd := nd_b r1
    have hk0 : k0 < F := by omega
    have hL : Model_pack_L96 (nI F) tape (nI lv) (st.c, nI st.k, bit, coa, nbl, aT, aS, aG, out, nI st.n, ck, od, mgd, last, og, lc, list, mn, up, sy, gn, tn, tbl, cts, we, pa, lens, cds, told) = Model_pack_J174 (st.c, nI st.k, bit, coa, nbl, aT, aS, aG, out, nI st.n, ck, od, mgd, last, og, lc, list, mn, up, sy, gn, tn, tbl, cts, we, pa, lens, cds, told) (nI lv) (nI (tp st.k)) (nI (rln tp F st.k)) (nI (nd (rln tp F st.k))) := by
      have hrl := runlen_m (tp := tp) (k := st.k) (s15 := (st.c, nI st.k, bit, coa, nbl, aT, aS, aG, out, nI st.n, ck, od, mgd, last, og, lc, list, mn, up, sy, gn, tn, tbl, cts, we, pa, lens, cds, told)) rfl hk hF hf
      have hb : tape (nI st.k).toNatClampNeg &&& (255 : Int32) = nI (tp st.k) := by rw [nI_clamp (by omega), (hf _ hk).1, nb255 (hf _ hk).2]
      show (if nI F ≤ nI st.k then _ else gd (ix (nI st.k) 10240) (bd (lpF (Model_pack_L119 (nI F) (st.c, nI st.k, bit, coa, nbl, aT, aS, aG, out, nI st.n, ck, od, mgd, last, og, lc, list, mn, up, sy, gn, tn, tbl, cts, we, pa, lens, cds, told) tape) gas (1 : Int32)) (fun v40 => (if nI 4 ≤ v40 then Model_pack_J174 (st.c, nI st.k, bit, coa, nbl, aT, aS, aG, out, nI st.n, ck, od, mgd, last, og, lc, list, mn, up, sy, gn, tn, tbl, cts, we, pa, lens, cds, told) (nI lv) (tape (nI st.k).toNatClampNeg &&& (255 : Int32)) v40 (nI 5) else Model_pack_J174 (st.c, nI st.k, bit, coa, nbl, aT, aS, aG, out, nI st.n, ck, od, mgd, last, og, lc, list, mn, up, sy, gn, tn, tbl, cts, we, pa, lens, cds, told) (nI lv) (tape (nI st.k).toNatClampNeg &&& (255 : Int32)) v40 v40)))) = _
      rw [if_neg (nI_ge hk (by omega)), ixN (show st.k < 10240 by omega) (by omega), gd_t, hrl, bd_s, hb]
      unfold nd
      by_cases h4 : rln tp F st.k < 4
      · rw [if_neg (nI_ge h4 (by omega)), if_pos h4]
      · rw [if_pos (nI_le (by omega) (by omega)), if_neg h4]
    rw [hL]
    obtain ⟨bit2, coa2, nbl2, aT2, aS2, aG2, out2, ck2, od2, mgd2, last2, og2, lc2, list2, mn2, up2, sy2, gn2, tn2, tbl2, cts2, we2, pa2, lens2, cds2, told2, hfit, hfull⟩ := J174_m (tp := tp) (b := tp st.k) (lv := lv) hlv1 hlv9 hF r1 r2 hR hok hk (by omega) hpk hk0 hM
    by_cases hc : st.n + nd (rln tp F st.k) ≤ lv * 250
    · obtain ⟨e1, h1, h2⟩ := hfit hc
      refine Or.inl ⟨_, e1, ⟨stp tp F st, a, k0, bit2, coa2, nbl2, aT2, aS2, aG2, out2, ck2, od2, mgd2, last2, og2, lc2, list2, mn2, up2, sy2, gn2, tn2, tbl2, cts2, we2, pa2, lens2, cds2, told2, rfl, h1, stp_ok ht hok hk hc, by rw [← tk_step hk hc]; exact htk, Or.inr ⟨?_, ?_⟩, hpk, hPK, h2⟩, ?_⟩
      · show 0 < st.n + nd (rln tp F st.k)
        omega
      · show k0 < st.k + rln tp F st.k
        omega
      · show 20000 - (nI (st.k + rln tp F st.k)).toNatClampNeg < 20000 - (nI st.k).toNatClampNeg
        rw [nI_clamp (by omega), nI_clamp (by omega)]
        omega
    · obtain ⟨e1, h1, h2⟩ := hfull hc
      have hst : TK tp F (lv * 250) k0 = st := by rw [← htk]; exact tk_full hc
      have hfit0 : (0 : Nat) + nd (rln tp F st.k) ≤ lv * 250 := by omega
      have hpn := pin_step (tp := tp) (most := lv * 250) ht (by omega) (by omega) hk0 hpk
      have hPn := PK_step (tp := tp) (most := lv * 250) ht (by omega) a hk0
      rw [hst] at hpn hPn
      refine Or.inl ⟨_, e1, ⟨stp tp F (st.k, (fun _ => 0), 0, (-1 : Int32)), pst a st, st.k, bit2, coa2, nbl2, aT2, aS2, aG2, out2, ck2, od2, mgd2, last2, og2, lc2, list2, mn2, up2, sy2, gn2, tn2, tbl2, cts2, we2, pa2, lens2, cds2, told2, rfl, h1, stp_ok ht ⟨hsk, Nat.zero_le _, fun j h => absurd h (Nat.not_lt_zero _)⟩ hk hfit0, (tk_step (s := (st.k, (fun _ => 0), 0, (-1 : Int32))) hk hfit0).symm, Or.inr ⟨?_, ?_⟩, hpn, by rw [← hPn]; exact hPK, h2⟩, ?_⟩
      · show 0 < 0 + nd (rln tp F st.k)
        omega
      · show st.k < st.k + rln tp F st.k
        omega
      · show 20000 - (nI (st.k + rln tp F st.k)).toNatClampNeg < 20000 - (nI st.k).toNatClampNeg
        rw [nI_clamp (by omega), nI_clamp (by omega)]
        omega
  · refine Or.inr ⟨(st.c, bit, coa, nbl, aT, aS, aG, out, nI st.n, ck, od, mgd, last, og, lc, list, mn, up, sy, gn, tn, tbl, cts, we, pa, lens, cds, told), ?_, st, a, k0, bit, coa, nbl, aT, aS, aG, out, ck, od, mgd, last, og, lc, list, mn, up, sy, gn, tn, tbl, cts, we, pa, lens, cds, told, rfl, hR, hok, hpk, hM, ?_⟩
    · show (if nI F ≤ nI st.k then some (Sum.inr (st.c, bit, coa, nbl, aT, aS, aG, out, nI st.n, ck, od, mgd, last, og, lc, list, mn, up, sy, gn, tn, tbl, cts, we, pa, lens, cds, told)) else _) = _
      rw [if_pos (nI_le hk (by omega))]
    · rcases hsn with ⟨hn0, hk0, ha0⟩ | ⟨hn0, hk0⟩
      · refine Or.inl ⟨hn0, ?_, ha0⟩
        rw [← hPK]
        exact PK_end ht (by omega) a (by omega)
      · refine Or.inr ⟨hn0, by omega, ?_, hk⟩
        have hst : TK tp F (lv * 250) k0 = st := by rw [← htk]; exact tk_end hk
        rw [← hPK, PK_step ht (by omega) a (show k0 < F by omega), hst]
        exact PK_end ht (by omega) _ hk
