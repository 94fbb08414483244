/-! PACKING, the reference's: the end, and the whole file -/
theorem pb0_s : ∀ i, pb (0 : Int32) i ++ pb (0 : Int32) 1 = pb (0 : Int32) (i + 1) := by
  intro i
  induction i with
  | zero => rfl
  | succ i ih =>
    show (bt 0 i :: pb (0 : Int32) i) ++ pb (0 : Int32) 1 = bt 0 (i + 1) :: pb (0 : Int32) (i + 1)
    rw [List.cons_append, ih, b_0, b_0]
theorem finish_m {s : bs} {coa : Int32} {p : (Nat → Int32) × Int32} (h : MWp s p) (hl : blen s + 100 ≤ 2000000) :
    ∃ p1 p2 p3 p4, Model_put_f (0 : Int32) (8 : Int32) p.1 p.2 = some p1 ∧ Model_put_f (ush coa (16 : Int32)) (16 : Int32) p1.1 p1.2 = some p2 ∧ Model_put_f (coa &&& (65535 : Int32)) (16 : Int32) p2.1 p2.2 = some p3 ∧ lpF Model_pack_L329 gas (p3.2, p3.1) = some (p4.2, p4.1) ∧ MWp (sfin s coa) p4 := by
  obtain ⟨p1, e1, h1⟩ := put_mp (v := (0 : Int32)) (k := 8) (by omega) h (by omega)
  have b1 := pus_len (l := pb (0 : Int32) 8) h.ok
  rw [pb_len] at b1
  obtain ⟨p2, e2, h2⟩ := put_mp (v := ush coa (16 : Int32)) (k := 16) (by omega) h1 (by omega)
  have b2 := pus_len (l := pb (ush coa (16 : Int32)) 16) h1.ok
  rw [pb_len] at b2
  obtain ⟨p3, e3, h3⟩ := put_mp (v := coa &&& (65535 : Int32)) (k := 16) (by omega) h2 (by omega)
  have h3 : MWp (sfa s coa) p3 := by
    unfold sfa
    rw [pb_32, pus_app (pus s (pb (0 : Int32) 8))]
    exact h3
  have b3 : blen (sfa s coa) = blen s + 40 := (sfa_ok coa h.ok).2
  have hk := h3.ok.k
  have hkb := k_blen h3.ok
  unfold sfin
  generalize sfa s coa = S at *
  have l4 : ∃ q : Int32 × (Nat → Int32), lpF Model_pack_L329 gas (p3.2, p3.1) = some q ∧ MWp (pus S (pb (0 : Int32) ((8 - S.k) % 8))) (q.2, q.1) := by
    refine lp_for (fun i s4 => ∃ p : (Nat → Int32) × Int32, s4 = (p.2, p.1) ∧ MWp (pus S (pb (0 : Int32) i)) p) _ (i0 := 0) (N := (8 - S.k) % 8) (Nat.zero_le _) (by omega) ?_ ?_ ⟨p3, rfl, h3⟩
    · rintro i s4 _ hi ⟨q, rfl, hq⟩
      have hb := pus_len (l := pb (0 : Int32) i) h3.ok
      rw [pb_len] at hb
      obtain ⟨q2, e4, h4⟩ := put_mp (v := (0 : Int32)) (k := 1) (by omega) hq (by omega)
      rw [← pus_app, pb0_s] at h4
      refine ⟨(q2.2, q2.1), ?_, q2, rfl, h4⟩
      have hr : q.2 - q.2 / (8 : Int32) * (8 : Int32) = nI ((blen S + i) % 8) := by
        rw [hq.bit, hb]
        exact pk_rem (a := blen S + i) (d := 8) (by omega) (by omega) (by omega)
      show (if q.2 - q.2 / (8 : Int32) * (8 : Int32) ≤ 0 then _ else bd (Model_put_f (0 : Int32) (nI 1) q.1 q.2) (fun u9 => some (Sum.inl (u9.2, u9.1)))) = _
      rw [hr, if_neg (nI_nle (by omega) (by omega)), e4, bd_s]
    · rintro s4 ⟨q, rfl, hq⟩
      have hb := pus_len (l := pb (0 : Int32) ((8 - S.k) % 8)) h3.ok
      rw [pb_len] at hb
      refine ⟨(q.2, q.1), ?_, hq⟩
      have hr : q.2 - q.2 / (8 : Int32) * (8 : Int32) = nI ((blen S + (8 - S.k) % 8) % 8) := by
        rw [hq.bit, hb]
        exact pk_rem (a := blen S + (8 - S.k) % 8) (d := 8) (by omega) (by omega) (by omega)
      show (if q.2 - q.2 / (8 : Int32) * (8 : Int32) ≤ 0 then _ else _) = _
      rw [hr, show (blen S + (8 - S.k) % 8) % 8 = 0 by omega, if_pos (by decide)]
  obtain ⟨⟨b, o⟩, e4, h4⟩ := l4
  exact ⟨p1, p2, p3, (o, b), e1, e2, e3, e4, h4⟩
theorem fails_0 (k : Int32) : Model_fails_f (0 : Int32) k = some ((0 : Int32), (0 : Int32)) := by
  unfold Model_fails_f Model_fails_J10
  rw [if_pos rfl]
  rfl
abbrev Mir (a : pacc) (tl : Int32) (ck : Int32) (last : Nat → Int32) (og : Int32) (lc : Int32) (mn : Int32) (up : Nat → Int32) (sy : Nat → Int32) (gn : Int32) (tn : Int32) (tbl : Nat → Int32) (lens : Nat → Int32) (told : Nat → Int32) : Prop := 0 < a.nbl → tl = nI a.n ∧ RS a.n told a.t ∧ ck = a.ck ∧ og = nI (OG a.t a.n) ∧ lc = nI (CN a.t a.n) ∧ mn = nI (MN a.t a.n) ∧ gn = nI (GN a.t a.n) ∧ tn = nI (TC a.t a.n) ∧ mblk a.t a.n last up sy tbl lens
theorem J296_m {tp : Nat → Nat} {F lv : Nat} {bit coa nbl aT aS aG tl ck og lc mn gn tn : Int32} {out od mgd last list up sy tbl cts we pa lens cds told : Nat → Int32} (hF : F ≤ 10240) (hp : pin F F (PA tp F lv)) (h : MW (PA tp F lv).s out bit) (hcoa : coa = (PA tp F lv).coa) (hnbl : nbl = nI (PA tp F lv).nbl) (haT : aT = nI (PA tp F lv).aT) (haS : aS = nI (PA tp F lv).aS) (haG : aG = nI (PA tp F lv).aG) :
    ∃ out2, Model_pack_J296 (0 : Int32) (1 : Int32) bit coa nbl aT aS aG out tl ck od mgd last og lc list mn up sy gn tn tbl cts we pa lens cds told = some (nI (PS tp F lv).c, (0 : Int32), (1 : Int32), nI (blen (PS tp F lv)), (PA tp F lv).coa, nI (PA tp F lv).nbl, nI (PA tp F lv).aT, nI (PA tp F lv).aS, nI (PA tp F lv).aG, out2, tl, ck, od, mgd, last, og, lc, list, mn, up, sy, gn, tn, tbl, cts, we, pa, lens, cds, told, nI (PS tp F lv).c, (0 : Int32)) ∧ MW (PS tp F lv) out2 (nI (blen (PS tp F lv))) := by
  obtain ⟨q1, q2, q3, _, _⟩ := hp
  rw [if_pos (Nat.le_refl _)] at q3
  obtain ⟨p1, p2, p3, p4, e1, e2, e3, e4, h4⟩ := finish_m (coa := coa) (p := (out, bit)) h (by omega)
  have hPS : sfin (PA tp F lv).s coa = PS tp F lv := by
    rw [hcoa]
    unfold PS
    rfl
  rw [hPS] at h4
  have hsf := sfin_ok coa q1
  rw [hPS] at hsf
  have hkb := k_blen hsf.1
  have hd : p4.2 / (8 : Int32) = nI (PS tp F lv).c := by
    rw [h4.bit, hkb.2]
    exact pk_div (a := blen (PS tp F lv)) (d := 8) (by omega) (by omega) (by omega)
  refine ⟨p4.1, ?_, by rw [← h4.bit]; exact h4⟩
  unfold Model_pack_J296
  rw [show Model_put_f (0 : Int32) (8 : Int32) out bit = some p1 from e1, bd_s, e2, bd_s, e3, bd_s, e4, bd_s]
  show some (p4.2 / (8 : Int32), (0 : Int32), (1 : Int32), p4.2, coa, nbl, aT, aS, aG, p4.1, tl, ck, od, mgd, last, og, lc, list, mn, up, sy, gn, tn, tbl, cts, we, pa, lens, cds, told, p4.2 / (8 : Int32), (0 : Int32)) = _
  rw [hd, h4.bit, hcoa, hnbl, haT, haS, haG]
theorem PK_pin {tp : Nat → Nat} {F most : Nat} (ht : ∀ j, j < F → tp j < 256) (hm1 : 250 ≤ most) (hm2 : most ≤ 2250) : ∀ (f k : Nat) (a : pacc), F - k ≤ f → k ≤ F → pin F k a → pin F F (PK tp F most F k a) := by
  intro f
  induction f with
  | zero =>
    intro k a hf hk h
    have hkF : k = F := by omega
    subst hkF
    rw [PK_end ht (by omega) a (Nat.le_refl _)]
    exact h
  | succ f ih =>
    intro k a hf hk h
    rcases Nat.lt_or_ge k F with h1 | h1
    · obtain ⟨t1, t2, t3, t4, t5⟩ := TK_ok (most := most) ht (by omega) h1
      rw [PK_step ht (by omega) a h1]
      exact ih _ _ (by omega) t1.k (pin_step ht hm1 hm2 h1 h)
    · have hkF : k = F := by omega
      subst hkF
      rw [PK_end ht (by omega) a (Nat.le_refl _)]
      exact h
theorem PA_pin {tp : Nat → Nat} {F lv : Nat} (ht : ∀ j, j < F → tp j < 256) (hlv1 : 1 ≤ lv) (hlv9 : lv ≤ 9) : pin F F (PA tp F lv) := by
  unfold PA
  exact PK_pin ht (by omega) (by omega) F 0 _ (by omega) (Nat.zero_le _) (pin_0 F lv)
theorem pack_m {tp : Nat → Nat} {F lv : Nat} {tape out : Nat → Int32} {ck og lc mn gn tn : Int32} {od mgd last list up sy tbl cts we pa lens cds told : Nat → Int32} {fr' bit' coa' nbl' aT' aS' aG' tl' sz' : Int32} (hF : F ≤ 10240) (hlv1 : 1 ≤ lv) (hlv9 : lv ≤ 9) (hf : ∀ j, j < F → tape j = nb (tp j) ∧ tp j < 256) :
    ∃ out2 tl2 ck2 od2 mgd2 last2 og2 lc2 list2 mn2 up2 sy2 gn2 tn2 tbl2 cts2 we2 pa2 lens2 cds2 told2, Model_pack_f (nI lv) out (nI F) tape ck od mgd last og lc list mn up sy gn tn tbl cts we pa lens cds told fr' bit' coa' nbl' aT' aS' aG' tl' sz' = some (nI (PS tp F lv).c, (0 : Int32), (1 : Int32), nI (blen (PS tp F lv)), (PA tp F lv).coa, nI (PA tp F lv).nbl, nI (PA tp F lv).aT, nI (PA tp F lv).aS, nI (PA tp F lv).aG, out2, tl2, ck2, od2, mgd2, last2, og2, lc2, list2, mn2, up2, sy2, gn2, tn2, tbl2, cts2, we2, pa2, lens2, cds2, told2, nI (PS tp F lv).c, (0 : Int32)) ∧ MW (PS tp F lv) out2 (nI (blen (PS tp F lv))) ∧ Mir (PA tp F lv) tl2 ck2 last2 og2 lc2 mn2 up2 sy2 gn2 tn2 tbl2 lens2 told2 := by
  have ht : ∀ j, j < F → tp j < 256 := fun j hj => (hf j hj).2
  have h0 : MWp s00 (out, (0 : Int32)) := ⟨s00_ok, rfl, fun j h => absurd h (Nat.not_lt_zero _), fun h => absurd h (Nat.lt_irrefl _)⟩
  have l0 : blen s00 = 0 := rfl
  obtain ⟨p1, e1, h1⟩ := put_mp (v := (82 : Int32)) (k := 8) (by omega) h0 (by omega)
  have b1 := pus_len (l := pb (82 : Int32) 8) s00_ok
  rw [pb_len] at b1
  obtain ⟨p2, e2, h2⟩ := put_mp (v := (80 : Int32)) (k := 8) (by omega) h1 (by omega)
  have b2 := pus_len (l := pb (80 : Int32) 8) h1.ok
  rw [pb_len] at b2
  obtain ⟨p3, e3, h3⟩ := put_mp (v := (48 : Int32) + nI lv) (k := 8) (by omega) h2 (by omega)
  have h3 : MWp (sbeg lv) p3 := by
    unfold sbeg
    exact h3
  obtain ⟨out3, bit3⟩ := p3
  have hM : Min (sbeg lv, (0 : Int32), 0, 0, 0, 0, (fun _ => 0), 0, (0 : Int32)) bit3 (0 : Int32) (0 : Int32) (0 : Int32) (0 : Int32) (0 : Int32) out3 ck last og lc mn up sy gn tn tbl lens := ⟨h3, rfl, rfl, rfl, rfl, rfl, fun h => absurd h (Nat.lt_irrefl _)⟩
  obtain ⟨e, e4, st, a, k0, bit3', coa3, nbl3, aT3, aS3, aG3, out3', ck3, od3, mgd3, last3, og3, lc3, list3, mn3, up3, sy3, gn3, tn3, tbl3, cts3, we3, pa3, lens3, cds3, told3, rfl, hR, hok, hpk, hM4, hend⟩ := packloop_m (tp := tp) (lv := lv) (tape := tape) (ck := ck) (od := od) (mgd := mgd) (last := last) (og := og) (lc := lc) (list := list) (mn := mn) (up := up) (sy := sy) (gn := gn) (tn := tn) (tbl := tbl) (cts := cts) (we := we) (pa := pa) (lens := lens) (cds := cds) (told := told) hF hlv1 hlv9 hf (pin_0 F lv) hM
  change (st.n = 0 ∧ PA tp F lv = a ∧ _) ∨ (0 < st.n ∧ k0 < F ∧ PA tp F lv = pst a st ∧ F ≤ st.k) at hend
  have hP : Model_pack_f (nI lv) out (nI F) tape ck od mgd last og lc list mn up sy gn tn tbl cts we pa lens cds told fr' bit' coa' nbl' aT' aS' aG' tl' sz' = (if nI st.n ≤ 0 then Model_pack_J296 (0 : Int32) (1 : Int32) bit3' coa3 nbl3 aT3 aS3 aG3 out3' (nI st.n) ck3 od3 mgd3 last3 og3 lc3 list3 mn3 up3 sy3 gn3 tn3 tbl3 cts3 we3 pa3 lens3 cds3 told3 else bd (Model_block_f coa3 st.c (nI st.n) od3 told3 mgd3 last3 og3 list3 up3 sy3 tbl3 cts3 we3 pa3 lens3 cds3 out3' bit3' nbl3 aT3 aS3 aG3) (fun u19 => Model_pack_J296 (0 : Int32) (1 : Int32) u19.2.2.2.2.2.2.2.2.2.2.2.2.2.2.2.2.2.2.2.2.1 u19.2.1 u19.2.2.2.2.2.2.2.2.2.2.2.2.2.2.2.2.2.2.2.2.2.1 u19.2.2.2.2.2.2.2.2.2.2.2.2.2.2.2.2.2.2.2.2.2.2.1 u19.2.2.2.2.2.2.2.2.2.2.2.2.2.2.2.2.2.2.2.2.2.2.2.1 u19.2.2.2.2.2.2.2.2.2.2.2.2.2.2.2.2.2.2.2.2.2.2.2.2 u19.2.2.2.2.2.2.2.2.2.2.2.2.2.2.2.2.2.2.2.1 (nI st.n) u19.1 u19.2.2.1 u19.2.2.2.1 u19.2.2.2.2.1 u19.2.2.2.2.2.1 u19.2.2.2.2.2.2.1 u19.2.2.2.2.2.2.2.1 u19.2.2.2.2.2.2.2.2.1 u19.2.2.2.2.2.2.2.2.2.1 u19.2.2.2.2.2.2.2.2.2.2.1 u19.2.2.2.2.2.2.2.2.2.2.2.1 u19.2.2.2.2.2.2.2.2.2.2.2.2.1 u19.2.2.2.2.2.2.2.2.2.2.2.2.2.1 u19.2.2.2.2.2.2.2.2.2.2.2.2.2.2.1 u19.2.2.2.2.2.2.2.2.2.2.2.2.2.2.2.1 u19.2.2.2.2.2.2.2.2.2.2.2.2.2.2.2.2.1 u19.2.2.2.2.2.2.2.2.2.2.2.2.2.2.2.2.2.1 u19.2.2.2.2.2.2.2.2.2.2.2.2.2.2.2.2.2.2.1 told3)) := by
    unfold Model_pack_f
    rw [if_neg (show ¬ nI lv < (1 : Int32) from nI_nlt (a := lv) (b := 1) (by omega) (by omega)), if_pos (show nI lv ≤ (9 : Int32) from nI_le (a := lv) (b := 9) (by omega) (by omega))]
    unfold Model_pack_J17
    rw [fails_0, bd_s]
    show (if (0 : Int32) = 0 then bd (Model_put_f (82 : Int32) (8 : Int32) out (0 : Int32)) _ else _) = _
    rw [if_pos rfl, show Model_put_f (82 : Int32) (8 : Int32) out (0 : Int32) = some p1 from e1, bd_s, show Model_put_f (80 : Int32) (8 : Int32) p1.1 p1.2 = some p2 from e2, bd_s, show Model_put_f ((48 : Int32) + nI lv) (8 : Int32) p2.1 p2.2 = some (out3, bit3) from e3, bd_s]
    show bd (lpF (Model_pack_L96 (nI F) tape (nI lv)) gas ((-1 : Int32), (0 : Int32), bit3, (0 : Int32), (0 : Int32), (0 : Int32), (0 : Int32), (0 : Int32), out3, (0 : Int32), ck, od, mgd, last, og, lc, list, mn, up, sy, gn, tn, tbl, cts, we, pa, lens, cds, told)) _ = _
    rw [show lpF (Model_pack_L96 (nI F) tape (nI lv)) gas ((-1 : Int32), (0 : Int32), bit3, (0 : Int32), (0 : Int32), (0 : Int32), (0 : Int32), (0 : Int32), out3, (0 : Int32), ck, od, mgd, last, og, lc, list, mn, up, sy, gn, tn, tbl, cts, we, pa, lens, cds, told) = some (st.c, bit3', coa3, nbl3, aT3, aS3, aG3, out3', nI st.n, ck3, od3, mgd3, last3, og3, lc3, list3, mn3, up3, sy3, gn3, tn3, tbl3, cts3, we3, pa3, lens3, cds3, told3) from e4, bd_s]
  rw [hP]
  rcases hend with ⟨hn0, hA, ha0⟩ | ⟨hn0, hk0, hA, hk⟩
  · rw [if_pos (by rw [hn0]; decide)]
    have hA0 : (PA tp F lv).nbl = 0 := by rw [hA, ha0]
    rw [← hA] at hM4
    obtain ⟨hMW, hcoa, hnbl, haT, haS, haG, _⟩ := hM4
    have hpF : pin F F (PA tp F lv) := PA_pin ht hlv1 hlv9
    obtain ⟨out2, e5, h5⟩ := J296_m (tp := tp) (lv := lv) (coa := coa3) (nbl := nbl3) (aT := aT3) (aS := aS3) (aG := aG3) (tl := nI st.n) (ck := ck3) (od := od3) (mgd := mgd3) (last := last3) (og := og3) (lc := lc3) (list := list3) (mn := mn3) (up := up3) (sy := sy3) (gn := gn3) (tn := tn3) (tbl := tbl3) (cts := cts3) (we := we3) (pa := pa3) (lens := lens3) (cds := cds3) (told := told3) hF hpF hMW hcoa hnbl haT haS haG
    exact ⟨out2, nI st.n, ck3, od3, mgd3, last3, og3, lc3, list3, mn3, up3, sy3, gn3, tn3, tbl3, cts3, we3, pa3, lens3, cds3, told3, e5, h5, fun q => by omega⟩
  · rw [if_neg (nI_nle hn0 (by have := hok.n; omega))]
    obtain ⟨hMW, hcoa, hnbl, haT, haS, haG, _⟩ := hM4
    have hpF : pin F F (PA tp F lv) := PA_pin ht hlv1 hlv9
    obtain ⟨q1, q2, q3, _, _⟩ := hpk
    rw [if_neg (by omega)] at q3
    have hn := hok.n
    obtain ⟨od2, mgd2, last2, list2, up2, sy2, tbl2, cts2, we2, pa2, lens2, cds2, p6, e6, hmb, hM6⟩ := block_m (s := a.s) (t := st.d) (n := st.n) (nbl := a.nbl) (aT := a.aT) (aS := a.aS) (aG := a.aG) (coa := coa3) (c := st.c) (og0 := og3) (od := od3) (told := told3) (mgd := mgd3) (last := last3) (list := list3) (up := up3) (sy := sy3) (tbl := tbl3) (cts := cts3) (we := we3) (pa := pa3) (lens := lens3) (cds := cds3) (p := (out3', bit3')) hn0 (by omega) (fun j hj => ⟨hR j hj, hok.d j hj⟩) hMW (by omega)
    rw [← hnbl, ← haT, ← haS, ← haG] at e6
    have hAe := hA.trans (pst_e a st)
    have hAs : (PA tp F lv).s = pus a.s (BB st.d st.n (st.c ^^^ (-1 : Int32))) := by rw [hA]; exact pst_s a st
    have hM7 : MW (PA tp F lv).s p6.1 p6.2 := by rw [hAs]; exact hM6
    generalize pus a.s (BB st.d st.n (st.c ^^^ (-1 : Int32))) = X at hAe
    have g1 : jc coa3 (st.c ^^^ (-1 : Int32)) = (PA tp F lv).coa := by rw [hAe, hcoa]
    have g2 : nI (a.nbl + 1) = nI (PA tp F lv).nbl := by rw [hAe]
    have g3 : nI (a.aT + st.n) = nI (PA tp F lv).aT := by rw [hAe]
    have g4 : nI (a.aS + MN st.d st.n) = nI (PA tp F lv).aS := by rw [hAe]
    have g5 : nI (a.aG + GN st.d st.n) = nI (PA tp F lv).aG := by rw [hAe]
    obtain ⟨out2, e5, h5⟩ := J296_m (tp := tp) (lv := lv) (coa := jc coa3 (st.c ^^^ (-1 : Int32))) (nbl := nI (a.nbl + 1)) (aT := nI (a.aT + st.n)) (aS := nI (a.aS + MN st.d st.n)) (aG := nI (a.aG + GN st.d st.n)) (tl := nI st.n) (ck := st.c ^^^ (-1 : Int32)) (od := od2) (mgd := mgd2) (last := last2) (og := nI (OG st.d st.n)) (lc := nI (CN st.d st.n)) (list := list2) (mn := nI (MN st.d st.n)) (up := up2) (sy := sy2) (gn := nI (GN st.d st.n)) (tn := nI (TC st.d st.n)) (tbl := tbl2) (cts := cts2) (we := we2) (pa := pa2) (lens := lens2) (cds := cds2) (told := told3) hF hpF hM7 g1 g2 g3 g4 g5
    refine ⟨out2, nI st.n, st.c ^^^ (-1 : Int32), od2, mgd2, last2, nI (OG st.d st.n), nI (CN st.d st.n), list2, nI (MN st.d st.n), up2, sy2, nI (GN st.d st.n), nI (TC st.d st.n), tbl2, cts2, we2, pa2, lens2, cds2, told3, ?_, h5, fun _ => ?_⟩
    · rw [show Model_block_f coa3 st.c (nI st.n) od3 told3 mgd3 last3 og3 list3 up3 sy3 tbl3 cts3 we3 pa3 lens3 cds3 out3' bit3' nbl3 aT3 aS3 aG3 = _ from e6, bd_s]
      exact e5
    · rw [hAe]
      exact ⟨rfl, hR, rfl, rfl, rfl, rfl, rfl, rfl, hmb⟩
