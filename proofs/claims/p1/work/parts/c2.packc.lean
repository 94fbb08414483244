/-! PACKING, the class's -/
/-- what stands in the packer -/
abbrev Cin (a : pacc) (n0 : Nat) (coa : Int32) (nbl : Int32) (aT : Int32) (aS : Int32) (aG : Int32) (ct : Int32) (held : Int32) (hc : Int32) (nr : Nat) (fr : Nat → Int32) (tcn : Int32) (bck : Int32) (told : Nat → Int32) (last : Nat → Int32) (og : Int32) (lc : Int32) (ups : Nat → Int32) (sc : Int32) (sy : Nat → Int32) (gc : Int32) (tn : Int32) (gt : Nat → Int32) (Lf : Nat → Nat → Int32) (ki : Nat → Int32) (fs : Nat → Nat → Int32) (pl : Nat → Nat → Int32) : Prop :=
  CW a.s n0 held hc nr fr ct ∧ coa = a.coa ∧ nbl = nI a.nbl ∧ aT = nI a.aT ∧ aS = nI a.aS ∧ aG = nI a.aG ∧
  (0 < a.nbl → tcn = nI a.n ∧ bck = a.ck ∧ RS a.n told a.t ∧ og = nI (OG a.t a.n) ∧ lc = nI (CN a.t a.n) ∧ sc = nI (MN a.t a.n) ∧ gc = nI (GN a.t a.n) ∧ tn = nI (TC a.t a.n) ∧ RS a.n last (LN a.t a.n) ∧ RS a.n ups (UP a.t a.n) ∧ RS (MN a.t a.n) sy (SY a.t a.n) ∧ (∀ g, g < GN a.t a.n → gt g = nI (TB a.t a.n g)) ∧ (∀ k j, k < TC a.t a.n → j < CN a.t a.n + 2 → Lf k j = nI (LT a.t a.n k j)) ∧ ∀ k, k < TC a.t a.n → ki k = nI (CN a.t a.n + 2)) ∧ (∀ t, fs t 0 = 0) ∧ ∀ t, pl t 0 = 0
theorem packstep_c {a : pacc} {tp : Nat → Nat} {F n0 nb lv k i : Nat} {fb lvs : Nat → Int32} {coa nbl aT aS aG ct held hc tcn ckb bck ra og lc sc gc tn tlc : Int32} {nr : Nat} {fr told sl od rk odn rkn last used mem ups sy gt wt slc sd sm0 dp ki fi tlm : Nat → Int32} {Lf co fs pl cd so : Nat → Nat → Int32} (hF : F ≤ nb) (hnb : nb < 1000000) (hF2 : F ≤ 10240) (hlv1 : 1 ≤ lv) (hlv9 : lv ≤ 9) (hlvs : ∀ j, j < 256 → lvs j = chkT j) (hf : ∀ j, j < F → fb j = nI (tp j) ∧ tp j < 256) (hn0 : n0 ≤ 1000000) (hk : k < F) (hi : i < F) (hp : pin F k a) (h : Cin a n0 coa nbl aT aS aG ct held hc nr fr tcn bck told last og lc ups sc sy gc tn gt Lf ki fs pl) :
    ∃ coa2 nbl2 aT2 aS2 aG2 ct2 held2 hc2 nr2 fr2 tcn2 ckb2 bck2 told2 sl2 od2 ra2 rk2 odn2 rkn2 last2 og2 used2 lc2 mem2 ups2 sc2 sy2 gc2 tn2 gt2 wt2 slc2 sd2 sm02 dp2 Lf2 ki2 co2 fi2 fs2 pl2 cd2 so2 tlc2 tlm2, Packer_packFile_L35 (nI F) (nI lv) nb fb lvs (coa, nI k, nI i, nbl, aT, aS, aG, ct, held, hc, nr, fr, tcn, ckb, bck, told, sl, od, ra, rk, odn, rkn, last, og, used, lc, mem, ups, sc, sy, gc, tn, gt, wt, slc, sd, sm0, dp, Lf, ki, co, fi, fs, pl, cd, so, tlc, tlm) = some (Sum.inl (coa2, nI (TK tp F (lv * 250) k).k, nI (i + 1), nbl2, aT2, aS2, aG2, ct2, held2, hc2, nr2, fr2, tcn2, ckb2, bck2, told2, sl2, od2, ra2, rk2, odn2, rkn2, last2, og2, used2, lc2, mem2, ups2, sc2, sy2, gc2, tn2, gt2, wt2, slc2, sd2, sm02, dp2, Lf2, ki2, co2, fi2, fs2, pl2, cd2, so2, tlc2, tlm2)) ∧ Cin (pst a (TK tp F (lv * 250) k)) n0 coa2 nbl2 aT2 aS2 aG2 ct2 held2 hc2 nr2 fr2 tcn2 bck2 told2 last2 og2 lc2 ups2 sc2 sy2 gc2 tn2 gt2 Lf2 ki2 fs2 pl2 := by
  have ht : ∀ j, j < F → tp j < 256 := fun j hj => (hf j hj).2
  obtain ⟨hok, hlt, hnpos, h4n, _⟩ := TK_ok (most := lv * 250) ht (by omega) hk
  obtain ⟨q1, q2, q3, _, _⟩ := hp
  rw [if_neg (by omega)] at q3
  obtain ⟨hCW, hcoa, hnbl, haT, haS, haG, _, hfs, hpl⟩ := h
  have hps := pst_s a (TK tp F (lv * 250) k)
  obtain ⟨told2, e9, htold⟩ := takeRuns_c (tp := tp) (F := F) (most := lv * 250) (k := k) (told := told) (fun _ => 0) hF hnb (by omega) (by omega) hlvs hf
  have e9 : Block_takeRuns_f (nI (lv * 250)) (nI F) nb fb lvs (nI k) told = some (nI (TK tp F (lv * 250) k).k, nI (TK tp F (lv * 250) k).n, (TK tp F (lv * 250) k).c, (TK tp F (lv * 250) k).c ^^^ (-1 : Int32), told2) := e9
  have htold : RS (TK tp F (lv * 250) k).n told2 (TK tp F (lv * 250) k).d := htold
  have hst : pst a (TK tp F (lv * 250) k) = (pus a.s (BB (TK tp F (lv * 250) k).d (TK tp F (lv * 250) k).n ((TK tp F (lv * 250) k).c ^^^ (-1 : Int32))), jc a.coa ((TK tp F (lv * 250) k).c ^^^ (-1 : Int32)), a.nbl + 1, a.aT + (TK tp F (lv * 250) k).n, a.aS + MN (TK tp F (lv * 250) k).d (TK tp F (lv * 250) k).n, a.aG + GN (TK tp F (lv * 250) k).d (TK tp F (lv * 250) k).n, (TK tp F (lv * 250) k).d, (TK tp F (lv * 250) k).n, (TK tp F (lv * 250) k).c ^^^ (-1 : Int32)) := by unfold pst; exact rfl
  rw [hst]
  have hn9 := hok.n
  have hd9 := hok.d
  have hTk := hok.k
  clear hok hps hst
  generalize (TK tp F (lv * 250) k).d = t at *
  generalize (TK tp F (lv * 250) k).n = n at *
  generalize (TK tp F (lv * 250) k).c = Tc at *
  generalize (TK tp F (lv * 250) k).k = Tk at *
  have h0 : 0 < n := hnpos
  have hn : n ≤ 2250 := by omega
  have hft : ∀ j, j < n → told2 j = nI (t j) ∧ t j < 256 := fun j hj => ⟨htold j hj, hd9 j hj⟩
  have hcn := CN_b t n
  have hmn := MN_b h0 hd9
  have htc := TC_b t n
  obtain ⟨ck, hck⟩ : ∃ ck, ck = Tc ^^^ (-1 : Int32) := ⟨_, rfl⟩
  rw [← hck] at e9 ⊢
  obtain ⟨S, O, r, R, On, Rn, last2, e10, hla⟩ := rotate_c (sl := sl) (od := od) (rk := rk) (odn := odn) (rkn := rkn) (f3 := last) (n1 := 2250) (n3 := 2250) h0 hn hn (by omega) hn (by omega) hft
  have hla := LN_RS hla
  obtain ⟨used2, mem2, ups2, e11, hU, hups⟩ := makeUps_eq (used0 := used) (mem0 := mem) (ups0 := ups) hn (fun j hj => ⟨hla j hj, LN_b h0 hd9 j⟩)
  rw [us_LN h0] at e11 hU hups
  obtain ⟨sy2, e12, hsy⟩ := makeSymbols_eq (S0 := sy) (c := CN t n) hn hcn hups (UP_b h0 hd9)
  obtain ⟨gt2, wt2, slc2, sd2, sm2, dp2, Lf2, ki2, co2, fi2, fs2, pl2, cd2, so2, e13, hgt, hLf, hki, hcd, hfs2, hpl2⟩ := makeTables_eq (gt := gt) (wt := wt) (sl := slc) (sd := sd) (sm0 := sm0) (dp := dp) (kinds := ki) (filled := fi) (Lf := Lf) (counts := co) (firsts := fs) (places := pl) (codes := cd) (sorted := so) (s := SY t n) (fS := sy2) (m := MN t n) (c := CN t n) (by omega) (by omega) (by omega) (fun i hi => ⟨hsy i hi, hmn.2.2 i hi⟩) hfs hpl
  obtain ⟨tlm2, p2, e14, hW⟩ := write_c (s := a.s) (ck := ck) (og := OG t n) (U := used2) (mem := tlm) (gt := gt2) (fS := sy2) (kinds := ki2) (Cf := cd2) (Lf := Lf2) (u := us t n) (sy := SY t n) (tb := TB t n) (Lt := LT t n) (Ct := CT t n) (n := CN t n + 2) (m := MN t n) (tc := TC t n) (p := (held, hc, nr, fr, ct)) hn0 (by omega) (by omega) (by omega) (by omega) hU (fun i hi => ⟨hsy i hi, hmn.2.2 i hi⟩) (fun g hg => ⟨hgt g hg, TB_b h0 hd9 hg⟩) (fun k j hk hj => ⟨hLf k j hk hj, LT_b h0 hn hd9 hj, hcd k j hk hj⟩) hki hCW (by omega)
  have hBB : blb ck (OG t n) (us t n) (SY t n) (TB t n) (LT t n) (CT t n) (CN t n + 2) (MN t n) (TC t n) = BB t n ck := by
    unfold BB
    rfl
  rw [hBB] at hW
  obtain ⟨held2, hc2, nr2, fr2, ct2⟩ := p2
  have hW : CW (pus a.s (BB t n ck)) n0 held2 hc2 nr2 fr2 ct2 := hW
  generalize pus a.s (BB t n ck) = X at hW ⊢
  refine ⟨jc coa ck, nI (a.nbl + 1), nI (a.aT + n), nI (a.aS + MN t n), nI (a.aG + GN t n), ct2, held2, hc2, nr2, fr2, nI n, Tc, ck, told2, S, O, r, R, On, Rn, last2, nI (OG t n), used2, nI (CN t n), mem2, ups2, nI (MN t n), sy2, nI ((MN t n + 49) / 50), nI (TC t n), gt2, wt2, slc2, sd2, sm2, dp2, Lf2, ki2, co2, fi2, fs2, pl2, cd2, so2, nI (TC t n), tlm2, ?_, ⟨hW, by rw [hcoa], rfl, rfl, rfl, rfl, fun _ => ⟨rfl, rfl, htold, rfl, rfl, rfl, rfl, rfl, hla, hups, hsy, hgt, hLf, hki⟩, hfs2, hpl2⟩⟩
  unfold Packer_packFile_L35
  rw [hnbl, haT, haS, haG]
  show (if nI F ≤ nI i then _ else (if nI F ≤ nI k then _ else bd (Block_takeRuns_f (nI lv * nI 250) (nI F) nb fb lvs (nI k) told) _)) = _
  rw [if_neg (nI_ge hi (by omega)), if_neg (nI_ge hk (by omega)), pk_mul, e9, bd_s]
  show bd (Rotations_rotate_f sl (nI n) 2250 told2 od rk odn rkn 2250 last) _ = _
  rw [e10, bd_s]
  show bd (Block_makeUps_f used (nI n) last2 mem ups) _ = _
  rw [e11, bd_s]
  show bd (Block_makeSymbols_f (nI n) ups2 sy (nI (CN t n))) _ = _
  rw [show Block_makeSymbols_f (nI n) ups2 sy (nI (CN t n)) = some (nI (MN t n), sy2) from e12, bd_s]
  show bd (Coder_makeTables_f (nI (MN t n)) gt (nI (CN t n)) sy2 wt slc sd sm0 dp Lf ki co fi fs pl cd so) _ = _
  rw [e13, bd_s]
  show bd (BitWriter_write_f held hc nr fr ct ck (nI (OG t n)) used2 (nI (TC t n)) (nI ((MN t n + 49) / 50)) tlm gt2 Lf2 ki2 (nI (MN t n)) sy2 cd2) _ = _
  rw [show BitWriter_write_f held hc nr fr ct ck (nI (OG t n)) used2 (nI (TC t n)) (nI ((MN t n + 49) / 50)) tlm gt2 Lf2 ki2 (nI (MN t n)) sy2 cd2 = some (held2, hc2, nr2, fr2, ct2, nI (TC t n), tlm2) from e14, bd_s]
  show some (Sum.inl (jc coa ck, nI Tk, nI i + (1 : Int32), nI a.nbl + (1 : Int32), nI a.aT + nI n, nI a.aS + nI (MN t n), nI a.aG + nI ((MN t n + 49) / 50), ct2, held2, hc2, nr2, fr2, nI n, Tc, ck, told2, S, O, r, R, On, Rn, last2, nI (OG t n), used2, nI (CN t n), mem2, ups2, nI (MN t n), sy2, nI ((MN t n + 49) / 50), nI (TC t n), gt2, wt2, slc2, sd2, sm2, dp2, Lf2, ki2, co2, fi2, fs2, pl2, cd2, so2, nI (TC t n), tlm2)) = _
  rw [nI_1, nI_1, nI_add, nI_add, nI_add]
  rfl
