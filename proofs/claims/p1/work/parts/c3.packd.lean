/-! PACKING, the class's: all blocks, the beginning and the end -/
/-- nothing is written yet -/
def s00 : bs := ((fun _ => 0), 0, 0, 0)
theorem s00_ok : bok s00 := ⟨by show 0 < 8; omega, by show 0 < 2 ^ 0; omega, fun j h => absurd h (Nat.not_lt_zero _)⟩
/-- the first three bytes -/
def sbeg (lv : Nat) : bs := pus (pus (pus s00 (pb (82 : Int32) 8)) (pb (80 : Int32) 8)) (pb ((48 : Int32) + nI lv) 8)
theorem sbeg_len (lv : Nat) : bok (sbeg lv) ∧ blen (sbeg lv) = 24 := by
  have h1 := pus_ok (l := pb (82 : Int32) 8) s00_ok
  have h2 := pus_ok (l := pb (80 : Int32) 8) h1
  have h3 := pus_ok (l := pb ((48 : Int32) + nI lv) 8) h2
  have b1 := pus_len (l := pb (82 : Int32) 8) s00_ok
  have b2 := pus_len (l := pb (80 : Int32) 8) h1
  have b3 := pus_len (l := pb ((48 : Int32) + nI lv) 8) h2
  rw [pb_len] at b1 b2 b3
  unfold sbeg
  refine ⟨h3, ?_⟩
  rw [b3, b2, b1]
  rfl
/-- the end: eight bits 0, the check of all, bits 0 up to a whole byte -/
def sfa (s : bs) (coa : Int32) : bs := pus (pus s (pb (0 : Int32) 8)) (pb coa 32)
def sfin (s : bs) (coa : Int32) : bs := pus (sfa s coa) (pb (0 : Int32) ((8 - (sfa s coa).k) % 8))
theorem k_blen {s : bs} (h : bok s) : s.k = blen s % 8 ∧ s.c = blen s / 8 := by
  have := h.k
  unfold blen
  omega
theorem sfa_ok {s : bs} (coa : Int32) (h : bok s) : bok (sfa s coa) ∧ blen (sfa s coa) = blen s + 40 := by
  have h1 := pus_ok (l := pb (0 : Int32) 8) h
  have h2 := pus_ok (l := pb coa 32) h1
  have b1 := pus_len (l := pb (0 : Int32) 8) h
  have b2 := pus_len (l := pb coa 32) h1
  rw [pb_len] at b1 b2
  unfold sfa
  exact ⟨h2, by omega⟩
theorem sfin_ok {s : bs} (coa : Int32) (h : bok s) : bok (sfin s coa) ∧ (sfin s coa).k = 0 ∧ blen (sfin s coa) ≤ blen s + 48 := by
  obtain ⟨h1, b1⟩ := sfa_ok coa h
  have h2 := pus_ok (l := pb (0 : Int32) ((8 - (sfa s coa).k) % 8)) h1
  have b2 := pus_len (l := pb (0 : Int32) ((8 - (sfa s coa).k) % 8)) h1
  rw [pb_len] at b2
  have k1 := k_blen h1
  have k2 := k_blen h2
  have k3 := h1.k
  unfold sfin
  refine ⟨h2, ?_, by omega⟩
  rw [k2.1, b2]
  omega
theorem begin_c {n lv : Nat} {f : Nat → Int32} (hn1 : 1 ≤ n) (hn : n ≤ 1000000) : ∃ p, BitWriter_begin_f (0 : Int32) (0 : Int32) n f (nI lv) = some (p.2.2.2.2, p.1, p.2.1, p.2.2.1, p.2.2.2.1) ∧ CWp (sbeg lv) n p := by
  have h0 : CWp s00 n ((0 : Int32), (0 : Int32), n, f, (0 : Int32)) := ⟨s00_ok, rfl, rfl, rfl, fun j h => absurd h (Nat.not_lt_zero _), Nat.zero_le _, hn1, Nat.le_refl _, Or.inl rfl⟩
  have l0 : blen s00 = 0 := rfl
  obtain ⟨p1, e1, h1⟩ := put_p (v := (82 : Int32)) (k := 8) hn (by omega) h0 (by omega)
  have b1 := pus_len (l := pb (82 : Int32) 8) s00_ok
  rw [pb_len] at b1
  obtain ⟨p2, e2, h2⟩ := put_p (v := (80 : Int32)) (k := 8) hn (by omega) h1 (by omega)
  have b2 := pus_len (l := pb (80 : Int32) 8) h1.ok
  rw [pb_len] at b2
  obtain ⟨p3, e3, h3⟩ := put_p (v := (48 : Int32) + nI lv) (k := 8) hn (by omega) h2 (by omega)
  refine ⟨p3, ?_, by unfold sbeg; exact h3⟩
  unfold BitWriter_begin_f
  rw [show BitWriter_put_f (82 : Int32) (8 : Int32) (0 : Int32) (0 : Int32) n f (0 : Int32) = some p1 from e1, bd_s, show BitWriter_put_f (80 : Int32) (8 : Int32) p1.1 p1.2.1 p1.2.2.1 p1.2.2.2.1 p1.2.2.2.2 = some p2 from e2, bd_s, show BitWriter_put_f ((48 : Int32) + nI lv) (8 : Int32) p2.1 p2.2.1 p2.2.2.1 p2.2.2.2.1 p2.2.2.2.2 = some p3 from e3, bd_s]
theorem finish_c {s : bs} {n0 : Nat} {coa : Int32} {p : Int32 × Int32 × Nat × (Nat → Int32) × Int32} (hn0 : n0 ≤ 1000000) (h : CWp s n0 p) (hl : blen s + 100 ≤ 2000000) : ∃ p2, BitWriter_finish_f p.1 p.2.1 p.2.2.1 p.2.2.2.1 p.2.2.2.2 coa = some p2 ∧ CWp (sfin s coa) n0 p2 := by
  obtain ⟨p1, e1, h1⟩ := put_p (v := (0 : Int32)) (k := 8) hn0 (by omega) h (by omega)
  have b1 := pus_len (l := pb (0 : Int32) 8) h.ok
  rw [pb_len] at b1
  obtain ⟨p2, e2, h2⟩ := put_p (v := coa) (k := 32) hn0 (by omega) h1 (by omega)
  have b2 := pus_len (l := pb coa 32) h1.ok
  rw [pb_len] at b2
  have h2 : CWp (sfa s coa) n0 p2 := by unfold sfa; exact h2
  have b2 : blen (sfa s coa) = blen s + 40 := (sfa_ok coa h.ok).2
  have hk := h2.ok.k
  have ek : ((8 : Int32) - p2.2.1) &&& (7 : Int32) = nI ((8 - (sfa s coa).k) % 8) := by
    rw [h2.hc, show (8 : Int32) - nI (sfa s coa).k = nI (8 - (sfa s coa).k) from pk_sub (show (sfa s coa).k ≤ 8 by omega)]
    exact pk_andN (show 8 - (sfa s coa).k < 2 ^ 32 by omega) (m := (7 : Int32)) 3 (by decide)
  obtain ⟨p3, e3, h3⟩ := put_p (v := (0 : Int32)) (k := (8 - (sfa s coa).k) % 8) hn0 (by omega) h2 (by omega)
  refine ⟨p3, ?_, by unfold sfin; exact h3⟩
  unfold BitWriter_finish_f
  rw [show BitWriter_put_f (0 : Int32) (8 : Int32) p.1 p.2.1 p.2.2.1 p.2.2.2.1 p.2.2.2.2 = some p1 from e1, bd_s, show BitWriter_put_f coa (32 : Int32) p1.1 p1.2.1 p1.2.2.1 p1.2.2.2.1 p1.2.2.2.2 = some p2 from e2, bd_s, ek, e3, bd_s]
theorem packloop_c {a0 : pacc} {tp : Nat → Nat} {F n0 nb lv : Nat} {fb lvs : Nat → Int32} {coa nbl aT aS aG ct held hc tcn ckb bck ra og lc sc gc tn tlc : Int32} {nr : Nat} {fr told sl od rk odn rkn last used mem ups sy gt wt slc sd sm0 dp ki fi tlm : Nat → Int32} {Lf co fs pl cd so : Nat → Nat → Int32} (hF : F ≤ nb) (hnb : nb < 1000000) (hF2 : F ≤ 10240) (hlv1 : 1 ≤ lv) (hlv9 : lv ≤ 9) (hlvs : ∀ j, j < 256 → lvs j = chkT j) (hf : ∀ j, j < F → fb j = nI (tp j) ∧ tp j < 256) (hn0 : n0 ≤ 1000000) (hp : pin F 0 a0) (h : Cin a0 n0 coa nbl aT aS aG ct held hc nr fr tcn bck told last og lc ups sc sy gc tn gt Lf ki fs pl) :
    ∃ e : Int32 × Int32 × Int32 × Int32 × Int32 × Int32 × Int32 × Int32 × Nat × (Nat → Int32) × Int32 × Int32 × Int32 × (Nat → Int32) × (Nat → Int32) × (Nat → Int32) × Int32 × (Nat → Int32) × (Nat → Int32) × (Nat → Int32) × (Nat → Int32) × Int32 × (Nat → Int32) × Int32 × (Nat → Int32) × (Nat → Int32) × Int32 × (Nat → Int32) × Int32 × Int32 × (Nat → Int32) × (Nat → Int32) × (Nat → Int32) × (Nat → Int32) × (Nat → Int32) × (Nat → Int32) × (Nat → Nat → Int32) × (Nat → Int32) × (Nat → Nat → Int32) × (Nat → Int32) × (Nat → Nat → Int32) × (Nat → Nat → Int32) × (Nat → Nat → Int32) × (Nat → Nat → Int32) × Int32 × (Nat → Int32), lpF (Packer_packFile_L35 (nI F) (nI lv) nb fb lvs) gas (coa, nI 0, nI 0, nbl, aT, aS, aG, ct, held, hc, nr, fr, tcn, ckb, bck, told, sl, od, ra, rk, odn, rkn, last, og, used, lc, mem, ups, sc, sy, gc, tn, gt, wt, slc, sd, sm0, dp, Lf, ki, co, fi, fs, pl, cd, so, tlc, tlm) = some e ∧ ∃ coa2 nbl2 aT2 aS2 aG2 ct2 held2 hc2 nr2 fr2 tcn2 ckb2 bck2 told2 sl2 od2 ra2 rk2 odn2 rkn2 last2 og2 used2 lc2 mem2 ups2 sc2 sy2 gc2 tn2 gt2 wt2 slc2 sd2 sm02 dp2 Lf2 ki2 co2 fi2 fs2 pl2 cd2 so2 tlc2 tlm2, e = (coa2, nbl2, aT2, aS2, aG2, ct2, held2, hc2, nr2, fr2, tcn2, ckb2, bck2, told2, sl2, od2, ra2, rk2, odn2, rkn2, last2, og2, used2, lc2, mem2, ups2, sc2, sy2, gc2, tn2, gt2, wt2, slc2, sd2, sm02, dp2, Lf2, ki2, co2, fi2, fs2, pl2, cd2, so2, tlc2, tlm2) ∧ Cin (PK tp F (lv * 250) F 0 a0) n0 coa2 nbl2 aT2 aS2 aG2 ct2 held2 hc2 nr2 fr2 tcn2 bck2 told2 last2 og2 lc2 ups2 sc2 sy2 gc2 tn2 gt2 Lf2 ki2 fs2 pl2 ∧ pin F F (PK tp F (lv * 250) F 0 a0) := by
  have ht : ∀ j, j < F → tp j < 256 := fun j hj => (hf j hj).2
  refine lp_totg (fun s => ∃ k i a coa nbl aT aS aG ct held hc nr fr tcn ckb bck told sl od ra rk odn rkn last og used lc mem ups sc sy gc tn gt wt slc sd sm0 dp Lf ki co fi fs pl cd so tlc tlm, s = (coa, nI k, nI i, nbl, aT, aS, aG, ct, held, hc, nr, fr, tcn, ckb, bck, told, sl, od, ra, rk, odn, rkn, last, og, used, lc, mem, ups, sc, sy, gc, tn, gt, wt, slc, sd, sm0, dp, Lf, ki, co, fi, fs, pl, cd, so, tlc, tlm) ∧ i ≤ k ∧ k ≤ F ∧ pin F k a ∧ PK tp F (lv * 250) F k a = PK tp F (lv * 250) F 0 a0 ∧ Cin a n0 coa nbl aT aS aG ct held hc nr fr tcn bck told last og lc ups sc sy gc tn gt Lf ki fs pl) (fun s => 20000 - s.2.1.toNatClampNeg) _ ?_ ⟨0, 0, a0, coa, nbl, aT, aS, aG, ct, held, hc, nr, fr, tcn, ckb, bck, told, sl, od, ra, rk, odn, rkn, last, og, used, lc, mem, ups, sc, sy, gc, tn, gt, wt, slc, sd, sm0, dp, Lf, ki, co, fi, fs, pl, cd, so, tlc, tlm, rfl, Nat.le_refl _, Nat.zero_le _, hp, rfl, h⟩ (by show 20000 - _ < 1000000; omega)
  rintro s ⟨k, i, a, coa, nbl, aT, aS, aG, ct, held, hc, nr, fr, tcn, ckb, bck, told, sl, od, ra, rk, odn, rkn, last, og, used, lc, mem, ups, sc, sy, gc, tn, gt, wt, slc, sd, sm0, dp, Lf, ki, co, fi, fs, pl, cd, so, tlc, tlm, rfl, hik, hkF, hpk, hPK, hC⟩
  rcases Nat.lt_or_ge k F with hk | hk
  · obtain ⟨coa2, nbl2, aT2, aS2, aG2, ct2, held2, hc2, nr2, fr2, tcn2, ckb2, bck2, told2, sl2, od2, ra2, rk2, odn2, rkn2, last2, og2, used2, lc2, mem2, ups2, sc2, sy2, gc2, tn2, gt2, wt2, slc2, sd2, sm02, dp2, Lf2, ki2, co2, fi2, fs2, pl2, cd2, so2, tlc2, tlm2, e1, h1⟩ := packstep_c (lv := lv) (k := k) (i := i) hF hnb hF2 hlv1 hlv9 hlvs hf hn0 hk (by omega) hpk hC
    have hT := TK_ok (tp := tp) (most := lv * 250) ht (by omega) hk
    have hTk := hT.1.k
    refine Or.inl ⟨(coa2, nI (TK tp F (lv * 250) k).k, nI (i + 1), nbl2, aT2, aS2, aG2, ct2, held2, hc2, nr2, fr2, tcn2, ckb2, bck2, told2, sl2, od2, ra2, rk2, odn2, rkn2, last2, og2, used2, lc2, mem2, ups2, sc2, sy2, gc2, tn2, gt2, wt2, slc2, sd2, sm02, dp2, Lf2, ki2, co2, fi2, fs2, pl2, cd2, so2, tlc2, tlm2), e1, ⟨(TK tp F (lv * 250) k).k, i + 1, pst a (TK tp F (lv * 250) k), coa2, nbl2, aT2, aS2, aG2, ct2, held2, hc2, nr2, fr2, tcn2, ckb2, bck2, told2, sl2, od2, ra2, rk2, odn2, rkn2, last2, og2, used2, lc2, mem2, ups2, sc2, sy2, gc2, tn2, gt2, wt2, slc2, sd2, sm02, dp2, Lf2, ki2, co2, fi2, fs2, pl2, cd2, so2, tlc2, tlm2, rfl, by omega, hTk, pin_step ht (by omega) (by omega) hk hpk, by rw [← PK_step ht (by omega) a hk]; exact hPK, h1⟩, ?_⟩
    show 20000 - (nI (TK tp F (lv * 250) k).k).toNatClampNeg < 20000 - (nI k).toNatClampNeg
    rw [nI_clamp (by omega), nI_clamp (by omega)]
    omega
  · have hkF2 : k = F := by omega
    rw [PK_end ht (by omega) a hk] at hPK
    rw [← hPK]
    refine Or.inr ⟨(coa, nbl, aT, aS, aG, ct, held, hc, nr, fr, tcn, ckb, bck, told, sl, od, ra, rk, odn, rkn, last, og, used, lc, mem, ups, sc, sy, gc, tn, gt, wt, slc, sd, sm0, dp, Lf, ki, co, fi, fs, pl, cd, so, tlc, tlm), ?_, coa, nbl, aT, aS, aG, ct, held, hc, nr, fr, tcn, ckb, bck, told, sl, od, ra, rk, odn, rkn, last, og, used, lc, mem, ups, sc, sy, gc, tn, gt, wt, slc, sd, sm0, dp, Lf, ki, co, fi, fs, pl, cd, so, tlc, tlm, rfl, hC, by rw [← hkF2]; exact (hkF2 ▸ hpk)⟩
    unfold Packer_packFile_L35
    show (if nI F ≤ nI i then some (Sum.inr (coa, nbl, aT, aS, aG, ct, held, hc, nr, fr, tcn, ckb, bck, told, sl, od, ra, rk, odn, rkn, last, og, used, lc, mem, ups, sc, sy, gc, tn, gt, wt, slc, sd, sm0, dp, Lf, ki, co, fi, fs, pl, cd, so, tlc, tlm)) else (if nI F ≤ nI k then some (Sum.inr (coa, nbl, aT, aS, aG, ct, held, hc, nr, fr, tcn, ckb, bck, told, sl, od, ra, rk, odn, rkn, last, og, used, lc, mem, ups, sc, sy, gc, tn, gt, wt, slc, sd, sm0, dp, Lf, ki, co, fi, fs, pl, cd, so, tlc, tlm)) else _)) = _
    by_cases hi : F ≤ i
    · rw [if_pos (nI_le hi (by omega))]
    · rw [if_neg (nI_ge (by omega) (by omega)), if_pos (nI_le hk (by omega))]
