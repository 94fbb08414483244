/-! PACKING, the class's: the whole file -/
abbrev Cir (a : pacc) (nbl : Int32) (aT : Int32) (aS : Int32) (aG : Int32) (tcn : Int32) (bck : Int32) (told : Nat → Int32) (last : Nat → Int32) (og : Int32) (lc : Int32) (ups : Nat → Int32) (sc : Int32) (sy : Nat → Int32) (gc : Int32) (tn : Int32) (gt : Nat → Int32) (Lf : Nat → Nat → Int32) (ki : Nat → Int32) (fs : Nat → Nat → Int32) (pl : Nat → Nat → Int32) : Prop :=
  nbl = nI a.nbl ∧ aT = nI a.aT ∧ aS = nI a.aS ∧ aG = nI a.aG ∧
  (0 < a.nbl → tcn = nI a.n ∧ bck = a.ck ∧ RS a.n told a.t ∧ og = nI (OG a.t a.n) ∧ lc = nI (CN a.t a.n) ∧ sc = nI (MN a.t a.n) ∧ gc = nI (GN a.t a.n) ∧ tn = nI (TC a.t a.n) ∧ RS a.n last (LN a.t a.n) ∧ RS a.n ups (UP a.t a.n) ∧ RS (MN a.t a.n) sy (SY a.t a.n) ∧ (∀ g, g < GN a.t a.n → gt g = nI (TB a.t a.n g)) ∧ (∀ k j, k < TC a.t a.n → j < CN a.t a.n + 2 → Lf k j = nI (LT a.t a.n k j)) ∧ ∀ k, k < TC a.t a.n → ki k = nI (CN a.t a.n + 2)) ∧ (∀ t, fs t 0 = 0) ∧ ∀ t, pl t 0 = 0
/-- what packing the first F bytes of a tape at level lv comes to -/
noncomputable def PA (tp : Nat → Nat) (F lv : Nat) : pacc := PK tp F (lv * 250) F 0 (sbeg lv, (0 : Int32), 0, 0, 0, 0, (fun _ => 0), 0, (0 : Int32))
noncomputable def PS (tp : Nat → Nat) (F lv : Nat) : bs := sfin (PA tp F lv).s (PA tp F lv).coa
theorem pin_0 (F lv : Nat) : pin F 0 (sbeg lv, (0 : Int32), 0, 0, 0, 0, (fun _ => 0), 0, (0 : Int32)) := by
  obtain ⟨h1, h2⟩ := sbeg_len lv
  refine ⟨h1, Nat.zero_le _, ?_, Nat.zero_le _, fun _ h => absurd h (Nat.lt_irrefl _)⟩
  show blen (sbeg lv) ≤ 24 + 130 * 0 + _
  omega
theorem packFile_c {tp : Nat → Nat} {F nb lv nr : Nat} {fb lvs fr : Nat → Int32} {tcn ckb bck ra og lc sc gc tn tlc : Int32} {told sl od rk odn rkn last used mem ups sy gt wt slc sd sm0 dp ki fi tlm : Nat → Int32} {Lf co fs pl cd so : Nat → Nat → Int32} (hF : F ≤ nb) (hnb : nb < 1000000) (hF2 : F ≤ 10240) (hlv1 : 1 ≤ lv) (hlv9 : lv ≤ 9) (hlvs : ∀ j, j < 256 → lvs j = chkT j) (hf : ∀ j, j < F → fb j = nI (tp j) ∧ tp j < 256) (hnr1 : 1 ≤ nr) (hnr : nr ≤ 1000000) (hfs : ∀ t, fs t 0 = 0) (hpl : ∀ t, pl t 0 = 0) :
    ∃ nbl2 aT2 aS2 aG2 ct2 held2 hc2 nr2 fr2 tcn2 ckb2 bck2 told2 sl2 od2 ra2 rk2 odn2 rkn2 last2 og2 used2 lc2 mem2 ups2 sc2 sy2 gc2 tn2 gt2 wt2 slc2 sd2 sm02 dp2 Lf2 ki2 co2 fi2 fs2 pl2 cd2 so2 tlc2 tlm2, Packer_packFile_f (0 : Int32) (0 : Int32) nr fr (nI lv) (nI F) nb fb lvs tcn ckb bck told sl od ra rk odn rkn last og used lc mem ups sc sy gc tn gt wt slc sd sm0 dp Lf ki co fi fs pl cd so tlc tlm = some (nbl2, aT2, aS2, aG2, ct2, held2, hc2, nr2, fr2, tcn2, ckb2, bck2, told2, sl2, od2, ra2, rk2, odn2, rkn2, last2, og2, used2, lc2, mem2, ups2, sc2, sy2, gc2, tn2, gt2, wt2, slc2, sd2, sm02, dp2, Lf2, ki2, co2, fi2, fs2, pl2, cd2, so2, tlc2, tlm2) ∧ CW (PS tp F lv) nr held2 hc2 nr2 fr2 ct2 ∧ Cir (PA tp F lv) nbl2 aT2 aS2 aG2 tcn2 bck2 told2 last2 og2 lc2 ups2 sc2 sy2 gc2 tn2 gt2 Lf2 ki2 fs2 pl2 ∧ pin F F (PA tp F lv) := by
  obtain ⟨p, e0, hb⟩ := begin_c (f := fr) (lv := lv) hnr1 hnr
  have hC : Cin (sbeg lv, (0 : Int32), 0, 0, 0, 0, (fun _ => 0), 0, (0 : Int32)) nr (0 : Int32) (0 : Int32) (0 : Int32) (0 : Int32) (0 : Int32) p.2.2.2.2 p.1 p.2.1 p.2.2.1 p.2.2.2.1 tcn bck told last og lc ups sc sy gc tn gt Lf ki fs pl := ⟨hb, rfl, rfl, rfl, rfl, rfl, fun h => absurd h (Nat.lt_irrefl _), hfs, hpl⟩
  obtain ⟨e, e1, coa2, nbl2, aT2, aS2, aG2, ct2, held2, hc2, nr2, fr2, tcn2, ckb2, bck2, told2, sl2, od2, ra2, rk2, odn2, rkn2, last2, og2, used2, lc2, mem2, ups2, sc2, sy2, gc2, tn2, gt2, wt2, slc2, sd2, sm02, dp2, Lf2, ki2, co2, fi2, fs2, pl2, cd2, so2, tlc2, tlm2, rfl, h1, hp⟩ := packloop_c (lv := lv) (tcn := tcn) (ckb := ckb) (bck := bck) (told := told) (sl := sl) (od := od) (ra := ra) (rk := rk) (odn := odn) (rkn := rkn) (last := last) (og := og) (used := used) (lc := lc) (mem := mem) (ups := ups) (sc := sc) (sy := sy) (gc := gc) (tn := tn) (gt := gt) (wt := wt) (slc := slc) (sd := sd) (sm0 := sm0) (dp := dp) (Lf := Lf) (ki := ki) (co := co) (fi := fi) (fs := fs) (pl := pl) (cd := cd) (so := so) (tlc := tlc) (tlm := tlm) hF hnb hF2 hlv1 hlv9 hlvs hf hnr (pin_0 F lv) hC
  change Cin (PA tp F lv) nr coa2 nbl2 aT2 aS2 aG2 ct2 held2 hc2 nr2 fr2 tcn2 bck2 told2 last2 og2 lc2 ups2 sc2 sy2 gc2 tn2 gt2 Lf2 ki2 fs2 pl2 at h1
  change pin F F (PA tp F lv) at hp
  have hpk := hp
  obtain ⟨q1, q2, q3, q4, _⟩ := hpk
  rw [if_pos (Nat.le_refl _)] at q3
  obtain ⟨hW, hcoa, hr⟩ := h1
  obtain ⟨p2, e2, h2⟩ := finish_c (coa := coa2) (p := (held2, hc2, nr2, fr2, ct2)) hnr hW (by omega)
  have hPS : sfin (PA tp F lv).s (PA tp F lv).coa = PS tp F lv := by
    unfold PS
    rfl
  rw [hcoa, hPS] at h2
  refine ⟨nbl2, aT2, aS2, aG2, p2.2.2.2.2, p2.1, p2.2.1, p2.2.2.1, p2.2.2.2.1, tcn2, ckb2, bck2, told2, sl2, od2, ra2, rk2, odn2, rkn2, last2, og2, used2, lc2, mem2, ups2, sc2, sy2, gc2, tn2, gt2, wt2, slc2, sd2, sm02, dp2, Lf2, ki2, co2, fi2, fs2, pl2, cd2, so2, tlc2, tlm2, ?_, h2, hr, hp⟩
  unfold Packer_packFile_f
  rw [e0, bd_s]
  show bd (lpF (Packer_packFile_L35 (nI F) (nI lv) nb fb lvs) gas ((0 : Int32), (0 : Int32), (0 : Int32), (0 : Int32), (0 : Int32), (0 : Int32), (0 : Int32), p.2.2.2.2, p.1, p.2.1, p.2.2.1, p.2.2.2.1, tcn, ckb, bck, told, sl, od, ra, rk, odn, rkn, last, og, used, lc, mem, ups, sc, sy, gc, tn, gt, wt, slc, sd, sm0, dp, Lf, ki, co, fi, fs, pl, cd, so, tlc, tlm)) _ = _
  rw [show lpF (Packer_packFile_L35 (nI F) (nI lv) nb fb lvs) gas ((0 : Int32), (0 : Int32), (0 : Int32), (0 : Int32), (0 : Int32), (0 : Int32), (0 : Int32), p.2.2.2.2, p.1, p.2.1, p.2.2.1, p.2.2.2.1, tcn, ckb, bck, told, sl, od, ra, rk, odn, rkn, last, og, used, lc, mem, ups, sc, sy, gc, tn, gt, wt, slc, sd, sm0, dp, Lf, ki, co, fi, fs, pl, cd, so, tlc, tlm) = some (coa2, nbl2, aT2, aS2, aG2, ct2, held2, hc2, nr2, fr2, tcn2, ckb2, bck2, told2, sl2, od2, ra2, rk2, odn2, rkn2, last2, og2, used2, lc2, mem2, ups2, sc2, sy2, gc2, tn2, gt2, wt2, slc2, sd2, sm02, dp2, Lf2, ki2, co2, fi2, fs2, pl2, cd2, so2, tlc2, tlm2) from e1, bd_s]
  show bd (BitWriter_finish_f held2 hc2 nr2 fr2 ct2 coa2) _ = _
  rw [show BitWriter_finish_f held2 hc2 nr2 fr2 ct2 coa2 = some p2 from e2, bd_s]
