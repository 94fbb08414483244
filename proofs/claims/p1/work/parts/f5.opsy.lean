/-! ABOUT, PACK AND UNPACK of the class, on the common state -/
noncomputable def abN (a : pacc) (i : Nat) : Int32 := if a.nbl = 0 then (0 : Int32) else if i = 0 then nI a.nbl else if i = 1 then nI a.aT else if i = 2 then nI a.aS else if i = 3 then nI a.aG else if i = 4 then nI (OG a.t a.n) else if i = 5 then nI (CN a.t a.n) else if i = 6 then nI (TC a.t a.n) else a.ck
theorem abt_c {a : pacc} {i : Nat} {og lc tc ck : Int32} (hi : i < 8) (hb : a.nbl ≤ 10240) (h : 0 < a.nbl → og = nI (OG a.t a.n) ∧ lc = nI (CN a.t a.n) ∧ tc = nI (TC a.t a.n) ∧ ck = a.ck) : Press_about_f (nI i) (nI a.nbl) (nI a.aT) (nI a.aS) (nI a.aG) og lc tc ck = some (abN a i) := by
  unfold Press_about_f Packer_tell_f abN
  rw [if_neg (nI_pos (by omega)), if_pos (show nI i < (8 : Int32) from nI_lt (b := 8) hi (by omega))]
  by_cases hz : a.nbl = 0
  · rw [if_pos hz, if_pos (show nI a.nbl = 0 from by rw [hz]; rfl), bd_s]
  · rw [if_neg hz, if_neg (nI_ne0 (by omega) (by omega))]
    obtain ⟨rfl, rfl, rfl, rfl⟩ := h (by omega)
    rcases (by omega : i = 0 ∨ i = 1 ∨ i = 2 ∨ i = 3 ∨ i = 4 ∨ i = 5 ∨ i = 6 ∨ i = 7) with rfl | rfl | rfl | rfl | rfl | rfl | rfl | rfl <;> rfl
theorem abt_m {a : pacc} {i : Nat} {og lc tc ck : Int32} (hi : i < 8) (hb : a.nbl ≤ 10240) (h0 : a.nbl = 0 → a.aT = 0 ∧ a.aS = 0 ∧ a.aG = 0) (h : 0 < a.nbl → og = nI (OG a.t a.n) ∧ lc = nI (CN a.t a.n) ∧ tc = nI (TC a.t a.n) ∧ ck = a.ck) : Model_about_f (nI i) (nI a.nbl) (nI a.aT) (nI a.aS) (nI a.aG) og lc tc ck = some (abN a i, (0 : Int32)) := by
  unfold Model_about_f Model_about_J16 abN
  rw [if_neg (nI_pos (by omega)), if_pos (show nI i ≤ (7 : Int32) from nI_le (b := 7) (by omega) (by omega)), show Model_fails_f (0 : Int32) (1 : Int32) = some ((0 : Int32), (0 : Int32)) from rfl, bd_s]
  dsimp only
  rw [if_pos rfl]
  by_cases hz : a.nbl = 0
  · obtain ⟨e1, e2, e3⟩ := h0 hz
    rw [if_pos hz, hz, e1, e2, e3]
    rcases (by omega : i = 0 ∨ i = 1 ∨ i = 2 ∨ i = 3 ∨ i = 4 ∨ i = 5 ∨ i = 6 ∨ i = 7) with rfl | rfl | rfl | rfl | rfl | rfl | rfl | rfl <;> rfl
  · rw [if_neg hz]
    obtain ⟨rfl, rfl, rfl, rfl⟩ := h (by omega)
    have hn1 : ¬ nI a.nbl ≤ 0 := nI_ge (a := 0) (b := a.nbl) (by omega) (by omega)
    simp only [if_neg hn1]
    rcases (by omega : i = 0 ∨ i = 1 ∨ i = 2 ∨ i = 3 ∨ i = 4 ∨ i = 5 ∨ i = 6 ∨ i = 7) with rfl | rfl | rfl | rfl | rfl | rfl | rfl | rfl <;> rfl
theorem Ox_about (l : Launch) (D : va_G) (K : Nat → ClassId) {q N : Nat} {w : va_W} {s : ST} (i : Nat) (h : CX K q s N w) (hs : stOk s) (hi : i < 8) : Ox l D K y_Press_about (g_wd y_Press_about b_Press_about 2 (some .int)) [.ref q, .int (nI i)] q s N w (abN s.A i) := by
  obtain ⟨a, ae, n, F, Fe, z, ze, rfl, rfl, hN, hT, hM, hA, hB, hC, hD, hE⟩ := h
  have hf : Press_about_f (nI i) (z 4) (z 5) (z 6) (z 7) (z 10) (z 14) (z 13) (z 11) = some (abN s.A i) := by
    rw [hD.1, hD.2.1, hD.2.2.1, hD.2.2.2.1]
    exact abt_c hi hs.2.2.2.2.1.2.1 (fun hp => by
      obtain ⟨k1, k2, k3, k4, k5, k6, k7, k8, k9⟩ := hD.2.2.2.2.1 hp
      exact ⟨k4, k5, k8, k2⟩)
  refine ⟨_, N, ⟨Nat.le_refl _, hN.2.2.2.2⟩, ?_, ?_, Ci_re (X_about l D K a ae n F Fe z ze (nI i) _ hf) (fun x => ⟨⟨_, a, ae, n, F, Fe, z, ze, rfl, rfl, ?_⟩, rfl⟩)⟩
  · exact ⟨Nat.le_of_ble_eq_true rfl, Nat.le_of_ble_eq_true rfl⟩
  · exact ⟨Nat.zero_le _, Nat.zero_le _⟩
  · exact ⟨hN, hT, hM, hA, hB, hC, hD, hE⟩
noncomputable def sPack (s : ST) (lv : Nat) : ST := (0, s.T, (PS s.T s.F lv).c, (PS s.T s.F lv).b, s.P, PA s.T s.F lv, decide (0 < (PA s.T s.F lv).nbl))
theorem PS_b {tp : Nat → Nat} {F lv : Nat} (hF : F ≤ 10240) (hp : pin F F (PA tp F lv)) : bok (PS tp F lv) ∧ (PS tp F lv).k = 0 ∧ (PS tp F lv).h = 0 ∧ (PS tp F lv).c ≤ 218013 := by
  obtain ⟨h1, h2, h3⟩ := sfin_ok (PA tp F lv).coa hp.1
  have h4 := hp.2.1
  have h5 := hp.2.2.1
  rw [if_pos (Nat.le_refl _)] at h5
  unfold PS
  have h7 := h1.h
  rw [h2] at h7
  have h8 := (k_blen h1).2
  exact ⟨h1, h2, by omega, by omega⟩

theorem pack_cc {tp : Nat → Nat} {F nb lv nr : Nat} {fb lvs fr : Nat → Int32} {tcn ckb bck ra og lc sc gc tn tlc : Int32} {told sl od rk odn rkn last used mem ups sy gt wt slc sd sm0 dp ki fi tlm : Nat → Int32} {Lf co fs pl cd so : Nat → Nat → Int32} (hF : F ≤ nb) (hnb : nb < 1000000) (hF2 : F ≤ 10240) (hlv1 : 1 ≤ lv) (hlv9 : lv ≤ 9) (hlvs : ∀ j, j < 256 → lvs j = chkT j) (hf : ∀ j, j < F → fb j = nI (tp j) ∧ tp j < 256) (hnr1 : 1 ≤ nr) (hnr : nr ≤ 1000000) (hfs : ∀ t, fs t 0 = 0) (hpl : ∀ t, pl t 0 = 0) :
    ∃ nbl2 aT2 aS2 aG2 ct2 held2 hc2 nr2 fr2 tcn2 ckb2 bck2 told2 sl2 od2 ra2 rk2 odn2 rkn2 last2 og2 used2 lc2 mem2 ups2 sc2 sy2 gc2 tn2 gt2 wt2 slc2 sd2 sm02 dp2 Lf2 ki2 co2 fi2 fs2 pl2 cd2 so2 tlc2 tlm2, Press_pack_f (nI lv) (0 : Int32) (0 : Int32) nr fr (nI F) nb fb lvs tcn ckb bck told sl od ra rk odn rkn last og used lc mem ups sc sy gc tn gt wt slc sd sm0 dp Lf ki co fi fs pl cd so tlc tlm = some (ct2, nbl2, aT2, aS2, aG2, ct2, held2, hc2, nr2, fr2, tcn2, ckb2, bck2, told2, sl2, od2, ra2, rk2, odn2, rkn2, last2, og2, used2, lc2, mem2, ups2, sc2, sy2, gc2, tn2, gt2, wt2, slc2, sd2, sm02, dp2, Lf2, ki2, co2, fi2, fs2, pl2, cd2, so2, tlc2, tlm2, (if decide (0 < (PA tp F lv).nbl) = true then (1 : Int32) else (0 : Int32)), (0 : Int32)) ∧ CW (PS tp F lv) nr held2 hc2 nr2 fr2 ct2 ∧ Cir (PA tp F lv) nbl2 aT2 aS2 aG2 tcn2 bck2 told2 last2 og2 lc2 ups2 sc2 sy2 gc2 tn2 gt2 Lf2 ki2 fs2 pl2 ∧ pin F F (PA tp F lv) := by
  obtain ⟨nbl2, aT2, aS2, aG2, ct2, held2, hc2, nr2, fr2, tcn2, ckb2, bck2, told2, sl2, od2, ra2, rk2, odn2, rkn2, last2, og2, used2, lc2, mem2, ups2, sc2, sy2, gc2, tn2, gt2, wt2, slc2, sd2, sm02, dp2, Lf2, ki2, co2, fi2, fs2, pl2, cd2, so2, tlc2, tlm2, e, h1, h2, h3⟩ := packFile_c (tcn := tcn) (ckb := ckb) (bck := bck) (told := told) (sl := sl) (od := od) (ra := ra) (rk := rk) (odn := odn) (rkn := rkn) (last := last) (og := og) (used := used) (lc := lc) (mem := mem) (ups := ups) (sc := sc) (sy := sy) (gc := gc) (tn := tn) (gt := gt) (wt := wt) (slc := slc) (sd := sd) (sm0 := sm0) (dp := dp) (Lf := Lf) (ki := ki) (co := co) (fi := fi) (fs := fs) (pl := pl) (cd := cd) (so := so) (tlc := tlc) (tlm := tlm) (fr := fr) hF hnb hF2 hlv1 hlv9 hlvs hf hnr1 hnr hfs hpl
  refine ⟨nbl2, aT2, aS2, aG2, ct2, held2, hc2, nr2, fr2, tcn2, ckb2, bck2, told2, sl2, od2, ra2, rk2, odn2, rkn2, last2, og2, used2, lc2, mem2, ups2, sc2, sy2, gc2, tn2, gt2, wt2, slc2, sd2, sm02, dp2, Lf2, ki2, co2, fi2, fs2, pl2, cd2, so2, tlc2, tlm2, ?_, h1, h2, h3⟩
  have hb : (PA tp F lv).nbl ≤ F := h3.2.2.2.1
  unfold Press_pack_f
  rw [if_neg (show ¬ nI lv < (1 : Int32) from by rw [show (1 : Int32) = nI 1 from rfl, nI_ltI (by omega) (by omega)]; omega), if_pos (show nI lv ≤ (9 : Int32) from nI_le (b := 9) hlv9 (by omega)), e, bd_s]
  dsimp only
  rw [h2.1]
  by_cases hz : (PA tp F lv).nbl = 0
  · rw [hz, if_pos (show nI 0 ≤ (0 : Int32) from by decide), if_neg (show ¬ decide (0 < 0) = true from by decide)]
    rfl
  · rw [if_neg (show ¬ nI (PA tp F lv).nbl ≤ (0 : Int32) from nI_ge (a := 0) (by omega) (by omega)), if_pos (show decide (0 < (PA tp F lv).nbl) = true from decide_eq_true (by omega))]
    rfl
theorem Ox_pack (l : Launch) (D : va_G) (K : Nat → ClassId) {q N : Nat} {w : va_W} {s : ST} (lv : Nat) (h : CX K q s N w) (hs : stOk s) (h1v : 1 ≤ lv) (h9v : lv ≤ 9) : Ox l D K y_Press_pack (g_wd y_Press_pack b_Press_pack 2 (some .int)) [.ref q, .int (nI lv)] q (sPack s lv) N w (nI (PS s.T s.F lv).c) := by
  obtain ⟨a, ae, n, F, Fe, z, ze, rfl, rfl, ⟨h1, h2, h3, h4, h5⟩, ⟨h6, h7⟩, hM, hA, hB, hC, hD, hE⟩ := h
  obtain ⟨nbl2, aT2, aS2, aG2, ct2, held2, hc2, nr2, fr2, tcn2, ckb2, bck2, told2, sl2, od2, ra2, rk2, odn2, rkn2, last2, og2, used2, lc2, mem2, ups2, sc2, sy2, gc2, tn2, gt2, wt2, slc2, sd2, sm02, dp2, Lf2, ki2, co2, fi2, fs2, pl2, cd2, so2, tlc2, tlm2, e, hW, hR, hp⟩ := pack_cc (tp := s.T) (F := s.F) (nb := n 0) (lv := lv) (nr := n 1) (fb := F 0) (lvs := F 9) (fr := F 1) (tcn := z 8) (ckb := z 15) (bck := z 11) (told := F 2) (sl := F 14) (od := F 10) (ra := z 16) (rk := F 12) (odn := F 11) (rkn := F 13) (last := F 3) (og := z 10) (used := F 6) (lc := z 14) (mem := F 7) (ups := F 4) (sc := z 9) (sy := F 5) (gc := z 12) (tn := z 13) (gt := F 8) (wt := F 15) (slc := F 19) (sd := F 18) (sm0 := F 16) (dp := F 17) (Lf := Fe 0) (ki := ze 0) (co := Fe 3) (fi := ze 1) (fs := Fe 4) (pl := Fe 5) (cd := Fe 1) (so := Fe 2) (tlc := z 19) (tlm := F 20) (by rw [h1]; exact hs.1) (by omega) hs.1 h1v h9v hB.1 (fun j hj => ⟨h7 j hj, hs.2.1 j hj⟩) (by omega) (by omega) hD.2.2.2.2.2.1 hD.2.2.2.2.2.2
  obtain ⟨b1, b2, b3, b4⟩ := PS_b hs.1 hp
  obtain ⟨w1, w2, w3, w4, w5, w6, w7, w8, w9⟩ := hW
  rw [h2] at w8 w9
  have hf : Press_pack_f (nI lv) (z 17) (z 18) (n 1) (F 1) (z 2) (n 0) (F 0) (F 9) (z 8) (z 15) (z 11) (F 2) (F 14) (F 10) (z 16) (F 12) (F 11) (F 13) (F 3) (z 10) (F 6) (z 14) (F 7) (F 4) (z 9) (F 5) (z 12) (z 13) (F 8) (F 15) (F 19) (F 18) (F 16) (F 17) (Fe 0) (ze 0) (Fe 3) (ze 1) (Fe 4) (Fe 5) (Fe 1) (Fe 2) (z 19) (F 20) = some (nI (PS s.T s.F lv).c, nbl2, aT2, aS2, aG2, ct2, held2, hc2, nr2, fr2, tcn2, ckb2, bck2, told2, sl2, od2, ra2, rk2, odn2, rkn2, last2, og2, used2, lc2, mem2, ups2, sc2, sy2, gc2, tn2, gt2, wt2, slc2, sd2, sm02, dp2, Lf2, ki2, co2, fi2, fs2, pl2, cd2, so2, tlc2, tlm2, (if decide (0 < (PA s.T s.F lv).nbl) = true then (1 : Int32) else (0 : Int32)), (0 : Int32)) := by
    rw [hC.1, hC.2, h6, ← w4]
    exact e
  unfold sPack
  generalize PS s.T s.F lv = ps at *
  generalize PA s.T s.F lv = pa at *
  have hn2 : nr2 ≤ 436026 := by omega
  refine ⟨_, nr2, ⟨w8, hn2⟩, ?_, ?_, Ci_re (X_pack l D K a ae n F Fe z ze (nI lv) _ hf) (fun x => ⟨⟨_, _, ae, _, _, _, _, _, rfl, (by rfl), ?_⟩, rfl⟩)⟩
  · exact ⟨Nat.le_of_ble_eq_true rfl, Nat.le_of_ble_eq_true rfl⟩
  · show nr2 - n 1 ≤ nr2 - N ∧ 2 * (nr2 - n 1) ≤ 2 * (nr2 - N)
    rw [h2]
    exact ⟨Nat.le_refl _, Nat.le_refl _⟩
  · refine ⟨⟨h1, rfl, w6, by omega, hn2⟩, ⟨rfl, fun j hj => absurd hj (Nat.not_lt_zero _)⟩, ⟨w4, w5⟩, ⟨hA.1, rfl⟩, hB, ⟨?_, ?_⟩, hR, hE⟩
    · show held2 = 0
      rw [w2, b3]
      rfl
    · show hc2 = 0
      rw [w3, b2]
      rfl
noncomputable def sUnpack (s : ST) (lim : Nat) : ST := Sum.elim (fun e => (0, s.T, 0, s.W, nI e.2, s.A, false)) (fun v => (0, s.T, v.1, v.2, (-1 : Int32), s.A, false)) (UP1 s.T s.F lim)
noncomputable def rUnpack (s : ST) (lim : Nat) : Int32 := Sum.elim (fun e => - nI e.1) (fun v => nI v.1) (UP1 s.T s.F lim)
abbrev pqT : Type := Int32 × Int32 × Int32 × Int32 × Int32 × Int32 × Int32 × Int32 × Int32 × Int32 × Int32 × Int32 × Int32 × Int32 × (Nat → Int32) × Int32 × Int32 × Int32 × (Nat → Int32) × (Nat → Int32) × (Nat → Int32) × (Nat → Nat → Int32) × (Nat → Nat → Int32) × (Nat → Int32) × (Nat → Nat → Int32) × (Nat → Nat → Int32) × (Nat → Nat → Int32) × (Nat → Nat → Int32) × Int32 × (Nat → Int32) × (Nat → Int32) × (Nat → Int32) × Int32 × Nat × (Nat → Int32) × Int32 × Int32 × Int32
def okQ (n0 lim : Nat) (s : ST) (t : pqT) : Prop := (n0 ≤ t.2.2.2.2.2.2.2.2.2.2.2.2.2.2.2.2.2.2.2.2.2.2.2.2.2.2.2.2.2.2.2.2.2.1 ∧ t.2.2.2.2.2.2.2.2.2.2.2.2.2.2.2.2.2.2.2.2.2.2.2.2.2.2.2.2.2.2.2.2.2.1 ≤ max n0 (2 * lim)) ∧ TZ t.2.2.2.2.2.2.2.2.2.2.2.2.2.2.2.2.2.2.2.2.2.2.2.2.1 t.2.2.2.2.2.2.2.2.2.2.2.2.2.2.2.2.2.2.2.2.2.2.2.2.2.1 ∧ t.2.2.2.2.2.2.2.2.2.2.2.2.2.2.2.2.2.2.2.2.2.2.2.2.2.2.2.2.2.2.2.2.2.2.2.2.1 = 0 ∧ t.2.2.2.2.2.2.2.2.2.2.2.2.2.2.2.2.2.2.2.2.2.2.2.2.2.2.2.2.2.2.2.2.2.2.2.2.2 = 0 ∧ t.1 = rUnpack s lim ∧ t.2.2.2.2.2.2.2.2.2.2.2.2.2.2.2.2.2.2.2.2.2.2.2.2.2.2.2.2.2.2.2.2.2.2.2.1 = (sUnpack s lim).P ∧ t.2.2.2.2.2.2.1 = nI (sUnpack s lim).M ∧ (sUnpack s lim).M ≤ t.2.2.2.2.2.2.2.2.2.2.2.2.2.2.2.2.2.2.2.2.2.2.2.2.2.2.2.2.2.2.2.2.2.1 ∧ RS (sUnpack s lim).M t.2.2.2.2.2.2.2.2.2.2.2.2.2.2.2.2.2.2.2.2.2.2.2.2.2.2.2.2.2.2.2.2.2.2.1 (sUnpack s lim).W
theorem unpack_cc {s : ST} {nb lim nr : Nat} {f lv fr : Nat → Int32} {most bA bck oa og lc tc gc tlc nc ckb : Int32} {lm tlm gt ki fi la sl nx : Nat → Int32} {le co fs pl cd so : Nat → Nat → Int32} (hs : stOk s) (hF : s.F ≤ nb) (hnb : nb < 1000000) (hf : ∀ j, j < s.F → f j = nI (s.T j)) (hlv : ∀ j, j < 256 → lv j = chkT j) (hlim : lim ≤ 60000) (hnr : nr ≤ 1000000) (hnr1 : 1 ≤ nr) (hZ : TZ fs pl) :
    ∃ t : pqT, Press_unpack_f (nI lim) (nI s.F) nb f most bA bck oa og lc lm tc gc tlc tlm gt ki le co fi fs pl cd so nc la sl nx ckb nr fr lv = some t ∧ okQ nr lim s t := by
  obtain ⟨t, e, ⟨h1, h2, h3⟩, h4, h5⟩ := unpackFile_c (tp := s.T) (F := s.F) (nb := nb) (lim := lim) (nr := nr) (f := f) (lv := lv) (fr := fr) (most := most) (bA := bA) (bck := bck) (oa := oa) (og := og) (lc := lc) (lm := lm) (tc := tc) (gc := gc) (tlc := tlc) (tlm := tlm) (gt := gt) (ki := ki) (le := le) (co := co) (fi := fi) (fs := fs) (pl := pl) (cd := cd) (so := so) (nc := nc) (la := la) (sl := sl) (nx := nx) (ckb := ckb) hF hs.1 hnb hf hlv hlim hnr hnr1 hZ
  unfold Press_unpack_f
  rw [if_neg (nI_pos (by omega)), if_pos (show nI lim ≤ (60000 : Int32) from nI_le (b := 60000) hlim (by omega)), e, bd_s]
  unfold okQ rUnpack sUnpack
  cases hU : UP1 s.T s.F lim with
  | inl er =>
    obtain ⟨g1, g2, g3⟩ := h4 er hU
    rw [if_pos g1]
    refine ⟨_, rfl, ⟨h1, h2⟩, h3, rfl, rfl, ?_, g3, rfl, Nat.zero_le _, fun j hj => absurd hj (Nat.not_lt_zero _)⟩
    show - t.2.2.2.2.1 = - nI er.1
    rw [g2]
  | inr v =>
    obtain ⟨g1, g2, g3, g4, r1, r2, r3, r4, r5, r6⟩ := h5 v hU
    rw [if_neg (show ¬ t.1 = 0 from by rw [g1]; decide)]
    exact ⟨_, rfl, ⟨h1, h2⟩, h3, rfl, rfl, r1, g3, r1, r3, r2⟩
theorem Ox_unpack (l : Launch) (D : va_G) (K : Nat → ClassId) {q N : Nat} {w : va_W} {s : ST} (lim : Nat) (h : CX K q s N w) (hs : stOk s) (hlim : lim ≤ 60000) : Ox l D K y_Press_unpack (g_wd y_Press_unpack b_Press_unpack 3 (some .int)) [.ref q, .int (nI lim)] q (sUnpack s lim) N w (rUnpack s lim) := by
  obtain ⟨a, ae, n, F, Fe, z, ze, rfl, rfl, ⟨h1, h2, h3, h4, h5⟩, ⟨h6, h7⟩, hM, hA, hB, hC, hD, hE⟩ := h
  obtain ⟨t, e, ⟨q1, q2⟩, q3, q4, q5, q6, q7, q8, q9, qa⟩ := unpack_cc (s := s) (nb := n 0) (lim := lim) (nr := n 1) (f := F 0) (lv := F 21) (fr := F 1) (most := z 21) (bA := z 22) (bck := z 25) (oa := z 23) (og := z 24) (lc := z 35) (lm := F 22) (tc := z 26) (gc := z 27) (tlc := z 36) (tlm := F 23) (gt := F 24) (ki := ze 2) (le := Fe 6) (co := Fe 9) (fi := ze 3) (fs := Fe 10) (pl := Fe 11) (cd := Fe 7) (so := Fe 8) (nc := z 28) (la := F 25) (sl := F 27) (nx := F 26) (ckb := z 34) hs (by rw [h1]; exact hs.1) (by omega) (fun j hj => h7 j hj) hB.2 hlim (by omega) (by omega) hE
  have hf : Press_unpack_f (nI lim) (z 2) (n 0) (F 0) (z 21) (z 22) (z 25) (z 23) (z 24) (z 35) (F 22) (z 26) (z 27) (z 36) (F 23) (F 24) (ze 2) (Fe 6) (Fe 9) (ze 3) (Fe 10) (Fe 11) (Fe 7) (Fe 8) (z 28) (F 25) (F 27) (F 26) (z 34) (n 1) (F 1) (F 21) = some t := by
    rw [h6]
    exact e
  rw [h2] at q1 q2
  have hmx : max N (2 * lim) ≤ 436026 := Nat.max_le.mpr ⟨h5, by omega⟩
  have hA2 : (sUnpack s lim).A = s.A ∧ (sUnpack s lim).B = false ∧ (sUnpack s lim).F = 0 := by
    unfold sUnpack
    cases UP1 s.T s.F lim <;> exact ⟨rfl, rfl, rfl⟩
  rw [← q6]
  refine ⟨_, _, ⟨q1, Nat.le_trans q2 hmx⟩, ?_, ?_, Ci_re (X_unpack l D K a ae n F Fe z ze (nI lim) t hf) (fun x => ⟨⟨_, _, ae, _, _, _, _, _, rfl, (by rfl), ?_⟩, rfl⟩)⟩
  · exact ⟨Nat.le_of_ble_eq_true rfl, Nat.le_of_ble_eq_true rfl⟩
  · rw [← h2]
    exact ⟨Nat.le_refl _, Nat.le_refl _⟩
  · refine ⟨⟨h1, rfl, q9, Nat.le_trans h4 q1, Nat.le_trans q2 hmx⟩, ⟨?_, fun j hj => ?_⟩, ⟨q8, qa⟩, ⟨q7, ?_⟩, hB, hC, ?_, q3⟩
    · rw [hA2.2.2]
      exact q5
    · rw [hA2.2.2] at hj
      exact absurd hj (Nat.not_lt_zero _)
    · rw [hA2.2.1]
      exact q4
    · rw [hA2.1]
      exact hD
