/-! A block: what both sides make of n told bytes t -/
noncomputable def LN (t : Nat → Nat) (n : Nat) : Nat → Nat := fun q => t ((Classical.epsilon (fun b => b < n ∧ kpos (rot t n) n b = q) + n - 1) % n)
theorem LN_ok {t : Nat → Nat} {n b : Nat} (hb : b < n) : LN t n (kpos (rot t n) n b) = t ((b + n - 1) % n) := by
  have h := Classical.epsilon_spec (p := fun x => x < n ∧ kpos (rot t n) n x = kpos (rot t n) n b) ⟨b, hb, rfl⟩
  have h2 : Classical.epsilon (fun x => x < n ∧ kpos (rot t n) n x = kpos (rot t n) n b) = b := lexk_inj (V := fun x => rv t n x n) (e := fun x => x) (fun _ h => h) (fun _ _ _ _ h => h) h.1 hb ((kpos_eq_iff h.1 hb).mp h.2)
  unfold LN
  rw [h2]
theorem LN_lst (t : Nat → Nat) (n : Nat) : lst t n (LN t n) := fun _ hb => LN_ok hb
theorem LN_RS {t : Nat → Nat} {n : Nat} {L : Nat → Int32} (h : ∀ b, b < n → L (kpos (rot t n) n b) = nI (t ((b + n - 1) % n))) : RS n L (LN t n) := by
  intro j hj
  obtain ⟨b, hb, hbj⟩ := kpos_sur (K := rot t n) (fun x y hx hy h => lexk_inj (V := fun x => rv t n x n) (e := fun x => x) (fun _ h => h) (fun _ _ _ _ h => h) hx hy h) hj
  rw [← hbj, h b hb, LN_ok hb]
theorem LN_b {t : Nat → Nat} {n : Nat} (h0 : 0 < n) (ht : ∀ j, j < n → t j < 256) (j : Nat) : LN t n j < 256 := ht _ (Nat.mod_lt _ h0)
noncomputable def CN (t : Nat → Nat) (n : Nat) : Nat := cnt (us t n) 256
noncomputable def UP (t : Nat → Nat) (n : Nat) : Nat → Nat := upN (LN t n) (nth (us t n)) (CN t n)
noncomputable def MN (t : Nat → Nat) (n : Nat) : Nat := smN (UP t n) n
noncomputable def SY (t : Nat → Nat) (n : Nat) : Nat → Nat := ssN (UP t n) n (CN t n)
noncomputable def TB (t : Nat → Nat) (n : Nat) : Nat → Nat := tbS (SY t n) (CN t n + 2) (MN t n) 4
noncomputable def LT (t : Nat → Nat) (n k : Nat) : Nat → Nat := lnN (SY t n) (CN t n + 2) (MN t n) (tbS (SY t n) (CN t n + 2) (MN t n) 3) k
noncomputable def CT (t : Nat → Nat) (n k : Nat) : Nat → Nat := cdN (LT t n k) (CN t n + 2)
noncomputable def OG (t : Nat → Nat) (n : Nat) : Nat := kpos (rot t n) n 0
noncomputable def GN (t : Nat → Nat) (n : Nat) : Nat := (MN t n + 49) / 50
noncomputable def TC (t : Nat → Nat) (n : Nat) : Nat := tcN (MN t n)
noncomputable def BB (t : Nat → Nat) (n : Nat) (ck : Int32) : List Bool := blb ck (OG t n) (us t n) (SY t n) (TB t n) (LT t n) (CT t n) (CN t n + 2) (MN t n) (TC t n)
def jc (coa ck : Int32) : Int32 := ((coa <<< ((1 : Int32) &&& 31)) ||| (ush coa (31 : Int32))) ^^^ ck
theorem us_LN {t : Nat → Nat} {n : Nat} (h0 : 0 < n) : us (LN t n) n = us t n := funext (fun b => us_lst h0 (LN_lst t n) b)
theorem UP_in {t : Nat → Nat} {n : Nat} (h0 : 0 < n) (ht : ∀ j, j < n → t j < 256) : ∀ i, i < n → ∃ a, a < CN t n ∧ nth (us t n) a = LN t n i := nth_in (fun j _ => LN_b h0 ht j) (fun b _ => by rw [us_LN h0])
theorem UP_b {t : Nat → Nat} {n : Nat} (h0 : 0 < n) (ht : ∀ j, j < n → t j < 256) : ∀ i, i < n → UP t n i < CN t n := fun _ hi => (up_in (UP_in h0 ht) hi).1
theorem CN_b (t : Nat → Nat) (n : Nat) : CN t n ≤ 256 := cnt_le _ _
theorem MN_b {t : Nat → Nat} {n : Nat} (h0 : 0 < n) (ht : ∀ j, j < n → t j < 256) : 1 ≤ MN t n ∧ MN t n ≤ n + 1 ∧ ∀ j, j < MN t n → SY t n j < CN t n + 2 := sm_b (UP_b h0 ht)
theorem TC_b (t : Nat → Nat) (n : Nat) : 2 ≤ TC t n ∧ TC t n ≤ 6 := tc_b _
theorem TB_b {t : Nat → Nat} {n : Nat} (h0 : 0 < n) (ht : ∀ j, j < n → t j < 256) {g : Nat} (hg : g < GN t n) : TB t n g < TC t n := tbS_b (by have := MN_b h0 ht; omega) 4 hg
theorem LT_b {t : Nat → Nat} {n k j : Nat} (h0 : 0 < n) (hn : n ≤ 2250) (ht : ∀ j, j < n → t j < 256) (hj : j < CN t n + 2) : 1 ≤ LT t n k j ∧ LT t n k j ≤ 15 := by
  have h1 := CN_b t n
  have h2 := MN_b h0 ht
  exact lnN_b (by omega) (by omega) (by omega) hj
theorem symbols_m {s : bs} {m c tc : Nat} {u41 : Int32} {u42 u43 fS : Nat → Int32} {u51 u52 : Int32} {tbl u54 u55 u56 lens cds : Nat → Int32} {sy tb : Nat → Nat} {Lt Ct : Nat → Nat → Nat} {p : (Nat → Int32) × Int32} (hu : u41 = nI m) (hm : m ≤ 2251) (hc : c + 2 ≤ 258) (htc : tc ≤ 6) (hs : ∀ i, i < m → fS i = nI (sy i) ∧ sy i < c + 2) (hg : ∀ g, g < (m + 49) / 50 → tbl g = nI (tb g) ∧ tb g < tc) (hL : ∀ t k, t < tc → k < c + 2 → lens (258 * t + k) = nI (Lt t k) ∧ Lt t k ≤ 15 ∧ cds (258 * t + k) = nI (Ct t k)) (h : MWp s p) (hl : blen s + 34000 ≤ 2000000) :
    ∃ p2, lpF (Model_block_L84 (u41, u42, u43, fS) (u51, u52, tbl, u54, u55, u56, lens, cds)) gas ((0 : Int32), p) = some p2 ∧ MWp (pus s (sb sy tb Lt Ct m)) p2 := by
  have hLb : ∀ i, i < m → Lt (tb (i / 50)) (sy i) ≤ 15 := fun i hi => (hL _ _ (hg (i / 50) (by omega)).2 (hs i hi).2).2.1
  refine lp_for (fun i s1 => ∃ p, s1 = (nI i, p) ∧ MWp (pus s (sb sy tb Lt Ct i)) p) _ (i0 := 0) (N := m) (Nat.zero_le _) (by omega) ?_ ?_ ⟨p, rfl, by rw [show sb sy tb Lt Ct 0 = [] from rfl, pus_nil]; exact h⟩
  · rintro i s1 _ hi ⟨p, rfl, hp⟩
    obtain ⟨hs1, hs2⟩ := hs i hi
    obtain ⟨hg1, hg2⟩ := hg (i / 50) (by omega)
    obtain ⟨hL1, hL2, hC1⟩ := hL _ _ hg2 hs2
    have hsb := sb_len (Ct := Ct) hLb i (by omega)
    have hlen := pus_len (l := sb sy tb Lt Ct i) h.ok
    obtain ⟨p2, e3, h3⟩ := put_mp (v := nI (Ct (tb (i / 50)) (sy i))) (k := Lt (tb (i / 50)) (sy i)) (by omega) hp (by omega)
    rw [← pus_app] at h3
    refine ⟨(nI (i + 1), p2), ?_, p2, rfl, h3⟩
    show (if u41 ≤ nI i then _ else gd (ix (nI i / nI 50) 64) (gd (ix (nI i) 2251) (gd (ix (nI 258 * tbl (nI i / nI 50).toNatClampNeg + fS (nI i).toNatClampNeg) 1548) (gd (ix (nI 258 * tbl (nI i / nI 50).toNatClampNeg + fS (nI i).toNatClampNeg) 1548) (bd (Model_put_f (cds (nI 258 * tbl (nI i / nI 50).toNatClampNeg + fS (nI i).toNatClampNeg).toNatClampNeg) (lens (nI 258 * tbl (nI i / nI 50).toNatClampNeg + fS (nI i).toNatClampNeg).toNatClampNeg) p.1 p.2) (fun u21 => some (Sum.inl (nI i + (1 : Int32), u21)))))))) = _
    rw [hu, if_neg (nI_ge hi (by omega)), pk_div (show i < 2 ^ 31 by omega) (by omega) (by omega), nI_clamp (show i < 2 ^ 31 by omega), nI_clamp (show i / 50 < 2 ^ 31 by omega), hs1, hg1, pk_mul, nI_add, nI_clamp (show 258 * tb (i / 50) + sy i < 2 ^ 31 by omega), hL1, hC1, e3, bd_s, ixN (show i / 50 < 64 by omega) (by omega), ixN (show i < 2251 by omega) (by omega), ixN (show 258 * tb (i / 50) + sy i < 1548 by omega) (by omega), nI_1]
    rfl
  · rintro s1 ⟨p, rfl, hp⟩
    refine ⟨p, ?_, hp⟩
    show (if u41 ≤ nI m then _ else _) = _
    rw [hu, if_pos (nI_le (Nat.le_refl _) (by omega))]
/-- the told things of the reference's last block -/
abbrev mblk (t : Nat → Nat) (n : Nat) (last up sy tbl lens : Nat → Int32) : Prop :=
  RS n last (LN t n) ∧ RS n up (UP t n) ∧ RS (MN t n) sy (SY t n) ∧ (∀ g, g < GN t n → tbl g = nI (TB t n g)) ∧ ∀ k j, k < TC t n → j < CN t n + 2 → lens (258 * k + j) = nI (LT t n k j)
theorem block_m {s : bs} {n nbl aT aS aG : Nat} {t : Nat → Nat} {coa c og0 : Int32} {od told mgd last list up sy tbl cts we pa lens cds : Nat → Int32} {p : (Nat → Int32) × Int32} (h0 : 0 < n) (hn : n ≤ 2250) (ht : ∀ j, j < n → told j = nI (t j) ∧ t j < 256) (h : MWp s p) (hl : blen s + 80000 ≤ 2000000) :
    ∃ od2 mgd2 last2 list2 up2 sy2 tbl2 cts2 we2 pa2 lens2 cds2 p2, Model_block_f coa c (nI n) od told mgd last og0 list up sy tbl cts we pa lens cds p.1 p.2 (nI nbl) (nI aT) (nI aS) (nI aG) = some (c ^^^ (-1 : Int32), jc coa (c ^^^ (-1 : Int32)), od2, mgd2, last2, nI (OG t n), nI (CN t n), list2, nI (MN t n), up2, sy2, nI (GN t n), nI (TC t n), tbl2, cts2, we2, pa2, lens2, cds2, p2.1, p2.2, nI (nbl + 1), nI (aT + n), nI (aS + MN t n), nI (aG + GN t n)) ∧ mblk t n last2 up2 sy2 tbl2 lens2 ∧ MWp (pus s (BB t n (c ^^^ (-1 : Int32)))) p2 := by
  have ht2 : ∀ j, j < n → t j < 256 := fun j hj => (ht j hj).2
  have hcn := CN_b t n
  have hmn := MN_b h0 ht2
  have htc := TC_b t n
  obtain ⟨od2, mgd2, last2, e2, hla⟩ := rotate_m (od := od) (M0 := mgd) (L0 := last) (og0 := og0) h0 hn ht
  have hla := LN_RS hla
  obtain ⟨list1, e3, hli⟩ := collect_eq (list0 := list) hn ht
  obtain ⟨list2, up2, sy2, e4, hup, hsy⟩ := tellPlaces_eq (last := last2) (up0 := up) (S0 := sy) hn hcn (fun j hj => ⟨hla j hj, LN_b h0 ht2 j⟩) hli (nth_le _) (UP_in h0 ht2)
  obtain ⟨tbl2, cts2, we2, pa2, lens2, cds2, e5, htb, hln, hcd⟩ := choose_eq (tbl := tbl) (fS := sy2) (s := SY t n) (cts := cts) (we := we) (pa := pa) (lens := lens) (cds := cds) (m := MN t n) (c := CN t n) (by omega) (by omega) (by omega) (fun i hi => ⟨hsy i hi, hmn.2.2 i hi⟩)
  obtain ⟨p6, e6, h6⟩ := put_mp (v := (1 : Int32)) (k := 8) (by omega) h (by omega)
  have b6 := pus_len (l := pb (1 : Int32) 8) h.ok
  rw [pb_len] at b6
  obtain ⟨ck, hck⟩ : ∃ ck, ck = c ^^^ (-1 : Int32) := ⟨_, rfl⟩
  rw [← hck]
  obtain ⟨p7, e7, h7⟩ := put_mp (v := ush ck (16 : Int32)) (k := 16) (by omega) h6 (by omega)
  have b7 := pus_len (l := pb (ush ck (16 : Int32)) 16) h6.ok
  rw [pb_len] at b7
  obtain ⟨p8, e8, h8⟩ := put_mp (v := ck &&& (65535 : Int32)) (k := 16) (by omega) h7 (by omega)
  have b8 := pus_len (l := pb (ck &&& (65535 : Int32)) 16) h7.ok
  rw [pb_len] at b8
  obtain ⟨p9, e9, h9⟩ := put_mp (v := nI (OG t n)) (k := 16) (by omega) h8 (by omega)
  have b9 := pus_len (l := pb (nI (OG t n)) 16) h8.ok
  rw [pb_len] at b9
  obtain ⟨p10, e10, h10⟩ := writeBytes_m hn ht h9 (by omega)
  have b10 := pus_len (l := ub1 (us t n) 16 ++ ub2 (us t n) 256) h9.ok
  rw [List.length_append, ub1_len] at b10
  have b10' := ub2_len (us t n) 256
  obtain ⟨p11, list3, e11, h11⟩ := writeTables_m (c := CN t n) (m := MN t n) (tc := TC t n) (list := list2) (tbl := tbl2) (lens := lens2) (tb := TB t n) (Lt := LT t n) (by omega) (by omega) (by omega) (fun g hg => ⟨htb g hg, TB_b h0 ht2 hg⟩) (fun k j hk hj => ⟨hln k j hk hj, LT_b h0 hn ht2 hj⟩) h10 (by omega)
  have b11 := pus_len (l := pb (nI (TC t n)) 3 ++ (pb (nI ((MN t n + 49) / 50)) 15 ++ (gb (TB t n) (TC t n) ((MN t n + 49) / 50) ++ tl (LT t n) (CN t n + 2) (TC t n)))) h10.ok
  rw [List.length_append, List.length_append, List.length_append, pb_len, pb_len] at b11
  have b12 := gb_len (tb := TB t n) (tc := TC t n) (G := (MN t n + 49) / 50) (fun g hgg => by have := (up_in (l := TB t n) (g0 := fun j => j) (c := TC t n) (n := (MN t n + 49) / 50) (fun i hi => ⟨TB t n i, TB_b h0 ht2 hi, rfl⟩) hgg).1; omega) _ (Nat.le_refl _)
  have b13 := tl_len (Lt := LT t n) (n := CN t n + 2) (tc := TC t n) (fun k j hk hj => LT_b h0 hn ht2 hj) (TC t n) (Nat.le_refl _)
  have b14 : (5 + 29 * (CN t n + 2)) * TC t n ≤ 7487 * 6 := Nat.mul_le_mul (by omega) htc.2
  obtain ⟨p14, e14, h14⟩ := symbols_m (u41 := nI (MN t n)) (u42 := list2) (u43 := up2) (fS := sy2) (u51 := nI ((MN t n + 49) / 50)) (u52 := nI (TC t n)) (tbl := tbl2) (u54 := cts2) (u55 := we2) (u56 := pa2) (lens := lens2) (cds := cds2) (sy := SY t n) (tb := TB t n) (Lt := LT t n) (Ct := CT t n) (m := MN t n) (c := CN t n) (tc := TC t n) rfl (by omega) (by omega) (by omega) (fun i hi => ⟨hsy i hi, hmn.2.2 i hi⟩) (fun g hg => ⟨htb g hg, TB_b h0 ht2 hg⟩) (fun k j hk hj => ⟨hln k j hk hj, (LT_b h0 hn ht2 hj).2, hcd k j hk hj⟩) h11 (by omega)
  refine ⟨od2, mgd2, last2, list3, up2, sy2, tbl2, cts2, we2, pa2, lens2, cds2, p14, ?_, ⟨hla, hup, hsy, htb, hln⟩, ?_⟩
  · unfold Model_block_f Model_join_f
    rw [← hck, bd_s, e2, bd_s, e3, bd_s]
    show bd (Model_tellPlaces_f (nI n) last2 list1 up sy (nI (CN t n))) _ = _
    rw [show Model_tellPlaces_f (nI n) last2 list1 up sy (nI (CN t n)) = some (nI (MN t n), list2, up2, sy2) from e4, bd_s]
    show bd (Model_choose_f (nI (MN t n)) tbl (nI (CN t n)) sy2 cts we pa lens cds) _ = _
    rw [e5, bd_s]
    show bd (Model_put_f (1 : Int32) (nI 8) p.1 p.2) _ = _
    rw [e6, bd_s]
    show bd (Model_put_f (ush ck (16 : Int32)) (nI 16) p6.1 p6.2) _ = _
    rw [e7, bd_s]
    show bd (Model_put_f (ck &&& (65535 : Int32)) (nI 16) p7.1 p7.2) _ = _
    rw [e8, bd_s]
    show bd (Model_put_f (nI (OG t n)) (nI 16) p8.1 p8.2) _ = _
    rw [e9, bd_s, e10, bd_s]
    show bd (Model_writeTables_f (nI (TC t n)) p10.1 p10.2 (nI ((MN t n + 49) / 50)) list2 tbl2 lens2 (nI (CN t n))) _ = _
    rw [e11, bd_s]
    show bd (lpF (Model_block_L84 (nI (MN t n), list2, up2, sy2) (nI ((MN t n + 49) / 50), nI (TC t n), tbl2, cts2, we2, pa2, lens2, cds2)) gas ((0 : Int32), p11)) _ = _
    rw [e14, bd_s]
    show some (ck, jc coa ck, od2, mgd2, last2, nI (OG t n), nI (CN t n), list3, nI (MN t n), up2, sy2, nI ((MN t n + 49) / 50), nI (TC t n), tbl2, cts2, we2, pa2, lens2, cds2, p14.1, p14.2, nI nbl + (1 : Int32), nI aT + nI n, nI aS + nI (MN t n), nI aG + nI ((MN t n + 49) / 50)) = _
    rw [nI_1, nI_add, nI_add, nI_add]
    rfl
  · unfold BB blb
    rw [pb_32 ck]
    rw [pus_app, pus_app, pus_app, pus_app] at h14
    rw [pus_app, pus_app, pus_app, pus_app, pus_app, pus_app, pus_app, pus_app, pus_app, pus_app]
    exact h14
