/-! BITS, the reference's: groups, lengths -/
theorem ls_small {tb : Nat → Nat} {tc G : Nat} (htc : tc ≤ 6) (hin : ∀ i, i < G → ∃ a, a < tc ∧ (fun j => j) a = tb i) : ∀ i, i ≤ G → ∀ j, j < tc → lsN tb (fun j => j) tc i j < 6 := by
  intro i
  induction i with
  | zero => intro _ j hj; show j < 6; omega
  | succ i ih =>
    intro hi j hj
    have ih2 := ih (by omega)
    have hup := (up_in hin (show i < G by omega)).1
    show mtfN (lsN tb (fun j => j) tc i) (upN tb (fun j => j) tc i) j < 6
    unfold mtfN
    by_cases h0 : j = 0
    · rw [if_pos h0]; exact ih2 _ hup
    · rw [if_neg h0]
      by_cases h1 : j ≤ upN tb (fun j => j) tc i
      · rw [if_pos h1]; exact ih2 _ (by omega)
      · rw [if_neg h1]; exact ih2 _ hj
theorem groups_m {s : bs} {tc G : Nat} {list tbl : Nat → Int32} {tb : Nat → Nat} {p : (Nat → Int32) × Int32} (htc : tc ≤ 6) (hG : G ≤ 46) (hg : ∀ g, g < G → tbl g = nI (tb g) ∧ tb g < tc) (h : MWp s p) (hl : blen s + 330 ≤ 2000000) :
    ∃ p2 list2, lpF (Model_writeTables_L44 (nI G) tbl) gas ((0 : Int32), p.1, p.2, idr list tc) = some (p2.1, p2.2, list2) ∧ MWp (pus s (gb tb tc G)) p2 := by
  have hin : ∀ i, i < G → ∃ a, a < tc ∧ (fun j => j) a = tb i := fun i hi => ⟨tb i, (hg i hi).2, rfl⟩
  have hid : RS tc (idr list tc) (fun j => j) := fun j hj => if_pos hj
  have l1 : ∃ q : (Nat → Int32) × Int32 × (Nat → Int32), lpF (Model_writeTables_L44 (nI G) tbl) gas ((0 : Int32), p.1, p.2, idr list tc) = some q ∧ MWp (pus s (gb tb tc G)) (q.1, q.2.1) := by
    refine lp_for (fun g s6 => ∃ f p, s6 = (nI g, p.1, p.2, f) ∧ RS tc f (lsN tb (fun j => j) tc g) ∧ MWp (pus s (gb tb tc g)) p) _ (i0 := 0) (N := G) (Nat.zero_le _) (by omega) ?_ ?_ ⟨_, p, rfl, hid, by rw [show gb tb tc 0 = [] from rfl, pus_nil]; exact h⟩
    · rintro g s6 _ hgG ⟨f, p, rfl, hf, hp⟩
      obtain ⟨hg1, hg2⟩ := hg g hgG
      obtain ⟨h3, h4, h5⟩ := up_in hin hgG
      have hglen := gb_len (tb := tb) (tc := tc) (G := G) (fun g hg => by have := (up_in hin hg).1; omega) g (by omega)
      have hlen := pus_len (l := gb tb tc g) h.ok
      have hnx : lsN tb (fun j => j) tc (g + 1) = mtfN (lsN tb (fun j => j) tc g) (upN tb (fun j => j) tc g) := rfl
      have hgb : gb tb tc (g + 1) = gb tb tc g ++ (on1 (upN tb (fun j => j) tc g) ++ [false]) := rfl
      rw [hnx, hgb]
      have hfm := RS_mtf h3 hf
      have hsm := ls_small htc hin g (by omega)
      generalize upN tb (fun j => j) tc g = a at *
      have hat : lpF (Model_writeTables_L54 (nI g, p.1, p.2, f) tbl) gas (0 : Int32) = some (nI a) := by
        refine lp_gas (fun k => nI k) (i0 := 0) (N := a) (Nat.zero_le _) (by omega) ?_ ?_
        · intro k _ hk
          show gd (ix (nI k) 256) (gd (ix (nI g) 64) (if f (nI k).toNatClampNeg = tbl (nI g).toNatClampNeg then some (Sum.inr (nI k)) else some (Sum.inl (nI k + (1 : Int32))))) = _
          have h6 := hsm k (by omega)
          rw [ixN (show k < 256 by omega) (by omega), ixN (show g < 64 by omega) (by omega), nI_clamp (show k < 2 ^ 31 by omega), nI_clamp (show g < 2 ^ 31 by omega), hg1, hf k (by omega), gd_t, gd_t, if_neg (by rw [nI_eq (by omega) (by omega)]; exact h5 k hk), nI_1]
        · show gd (ix (nI a) 256) (gd (ix (nI g) 64) (if f (nI a).toNatClampNeg = tbl (nI g).toNatClampNeg then some (Sum.inr (nI a)) else some (Sum.inl (nI a + (1 : Int32))))) = _
          rw [ixN (show a < 256 by omega) (by omega), ixN (show g < 64 by omega) (by omega), nI_clamp (show a < 2 ^ 31 by omega), nI_clamp (show g < 2 ^ 31 by omega), hg1, hf _ h3, h4, gd_t, gd_t, if_pos rfl]
      rw [pus_app s (gb tb tc g)]
      generalize hS : pus s (gb tb tc g) = S at *
      have l2 : ∃ p2, lpF (Model_writeTables_L83 (nI a)) gas ((0 : Int32), p) = some p2 ∧ MWp (pus S (on1 a)) p2 := by
        refine lp_for (fun i s3 => ∃ p, s3 = (nI i, p) ∧ MWp (pus S (on1 i)) p) _ (i0 := 0) (N := a) (Nat.zero_le _) (by omega) ?_ ?_ ⟨p, rfl, by rw [show on1 0 = [] from rfl, pus_nil]; exact hp⟩
        · rintro i s3 _ hi ⟨p, rfl, hp2⟩
          have hlen2 := pus_len (l := on1 i) hp.ok
          rw [on1_len] at hlen2
          obtain ⟨p2, e3, h6⟩ := put_mp (v := (1 : Int32)) (k := 1) (by omega) hp2 (by omega)
          rw [pb_11, ← pus_app] at h6
          refine ⟨(nI (i + 1), p2), ?_, p2, rfl, h6⟩
          show (if nI a ≤ nI i then _ else bd (Model_put_f (1 : Int32) (nI 1) p.1 p.2) (fun u45 => some (Sum.inl (nI i + (1 : Int32), u45)))) = _
          rw [if_neg (nI_ge hi (by omega)), e3, bd_s, nI_1]
        · rintro s3 ⟨p, rfl, hp2⟩
          refine ⟨p, ?_, hp2⟩
          show (if nI a ≤ nI a then _ else _) = _
          rw [if_pos (nI_le (Nat.le_refl _) (by omega))]
      obtain ⟨p2, e4, h6⟩ := l2
      have hlen2 := pus_len (l := on1 a) hp.ok
      rw [on1_len] at hlen2
      obtain ⟨p3, e5, h7⟩ := put_mp (v := (0 : Int32)) (k := 1) (by omega) h6 (by omega)
      rw [pb_01, ← pus_app] at h7
      refine ⟨(nI (g + 1), p3.1, p3.2, mtf f a), ?_, _, p3, rfl, hfm, h7⟩
      show (if nI G ≤ nI g then _ else bd (lpF (Model_writeTables_L54 (nI g, p.1, p.2, f) tbl) gas (0 : Int32)) (fun v37 => bd (Model_toFront_f v37 f) (fun u38 => bd (lpF (Model_writeTables_L83 v37) gas ((0 : Int32), p)) (fun v41 => bd (Model_put_f (0 : Int32) (nI 1) v41.1 v41.2) (fun u42 => some (Sum.inl (nI g + (1 : Int32), u42.1, u42.2, u38.2))))))) = _
      rw [if_neg (nI_ge hgG (by omega)), hat, bd_s, toFront_eq (by omega), bd_s, e4, bd_s, e5, bd_s, nI_1]
    · rintro s6 ⟨f, p, rfl, hf, hp⟩
      refine ⟨(p.1, p.2, f), ?_, hp⟩
      show (if nI G ≤ nI G then _ else _) = _
      rw [if_pos (nI_le (Nat.le_refl _) (by omega))]
  obtain ⟨⟨o, b, l2⟩, e1, h1⟩ := l1
  exact ⟨(o, b), l2, e1, h1⟩
theorem chg_m {S : bs} {a b k t : Nat} {lens : Nat → Int32} {q4 : Int32} {q5 q6 : (Nat → Int32) × Int32} {p : (Nat → Int32) × Int32} (ha : a ≤ 15) (hb : b ≤ 15) (ht : t < 6) (hk : k < 258) (hd : lens (258 * t + k) = nI b) (h : MWp S p) (hl : blen S + 40 ≤ 2000000) :
    ∃ p2, lpF (Model_writeTables_L151 (nI t, q5) (q4, nI k, q6) lens) gas (nI a, p) = some (nI b, p2) ∧ MWp (pus (pus S (ch false (b - a))) (ch true (a - b))) p2 := by
  have hdue : lens (nI 258 * nI t + nI k).toNatClampNeg = nI b := by rw [pk_mul, nI_add, nI_clamp (by omega), hd]
  have hix : ix (nI 258 * nI t + nI k) 1548 = true := by rw [pk_mul, nI_add]; exact ixN (by omega) (by omega)
  have hend : ∀ p2 : (Nat → Int32) × Int32, Model_writeTables_L151 (nI t, q5) (q4, nI k, q6) lens (nI b, p2) = some (Sum.inr (nI b, p2)) := by
    intro p2
    show gd (ix (nI 258 * nI t + nI k) 1548) (if nI b = lens (nI 258 * nI t + nI k).toNatClampNeg then some (Sum.inr (nI b, p2)) else _) = _
    rw [hix, gd_t, hdue, if_pos rfl]
  rcases Nat.lt_or_ge b a with hab | hab
  · have l1 : ∃ e : Int32 × (Nat → Int32) × Int32, lpF (Model_writeTables_L151 (nI t, q5) (q4, nI k, q6) lens) gas (nI a, p) = some e ∧ e.1 = nI b ∧ MWp (pus S (ch true (a - b))) e.2 := by
      refine lp_for (fun i s9 => ∃ p, s9 = (nI (a - i), p) ∧ MWp (pus S (ch true i)) p) _ (i0 := 0) (N := a - b) (Nat.zero_le _) (by omega) ?_ ?_ ⟨p, rfl, by rw [show ch true 0 = [] from rfl, pus_nil]; exact h⟩
      · rintro i s9 _ hi ⟨p1, rfl, hp1⟩
        have hlen2 := pus_len (l := ch true i) h.ok
        rw [ch_len] at hlen2
        obtain ⟨p2, e3, h6⟩ := put_mp (v := (3 : Int32)) (k := 2) (by omega) hp1 (by omega)
        rw [pb_32', ← pus_app] at h6
        refine ⟨(nI (a - (i + 1)), p2), ?_, p2, rfl, h6⟩
        show gd (ix (nI 258 * nI t + nI k) 1548) (if nI (a - i) = lens (nI 258 * nI t + nI k).toNatClampNeg then _ else gd (ix (nI 258 * nI t + nI k) 1548) (if lens (nI 258 * nI t + nI k).toNatClampNeg ≤ nI (a - i) then bd (Model_put_f (3 : Int32) (nI 2) p1.1 p1.2) (fun u26 => some (Sum.inl (nI (a - i) + (-1 : Int32), u26))) else _)) = _
        rw [hix, gd_t, gd_t, hdue, if_neg (by rw [nI_eq (by omega) (by omega)]; omega), if_pos (nI_le (by omega) (by omega)), e3, bd_s, show a - i = a - (i + 1) + 1 by omega, pk_m1]
      · rintro s9 ⟨p1, rfl, hp1⟩
        refine ⟨(nI b, p1), ?_, rfl, hp1⟩
        rw [show a - (a - b) = b by omega]
        exact hend p1
    obtain ⟨⟨e0, p2⟩, e1, he, h1⟩ := l1
    have he : e0 = nI b := he
    rw [he] at e1
    refine ⟨p2, e1, ?_⟩
    rw [show b - a = 0 by omega, show ch false 0 = [] from rfl, pus_nil]
    exact h1
  · have l1 : ∃ e : Int32 × (Nat → Int32) × Int32, lpF (Model_writeTables_L151 (nI t, q5) (q4, nI k, q6) lens) gas (nI a, p) = some e ∧ e.1 = nI b ∧ MWp (pus S (ch false (b - a))) e.2 := by
      refine lp_for (fun i s9 => ∃ p, s9 = (nI (a + i), p) ∧ MWp (pus S (ch false i)) p) _ (i0 := 0) (N := b - a) (Nat.zero_le _) (by omega) ?_ ?_ ⟨p, rfl, by rw [show ch false 0 = [] from rfl, pus_nil]; exact h⟩
      · rintro i s9 _ hi ⟨p1, rfl, hp1⟩
        have hlen2 := pus_len (l := ch false i) h.ok
        rw [ch_len] at hlen2
        obtain ⟨p2, e3, h6⟩ := put_mp (v := (2 : Int32)) (k := 2) (by omega) hp1 (by omega)
        rw [pb_22, ← pus_app] at h6
        refine ⟨(nI (a + (i + 1)), p2), ?_, p2, rfl, h6⟩
        show gd (ix (nI 258 * nI t + nI k) 1548) (if nI (a + i) = lens (nI 258 * nI t + nI k).toNatClampNeg then _ else gd (ix (nI 258 * nI t + nI k) 1548) (if lens (nI 258 * nI t + nI k).toNatClampNeg ≤ nI (a + i) then _ else bd (Model_put_f (2 : Int32) (nI 2) p1.1 p1.2) (fun u26 => some (Sum.inl (nI (a + i) + (1 : Int32), u26))))) = _
        rw [hix, gd_t, gd_t, hdue, if_neg (by rw [nI_eq (by omega) (by omega)]; omega), if_neg (nI_ge (by omega) (by omega)), e3, bd_s, nI_1]
        rfl
      · rintro s9 ⟨p1, rfl, hp1⟩
        refine ⟨(nI b, p1), ?_, rfl, hp1⟩
        rw [show a + (b - a) = b by omega]
        exact hend p1
    obtain ⟨⟨e0, p2⟩, e1, he, h1⟩ := l1
    have he : e0 = nI b := he
    rw [he] at e1
    refine ⟨p2, e1, ?_⟩
    rw [show a - b = 0 by omega, show ch true 0 = [] from rfl, pus_nil]
    exact h1
theorem lens_m {s : bs} {c t : Nat} {lens : Nat → Int32} {L : Nat → Nat} {p : (Nat → Int32) × Int32} {q : (Nat → Int32) × Int32} (hc : c + 2 ≤ 258) (ht : t < 6) (hL : ∀ k, k < c + 2 → lens (258 * t + k) = nI (L k) ∧ 1 ≤ L k ∧ L k ≤ 15) (h : MWp (pus s (pb (nI (L 0)) 5)) p) (hs : bok s) (hl : blen s + 7600 ≤ 2000000) :
    ∃ p2, lpF (Model_writeTables_L141 (nI c) (nI t, q) lens) gas (nI (L 0), (0 : Int32), p) = some p2 ∧ MWp (pus s (lb L (c + 2))) p2 := by
  have hc2 : nI c + (2 : Int32) = nI (c + 2) := nI_add c 2
  refine lp_for (fun k s3 => ∃ p, s3 = (nI (L (k - 1)), nI k, p) ∧ MWp (pus s (lb L k)) p) _ (i0 := 0) (N := c + 2) (Nat.zero_le _) (by omega) ?_ ?_ ⟨p, rfl, by rw [show lb L 0 = pb (nI (L 0)) 5 from rfl]; exact h⟩
  · rintro k s3 _ hk ⟨p, rfl, hp⟩
    obtain ⟨hb0, hb1, hb2⟩ := hL k hk
    obtain ⟨_, ha1, ha2⟩ := hL (k - 1) (by omega)
    have hlb := lb_len (fun k hk => (hL k hk).2) k (by omega)
    have hlen := pus_len (l := lb L k) hs
    have hnx : lb L (k + 1) = lb L k ++ chg (L (k - 1)) (L k) := rfl
    obtain ⟨p2, e2, h2⟩ := chg_m (lens := lens) (q4 := nI (L (k - 1))) (q5 := q) (q6 := p) ha2 hb2 ht (by omega) hb0 hp (by omega)
    have hlen1 := pus_len (l := ch false (L k - L (k - 1))) hp.ok
    have hok1 := pus_ok (l := ch false (L k - L (k - 1))) hp.ok
    have hlen2 := pus_len (l := ch true (L (k - 1) - L k)) hok1
    rw [ch_len] at hlen1 hlen2
    obtain ⟨p3, e3, h3⟩ := put_mp (v := (0 : Int32)) (k := 1) (by omega) h2 (by omega)
    rw [pb_01, ← pus_app, ← pus_app] at h3
    refine ⟨(nI (L k), nI (k + 1), p3), ?_, p3, ?_, ?_⟩
    · show (if nI c + (2 : Int32) ≤ nI k then _ else bd (lpF (Model_writeTables_L151 (nI t, q) (nI (L (k - 1)), nI k, p) lens) gas (nI (L (k - 1)), p)) (fun v23 => bd (Model_put_f (0 : Int32) (nI 1) v23.2.1 v23.2.2) (fun u24 => some (Sum.inl (v23.1, nI k + (1 : Int32), u24))))) = _
      rw [hc2, if_neg (nI_ge hk (by omega)), e2, bd_s]
      show bd (Model_put_f (0 : Int32) (nI 1) p2.1 p2.2) (fun u24 => some (Sum.inl (nI (L k), nI k + (1 : Int32), u24))) = _
      rw [e3, bd_s, nI_1]
    · rw [show k + 1 - 1 = k by omega]
    · rw [hnx, pus_app]
      exact h3
  · rintro s3 ⟨p, rfl, hp⟩
    refine ⟨p, ?_, hp⟩
    show (if nI c + (2 : Int32) ≤ nI (c + 2) then _ else _) = _
    rw [hc2, if_pos (nI_le (Nat.le_refl _) (by omega))]
theorem writeTables_m {s : bs} {c m tc : Nat} {list tbl lens : Nat → Int32} {tb : Nat → Nat} {Lt : Nat → Nat → Nat} {p : (Nat → Int32) × Int32} (hc : c + 2 ≤ 258) (hm : m ≤ 2251) (htc : tc ≤ 6) (hg : ∀ g, g < (m + 49) / 50 → tbl g = nI (tb g) ∧ tb g < tc) (hL : ∀ t k, t < tc → k < c + 2 → lens (258 * t + k) = nI (Lt t k) ∧ 1 ≤ Lt t k ∧ Lt t k ≤ 15) (h : MWp s p) (hl : blen s + 46000 ≤ 2000000) :
    ∃ p2 list2, Model_writeTables_f (nI tc) p.1 p.2 (nI ((m + 49) / 50)) list tbl lens (nI c) = some (p2.1, p2.2, list2) ∧ MWp (pus s (pb (nI tc) 3 ++ (pb (nI ((m + 49) / 50)) 15 ++ (gb tb tc ((m + 49) / 50) ++ tl Lt (c + 2) tc)))) p2 := by
  obtain ⟨p1, e1, h1⟩ := put_mp (v := nI tc) (k := 3) (by omega) h (by omega)
  have b1 := pus_len (l := pb (nI tc) 3) h.ok
  rw [pb_len] at b1
  obtain ⟨p2, e2, h2⟩ := put_mp (v := nI ((m + 49) / 50)) (k := 15) (by omega) h1 (by omega)
  have b2 := pus_len (l := pb (nI ((m + 49) / 50)) 15) h1.ok
  rw [pb_len] at b2
  have e3 : lpF (Model_writeTables_L21 (nI tc)) gas ((0 : Int32), list) = some (idr list tc) := by
    have key : lpF (Model_writeTables_L21 (nI tc)) gas (nI 0, idr list 0) = some (idr list tc) := by
      refine lp_gas (fun i => (nI i, idr list i)) (Nat.zero_le tc) (by omega) ?_ ?_
      · intro i _ hi
        show (if nI tc ≤ nI i then _ else gd (ix (nI i) 256) (some (Sum.inl (nI i + (1 : Int32), upd (idr list i) (nI i).toNatClampNeg (nI i))))) = _
        rw [if_neg (nI_ge hi (by omega)), ixN (show i < 256 by omega) (by omega), nI_1, nI_clamp (show i < 2 ^ 31 by omega), idr_s]
        rfl
      · show (if nI tc ≤ nI tc then _ else _) = _
        rw [if_pos (nI_le (Nat.le_refl _) (by omega))]
    rw [idr_0] at key
    exact key
  obtain ⟨p4, list2, e4, h4⟩ := groups_m (list := list) htc (show (m + 49) / 50 ≤ 46 by omega) hg h2 (by omega)
  have b4 := pus_len (l := gb tb tc ((m + 49) / 50)) h2.ok
  have b4' := gb_len (tb := tb) (tc := tc) (G := (m + 49) / 50) (fun g hgg => by have := (up_in (l := tb) (g0 := fun j => j) (c := tc) (n := (m + 49) / 50) (fun i hi => ⟨tb i, (hg i hi).2, rfl⟩) hgg).1; omega) _ (Nat.le_refl _)
  have htl : ∀ t, t ≤ tc → (tl Lt (c + 2) t).length ≤ 7487 * t := by
    intro t ht
    have q1 := tl_len (fun t k ht hk => (hL t k ht hk).2) t ht
    exact Nat.le_trans q1 (Nat.mul_le_mul_right t (by omega))
  generalize hS : pus (pus (pus s (pb (nI tc) 3)) (pb (nI ((m + 49) / 50)) 15)) (gb tb tc ((m + 49) / 50)) = S at *
  have l5 : ∃ p8, lpF (Model_writeTables_L114 (nI tc) lens (nI c)) gas ((0 : Int32), p4) = some p8 ∧ MWp (pus S (tl Lt (c + 2) tc)) p8 := by
    refine lp_for (fun t s8 => ∃ p, s8 = (nI t, p) ∧ MWp (pus S (tl Lt (c + 2) t)) p) _ (i0 := 0) (N := tc) (Nat.zero_le _) (by omega) ?_ ?_ ⟨p4, rfl, by rw [show tl Lt (c + 2) 0 = [] from rfl, pus_nil]; exact h4⟩
    · rintro t s8 _ ht ⟨q, rfl, hq⟩
      have c1 := pus_len (l := tl Lt (c + 2) t) h4.ok
      have c2 := htl t (by omega)
      have hL0 := (hL t 0 ht (by omega)).1
      rw [Nat.add_zero] at hL0
      obtain ⟨q1, d1, d2⟩ := put_mp (v := nI (Lt t 0)) (k := 5) (by omega) hq (by omega)
      obtain ⟨q2, d3, d4⟩ := lens_m (lens := lens) (q := q) hc (show t < 6 by omega) (fun k hk => hL t k ht hk) d2 hq.ok (by omega)
      rw [← pus_app] at d4
      refine ⟨(nI (t + 1), q2), ?_, q2, rfl, d4⟩
      show (if nI tc ≤ nI t then _ else gd (ix (nI 258 * nI t) 1548) (bd (Model_put_f (lens (nI 258 * nI t).toNatClampNeg) (nI 5) q.1 q.2) (fun u15 => bd (lpF (Model_writeTables_L141 (nI c) (nI t, q) lens) gas (lens (nI 258 * nI t).toNatClampNeg, (0 : Int32), u15)) (fun v18 => some (Sum.inl (nI t + (1 : Int32), v18)))))) = _
      rw [if_neg (nI_ge ht (by omega)), pk_mul, nI_clamp (show 258 * t < 2 ^ 31 by omega), hL0, d1, bd_s, d3, bd_s, ixN (show 258 * t < 1548 by omega) (by omega), nI_1]
      rfl
    · rintro s8 ⟨q, rfl, hq⟩
      refine ⟨q, ?_, hq⟩
      show (if nI tc ≤ nI tc then _ else _) = _
      rw [if_pos (nI_le (Nat.le_refl _) (by omega))]
  obtain ⟨p8, e8, h8⟩ := l5
  refine ⟨p8, list2, ?_, ?_⟩
  · unfold Model_writeTables_f
    show bd (Model_put_f (nI tc) (nI 3) p.1 p.2) _ = _
    rw [e1, bd_s]
    show bd (Model_put_f (nI ((m + 49) / 50)) (nI 15) p1.1 p1.2) _ = _
    rw [e2, bd_s, e3, bd_s, e4, bd_s]
    show bd (lpF (Model_writeTables_L114 (nI tc) lens (nI c)) gas ((0 : Int32), p4)) _ = _
    rw [e8]
    rfl
  · rw [pus_app, pus_app, pus_app, hS]
    exact h8
