/-! BITS, the class's: the pieces of a block -/
def CWp (s : bs) (n0 : Nat) (p : Int32 × Int32 × Nat × (Nat → Int32) × Int32) : Prop := CW s n0 p.1 p.2.1 p.2.2.1 p.2.2.2.1 p.2.2.2.2
theorem put_p {s : bs} {n0 k : Nat} {v : Int32} {p : Int32 × Int32 × Nat × (Nat → Int32) × Int32} (hn0 : n0 ≤ 1000000) (hk : k ≤ 32) (h : CWp s n0 p) (hl : blen s + k ≤ 2000000) :
    ∃ p2, BitWriter_put_f v (nI k) p.1 p.2.1 p.2.2.1 p.2.2.2.1 p.2.2.2.2 = some p2 ∧ CWp (pus s (pb v k)) n0 p2 := by
  obtain ⟨a, b, c, d, e, h1, h2⟩ := put_c (v := v) hn0 hk h hl
  exact ⟨(a, b, c, d, e), h1, h2⟩
theorem btb (x : Bool) (q : Nat) : bt (nI x.toNat) q = (x && decide (q = 0)) := by
  cases x with
  | true => rw [Bool.true_and]; exact bt1 q
  | false => rw [Bool.false_and]; exact b_0 q
theorem cntp_s (p : Nat → Bool) (j : Nat) : decide (0 < cnt p (j + 1)) = (decide (0 < cnt p j) || p j) := by
  rw [cnt_s]
  cases hp : p j with
  | true =>
    rw [Bool.or_true, decide_eq_true_eq]
    show 0 < cnt p j + 1
    omega
  | false =>
    rw [Bool.or_false]
    rfl
theorem pb16 {v : Int32} {u : Nat → Bool} (h : ∀ s, s < 16 → bt v (15 - s) = u16 u s) : pb v 16 = ub1 u 16 := by
  show [bt v 15, bt v 14, bt v 13, bt v 12, bt v 11, bt v 10, bt v 9, bt v 8, bt v 7, bt v 6, bt v 5, bt v 4, bt v 3, bt v 2, bt v 1, bt v 0] = [u16 u 0, u16 u 1, u16 u 2, u16 u 3, u16 u 4, u16 u 5, u16 u 6, u16 u 7, u16 u 8, u16 u 9, u16 u 10, u16 u 11, u16 u 12, u16 u 13, u16 u 14, u16 u 15]
  rw [show bt v 15 = u16 u 0 from h 0 (by omega), show bt v 14 = u16 u 1 from h 1 (by omega), show bt v 13 = u16 u 2 from h 2 (by omega), show bt v 12 = u16 u 3 from h 3 (by omega), show bt v 11 = u16 u 4 from h 4 (by omega), show bt v 10 = u16 u 5 from h 5 (by omega), show bt v 9 = u16 u 6 from h 6 (by omega), show bt v 8 = u16 u 7 from h 7 (by omega), show bt v 7 = u16 u 8 from h 8 (by omega), show bt v 6 = u16 u 9 from h 9 (by omega), show bt v 5 = u16 u 10 from h 10 (by omega), show bt v 4 = u16 u 11 from h 11 (by omega), show bt v 3 = u16 u 12 from h 12 (by omega), show bt v 2 = u16 u 13 from h 13 (by omega), show bt v 1 = u16 u 14 from h 14 (by omega), show bt v 0 = u16 u 15 from h 15 (by omega)]
theorem sh15 {b : Nat} (hb : b < 256) : (15 : Int32) - nI b / (16 : Int32) = nI (15 - b / 16) := by
  rw [show nI b / (16 : Int32) = nI (b / 16) from pk_div (a := b) (d := 16) (by omega) (by omega) (by omega)]
  exact pk_sub (show b / 16 ≤ 15 by omega)
theorem putUsed_c {s : bs} {n0 : Nat} {U : Nat → Int32} {u : Nat → Bool} {p : Int32 × Int32 × Nat × (Nat → Int32) × Int32} (hn0 : n0 ≤ 1000000) (hU : ∀ b, b < 256 → U b = nI (u b).toNat) (h : CWp s n0 p) (hl : blen s + 272 ≤ 2000000) :
    ∃ p2, BitWriter_putUsed_f 256 U p.1 p.2.1 p.2.2.1 p.2.2.2.1 p.2.2.2.2 = some p2 ∧ CWp (pus s (ub1 u 16 ++ ub2 u 256)) n0 p2 := by
  have l1 : ∃ v, lpF (BitWriter_putUsed_L4 256 U) gas ((0 : Int32), (0 : Int32)) = some v ∧ ∀ i, i < 16 → bt v i = decide (0 < cnt (fun b => u b && decide (b / 16 = 15 - i)) 256) := by
    refine lp_for (fun j s1 => ∃ v, s1 = (v, nI j) ∧ ∀ i, i < 16 → bt v i = decide (0 < cnt (fun b => u b && decide (b / 16 = 15 - i)) j)) _ (i0 := 0) (N := 256) (by omega) (by omega) ?_ ?_ ⟨(0 : Int32), rfl, fun i _ => b_0 i⟩
    · rintro j s1 _ hj ⟨v, rfl, hv⟩
      refine ⟨(v ||| (nI (u j).toNat <<< (nI (15 - j / 16) &&& 31)), nI (j + 1)), ?_, _, rfl, fun i hi => ?_⟩
      · show (if nI 256 ≤ nI j then _ else gd (ix (nI j) 256) (some (Sum.inl (v ||| (U (nI j).toNatClampNeg <<< (((15 : Int32) - nI j / (16 : Int32)) &&& 31)), nI j + (1 : Int32))))) = _
        rw [if_neg (nI_ge hj (by omega)), nI_clamp (show j < 2 ^ 31 by omega), hU j hj, sh15 hj, ixN hj (by omega), nI_1]
        rfl
      · rw [b_or, hv i hi, b_shl (15 - j / 16) (by omega) _ (by omega), btb, cntp_s]
        have e : (decide (15 - j / 16 ≤ i) && (u j && decide (i - (15 - j / 16) = 0))) = (u j && decide (j / 16 = 15 - i)) := by
          cases u j with
          | false => simp
          | true =>
            rw [Bool.true_and, Bool.true_and, ← Bool.decide_and, decide_eq_decide]
            omega
        rw [e]
    · rintro s1 ⟨v, rfl, hv⟩
      refine ⟨v, ?_, hv⟩
      show (if nI 256 ≤ nI 256 then _ else _) = _
      rw [if_pos (nI_le (Nat.le_refl _) (by omega))]
  obtain ⟨v, e1, hv⟩ := l1
  have hv16 : ∀ s, s < 16 → bt v (15 - s) = u16 u s := by
    intro s hs
    rw [hv _ (by omega), show 15 - (15 - s) = s by omega]
    rfl
  obtain ⟨p1, e2, h1⟩ := put_p (v := v) (k := 16) hn0 (by omega) h (by omega)
  rw [pb16 hv16] at h1
  have hlen1 := pus_len (l := ub1 u 16) h.ok
  rw [ub1_len] at hlen1
  generalize hS : pus s (ub1 u 16) = S at *
  have l2 : ∃ p2, lpF (BitWriter_putUsed_L40 v 256 U) gas ((0 : Int32), p1) = some p2 ∧ CWp (pus S (ub2 u 256)) n0 p2 := by
    refine lp_for (fun j s1 => ∃ p, s1 = (nI j, p) ∧ CWp (pus S (ub2 u j)) n0 p) _ (i0 := 0) (N := 256) (by omega) (by omega) ?_ ?_ ⟨p1, rfl, by rw [show ub2 u 0 = [] from rfl, pus_nil]; exact h1⟩
    · rintro j s1 _ hj ⟨p, rfl, hp⟩
      have hlen := pus_len (l := ub2 u j) h1.ok
      have hub := ub2_len u j
      have hL : BitWriter_putUsed_L40 v 256 U (nI j, p) = (if nI (u16 u (j / 16)).toNat = nI 1 then bd (BitWriter_put_f (nI (u j).toNat) (nI 1) p.1 p.2.1 p.2.2.1 p.2.2.2.1 p.2.2.2.2) (fun u12 => some (Sum.inl (nI (j + 1), u12))) else some (Sum.inl (nI (j + 1), p))) := by
        show (if nI 256 ≤ nI j then _ else (if (v >>> (((15 : Int32) - nI j / (16 : Int32)) &&& 31)) &&& (1 : Int32) = nI 1 then gd (ix (nI j) 256) (bd (BitWriter_put_f (U (nI j).toNatClampNeg) (nI 1) p.1 p.2.1 p.2.2.1 p.2.2.2.1 p.2.2.2.2) (fun u12 => some (Sum.inl (nI j + (1 : Int32), u12)))) else some (Sum.inl (nI j + (1 : Int32), p)))) = _
        rw [if_neg (nI_ge hj (by omega)), sh15 hj, sshr1 v (by omega), hv16 _ (by omega), nI_clamp (show j < 2 ^ 31 by omega), hU j hj, ixN hj (by omega), nI_1]
        rfl
      rw [hL]
      cases hu : u16 u (j / 16) with
      | true =>
        obtain ⟨p2, e3, h3⟩ := put_p (v := nI (u j).toNat) (k := 1) hn0 (by omega) hp (by omega)
        rw [pb_b, ← pus_app] at h3
        refine ⟨(nI (j + 1), p2), by rw [if_pos (show nI true.toNat = nI 1 from rfl), e3, bd_s], p2, rfl, ?_⟩
        rw [ub2, if_pos hu]
        exact h3
      | false =>
        refine ⟨(nI (j + 1), p), by rw [if_neg (by decide)], p, rfl, ?_⟩
        rw [ub2, if_neg (by rw [hu]; exact Bool.noConfusion), List.append_nil]
        exact hp
    · rintro s1 ⟨p, rfl, hp⟩
      refine ⟨p, ?_, hp⟩
      show (if nI 256 ≤ nI 256 then _ else _) = _
      rw [if_pos (nI_le (Nat.le_refl _) (by omega))]
  obtain ⟨p2, e3, h3⟩ := l2
  refine ⟨p2, ?_, by rw [pus_app, hS]; exact h3⟩
  unfold BitWriter_putUsed_f
  rw [e1, bd_s]
  show bd (BitWriter_put_f v (nI 16) p.1 p.2.1 p.2.2.1 p.2.2.2.1 p.2.2.2.2) _ = _
  rw [e2, bd_s]
  show bd (lpF (BitWriter_putUsed_L40 v 256 U) gas ((0 : Int32), p1)) _ = _
  rw [e3]
  rfl
theorem putGroups_c {s : bs} {n0 tc G : Nat} {mem gt : Nat → Int32} {tb : Nat → Nat} {p : Int32 × Int32 × Nat × (Nat → Int32) × Int32} (hn0 : n0 ≤ 1000000) (htc : tc ≤ 6) (hG : G ≤ 46) (hg : ∀ g, g < G → gt g = nI (tb g) ∧ tb g < tc) (h : CWp s n0 p) (hl : blen s + 330 ≤ 2000000) :
    ∃ mem2 p2, BitWriter_putGroups_f (nI tc) mem (nI G) gt p.1 p.2.1 p.2.2.1 p.2.2.2.1 p.2.2.2.2 = some (nI tc, mem2, p2) ∧ CWp (pus s (gb tb tc G)) n0 p2 := by
  have hin : ∀ i, i < G → ∃ a, a < tc ∧ (fun j => j) a = tb i := fun i hi => ⟨tb i, (hg i hi).2, rfl⟩
  have hid : RS tc (idr mem tc) (fun j => j) := fun j hj => if_pos hj
  have hlsb : ∀ i j, j < tc → lsN tb (fun j => j) tc i j < 6 ∨ G < i := by
    intro i
    induction i with
    | zero => intro j hj; exact Or.inl (by show j < 6; omega)
    | succ i ih =>
      intro j hj
      by_cases hiG : G < i + 1
      · exact Or.inr hiG
      · refine Or.inl ?_
        have hup := (up_in hin (show i < G by omega)).1
        have ih2 : ∀ j, j < tc → lsN tb (fun j => j) tc i j < 6 := fun j hj => by
          rcases ih j hj with q | q
          · exact q
          · omega
        show mtfN (lsN tb (fun j => j) tc i) (upN tb (fun j => j) tc i) j < 6
        unfold mtfN
        by_cases h0 : j = 0
        · rw [if_pos h0]; exact ih2 _ hup
        · rw [if_neg h0]
          by_cases h1 : j ≤ upN tb (fun j => j) tc i
          · rw [if_pos h1]; exact ih2 _ (by omega)
          · rw [if_neg h1]; exact ih2 _ hj
  have l1 : ∃ q : (Nat → Int32) × Int32 × Int32 × Nat × (Nat → Int32) × Int32, lpF (BitWriter_putGroups_L13 (nI G) (nI tc, idr mem tc) gt) gas ((0 : Int32), idr mem tc, p) = some q ∧ CWp (pus s (gb tb tc G)) n0 q.2 := by
    refine lp_for (fun g s2 => ∃ f p, s2 = (nI g, f, p) ∧ RS tc f (lsN tb (fun j => j) tc g) ∧ CWp (pus s (gb tb tc g)) n0 p) _ (i0 := 0) (N := G) (Nat.zero_le _) (by omega) ?_ ?_ ⟨_, p, rfl, hid, by rw [show gb tb tc 0 = [] from rfl, pus_nil]; exact h⟩
    · rintro g s2 _ hgG ⟨f, p, rfl, hf, hp⟩
      obtain ⟨hg1, hg2⟩ := hg g hgG
      obtain ⟨h3, h4, h5⟩ := up_in hin hgG
      have hglen := gb_len (tb := tb) (tc := tc) (G := G) (fun g hg => by have := (up_in hin hg).1; omega) g (by omega)
      have hlen := pus_len (l := gb tb tc g) h.ok
      have hra : FrontList_raise_f (nI tc) f (nI (tb g)) = some (nI (upN tb (fun j => j) tc g), mtf f (upN tb (fun j => j) tc g)) := by
        refine fl_raise h3 (by omega) (by rw [hf _ h3, h4]) (fun j hj q => h5 j hj ?_)
        rw [hf j (by omega)] at q
        have h6 := hlsb g j (by omega)
        exact (nI_eq (by omega) (by omega)).mp q
      have hnx : lsN tb (fun j => j) tc (g + 1) = mtfN (lsN tb (fun j => j) tc g) (upN tb (fun j => j) tc g) := rfl
      have hgb : gb tb tc (g + 1) = gb tb tc g ++ (on1 (upN tb (fun j => j) tc g) ++ [false]) := rfl
      rw [hnx, hgb]
      have hfm := RS_mtf h3 hf
      generalize upN tb (fun j => j) tc g = a at *
      rw [pus_app s (gb tb tc g)]
      generalize hS : pus s (gb tb tc g) = S at *
      have l2 : ∃ p2, lpF (BitWriter_putGroups_L38 (nI a, mtf f a)) gas ((0 : Int32), p) = some p2 ∧ CWp (pus S (on1 a)) n0 p2 := by
        refine lp_for (fun i s3 => ∃ p, s3 = (nI i, p) ∧ CWp (pus S (on1 i)) n0 p) _ (i0 := 0) (N := a) (Nat.zero_le _) (by omega) ?_ ?_ ⟨p, rfl, by rw [show on1 0 = [] from rfl, pus_nil]; exact hp⟩
        · rintro i s3 _ hi ⟨p, rfl, hp2⟩
          have hlen2 := pus_len (l := on1 i) hp.ok
          rw [on1_len] at hlen2
          obtain ⟨p2, e3, h6⟩ := put_p (v := (1 : Int32)) (k := 1) hn0 (by omega) hp2 (by omega)
          rw [pb_11, ← pus_app] at h6
          refine ⟨(nI (i + 1), p2), ?_, p2, rfl, h6⟩
          show (if nI a ≤ nI i then _ else bd (BitWriter_put_f (1 : Int32) (nI 1) p.1 p.2.1 p.2.2.1 p.2.2.2.1 p.2.2.2.2) (fun u15 => some (Sum.inl (nI i + (1 : Int32), u15)))) = _
          rw [if_neg (nI_ge hi (by omega)), e3, bd_s, nI_1]
        · rintro s3 ⟨p, rfl, hp2⟩
          refine ⟨p, ?_, hp2⟩
          show (if nI a ≤ nI a then _ else _) = _
          rw [if_pos (nI_le (Nat.le_refl _) (by omega))]
      obtain ⟨p2, e4, h6⟩ := l2
      have hlen2 := pus_len (l := on1 a) hp.ok
      rw [on1_len] at hlen2
      obtain ⟨p3, e5, h7⟩ := put_p (v := (0 : Int32)) (k := 1) hn0 (by omega) h6 (by omega)
      rw [pb_01, ← pus_app] at h7
      refine ⟨(nI (g + 1), mtf f a, p3), ?_, _, p3, rfl, hfm, h7⟩
      show (if nI G ≤ nI g then _ else gd (ix (nI g) 46) (bd (FrontList_raise_f (nI tc) f (gt (nI g).toNatClampNeg)) (fun u8 => bd (lpF (BitWriter_putGroups_L38 u8) gas ((0 : Int32), p)) (fun v11 => bd (BitWriter_put_f (0 : Int32) (nI 1) v11.1 v11.2.1 v11.2.2.1 v11.2.2.2.1 v11.2.2.2.2) (fun u12 => some (Sum.inl (nI g + (1 : Int32), u8.2, u12))))))) = _
      rw [if_neg (nI_ge hgG (by omega)), nI_clamp (show g < 2 ^ 31 by omega), hg1, hra, bd_s, e4, bd_s, e5, bd_s, ixN (show g < 46 by omega) (by omega), nI_1]
      rfl
    · rintro s2 ⟨f, p, rfl, hf, hp⟩
      refine ⟨(f, p), ?_, hp⟩
      show (if nI G ≤ nI G then _ else _) = _
      rw [if_pos (nI_le (Nat.le_refl _) (by omega))]
  obtain ⟨⟨mem2, p2⟩, e1, h1⟩ := l1
  refine ⟨mem2, p2, ?_, h1⟩
  unfold BitWriter_putGroups_f
  rw [fl_begin (by omega), bd_s]
  show bd (lpF (BitWriter_putGroups_L13 (nI G) (nI tc, idr mem tc) gt) gas ((0 : Int32), idr mem tc, p)) _ = _
  rw [e1]
  rfl
