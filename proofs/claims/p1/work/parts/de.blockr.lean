/-! UNPACKING: a block, the reference's -/
def jo (a b : Int32) : Int32 := ((a <<< ((1 : Int32) &&& 31)) ||| (ush a (31 : Int32))) ^^^ b
abbrev blT : Type := (Nat × Nat) ⊕ (Int32 × Nat × Nat × (Nat → Nat))
noncomputable def bl2 (lim bAt m : Nat) (w : Nat → Nat) (v : Int32 × Nat × Nat × (Nat → Nat) × Nat) : blT := Sum.elim (fun e => Sum.inl e) (fun u => Sum.inr (v.1, v.2.2.2.2, u.1, u.2)) (exF (exN v.2.2.2.1 v.2.2.1 lim bAt v.2.2.1 v.2.1 0 0 (-1 : Int32) m w) v.1 bAt)
noncomputable def blN (E : Nat) (x : Nat → Bool) (most lim bAt q m : Nat) (w : Nat → Nat) : blT := Sum.elim (fun e => Sum.inl e) (fun v => bl2 lim bAt m w v) (rbN E x most bAt q)
abbrev moT : Type := Int32 × Int32 × Int32 × Int32 × (Nat → Int32) × Int32 × Int32 × (Nat → Int32) × (Nat → Int32) × (Nat → Int32) × Int32 × (Nat → Int32) × (Nat → Int32) × (Nat → Int32) × Int32 × Int32
def okN (coa : Int32) (r : blT) (o : Option moT) : Prop := ∃ t, o = some t ∧ (∀ e, r = Sum.inl e → t.1 = nI e.1 ∧ t.2.1 = nI e.2 ∧ 0 < e.1 ∧ e.1 < 16) ∧ ∀ v, r = Sum.inr v → t.1 = 0 ∧ t.2.1 = (-1 : Int32) ∧ t.2.2.1 = nI v.2.1 ∧ t.2.2.2.2.2.2.2.2.2.2.2.2.2.2.1 = nI v.2.2.1 ∧ OB v.2.2.1 t.2.2.2.2.2.2.2.2.2.2.2.2.2.1 v.2.2.2 ∧ t.2.2.2.2.2.2.2.2.2.2.2.2.2.2.2 = jo coa v.1
theorem okN_e {coa : Int32} {e p : Nat} {t : moT} (h1 : 0 < e) (h2 : e < 16) (h3 : t.1 = nI e) (h4 : t.2.1 = nI p) : okN coa (Sum.inl (e, p)) (some t) := ⟨t, rfl, fun e2 h => (by cases h; exact ⟨h3, h4, h1, h2⟩), fun v h => (by cases h)⟩
theorem J126_f {co coa : Int32} {e p : Nat} (h1 : 0 < e) (h2 : e < 16) {fr out : Nat → Int32} {ct lim p1 a0 a1 a4 a5 : Int32} {a6 : Nat → Int32} {a7 a8 : Int32} {a9 a10 a11 : Nat → Int32} {a12 : Int32} {a13 : Nat → Int32} : okN co (Sum.inl (e, p)) (Model_readBlock_J126 fr out ct coa lim p1 a0 a1 (nI e) (nI p) a4 a5 a6 a7 a8 a9 a10 a11 a12 a13) := by
  unfold Model_readBlock_J126
  rw [fine_n (nI_ne0 (by omega) (by omega)), bd_s, if_pos rfl]
  exact okN_e h1 h2 rfl rfl
theorem J101_f {co coa : Int32} {e p : Nat} (h1 : 0 < e) (h2 : e < 16) {fr out : Nat → Int32} {ct lim p1 a0 a1 a2 a5 a6 : Int32} {a7 : Nat → Int32} {a8 a9 : Int32} {a10 a11 a12 : Nat → Int32} {a13 : Int32} {a14 : Nat → Int32} : okN co (Sum.inl (e, p)) (Model_readBlock_J101 fr out ct coa lim p1 a0 a1 a2 (nI e) (nI p) a5 a6 a7 a8 a9 a10 a11 a12 a13 a14) := by
  unfold Model_readBlock_J101
  rw [fine_n (nI_ne0 (by omega) (by omega)), bd_s, if_pos rfl]
  exact J126_f h1 h2
theorem J57_f {co coa : Int32} {e p : Nat} (h1 : 0 < e) (h2 : e < 16) {tot : Int32} {tape seen pre fr out : Nat → Int32} {ct lim p1 rc : Int32} {rows : Nat → Int32} {p2 a0 a1 a2 a5 a6 : Int32} {a7 : Nat → Int32} {a8 a9 : Int32} {a10 : Nat → Int32} : okN co (Sum.inl (e, p)) (Model_readBlock_J57 tot tape seen pre fr out ct coa lim p1 rc rows p2 a0 a1 a2 (nI e) (nI p) a5 a6 a7 a8 a9 a10) := by
  have hne : ¬ nI e = 0 := nI_ne0 (by omega) (by omega)
  obtain ⟨z, hz⟩ := gas_s
  have hb2 : Model_readBlock_L60 a8 tot tape a6 ((0 : Int32), nI e, nI p, a5, seen, pre) = some (Sum.inr (nI e, nI p, a5, seen, pre)) := by
    show bd (Model_isFine_f (nI e)) (fun u21 => (if u21 = 0 then some (Sum.inr (nI e, nI p, a5, seen, pre)) else _)) = _
    rw [fine_n hne, bd_s, if_pos rfl]
  have hl : lpF (Model_readBlock_L60 a8 tot tape a6) gas ((0 : Int32), nI e, nI p, a5, seen, pre) = some (nI e, nI p, a5, seen, pre) := by
    rw [hz, lpF_s, hb2]
    rfl
  unfold Model_readBlock_J57
  rw [hl, bd_s]
  show okN co (Sum.inl (e, p)) (bd (Model_isFine_f (nI e)) (fun u17 => (if u17 = 0 then Model_readBlock_J101 fr out ct coa lim p1 a0 a1 a2 (nI e) (nI p) a5 a6 a7 a8 a9 a10 seen pre rc rows else _)))
  rw [fine_n hne, bd_s, if_pos rfl]
  exact J101_f h1 h2
theorem J46_f {co coa : Int32} {e p : Nat} (h1 : 0 < e) (h2 : e < 16) {tot : Int32} {tape seen pre fr out : Nat → Int32} {ct lim p1 rc : Int32} {rows : Nat → Int32} {p2 st cc : Int32} {ch : Nat → Int32} {a0 a1 a2 a5 a6 : Int32} {a7 : Nat → Int32} : okN co (Sum.inl (e, p)) (Model_readBlock_J46 tot tape seen pre fr out ct coa lim p1 rc rows p2 st cc ch a0 a1 a2 (nI e) (nI p) a5 a6 a7) := by
  unfold Model_readBlock_J46
  rw [fine_n (nI_ne0 (by omega) (by omega)), bd_s, if_pos rfl]
  exact J57_f h1 h2
theorem exN_e {R : Nat → Nat} {n lim bAt : Nat} : ∀ (f a e bf : Nat) (c : Int32) (m : Nat) (w : Nat → Nat) (e1 p1 : Nat), exN R n lim bAt f a e bf c m w = Sum.inl (e1, p1) → 0 < e1 ∧ e1 < 16 := by
  have hk : ∀ (a b e p : Nat), (Sum.inl (a, b) : (Nat × Nat) ⊕ (Nat × Int32 × Nat × (Nat → Nat))) = Sum.inl (e, p) → 0 < a → a < 16 → 0 < e ∧ e < 16 := by
    intro a b e p h h1 h2
    have e1 : a = e := congrArg Prod.fst (Sum.inl.inj h)
    omega
  intro f
  induction f with
  | zero => intro a e bf c m w e1 p1 h; cases h
  | succ f ih =>
    intro a e bf c m w e1 p1 h
    rw [exN] at h
    by_cases h1 : e = 4
    · rw [if_pos h1] at h
      by_cases h2 : R (NX R n a) ≤ 251
      · rw [if_pos h2] at h
        by_cases h3 : m + R (NX R n a) ≤ lim
        · rw [if_pos h3] at h
          exact ih _ _ _ _ _ _ _ _ h
        · rw [if_neg h3] at h; exact hk _ _ _ _ h (by omega) (by omega)
      · rw [if_neg h2] at h; exact hk _ _ _ _ h (by omega) (by omega)
    · rw [if_neg h1] at h
      by_cases h3 : m + 1 ≤ lim
      · rw [if_pos h3] at h
        exact ih _ _ _ _ _ _ _ _ h
      · rw [if_neg h3] at h; exact hk _ _ _ _ h (by omega) (by omega)
theorem J126_m {R : Nat → Nat} {n og lim bAt m q6 : Nat} {w : Nat → Nat} {due coa : Int32} {fr out : Nat → Int32} {a5 : Int32} {a6 : Nat → Int32} {a7 a8 : Int32} {a9 a10 a11 : Nat → Int32} {rows : Nat → Int32} (hn : n ≤ 2250) (hlim : lim ≤ 60000) (hla : ∀ j, j < n → rows j = nI (R j) ∧ R j < 256) (hog : og < n) (hm : m ≤ lim) (hO : OB m out w) : okN coa (bl2 lim bAt m w (due, og, n, R, q6)) (Model_readBlock_J126 fr out (nI m) coa (nI lim) (nI bAt) due (nI og) (0 : Int32) (-1 : Int32) (nI q6) a5 a6 a7 a8 a9 a10 a11 (nI n) rows) := by
  unfold Model_readBlock_J126 bl2
  rw [fine_0, bd_s, if_neg (show ¬ (1 : Int32) = 0 by decide)]
  obtain ⟨O, e1, hO2⟩ := sort_m (fr := fr) hn hla
  rw [e1, bd_s]
  obtain ⟨cc, flt, pl, out2, ct2, e2, h1, h2⟩ := expand_m (R := R) (n := n) (lim := lim) (bAt := bAt) (O := O) (rows := rows) hn hlim hla (fun q hq => NX_ok hO2 hq) n og 0 0 (-1 : Int32) m w 0 (-1 : Int32) out gas (by omega) hog (by omega) (fun _ => rfl) (fun h => absurd h (Nat.lt_irrefl _)) (by omega) hm hO (Nat.lt_of_lt_of_le (by omega) gas_le)
  rw [show Model_expand_f (nI n) O rows (nI lim) (nI bAt) (nI og) (0 : Int32) (-1 : Int32) out (nI m) = _ from e2, bd_s]
  show okN coa (Sum.elim (fun e => Sum.inl e) (fun u => Sum.inr (due, q6, u.1, u.2)) (Sum.elim (fun e => Sum.inl e) (fun v => if v.1 = 4 then Sum.inl (11, bAt) else if v.2.1 ^^^ (-1 : Int32) = due then Sum.inr v.2.2 else Sum.inl (13, bAt)) (exN R n lim bAt n og 0 0 (-1 : Int32) m w))) (bd (Model_isFine_f flt) (fun u6 => (if u6 = 0 then Model_readBlock_J169 coa due flt pl (nI q6) a5 a6 a7 a8 a9 a10 a11 (nI n) rows O out2 ct2 else (if cc = due then Model_readBlock_J169 coa due flt pl (nI q6) a5 a6 a7 a8 a9 a10 a11 (nI n) rows O out2 ct2 else bd (Model_stop_f flt (13 : Int32) (nI bAt) pl) (fun u9 => Model_readBlock_J169 coa due u9.2.1 u9.2.2 (nI q6) a5 a6 a7 a8 a9 a10 a11 (nI n) rows O out2 ct2)))))
  cases hx : exN R n lim bAt n og 0 0 (-1 : Int32) m w with
  | inl e =>
    obtain ⟨x1, x2⟩ := e
    have hE : exE (exN R n lim bAt n og 0 0 (-1 : Int32) m w) bAt = Sum.inl (x1, x2) := by rw [hx]; rfl
    obtain ⟨a1, a2, a3, a4⟩ := h1 _ hE
    have a3 : 0 < x1 := a3
    have a4 : x1 < 16 := a4
    have a1 : flt = nI x1 := a1
    have a2 : pl = nI x2 := a2
    rw [a1, a2, fine_n (nI_ne0 (by omega) (by omega)), bd_s, if_pos rfl]
    exact okN_e a3 a4 rfl rfl
  | inr v =>
    obtain ⟨e4, c, m2, w2⟩ := v
    by_cases h4 : e4 = 4
    · have hE : exE (exN R n lim bAt n og 0 0 (-1 : Int32) m w) bAt = Sum.inl (11, bAt) := by
        rw [hx]
        show (if e4 = 4 then Sum.inl (11, bAt) else Sum.inr (c, m2, w2)) = _
        rw [if_pos h4]
      obtain ⟨a1, a2, a3, a4⟩ := h1 _ hE
      have a1 : flt = nI 11 := a1
      have a2 : pl = nI bAt := a2
      show okN coa (Sum.elim (fun e => Sum.inl e) (fun u => Sum.inr (due, q6, u.1, u.2)) (if e4 = 4 then Sum.inl (11, bAt) else if c ^^^ (-1 : Int32) = due then Sum.inr (m2, w2) else Sum.inl (13, bAt))) _
      rw [if_pos h4, a1, a2, fine_n (by decide), bd_s, if_pos rfl]
      exact okN_e (by omega) (by omega) rfl rfl
    · have hE : exE (exN R n lim bAt n og 0 0 (-1 : Int32) m w) bAt = Sum.inr (c, m2, w2) := by
        rw [hx]
        show (if e4 = 4 then Sum.inl (11, bAt) else Sum.inr (c, m2, w2)) = _
        rw [if_neg h4]
      obtain ⟨a1, a2, a3, a4, a5'⟩ := h2 _ hE
      have a1 : cc = c ^^^ (-1 : Int32) := a1
      have a4 : ct2 = nI m2 := a4
      have a5' : OB m2 out2 w2 := a5'
      show okN coa (Sum.elim (fun e => Sum.inl e) (fun u => Sum.inr (due, q6, u.1, u.2)) (if e4 = 4 then Sum.inl (11, bAt) else if c ^^^ (-1 : Int32) = due then Sum.inr (m2, w2) else Sum.inl (13, bAt))) _
      rw [if_neg h4, a2, a3, fine_0, bd_s, if_neg (show ¬ (1 : Int32) = 0 by decide), a1]
      by_cases hd : c ^^^ (-1 : Int32) = due
      · rw [if_pos hd, if_pos hd]
        exact ⟨_, rfl, fun e he => (by cases he), fun v hv => (by cases hv; exact ⟨rfl, rfl, rfl, a4, a5', rfl⟩)⟩
      · rw [if_neg hd, if_neg hd, stop_0, bd_s]
        exact okN_e (e := 13) (by omega) (by omega) rfl rfl
theorem readBlock_m {tp : Nat → Nat} {F q most lim bAt m : Nat} {w : Nat → Nat} {tape seen pre fr out : Nat → Int32} {coa rc : Int32} {rows : Nat → Int32} {st cc : Int32} {ch : Nat → Int32} {sb : Int32} {list : Nat → Int32} (hF : F ≤ 10240) (ht : ∀ j, j < F → tape j = nb (tp j) ∧ tp j < 256) (hq : q ≤ 8 * F) (hmost : most ≤ 2250) (hbAt : bAt < 100000) (hlim : lim ≤ 60000) (hm : m ≤ lim) (hO : OB m out w) : okN coa (blN (8 * F) (xb tp) most lim bAt q m w) (Model_readBlock_f (0 : Int32) (nI (8 * F)) tape (nI q) (-1 : Int32) seen pre fr out (nI m) coa (nI lim) (nI bAt) rc rows (nI most) st cc ch sb list) := by
  unfold Model_readBlock_f blN rbN
  by_cases h48 : q + 48 ≤ 8 * F
  · rw [if_pos h48, show Model_read_f (0 : Int32) (16 : Int32) (nI (8 * F)) tape (nI q) (-1 : Int32) = _ from read_m (k := 16) hF ht (by omega) (by omega), bd_s]
    dsimp only
    rw [show Model_read_f (0 : Int32) (16 : Int32) (nI (8 * F)) tape (nI (q + 16)) (-1 : Int32) = _ from read_m (k := 16) hF ht (by omega) (by omega), bd_s]
    dsimp only
    rw [show q + 16 + 16 = q + 32 by omega, show Model_read_f (0 : Int32) (16 : Int32) (nI (8 * F)) tape (nI (q + 32)) (-1 : Int32) = _ from read_m (k := 16) hF ht (by omega) (by omega), bd_s]
    dsimp only
    rw [← bvI_32, fine_0, bd_s, if_neg (show ¬ (1 : Int32) = 0 by decide), show q + 32 + 16 = q + 48 by omega, bvI_N _ (q + 32) 16 (by omega)]
    obtain ⟨cn, flt, pl, bit, list2, e1, h1, h2⟩ := readBytes_m (tp := tp) (list := list) hF ht h48
    rw [e1, bd_s]
    dsimp only
    cases hu : ruN (8 * F) (xb tp) (q + 48) with
    | inl e =>
      obtain ⟨x1, x2⟩ := e
      obtain ⟨a1, a2, a3, a4⟩ := h1 _ hu
      rw [a1, a2]
      exact J46_f a3 a4
    | inr a =>
      obtain ⟨q3, c, g⟩ := a
      obtain ⟨u1, u2, u3, u4⟩ := ruN_b hu
      obtain ⟨a1, a2, a3, a4, a5⟩ := h2 _ hu
      have a3 : bit = nI q3 := a3
      have a4 : cn = nI c := a4
      have a5 : RS c list2 g := a5
      rw [a1, a2, a3, a4]
      unfold Model_readBlock_J46
      rw [fine_0, bd_s, if_neg (show ¬ (1 : Int32) = 0 by decide)]
      obtain ⟨flt, pl, bit, tcI, gcI, ch2, e3, h3, h4⟩ := readGroups_m (tp := tp) (ch := ch) hF ht u1
      rw [e3, bd_s]
      dsimp only
      show okN coa (Sum.elim (fun e => Sum.inl e) (fun v => bl2 lim bAt m w v) (Sum.elim (fun e => Sum.inl e) (fun b => rb3 (8 * F) (xb tp) most bAt q (q3, c, g) b) (rgN (8 * F) (xb tp) q3))) _
      cases hg : rgN (8 * F) (xb tp) q3 with
      | inl e =>
        obtain ⟨x1, x2⟩ := e
        obtain ⟨b1, b2, b3, b4⟩ := h3 _ hg
        rw [b1, b2]
        exact J57_f b3 b4
      | inr b =>
        obtain ⟨tc, G, q4, T⟩ := b
        obtain ⟨v1, v2, v3, v4, v5, v6⟩ := rgN_b hg
        obtain ⟨b1, b2, b3, b4, b5, b6⟩ := h4 _ hg
        have b3 : bit = nI q4 := b3
        have b4 : tcI = nI tc := b4
        have b5 : gcI = nI G := b5
        have b6 : ∀ j, j < G → ch2 j = nI (T j) := b6
        rw [b1, b2, b3, b4, b5]
        unfold Model_readBlock_J57
        obtain ⟨flt, pl, bit, seen2, pre2, e5, h5, h6⟩ := tables_m (tp := tp) (c := c) (tc := tc) hF ht u2 v2 tc 0 gas q4 (fun _ _ => 0) seen pre (by omega) (Nat.lt_of_lt_of_le (by omega) gas_le) v5 (fun s k hs _ => absurd hs (Nat.not_lt_zero _))
        rw [show lpF (Model_readBlock_L60 (nI tc) (nI (8 * F)) tape (nI c)) gas ((0 : Int32), (0 : Int32), (-1 : Int32), nI q4, seen, pre) = _ from e5, bd_s]
        dsimp only
        show okN coa (Sum.elim (fun e => Sum.inl e) (fun v => bl2 lim bAt m w v) (Sum.elim (fun e => Sum.inl e) (fun d => rb4 (8 * F) (xb tp) most bAt q (q3, c, g) (tc, G, q4, T) d) (tbN (8 * F) (xb tp) (c + 2) tc 0 q4 (fun _ _ => 0)))) _
        cases htb : tbN (8 * F) (xb tp) (c + 2) tc 0 q4 (fun _ _ => 0) with
        | inl e =>
          obtain ⟨x1, x2⟩ := e
          obtain ⟨c1, c2, c3, c4⟩ := h5 _ htb
          have c3 : 0 < x1 := c3
          have c4 : x1 < 16 := c4
          have c1 : flt = nI x1 := c1
          have c2 : pl = nI x2 := c2
          rw [c1, c2, fine_n (nI_ne0 (by omega) (by omega)), bd_s, if_pos rfl]
          exact J101_f c3 c4
        | inr d =>
          obtain ⟨q5, LT⟩ := d
          have hq5 := tbN_r _ _ _ _ _ _ v5 htb
          obtain ⟨c1, c2, c3, c4⟩ := h6 _ htb
          have c3 : bit = nI q5 := c3
          rw [c1, c2, c3, fine_0, bd_s, if_neg (show ¬ (1 : Int32) = 0 by decide)]
          obtain ⟨lc, flt, pl, bit2, rows2, list3, e6, h7, h8⟩ := readSymbols_m (tp := tp) (c := c) (G := G) (most := most) (bAt := bAt) (ch := ch2) (seen := seen2) (pre := pre2) (tbl := T) (Lt := LT) (tc := tc) hF ht u4 u2 v4 hmost v2 (fun g2 _ hg2 => ⟨b6 g2 hg2, v6 g2 hg2⟩) (fun t k ht2 hk => c4 t k ht2 hk) hbAt 2252 0 q5 0 1 0 0 g (fun _ => 0) list2 rows gas (by omega) (by omega) (by omega) (by omega) (by omega) (by omega) hq5 a5 (fun j hj => absurd hj (Nat.not_lt_zero _)) (fun j _ hj => absurd hj (Nat.not_lt_zero _)) (Nat.lt_of_lt_of_le (by omega) gas_le)
          rw [show Model_readSymbols_f (nI G) (nI (8 * F)) tape (nI c) ch2 seen2 pre2 (nI most) (0 : Int32) (-1 : Int32) (nI q5) rows list2 (nI bAt) = _ from e6, bd_s]
          dsimp only
          show okN coa (Sum.elim (fun e => Sum.inl e) (fun v => bl2 lim bAt m w v) (Sum.elim (fun e => Sum.inl e) (fun e => Sum.inr (bvI (xb tp) q 32, bvN (xb tp) (q + 32) 16, e.1, e.2.1, e.2.2)) (Sum.elim (fun e => Sum.inl e) (fun v => if bvN (xb tp) (q + 32) 16 < v.1 then Sum.inr v else Sum.inl (9, q + 32)) (rlN (fun t q => dcN (LT t) (c + 2) (8 * F) (xb tp) q 20) T G c most bAt 2252 0 q5 0 1 g (fun _ => 0))))) _
          cases hrl : rlN (fun t q => dcN (LT t) (c + 2) (8 * F) (xb tp) q 20) T G c most bAt 2252 0 q5 0 1 g (fun _ => 0) with
          | inl e =>
            obtain ⟨x1, x2⟩ := e
            obtain ⟨d1, d2⟩ := h7 _ hrl
            obtain ⟨d3, d4⟩ := rlN_e (fun t q e p hd => by have := dc_e hd; omega) _ _ _ _ _ _ _ _ _ hrl
            rw [d1, d2]
            exact J101_f d3 d4
          | inr y =>
            obtain ⟨n, R, q6⟩ := y
            obtain ⟨d1, d2, d3, d4, d5⟩ := h8 _ hrl
            have d1 : lc = nI n := d1
            have d4 : bit2 = nI q6 := d4
            have d5 : RS n rows2 R := d5
            obtain ⟨r1, r2, r3⟩ := rlN_b (E := 8 * F) u4 (fun t q s q2 hd => ⟨(dc_b (Nat.le_refl 20) hd).1, (dc_b (Nat.le_refl 20) hd).2.1⟩) _ _ _ _ _ _ _ _ _ _ (Nat.zero_le _) u3 (fun j hj => absurd hj (Nat.not_lt_zero _)) hrl
            have hogb := bvN_lt (xb tp) (q + 32) 16
            rw [d1, d2, d3, d4]
            unfold Model_readBlock_J101
            rw [fine_0, bd_s, if_neg (show ¬ (1 : Int32) = 0 by decide)]
            show okN coa (Sum.elim (fun e => Sum.inl e) (fun v => bl2 lim bAt m w v) (Sum.elim (fun e => Sum.inl e) (fun e => Sum.inr (bvI (xb tp) q 32, bvN (xb tp) (q + 32) 16, e.1, e.2.1, e.2.2)) (if bvN (xb tp) (q + 32) 16 < n then Sum.inr (n, R, q6) else Sum.inl (9, q + 32)))) _
            by_cases hog : bvN (xb tp) (q + 32) 16 < n
            · rw [if_pos hog, if_pos (nI_lt hog (by omega))]
              exact J126_m (by omega) hlim (fun j hj => ⟨d5 j hj, r3 j hj⟩) hog hm hO
            · rw [if_neg hog, if_neg (nI_nlt (by omega) (by omega)), stop_0, bd_s]
              exact J126_f (e := 9) (by omega) (by omega)
  · rw [if_neg h48]
    have hfin : ∀ (a b x y z : Int32), okN coa (Sum.elim (fun e => Sum.inl e) (fun v => bl2 lim bAt m w v) (Sum.inl (2, 8 * F))) (bd (Model_isFine_f (nI 2)) (fun u31 => (if u31 = 0 then Model_readBlock_J46 (nI (8 * F)) tape seen pre fr out (nI m) coa (nI lim) (nI bAt) rc rows (nI most) st cc ch a b x (nI 2) (nI (8 * F)) y sb list else bd (Model_readBytes_f (nI 2) (nI (8 * F)) tape y (nI (8 * F)) list) (fun u33 => Model_readBlock_J46 (nI (8 * F)) tape seen pre fr out (nI m) coa (nI lim) (nI bAt) rc rows (nI most) st cc ch a b x u33.2.1 u33.2.2.1 u33.2.2.2.1 u33.2.2.2.2.1 u33.2.2.2.2.2)))) := by
      intro a b x y z
      rw [fine_n (by decide), bd_s, if_pos rfl]
      exact J46_f (by omega) (by omega)
    by_cases h32 : q + 32 ≤ 8 * F
    · rw [show Model_read_f (0 : Int32) (16 : Int32) (nI (8 * F)) tape (nI q) (-1 : Int32) = _ from read_m (k := 16) hF ht (by omega) (by omega), bd_s]
      dsimp only
      rw [show Model_read_f (0 : Int32) (16 : Int32) (nI (8 * F)) tape (nI (q + 16)) (-1 : Int32) = _ from read_m (k := 16) hF ht (by omega) (by omega), bd_s]
      dsimp only
      rw [show q + 16 + 16 = q + 32 by omega, show Model_read_f (0 : Int32) (16 : Int32) (nI (8 * F)) tape (nI (q + 32)) (-1 : Int32) = _ from read_me (k := 16) hF ht (by omega) h32 (by omega), bd_s]
      exact hfin _ _ _ _ 0
    · by_cases h16 : q + 16 ≤ 8 * F
      · rw [show Model_read_f (0 : Int32) (16 : Int32) (nI (8 * F)) tape (nI q) (-1 : Int32) = _ from read_m (k := 16) hF ht (by omega) (by omega), bd_s]
        dsimp only
        rw [show Model_read_f (0 : Int32) (16 : Int32) (nI (8 * F)) tape (nI (q + 16)) (-1 : Int32) = _ from read_me (k := 16) hF ht (by omega) h16 (by omega), bd_s]
        dsimp only
        rw [read_mf (show ¬ nI 2 = 0 by decide), bd_s]
        exact hfin _ _ _ _ 0
      · rw [show Model_read_f (0 : Int32) (16 : Int32) (nI (8 * F)) tape (nI q) (-1 : Int32) = _ from read_me (k := 16) hF ht (by omega) hq (by omega), bd_s]
        dsimp only
        rw [read_mf (show ¬ nI 2 = 0 by decide), bd_s]
        dsimp only
        rw [read_mf (show ¬ nI 2 = 0 by decide), bd_s]
        exact hfin _ _ _ _ 0
