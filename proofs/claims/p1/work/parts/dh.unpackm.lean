/-! UNPACKING: the whole file, the reference's -/
theorem NX_lt {R : Nat → Nat} {n q : Nat} (hq : q < n) : NX R n q < n := (Classical.epsilon_spec (p := fun b => b < n ∧ kpos (lexk R (fun x => x) n) n b = q) (kpos_sur (K := lexk R (fun x => x) n) (fun x y hx hy h => lexk_inj (fun _ h => h) (fun _ _ _ _ h => h) hx hy h) hq)).1
theorem exN_b {R : Nat → Nat} {n lim bAt : Nat} (hR : ∀ j, j < n → R j < 256) : ∀ (f a e bf : Nat) (c : Int32) (m : Nat) (w : Nat → Nat) (e2 : Nat) (c2 : Int32) (m2 : Nat) (w2 : Nat → Nat), a < n → bf < 256 → m ≤ lim → (∀ j, j < m → w j < 256) → exN R n lim bAt f a e bf c m w = Sum.inr (e2, c2, m2, w2) → m2 ≤ lim ∧ ∀ j, j < m2 → w2 j < 256 := by
  intro f
  induction f with
  | zero =>
    intro a e bf c m w e2 c2 m2 w2 _ _ hm hw h
    have h5 := Sum.inr.inj h
    have e1 : m = m2 := congrArg (fun z => z.2.2.1) h5
    have e2 : w = w2 := congrArg (fun z => z.2.2.2) h5
    rw [← e1, ← e2]
    exact ⟨hm, hw⟩
  | succ f ih =>
    intro a e bf c m w e2 c2 m2 w2 ha hbf hm hw h
    have hn := NX_lt (R := R) ha
    rw [exN] at h
    by_cases h1 : e = 4
    · rw [if_pos h1] at h
      by_cases h2 : R (NX R n a) ≤ 251
      · rw [if_pos h2] at h
        by_cases h3 : m + R (NX R n a) ≤ lim
        · rw [if_pos h3] at h
          exact ih _ _ _ _ _ _ _ _ _ _ hn hbf h3 (fun j hj => flN_b hw hbf j hj (Nat.le_add_right _ _)) h
        · rw [if_neg h3] at h; cases h
      · rw [if_neg h2] at h; cases h
    · rw [if_neg h1] at h
      by_cases h3 : m + 1 ≤ lim
      · rw [if_pos h3] at h
        exact ih _ _ _ _ _ _ _ _ _ _ hn (hR _ hn) h3 (fun j hj => flN_b hw (hR _ hn) j hj (Nat.le_add_right _ _)) h
      · rw [if_neg h3] at h; cases h
theorem blN_b {E : Nat} {x : Nat → Bool} {most lim bAt q m : Nat} {w : Nat → Nat} {v : Int32 × Nat × Nat × (Nat → Nat)} (hm : m ≤ lim) (hw : ∀ j, j < m → w j < 256) (h : blN E x most lim bAt q m w = Sum.inr v) : q + 48 ≤ v.2.1 ∧ v.2.1 ≤ E ∧ v.2.2.1 ≤ lim ∧ ∀ j, j < v.2.2.1 → v.2.2.2 j < 256 := by
  unfold blN at h
  cases hr : rbN E x most bAt q with
  | inl e => rw [hr] at h; cases h
  | inr u =>
    rw [hr] at h
    have h : bl2 lim bAt m w u = Sum.inr v := h
    obtain ⟨c1, c2, c3, c4⟩ := rbN_b hr
    have c5 := rbN_m hr
    obtain ⟨due, og, n, R, q6⟩ := u
    have c1 : og < n := c1
    have c3 : ∀ j, j < n → R j < 256 := c3
    have c4 : q6 ≤ E := c4
    have c5 : q + 48 ≤ q6 := c5
    have h : Sum.elim (fun e => Sum.inl e) (fun u => Sum.inr (due, q6, u.1, u.2)) (Sum.elim (fun e => Sum.inl e) (fun v => if v.1 = 4 then Sum.inl (11, bAt) else if v.2.1 ^^^ (-1 : Int32) = due then Sum.inr v.2.2 else Sum.inl (13, bAt)) (exN R n lim bAt n og 0 0 (-1 : Int32) m w)) = (Sum.inr v : blT) := h
    cases hx : exN R n lim bAt n og 0 0 (-1 : Int32) m w with
    | inl e => rw [hx] at h; cases h
    | inr y =>
      obtain ⟨e2, c2', m2, w2⟩ := y
      obtain ⟨d1, d2⟩ := exN_b c3 _ _ _ _ _ _ _ _ _ _ _ c1 (by omega) hm hw hx
      rw [hx] at h
      have h : Sum.elim (fun e => Sum.inl e) (fun u => Sum.inr (due, q6, u.1, u.2)) (if e2 = 4 then Sum.inl (11, bAt) else if c2' ^^^ (-1 : Int32) = due then Sum.inr (m2, w2) else Sum.inl (13, bAt)) = (Sum.inr v : blT) := h
      by_cases h4 : e2 = 4
      · rw [if_pos h4] at h; cases h
      · rw [if_neg h4] at h
        by_cases h6 : c2' ^^^ (-1 : Int32) = due
        · rw [if_pos h6] at h
          have h5 := Sum.inr.inj h
          rw [← h5]
          exact ⟨c5, c4, d1, d2⟩
        · rw [if_neg h6] at h; cases h
theorem unN_b {E : Nat} {x : Nat → Bool} {most lim : Nat} : ∀ (f q : Nat) (coa : Int32) (m : Nat) (w : Nat → Nat) (m2 : Nat) (w2 : Nat → Nat), m ≤ lim → (∀ j, j < m → w j < 256) → unN E x most lim f q coa m w = Sum.inr (m2, w2) → m2 ≤ lim ∧ ∀ j, j < m2 → w2 j < 256 := by
  intro f
  induction f with
  | zero => intro q coa m w m2 w2 _ _ h; cases h
  | succ f ih =>
    intro q coa m w m2 w2 hm hw h
    rw [unN] at h
    by_cases h8 : q + 8 ≤ E
    · rw [if_pos h8] at h
      by_cases b0 : bvN x q 8 = 0
      · rw [if_pos b0] at h
        cases hf : fnN E x (q + 8) coa with
        | inl e => rw [hf] at h; cases h
        | inr u =>
          rw [hf] at h
          have h5 := Sum.inr.inj h
          have e1 : m = m2 := congrArg Prod.fst h5
          have e2 : w = w2 := congrArg Prod.snd h5
          rw [← e1, ← e2]
          exact ⟨hm, hw⟩
      · rw [if_neg b0] at h
        by_cases b1 : bvN x q 8 = 1
        · rw [if_pos b1] at h
          cases hb : blN E x most lim q (q + 8) m w with
          | inl e => rw [hb] at h; cases h
          | inr v =>
            rw [hb] at h
            obtain ⟨c1, c2, c3, c4⟩ := blN_b hm hw hb
            exact ih _ _ _ _ _ _ c3 c4 h
        · rw [if_neg b1] at h; cases h
    · rw [if_neg h8] at h; cases h
abbrev ma : Type := Int32 × Int32 × Int32 × Int32 × Int32 × Int32 × (Nat → Int32) × Int32 × Int32 × (Nat → Int32) × (Nat → Int32) × (Nat → Int32) × Int32 × (Nat → Int32) × (Nat → Int32) × (Nat → Int32)
def QX (r : upT) (v : ma) : Prop := (∀ e, r = Sum.inl e → v.2.1 = nI e.1 ∧ v.2.2.1 = nI e.2 ∧ 0 < e.1 ∧ e.1 < 16) ∧ ∀ u, r = Sum.inr u → v.2.1 = 0 ∧ v.2.2.1 = (-1 : Int32) ∧ v.1 = nI u.1 ∧ OB u.1 v.2.2.2.2.2.2.2.2.2.2.2.2.2.2.2 u.2
theorem QX_e {e p : Nat} {v : ma} (h1 : 0 < e) (h2 : e < 16) (h3 : v.2.1 = nI e) (h4 : v.2.2.1 = nI p) : QX (Sum.inl (e, p)) v := ⟨fun e2 h => (by cases h; exact ⟨h3, h4, h1, h2⟩), fun u h => (by cases h)⟩
theorem u157_f {b ct fl p bit coa : Int32} {sb : Int32} {list : (Nat → Int32)} {st : Int32} {cc : Int32} {ch : (Nat → Int32)} {seen : (Nat → Int32)} {pre : (Nat → Int32)} {rc : Int32} {rows : (Nat → Int32)} {fr : (Nat → Int32)} {out : (Nat → Int32)} (h : ¬ fl = 0) : Model_unpack_J157 b ct fl p bit coa sb list st cc ch seen pre rc rows fr out = some (Sum.inl ((0 : Int32), ct, fl, p, bit, coa, sb, list, st, cc, ch, seen, pre, rc, rows, fr, out)) := by
  unfold Model_unpack_J157
  rw [fine_n h, bd_s, if_pos rfl]
  rfl
theorem u141_f {fed : Int32} {tape : Nat → Int32} {b ct fl p bit coa : Int32} {sb : Int32} {list : (Nat → Int32)} {st : Int32} {cc : Int32} {ch : (Nat → Int32)} {seen : (Nat → Int32)} {pre : (Nat → Int32)} {rc : Int32} {rows : (Nat → Int32)} {fr : (Nat → Int32)} {out : (Nat → Int32)} (h : ¬ fl = 0) : Model_unpack_J141 fed tape b ct fl p bit coa sb list st cc ch seen pre rc rows fr out = some (Sum.inl ((0 : Int32), ct, fl, p, bit, coa, sb, list, st, cc, ch, seen, pre, rc, rows, fr, out)) := by
  unfold Model_unpack_J141
  rw [fine_n h, bd_s, if_pos rfl, u157_f h]
theorem u121_f {fed : Int32} {tape : Nat → Int32} {mo ct fl0 p0 bit0 coa lim bA b fl p bit : Int32} {u5 : Int32 × Int32 × Int32 × Int32} {sb : Int32} {list : (Nat → Int32)} {st : Int32} {cc : Int32} {ch : (Nat → Int32)} {seen : (Nat → Int32)} {pre : (Nat → Int32)} {rc : Int32} {rows : (Nat → Int32)} {fr : (Nat → Int32)} {out : (Nat → Int32)} (h : ¬ fl = 0) : Model_unpack_J121 fed tape (mo, ct, fl0, p0, bit0, coa, sb, list, st, cc, ch, seen, pre, rc, rows, fr, out) lim u5 bA b fl p bit = some (Sum.inl ((0 : Int32), ct, fl, p, bit, coa, sb, list, st, cc, ch, seen, pre, rc, rows, fr, out)) := by
  unfold Model_unpack_J121
  rw [fine_n h, bd_s, if_pos rfl]
  exact u141_f h
theorem step_m {tp : Nat → Nat} {F most lim : Nat} {tape : Nat → Int32} {u5 : Int32 × Int32 × Int32 × Int32} {r q m : Nat} {w : Nat → Nat} {coa : Int32} {sb : Int32} {list : (Nat → Int32)} {st : Int32} {cc : Int32} {ch : (Nat → Int32)} {seen : (Nat → Int32)} {pre : (Nat → Int32)} {rc : Int32} {rows : (Nat → Int32)} {fr : (Nat → Int32)} {out : (Nat → Int32)} (hF : F ≤ 10240) (ht : ∀ j, j < F → tape j = nb (tp j) ∧ tp j < 256) (hlim : lim ≤ 60000) (hmost : most ≤ 2250) (hu5 : u5.1 = nI most) (hq : q ≤ 8 * F) (hm : m ≤ lim) (hw : ∀ j, j < m → w j < 256) (hO : OB m out w) : ∃ s', Model_unpack_L82 (nI F) tape (nI lim) u5 ((1 : Int32), nI m, (0 : Int32), (-1 : Int32), nI q, coa, sb, list, st, cc, ch, seen, pre, rc, rows, fr, out) = some (Sum.inl s') ∧ ((s'.1 = 0 ∧ QX (unN (8 * F) (xb tp) most lim (r + 1) q coa m w) s'.2) ∨ ∃ q2 m2 w2 coa2 sb2 list2 st2 cc2 ch2 seen2 pre2 rc2 rows2 fr2 out2, s' = ((1 : Int32), nI m2, (0 : Int32), (-1 : Int32), nI q2, coa2, sb2, list2, st2, cc2, ch2, seen2, pre2, rc2, rows2, fr2, out2) ∧ unN (8 * F) (xb tp) most lim (r + 1) q coa m w = unN (8 * F) (xb tp) most lim r q2 coa2 m2 w2 ∧ q + 56 ≤ q2 ∧ q2 ≤ 8 * F ∧ m2 ≤ lim ∧ (∀ j, j < m2 → w2 j < 256) ∧ OB m2 out2 w2) := by
  have h8F : (8 : Int32) * nI F = nI (8 * F) := pk_mul 8 F
  unfold Model_unpack_L82
  dsimp only
  rw [if_neg (show ¬ (1 : Int32) = 0 by decide), h8F, unN]
  by_cases h8 : q + 8 ≤ 8 * F
  · rw [show Model_read_f (0 : Int32) (8 : Int32) (nI (8 * F)) tape (nI q) (-1 : Int32) = _ from read_m (k := 8) hF ht (by omega) h8, bd_s, if_pos h8, bvI_N _ _ 8 (by omega)]
    have hb := bvN_lt (xb tp) q 8
    generalize bvN (xb tp) q 8 = b at *
    dsimp only
    rw [fine_0, bd_s, if_neg (show ¬ (1 : Int32) = 0 by decide)]
    by_cases b0 : b = 0
    · rw [if_pos (show nI b ≤ (1 : Int32) from nI_le (b := 1) (by omega) (by omega)), if_pos b0, b0]
      unfold Model_unpack_J121
      rw [fine_0, bd_s, if_neg (show ¬ (1 : Int32) = 0 by decide), if_neg (show ¬ nI 0 = (1 : Int32) by decide)]
      unfold Model_unpack_J141
      rw [fine_0, bd_s, if_neg (show ¬ (1 : Int32) = 0 by decide), if_pos (show nI 0 = (0 : Int32) from rfl), h8F]
      dsimp only
      obtain ⟨flt, pl, bit, e1, h1, h2⟩ := end_m (tp := tp) (coa := coa) hF ht h8
      rw [e1, bd_s]
      dsimp only
      cases hn : fnN (8 * F) (xb tp) (q + 8) coa with
      | inl e =>
        obtain ⟨x1, x2⟩ := e
        obtain ⟨a1, a2, a3, a4⟩ := h1 _ hn
        have a1 : flt = nI x1 := a1
        have a3 : 0 < x1 := a3
        have a4 : x1 < 16 := a4
        have hne : ¬ flt = 0 := by rw [a1]; exact nI_ne0 (by omega) (by omega)
        rw [u157_f hne]
        exact ⟨_, rfl, Or.inl ⟨rfl, QX_e a3 a4 a1 a2⟩⟩
      | inr u =>
        obtain ⟨a1, a2⟩ := h2 _ hn
        rw [a1, a2]
        unfold Model_unpack_J157
        rw [fine_0, bd_s, if_neg (show ¬ (1 : Int32) = 0 by decide), if_neg (show ¬ nI 0 = (1 : Int32) by decide)]
        exact ⟨_, rfl, Or.inl ⟨rfl, fun e he => (by cases he), fun u2 hu => (by cases hu; exact ⟨rfl, rfl, rfl, hO⟩)⟩⟩
    · by_cases b1 : b = 1
      · rw [if_pos (show nI b ≤ (1 : Int32) from nI_le (b := 1) (by omega) (by omega)), if_neg b0, if_pos b1, b1]
        unfold Model_unpack_J121
        rw [fine_0, bd_s, if_neg (show ¬ (1 : Int32) = 0 by decide), if_pos (show nI 1 = (1 : Int32) from rfl), hu5, h8F]
        dsimp only
        obtain ⟨t, e1, h1, h2⟩ := readBlock_m (tp := tp) (most := most) (lim := lim) (bAt := q) (m := m) (w := w) (seen := seen) (pre := pre) (fr := fr) (out := out) (coa := coa) (rc := rc) (rows := rows) (st := st) (cc := cc) (ch := ch) (sb := sb) (list := list) hF ht h8 hmost (by omega) hlim hm hO
        rw [e1, bd_s]
        cases hn : blN (8 * F) (xb tp) most lim q (q + 8) m w with
        | inl e =>
          obtain ⟨x1, x2⟩ := e
          obtain ⟨a1, a2, a3, a4⟩ := h1 _ hn
          have a1 : t.1 = nI x1 := a1
          have a3 : 0 < x1 := a3
          have a4 : x1 < 16 := a4
          have hne : ¬ t.1 = 0 := by rw [a1]; exact nI_ne0 (by omega) (by omega)
          rw [u141_f hne]
          exact ⟨_, rfl, Or.inl ⟨rfl, QX_e a3 a4 a1 a2⟩⟩
        | inr v =>
          obtain ⟨due, q2, m2, w2⟩ := v
          obtain ⟨c1, c2, c3, c4⟩ := blN_b hm hw hn
          obtain ⟨a1, a2, a3, a4, a5, a6⟩ := h2 _ hn
          rw [a1, a2, a3, a4, a6]
          unfold Model_unpack_J141
          rw [fine_0, bd_s, if_neg (show ¬ (1 : Int32) = 0 by decide), if_neg (show ¬ nI 1 = (0 : Int32) by decide)]
          unfold Model_unpack_J157
          rw [fine_0, bd_s, if_neg (show ¬ (1 : Int32) = 0 by decide), if_pos (show nI 1 = (1 : Int32) from rfl)]
          have c1 : q + 8 + 48 ≤ q2 := c1
          exact ⟨_, rfl, Or.inr ⟨q2, m2, w2, jo coa due, _, _, _, _, _, _, _, _, _, _, _, rfl, rfl, by omega, c2, c3, c4, a5⟩⟩
      · rw [if_neg (show ¬ nI b ≤ (1 : Int32) from nI_ge (a := 1) (by omega) (by omega)), if_neg b0, if_neg b1, stop_0, bd_s]
        dsimp only
        rw [u121_f (show ¬ (3 : Int32) = 0 by decide)]
        exact ⟨_, rfl, Or.inl ⟨rfl, QX_e (e := 3) (by omega) (by omega) rfl rfl⟩⟩
  · rw [show Model_read_f (0 : Int32) (8 : Int32) (nI (8 * F)) tape (nI q) (-1 : Int32) = _ from read_me (k := 8) hF ht (by omega) hq (by omega), bd_s, if_neg h8]
    dsimp only
    rw [fine_n (show ¬ nI 2 = 0 by decide), bd_s, if_pos rfl, u121_f (show ¬ nI 2 = 0 by decide)]
    exact ⟨_, rfl, Or.inl ⟨rfl, QX_e (by omega) (by omega) rfl rfl⟩⟩
theorem mstop {F : Nat} {tape : Nat → Int32} {lim : Int32} {u5 : Int32 × Int32 × Int32 × Int32} {v : ma} {z : Nat} (hz : 0 < z) : lpF (Model_unpack_L82 (nI F) tape lim u5) z ((0 : Int32), v) = some v := by
  obtain ⟨z, rfl⟩ : ∃ z2, z = z2 + 1 := ⟨z - 1, by omega⟩
  have hb : Model_unpack_L82 (nI F) tape lim u5 ((0 : Int32), v) = some (Sum.inr v) := by
    unfold Model_unpack_L82
    dsimp only
    rw [if_pos rfl]
  rw [lpF_s, hb]
  rfl
theorem uloop_m {tp : Nat → Nat} {F most lim : Nat} {tape : Nat → Int32} {u5 : Int32 × Int32 × Int32 × Int32} (hF : F ≤ 10240) (ht : ∀ j, j < F → tape j = nb (tp j) ∧ tp j < 256) (hlim : lim ≤ 60000) (hmost : most ≤ 2250) (hu5 : u5.1 = nI most) : ∀ (r q m z : Nat) (w : Nat → Nat) (coa : Int32) (sb : Int32) (list : (Nat → Int32)) (st : Int32) (cc : Int32) (ch : (Nat → Int32)) (seen : (Nat → Int32)) (pre : (Nat → Int32)) (rc : Int32) (rows : (Nat → Int32)) (fr : (Nat → Int32)) (out : (Nat → Int32)), 8 * F ≤ q + r → r + 2 < z → q ≤ 8 * F → m ≤ lim → (∀ j, j < m → w j < 256) → OB m out w → ∃ v, lpF (Model_unpack_L82 (nI F) tape (nI lim) u5) z ((1 : Int32), nI m, (0 : Int32), (-1 : Int32), nI q, coa, sb, list, st, cc, ch, seen, pre, rc, rows, fr, out) = some v ∧ QX (unN (8 * F) (xb tp) most lim r q coa m w) v := by
  intro r
  induction r with
  | zero =>
    intro q m z w coa sb list st cc ch seen pre rc rows fr out hrq hz hq hm hw hO
    obtain ⟨z, rfl⟩ : ∃ z2, z = z2 + 1 := ⟨z - 1, by omega⟩
    obtain ⟨s', es, hs⟩ := step_m (tp := tp) (r := 0) (coa := coa) (sb := sb) (list := list) (st := st) (cc := cc) (ch := ch) (seen := seen) (pre := pre) (rc := rc) (rows := rows) (fr := fr) hF ht hlim hmost hu5 hq hm hw hO
    have hU : unN (8 * F) (xb tp) most lim (0 + 1) q coa m w = Sum.inl (2, 8 * F) := by
      rw [unN, if_neg (by omega)]
    rw [lpF_s, es, bd_s]
    rcases hs with ⟨h1, h2⟩ | ⟨q2, m2, w2, coa2, sb2, list2, st2, cc2, ch2, seen2, pre2, rc2, rows2, fr2, out2, h1, h2, h3, h4, h5, h6, h7⟩
    · obtain ⟨s1, v⟩ := s'
      have h1 : s1 = 0 := h1
      rw [h1]
      rw [hU] at h2
      exact ⟨v, mstop (by omega), h2⟩
    · omega
  | succ r ih =>
    intro q m z w coa sb list st cc ch seen pre rc rows fr out hrq hz hq hm hw hO
    obtain ⟨z, rfl⟩ : ∃ z2, z = z2 + 1 := ⟨z - 1, by omega⟩
    obtain ⟨s', es, hs⟩ := step_m (tp := tp) (r := r) (coa := coa) (sb := sb) (list := list) (st := st) (cc := cc) (ch := ch) (seen := seen) (pre := pre) (rc := rc) (rows := rows) (fr := fr) hF ht hlim hmost hu5 hq hm hw hO
    rw [lpF_s, es, bd_s]
    rcases hs with ⟨h1, h2⟩ | ⟨q2, m2, w2, coa2, sb2, list2, st2, cc2, ch2, seen2, pre2, rc2, rows2, fr2, out2, h1, h2, h3, h4, h5, h6, h7⟩
    · obtain ⟨s1, v⟩ := s'
      have h1 : s1 = 0 := h1
      rw [h1]
      exact ⟨v, mstop (by omega), h2⟩
    · rw [h1, h2]
      exact ih q2 m2 z w2 coa2 sb2 list2 st2 cc2 ch2 seen2 pre2 rc2 rows2 fr2 out2 (by omega) (by omega) h4 h5 h6 h7
abbrev mo : Type := Int32 × Int32 × Int32 × Int32 × Int32 × Int32 × Int32 × Int32 × Int32 × Int32 × Int32 × (Nat → Int32) × Int32 × Int32 × (Nat → Int32) × (Nat → Int32) × (Nat → Int32) × Int32 × (Nat → Int32) × (Nat → Int32) × (Nat → Int32) × Int32 × Int32
/-- what the reference's unpack leaves: the answer and what is thrown, whether fresh, fault and place, the bytes given out and how many -/
def okR (r : upT) (lim : Nat) (t : mo) : Prop := t.2.1 = 0 ∧ t.2.2.1 = 0 ∧ t.2.2.2.1 = nI lim ∧ t.2.2.2.2.2.2.2.2.2.2.2.2.2.2.2.2.2.2.2.2.2.1 = 0 ∧ (∀ e, r = Sum.inl e → t.1 = - nI e.1 ∧ t.2.2.2.2.2.1 = nI e.1 ∧ t.2.2.2.2.2.2.1 = nI e.2 ∧ t.2.2.2.2.2.2.2.2.2.2.2.2.2.2.2.2.2.2.2.2.2.2 = 0 ∧ 0 < e.1 ∧ e.1 < 16) ∧ ∀ u, r = Sum.inr u → t.1 = nI u.1 ∧ t.2.2.2.2.2.1 = 0 ∧ t.2.2.2.2.2.2.1 = (-1 : Int32) ∧ t.2.2.2.2.2.2.2.2.2.2.2.2.2.2.2.2.2.2.2.2.2.2 = nI u.1 ∧ t.2.2.2.2.1 = nI u.1 ∧ OB u.1 t.2.2.2.2.2.2.2.2.2.2.2.2.2.2.2.2.2.2.2.2.1 u.2
theorem unpack_m {tp : Nat → Nat} {F lim : Nat} {tape : Nat → Int32} {sb : Int32} {list : (Nat → Int32)} {st : Int32} {cc : Int32} {ch : (Nat → Int32)} {seen : (Nat → Int32)} {pre : (Nat → Int32)} {rc : Int32} {rows : (Nat → Int32)} {fr : (Nat → Int32)} {out : (Nat → Int32)} {fre lim0 ct0 flt0 pl0 bit0 tot0 coa0 sz0 : Int32} (hF : F ≤ 10240) (ht : ∀ j, j < F → tape j = nb (tp j) ∧ tp j < 256) (hlim : lim ≤ 60000) : ∃ t, Model_unpack_f (nI lim) (nI F) tape sb list st cc ch seen pre rc rows fr out fre lim0 ct0 flt0 pl0 bit0 tot0 coa0 sz0 = some t ∧ okR (UP1 tp F lim) lim t := by
  have h8F : (8 : Int32) * nI F = nI (8 * F) := pk_mul 8 F
  unfold Model_unpack_f UP1
  rw [if_neg (nI_pos (by omega)), if_pos (show nI lim ≤ (60000 : Int32) from nI_le (b := 60000) hlim (by omega))]
  unfold Model_unpack_J17
  rw [show Model_fails_f (0 : Int32) (1 : Int32) = some ((0 : Int32), (0 : Int32)) from rfl, bd_s]
  dsimp only
  rw [if_pos rfl, h8F]
  obtain ⟨mo, flt, pl, bit, e1, h1, h2⟩ := head_m (tp := tp) hF ht
  rw [e1, bd_s]
  dsimp only
  have hfin : ∀ (r : upT) (v : ma), QX r v → ∃ t, bd (Model_isFine_f v.2.1) (fun u10 => (if u10 = 0 then Model_unpack_J200 (0 : Int32) (0 : Int32) (0 : Int32) (nI lim) v.1 v.2.1 v.2.2.1 v.2.2.2.1 (nI (8 * F)) v.2.2.2.2.1 v.2.2.2.2.2.1 v.2.2.2.2.2.2.1 v.2.2.2.2.2.2.2.1 v.2.2.2.2.2.2.2.2.1 v.2.2.2.2.2.2.2.2.2.1 v.2.2.2.2.2.2.2.2.2.2.1 v.2.2.2.2.2.2.2.2.2.2.2.1 v.2.2.2.2.2.2.2.2.2.2.2.2.1 v.2.2.2.2.2.2.2.2.2.2.2.2.2.1 v.2.2.2.2.2.2.2.2.2.2.2.2.2.2.1 v.2.2.2.2.2.2.2.2.2.2.2.2.2.2.2 (0 : Int32) else Model_unpack_J200 v.1 (0 : Int32) (0 : Int32) (nI lim) v.1 v.2.1 v.2.2.1 v.2.2.2.1 (nI (8 * F)) v.2.2.2.2.1 v.2.2.2.2.2.1 v.2.2.2.2.2.2.1 v.2.2.2.2.2.2.2.1 v.2.2.2.2.2.2.2.2.1 v.2.2.2.2.2.2.2.2.2.1 v.2.2.2.2.2.2.2.2.2.2.1 v.2.2.2.2.2.2.2.2.2.2.2.1 v.2.2.2.2.2.2.2.2.2.2.2.2.1 v.2.2.2.2.2.2.2.2.2.2.2.2.2.1 v.2.2.2.2.2.2.2.2.2.2.2.2.2.2.1 v.2.2.2.2.2.2.2.2.2.2.2.2.2.2.2 (0 : Int32))) = some t ∧ okR r lim t := by
    intro r v hv
    obtain ⟨g1, g2⟩ := hv
    cases r with
    | inl e =>
      obtain ⟨x1, x2⟩ := e
      obtain ⟨a1, a2, a3, a4⟩ := g1 _ rfl
      have a1 : v.2.1 = nI x1 := a1
      have a3 : 0 < x1 := a3
      have a4 : x1 < 16 := a4
      have hne : ¬ v.2.1 = 0 := by rw [a1]; exact nI_ne0 (by omega) (by omega)
      rw [fine_n hne, bd_s, if_pos rfl]
      unfold Model_unpack_J200
      rw [fine_n hne, bd_s, if_pos rfl]
      exact ⟨_, rfl, rfl, rfl, rfl, rfl, fun e2 he => (by cases he; exact ⟨congrArg Neg.neg a1, a1, a2, rfl, a3, a4⟩), fun u hu => (by cases hu)⟩
    | inr u =>
      obtain ⟨a1, a2, a3, a4⟩ := g2 _ rfl
      rw [a1, fine_0, bd_s, if_neg (show ¬ (1 : Int32) = 0 by decide)]
      unfold Model_unpack_J200
      rw [fine_0, bd_s, if_neg (show ¬ (1 : Int32) = 0 by decide)]
      exact ⟨_, rfl, rfl, rfl, rfl, rfl, fun e2 he => (by cases he), fun u2 hu => (by cases hu; exact ⟨a3, rfl, a2, a3, a3, a4⟩)⟩
  cases hh : hdN (8 * F) (xb tp) with
  | inl e =>
    obtain ⟨x1, x2⟩ := e
    obtain ⟨a1, a2, a3, a4⟩ := h1 _ hh
    have a1 : flt = nI x1 := a1
    have a3 : 0 < x1 := a3
    have a4 : x1 < 16 := a4
    rw [a1, a2, fine_n (nI_ne0 (by omega) (by omega)), bd_s, mstop (Nat.lt_of_lt_of_le (by omega) gas_le), bd_s]
    exact hfin (Sum.inl (x1, x2)) _ (QX_e a3 a4 rfl rfl)
  | inr most =>
    obtain ⟨a1, a2, a3, a4⟩ := h2 _ hh
    obtain ⟨c1, c2⟩ := hdN_r hh
    rw [a1, a2, a3, a4, fine_0, bd_s]
    obtain ⟨v, e5, h5⟩ := uloop_m (tp := tp) (F := F) (most := most) (lim := lim) (tape := tape) (u5 := (nI most, (0 : Int32), (-1 : Int32), nI 24)) hF ht hlim c2 rfl (8 * F) 24 0 gas (fun _ => 0) (0 : Int32) sb list st cc ch seen pre rc rows fr out (by omega) (Nat.lt_of_lt_of_le (by omega) gas_le) c1 (Nat.zero_le _) (fun j hj => absurd hj (Nat.not_lt_zero _)) (fun j hj => absurd hj (Nat.not_lt_zero _))
    rw [show lpF (Model_unpack_L82 (nI F) tape (nI lim) (nI most, (0 : Int32), (-1 : Int32), nI 24)) gas ((1 : Int32), (0 : Int32), (0 : Int32), (-1 : Int32), nI 24, (0 : Int32), sb, list, st, cc, ch, seen, pre, rc, rows, fr, out) = _ from e5, bd_s]
    exact hfin _ v h5
theorem UP1_b {tp : Nat → Nat} {F lim m : Nat} {w : Nat → Nat} (h : UP1 tp F lim = Sum.inr (m, w)) : m ≤ lim ∧ ∀ j, j < m → w j < 256 := by
  unfold UP1 at h
  cases hh : hdN (8 * F) (xb tp) with
  | inl e => rw [hh] at h; cases h
  | inr most =>
    rw [hh] at h
    exact unN_b _ _ _ _ _ _ _ (Nat.zero_le _) (fun j hj => absurd hj (Nat.not_lt_zero _)) h
