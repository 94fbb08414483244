/-! UNPACKING: from LAST back to the bytes, the reference's -/
theorem sort_m {R : Nat → Nat} {n : Nat} {rows fr : Nat → Int32} (hn : n ≤ 2250) (hla : ∀ j, j < n → rows j = nI (R j) ∧ R j < 256) : ∃ O, Model_sort_f (nI n) rows fr = some O ∧ ∀ b, b < n → O (kpos (lexk R (fun x => x) n) n b) = nI b := by
  have l1 : ∃ O, lpF (Model_sort_L4 (nI n) rows) gas ((0 : Int32), (0 : Int32), fr) = some O ∧ ∀ b, b < n → O (kpos (lexk R (fun x => x) n) n b) = nI b := by
    refine lp_for (fun b s => ∃ O, s = (nI (cnt (fun y => decide (R y < b)) n), nI b, O) ∧ ∀ k, k < n → R k < b → O (kpos (lexk R (fun x => x) n) n k) = nI k) _ (i0 := 0) (N := 256) (by omega) (by omega) ?_ ?_ ⟨fr, by rw [cnt_none (fun j _ => decide_eq_false (by omega))]; rfl, fun k hk h => absurd h (Nat.not_lt_zero _)⟩
    · rintro b s _ hb ⟨O, rfl, hO⟩
      have hcc : cnt (fun j => decide (R j < b + 1)) n = cnt (fun j => decide (R j < b)) n + cnt (fun j => decide (R j = b)) n := by
        refine cnt_or (fun j hj => ?_) (fun j hj h => ?_)
        · rw [← Bool.decide_or, decide_eq_decide]
          omega
        · simp only [decide_eq_true_eq, decide_eq_false_iff_not] at h ⊢
          omega
      have hle := cnt_le (fun j => decide (R j < b + 1)) n
      have l2 : ∃ q : Int32 × (Nat → Int32), lpF (Model_sort_L13 (nI n) rows (nI (cnt (fun y => decide (R y < b)) n), nI b, O)) gas (nI (cnt (fun y => decide (R y < b)) n), (0 : Int32), O) = some q ∧ q.1 = nI (cnt (fun y => decide (R y < b)) n + cnt (fun y => decide (R y = b)) n) ∧ ∀ k, k < n → R k < b + 1 → q.2 (kpos (lexk R (fun x => x) n) n k) = nI k := by
        refine lp_for (fun k s => ∃ O, s = (nI (cnt (fun y => decide (R y < b)) n + cnt (fun y => decide (R y = b)) k), nI k, O) ∧ ∀ j, j < n → (R j < b ∨ (R j = b ∧ j < k)) → O (kpos (lexk R (fun x => x) n) n j) = nI j) _ (i0 := 0) (N := n) (Nat.zero_le _) (by omega) ?_ ?_ ⟨O, rfl, fun j hj h => hO j hj (by omega)⟩
        · rintro k s _ hk ⟨O2, rfl, hO2⟩
          obtain ⟨h1, h2⟩ := hla k hk
          have hkp := kpos_lt (K := lexk R (fun x => x) n) hk
          have hse := srt_eq (L := R) hk
          have hcm := cnt_mon_n (fun y => decide (R y = b)) (show k ≤ n by omega)
          have hS : Model_sort_L13 (nI n) rows (nI (cnt (fun y => decide (R y < b)) n), nI b, O) (nI (cnt (fun y => decide (R y < b)) n + cnt (fun y => decide (R y = b)) k), nI k, O2) = (if nI (R k) = nI b then gd (ix (nI (cnt (fun y => decide (R y < b)) n + cnt (fun y => decide (R y = b)) k)) 2250) (some (Sum.inl (nI (cnt (fun y => decide (R y < b)) n + cnt (fun y => decide (R y = b)) k + 1), nI (k + 1), upd O2 (nI (cnt (fun y => decide (R y < b)) n + cnt (fun y => decide (R y = b)) k)).toNatClampNeg (nI k)))) else some (Sum.inl (nI (cnt (fun y => decide (R y < b)) n + cnt (fun y => decide (R y = b)) k), nI (k + 1), O2))) := by
            unfold Model_sort_L13 Model_sort_J44
            generalize cnt (fun y => decide (R y < b)) n + cnt (fun y => decide (R y = b)) k = p
            show (if nI n ≤ nI k then _ else gd (ix (nI k) 2250) (if rows (nI k).toNatClampNeg = nI b then gd (ix (nI p) 2250) (some (Sum.inl (nI p + (1 : Int32), nI k + (1 : Int32), upd O2 (nI p).toNatClampNeg (nI k)))) else some (Sum.inl (nI p, nI k + (1 : Int32), O2)))) = _
            rw [if_neg (nI_ge hk (by omega)), nI_clamp (show k < 2 ^ 31 by omega), h1, ixN (show k < 2250 by omega) (by omega), nI_1, nI_1]
            rfl
          rw [hS]
          by_cases hrb : R k = b
          · rw [hrb] at hse
            rw [if_pos (by rw [hrb]), hse, ixN (show kpos (lexk R (fun x => x) n) n k < 2250 by omega) (by omega), gd_t, nI_clamp (by omega)]
            refine ⟨_, rfl, upd O2 (kpos (lexk R (fun x => x) n) n k) (nI k), ?_, fun j hj h => ?_⟩
            · rw [cnt_s, tN_t (decide_eq_true hrb), ← Nat.add_assoc, hse]
            · by_cases hjk : j = k
              · rw [hjk, pk_us]
              · have h5 : kpos (lexk R (fun x => x) n) n j ≠ kpos (lexk R (fun x => x) n) n k := fun q => hjk (lexk_inj (fun _ h => h) (fun _ _ _ _ h => h) hj hk ((kpos_eq_iff hj hk).mp q))
                rw [pk_un h5]
                exact hO2 j hj (by omega)
          · rw [if_neg (show ¬ nI (R k) = nI b by rw [nI_eq (by omega) (by omega)]; exact hrb)]
            refine ⟨_, rfl, O2, ?_, fun j hj h => hO2 j hj ?_⟩
            · rw [cnt_s, tN_f (decide_eq_false hrb), Nat.add_zero (cnt (fun y => decide (R y = b)) k)]
            · rcases h with h | ⟨h, h3⟩
              · exact Or.inl h
              · refine Or.inr ⟨h, ?_⟩
                have : j ≠ k := fun q => hrb (by rw [← q]; exact h)
                omega
        · rintro s ⟨O2, rfl, hO2⟩
          refine ⟨(nI (cnt (fun y => decide (R y < b)) n + cnt (fun y => decide (R y = b)) n), O2), ?_, rfl, fun j hj h => hO2 j hj (by omega)⟩
          show (if nI n ≤ nI n then _ else _) = _
          rw [if_pos (nI_le (Nat.le_refl _) (by omega))]
      obtain ⟨⟨p, O2⟩, e2, hp, hO2⟩ := l2
      have hp : p = nI (cnt (fun y => decide (R y < b)) n + cnt (fun y => decide (R y = b)) n) := hp
      refine ⟨(nI (cnt (fun y => decide (R y < b + 1)) n), nI (b + 1), O2), ?_, O2, rfl, hO2⟩
      show (if nI 256 ≤ nI b then _ else bd (lpF (Model_sort_L13 (nI n) rows (nI (cnt (fun y => decide (R y < b)) n), nI b, O)) gas (nI (cnt (fun y => decide (R y < b)) n), (0 : Int32), O)) (fun v8 => some (Sum.inl (v8.1, nI b + (1 : Int32), v8.2)))) = _
      rw [if_neg (nI_ge hb (by omega)), e2, bd_s, hp, hcc, nI_1]
    · rintro s ⟨O, rfl, hO⟩
      refine ⟨O, ?_, fun k hk => hO k hk (hla k hk).2⟩
      show (if nI 256 ≤ nI 256 then _ else _) = _
      rw [if_pos (nI_le (Nat.le_refl _) (by omega))]
  obtain ⟨O, e1, h1⟩ := l1
  refine ⟨O, ?_, h1⟩
  unfold Model_sort_f
  rw [e1]
  rfl
/-- the reference's out holds the first m of w -/
abbrev OB (m : Nat) (out : Nat → Int32) (w : Nat → Nat) : Prop := ∀ j, j < m → out j = nb (w j)
theorem OB_add {m b : Nat} {out : Nat → Int32} {w : Nat → Nat} (h : OB m out w) : OB (m + 1) (upd out m (nb b)) (flN w m (m + 1) b) := by
  intro j hj
  unfold flN
  by_cases h1 : j = m
  · rw [h1, pk_us, if_pos (by omega)]
  · rw [pk_un h1, if_neg (by omega)]
    exact h j (by omega)
theorem nb_2 (b : Nat) : vp_nar .byte (vp_nar .byte (nI b)) = nb b := by
  unfold nb
  rw [vp_nar_byte, vp_nar_byte]
  simp
theorem give_m {m lim b : Nat} {c p3 : Int32} {out : Nat → Int32} (hlim : lim ≤ 60000) (hm : m < lim) : Model_give_f (nI m) (nI lim) (0 : Int32) p3 (-1 : Int32) c out (nI b) = some (chk c b, (0 : Int32), (-1 : Int32), upd out m (nb b), nI (m + 1)) := by
  unfold Model_give_f
  rw [if_neg (show ¬ nI m = nI lim by rw [nI_eq (by omega) (by omega)]; omega), ixN (show m < 262144 by omega) (by omega), gd_t, checked_eq, bd_s, nI_clamp (show m < 2 ^ 31 by omega), nb_2, nI_1]
theorem give_me {lim : Nat} {b c p3 : Int32} {out : Nat → Int32} : Model_give_f (nI lim) (nI lim) (0 : Int32) p3 (-1 : Int32) c out b = some (c, (12 : Int32), p3, out, nI lim) := by
  unfold Model_give_f
  rw [if_pos rfl, stop_0, bd_s]
theorem ckN_s (c : Int32) (b i : Nat) : chk (ckN c b i) b = ckN c b (i + 1) := by
  rw [ckN]
theorem ckN_1 (c : Int32) (b : Nat) : ckN c b 1 = chk c b := by
  rw [ckN, ckN]
theorem many_m {m lim b t bAt : Nat} {c : Int32} {out : Nat → Int32} {w : Nat → Nat} {s1 : Int32 × Int32 × Int32 × Int32 × Int32 × Int32 × Int32 × (Nat → Int32) × Int32} (hs1 : s1.2.2.2.1 = nI b) (hlim : lim ≤ 60000) (hm : m ≤ lim) (ht : t ≤ 255) (h : OB m out w) :
    ∃ c2 flt pl out2 ct2, lpF (Model_expand_L73 (nI t) (nI lim) (nI bAt) s1) gas (c, (0 : Int32), (0 : Int32), (-1 : Int32), out, nI m) = some (c2, flt, pl, out2, ct2) ∧ (m + t ≤ lim → c2 = ckN c b t ∧ flt = 0 ∧ pl = (-1 : Int32) ∧ ct2 = nI (m + t) ∧ OB (m + t) out2 (flN w m (m + t) b)) ∧ (¬ m + t ≤ lim → flt = nI 12 ∧ pl = nI bAt) := by
  have l1 : ∃ q : Int32 × Int32 × Int32 × (Nat → Int32) × Int32, lpF (Model_expand_L73 (nI t) (nI lim) (nI bAt) s1) gas (c, (0 : Int32), (0 : Int32), (-1 : Int32), out, nI m) = some q ∧ (m + t ≤ lim → q.1 = ckN c b t ∧ q.2.1 = 0 ∧ q.2.2.1 = (-1 : Int32) ∧ q.2.2.2.2 = nI (m + t) ∧ OB (m + t) q.2.2.2.1 (flN w m (m + t) b)) ∧ (¬ m + t ≤ lim → q.2.1 = nI 12 ∧ q.2.2.1 = nI bAt) := by
    refine lp_totg (fun s => (∃ i out, s = (ckN c b i, nI i, (0 : Int32), (-1 : Int32), out, nI (m + i)) ∧ i ≤ t ∧ m + i ≤ lim ∧ OB (m + i) out (flN w m (m + i) b)) ∨ (∃ a1 i out ct, s = (a1, nI i, nI 12, nI bAt, out, ct) ∧ i ≤ 300 ∧ ¬ m + t ≤ lim)) (fun s => 1000 - s.2.1.toNatClampNeg) _ ?_ (Or.inl ⟨0, out, rfl, Nat.zero_le _, hm, by rw [fl_0]; exact h⟩) (by show 1000 - _ < 1000000; omega)
    rintro s (⟨i, out, rfl, hi, hmi, hO⟩ | ⟨a1, i, out, ct, rfl, hi, hno⟩)
    · rcases Nat.lt_or_ge i t with h1 | h1
      · have hS : Model_expand_L73 (nI t) (nI lim) (nI bAt) s1 (ckN c b i, nI i, (0 : Int32), (-1 : Int32), out, nI (m + i)) = bd (Model_give_f (nI (m + i)) (nI lim) (0 : Int32) (nI bAt) (-1 : Int32) (ckN c b i) out (nI b)) (fun u17 => some (Sum.inl (u17.1, nI (i + 1), u17.2.1, u17.2.2.1, u17.2.2.2.1, u17.2.2.2.2))) := by
          unfold Model_expand_L73
          rw [hs1, if_neg (nI_ge h1 (by omega))]
          show bd (Model_isFine_f (0 : Int32)) (fun u15 => (if u15 = 0 then _ else bd (Model_give_f (nI (m + i)) (nI lim) (0 : Int32) (nI bAt) (-1 : Int32) (ckN c b i) out (nI b)) (fun u17 => some (Sum.inl (u17.1, nI i + (1 : Int32), u17.2.1, u17.2.2.1, u17.2.2.2.1, u17.2.2.2.2))))) = _
          rw [fine_0, bd_s, if_neg (show ¬ (1 : Int32) = 0 by decide), nI_1]
        rw [hS]
        rcases Nat.lt_or_ge (m + i) lim with h2 | h2
        · rw [give_m hlim h2, bd_s]
          dsimp only
          rw [ckN_s]
          refine Or.inl ⟨_, rfl, Or.inl ⟨i + 1, upd out (m + i) (nb b), rfl, h1, h2, ?_⟩, ?_⟩
          · have := OB_add (b := b) hO
            rw [fl_fl] at this
            exact this
          · show 1000 - (nI (i + 1)).toNatClampNeg < 1000 - (nI i).toNatClampNeg
            rw [nI_clamp (by omega), nI_clamp (by omega)]
            omega
        · rw [show m + i = lim by omega, give_me, bd_s]
          refine Or.inl ⟨_, rfl, Or.inr ⟨ckN c b i, i + 1, out, nI lim, rfl, by omega, by omega⟩, ?_⟩
          show 1000 - (nI (i + 1)).toNatClampNeg < 1000 - (nI i).toNatClampNeg
          rw [nI_clamp (by omega), nI_clamp (by omega)]
          omega
      · have hit : i = t := by omega
        subst hit
        refine Or.inr ⟨(ckN c b i, (0 : Int32), (-1 : Int32), out, nI (m + i)), ?_, fun _ => ⟨rfl, rfl, rfl, rfl, hO⟩, fun q => absurd hmi q⟩
        unfold Model_expand_L73
        rw [if_pos (nI_le (Nat.le_refl _) (by omega))]
    · refine Or.inr ⟨(a1, nI 12, nI bAt, out, ct), ?_, fun q => absurd q hno, fun _ => ⟨rfl, rfl⟩⟩
      show (if nI t ≤ nI i then some (Sum.inr (a1, nI 12, nI bAt, out, ct)) else bd (Model_isFine_f (nI 12)) (fun u15 => (if u15 = 0 then some (Sum.inr (a1, nI 12, nI bAt, out, ct)) else _))) = _
      by_cases h1 : nI t ≤ nI i
      · rw [if_pos h1]
      · rw [if_neg h1, fine_n (by decide), bd_s, if_pos rfl]
  obtain ⟨⟨c2, flt, pl, out2, ct2⟩, e1, h1, h2⟩ := l1
  exact ⟨c2, flt, pl, out2, ct2, e1, h1, h2⟩
noncomputable def exE (r : (Nat × Nat) ⊕ (Nat × Int32 × Nat × (Nat → Nat))) (bAt : Nat) : (Nat × Nat) ⊕ (Int32 × Nat × (Nat → Nat)) := Sum.elim (fun e => Sum.inl e) (fun v => if v.1 = 4 then Sum.inl (11, bAt) else Sum.inr v.2) r
abbrev okX (r : (Nat × Nat) ⊕ (Int32 × Nat × (Nat → Nat))) (cc flt pl : Int32) (out : Nat → Int32) (ct : Int32) : Prop := (∀ e, r = Sum.inl e → flt = nI e.1 ∧ pl = nI e.2 ∧ 0 < e.1 ∧ e.1 < 16) ∧ ∀ v, r = Sum.inr v → cc = v.1 ^^^ (-1 : Int32) ∧ flt = 0 ∧ pl = (-1 : Int32) ∧ ct = nI v.2.1 ∧ OB v.2.1 out v.2.2
theorem okX_e {e p : Nat} {cc ct : Int32} {out : Nat → Int32} (h1 : 0 < e) (h2 : e < 16) : okX (Sum.inl (e, p)) cc (nI e) (nI p) out ct := ⟨fun e2 h => (by cases h; exact ⟨rfl, rfl, h1, h2⟩), fun v h => (by cases h)⟩
theorem okX_r {m : Nat} {c : Int32} {w : Nat → Nat} {out : Nat → Int32} (h : OB m out w) : okX (Sum.inr (c, m, w)) (c ^^^ (-1 : Int32)) (0 : Int32) (-1 : Int32) out (nI m) := ⟨fun e h2 => (by cases h2), fun v h2 => (by cases h2; exact ⟨rfl, rfl, rfl, rfl, h⟩)⟩
theorem expand_m {R : Nat → Nat} {n lim bAt : Nat} {O rows : Nat → Int32} (hn : n ≤ 2250) (hlim : lim ≤ 60000) (hla : ∀ j, j < n → rows j = nI (R j) ∧ R j < 256) (hO : ∀ q, q < n → O q = nI (NX R n q) ∧ NX R n q < n) :
    ∀ (f a e bf : Nat) (c : Int32) (m : Nat) (w : Nat → Nat) (i : Nat) (bef : Int32) (out : Nat → Int32) (z : Nat), f + i = n → a < n → e ≤ 4 → (e = 0 → bef = (-1 : Int32)) → (0 < e → bef = nI bf) → bf < 256 → m ≤ lim → OB m out w → f + 1 < z →
    ∃ cc flt pl out2 ct2, bd (lpF (Model_expand_L14 (nI n) O rows (nI lim) (nI bAt)) z (c, nI a, nI e, bef, nI i, (0 : Int32), (-1 : Int32), out, nI m)) (fun v3 => bd (Model_isFine_f v3.2.2.1) (fun u4 => (if u4 = 0 then Model_expand_J168 v3.1 v3.2.2.1 v3.2.2.2.1 v3.2.2.2.2.1 v3.2.2.2.2.2 else (if v3.2.1 = (4 : Int32) then bd (Model_stop_f v3.2.2.1 (11 : Int32) (nI bAt) v3.2.2.2.1) (fun u7 => Model_expand_J168 v3.1 u7.2.1 u7.2.2 v3.2.2.2.2.1 v3.2.2.2.2.2) else Model_expand_J168 v3.1 v3.2.2.1 v3.2.2.2.1 v3.2.2.2.2.1 v3.2.2.2.2.2)))) = some (cc, flt, pl, out2, ct2) ∧ okX (exE (exN R n lim bAt f a e bf c m w) bAt) cc flt pl out2 ct2 := by
  have hstop : ∀ (z : Nat) (a1 a2 a3 a4 a5 fl p : Int32) (a8 : Nat → Int32) (a9 : Int32), ¬ fl = 0 → 0 < z → lpF (Model_expand_L14 (nI n) O rows (nI lim) (nI bAt)) z (a1, a2, a3, a4, a5, fl, p, a8, a9) = some (a1, a3, fl, p, a8, a9) := by
    intro z a1 a2 a3 a4 a5 fl p a8 a9 hfl hz
    obtain ⟨z, rfl⟩ : ∃ z2, z = z2 + 1 := ⟨z - 1, by omega⟩
    have hb : Model_expand_L14 (nI n) O rows (nI lim) (nI bAt) (a1, a2, a3, a4, a5, fl, p, a8, a9) = some (Sum.inr (a1, a3, fl, p, a8, a9)) := by
      show (if nI n ≤ a5 then some (Sum.inr (a1, a3, fl, p, a8, a9)) else bd (Model_isFine_f fl) (fun u19 => (if u19 = 0 then some (Sum.inr (a1, a3, fl, p, a8, a9)) else _))) = _
      by_cases h : nI n ≤ a5
      · rw [if_pos h]
      · rw [if_neg h, fine_n hfl, bd_s, if_pos rfl]
    rw [lpF_s, hb]
    rfl
  have hfail : ∀ (z : Nat) (a1 a2 a3 a4 a5 : Int32) (e : Nat) (a8 : Nat → Int32) (a9 : Int32), 0 < e → e < 16 → 0 < z → ∃ cc flt pl out2 ct2, bd (lpF (Model_expand_L14 (nI n) O rows (nI lim) (nI bAt)) z (a1, a2, a3, a4, a5, nI e, nI bAt, a8, a9)) (fun v3 => bd (Model_isFine_f v3.2.2.1) (fun u4 => (if u4 = 0 then Model_expand_J168 v3.1 v3.2.2.1 v3.2.2.2.1 v3.2.2.2.2.1 v3.2.2.2.2.2 else (if v3.2.1 = (4 : Int32) then bd (Model_stop_f v3.2.2.1 (11 : Int32) (nI bAt) v3.2.2.2.1) (fun u7 => Model_expand_J168 v3.1 u7.2.1 u7.2.2 v3.2.2.2.2.1 v3.2.2.2.2.2) else Model_expand_J168 v3.1 v3.2.2.1 v3.2.2.2.1 v3.2.2.2.2.1 v3.2.2.2.2.2)))) = some (cc, flt, pl, out2, ct2) ∧ okX (Sum.inl (e, bAt)) cc flt pl out2 ct2 := by
    intro z a1 a2 a3 a4 a5 e a8 a9 he1 he2 hz
    have hne : ¬ nI e = 0 := nI_ne0 he1 (by omega)
    refine ⟨a1 ^^^ (-1 : Int32), nI e, nI bAt, a8, a9, ?_, okX_e he1 he2⟩
    rw [hstop z _ _ _ _ _ _ _ _ _ hne hz, bd_s]
    show bd (Model_isFine_f (nI e)) (fun u4 => (if u4 = 0 then Model_expand_J168 a1 (nI e) (nI bAt) a8 a9 else (if a3 = (4 : Int32) then bd (Model_stop_f (nI e) (11 : Int32) (nI bAt) (nI bAt)) (fun u7 => Model_expand_J168 a1 u7.2.1 u7.2.2 a8 a9) else Model_expand_J168 a1 (nI e) (nI bAt) a8 a9))) = _
    rw [fine_n hne, bd_s, if_pos rfl]
    rfl
  intro f
  induction f with
  | zero =>
    intro a e bf c m w i bef out z hfi ha he hbe0 hbef hbf hm hO2 hz
    obtain ⟨z, rfl⟩ : ∃ z2, z = z2 + 1 := ⟨z - 1, by omega⟩
    have hb : Model_expand_L14 (nI n) O rows (nI lim) (nI bAt) (c, nI a, nI e, bef, nI i, (0 : Int32), (-1 : Int32), out, nI m) = some (Sum.inr (c, nI e, (0 : Int32), (-1 : Int32), out, nI m)) := by
      show (if nI n ≤ nI i then _ else _) = _
      rw [if_pos (nI_le (by omega) (by omega))]
    rw [lpF_s, hb]
    show ∃ cc flt pl out2 ct2, bd (Model_isFine_f (0 : Int32)) (fun u4 => (if u4 = 0 then Model_expand_J168 c (0 : Int32) (-1 : Int32) out (nI m) else (if nI e = (4 : Int32) then bd (Model_stop_f (0 : Int32) (11 : Int32) (nI bAt) (-1 : Int32)) (fun u7 => Model_expand_J168 c u7.2.1 u7.2.2 out (nI m)) else Model_expand_J168 c (0 : Int32) (-1 : Int32) out (nI m)))) = some (cc, flt, pl, out2, ct2) ∧ okX (if e = 4 then Sum.inl (11, bAt) else Sum.inr (c, m, w)) cc flt pl out2 ct2
    rw [fine_0, bd_s, if_neg (show ¬ (1 : Int32) = 0 by decide)]
    by_cases h4 : e = 4
    · rw [if_pos (show nI e = (4 : Int32) by rw [h4]; rfl), if_pos h4, stop_0, bd_s]
      exact ⟨_, _, _, _, _, rfl, okX_e (by omega) (by omega)⟩
    · rw [if_neg (show ¬ nI e = (4 : Int32) from fun q => h4 ((nI_eq (a := e) (b := 4) (by omega) (by omega)).mp q)), if_neg h4]
      exact ⟨_, _, _, _, _, rfl, okX_r hO2⟩
  | succ f ih =>
    intro a e bf c m w i bef out z hfi ha he hbe0 hbef hbf hm hO2 hz
    obtain ⟨z, rfl⟩ : ∃ z2, z = z2 + 1 := ⟨z - 1, by omega⟩
    obtain ⟨ho1, ho2⟩ := hO a ha
    obtain ⟨hl1, hl2⟩ := hla _ ho2
    rw [lpF_s, exN]
    generalize NX R n a = a2 at *
    have hL : Model_expand_L14 (nI n) O rows (nI lim) (nI bAt) (c, nI a, nI e, bef, nI i, (0 : Int32), (-1 : Int32), out, nI m) = (if nI e = (4 : Int32) then (if nI (R a2) ≤ (251 : Int32) then Model_expand_J70 (nI lim) (nI bAt) (c, nI a, nI e, bef, nI i, (0 : Int32), (-1 : Int32), out, nI m) (nI a2) (nI (R a2)) (0 : Int32) (-1 : Int32) else bd (Model_stop_f (0 : Int32) (11 : Int32) (nI bAt) (-1 : Int32)) (fun u26 => Model_expand_J70 (nI lim) (nI bAt) (c, nI a, nI e, bef, nI i, (0 : Int32), (-1 : Int32), out, nI m) (nI a2) (nI (R a2)) u26.2.1 u26.2.2)) else (if nI (R a2) = bef then Model_expand_J126 (c, nI a, nI e, bef, nI i, (0 : Int32), (-1 : Int32), out, nI m) (nI lim) (nI bAt) (nI a2) (nI (R a2)) (nI e + (1 : Int32)) else Model_expand_J126 (c, nI a, nI e, bef, nI i, (0 : Int32), (-1 : Int32), out, nI m) (nI lim) (nI bAt) (nI a2) (nI (R a2)) (1 : Int32))) := by
      show (if nI n ≤ nI i then _ else bd (Model_isFine_f (0 : Int32)) (fun u19 => (if u19 = 0 then _ else gd (ix (nI a) 2250) (gd (ix (O (nI a).toNatClampNeg) 2250) (if nI e = (4 : Int32) then (if rows (O (nI a).toNatClampNeg).toNatClampNeg ≤ (251 : Int32) then Model_expand_J70 (nI lim) (nI bAt) (c, nI a, nI e, bef, nI i, (0 : Int32), (-1 : Int32), out, nI m) (O (nI a).toNatClampNeg) (rows (O (nI a).toNatClampNeg).toNatClampNeg) (0 : Int32) (-1 : Int32) else bd (Model_stop_f (0 : Int32) (11 : Int32) (nI bAt) (-1 : Int32)) (fun u26 => Model_expand_J70 (nI lim) (nI bAt) (c, nI a, nI e, bef, nI i, (0 : Int32), (-1 : Int32), out, nI m) (O (nI a).toNatClampNeg) (rows (O (nI a).toNatClampNeg).toNatClampNeg) u26.2.1 u26.2.2)) else (if rows (O (nI a).toNatClampNeg).toNatClampNeg = bef then Model_expand_J126 (c, nI a, nI e, bef, nI i, (0 : Int32), (-1 : Int32), out, nI m) (nI lim) (nI bAt) (O (nI a).toNatClampNeg) (rows (O (nI a).toNatClampNeg).toNatClampNeg) (nI e + (1 : Int32)) else Model_expand_J126 (c, nI a, nI e, bef, nI i, (0 : Int32), (-1 : Int32), out, nI m) (nI lim) (nI bAt) (O (nI a).toNatClampNeg) (rows (O (nI a).toNatClampNeg).toNatClampNeg) (1 : Int32))))))) = _
      rw [if_neg (nI_ge (by omega) (by omega)), fine_0, bd_s, if_neg (show ¬ (1 : Int32) = 0 by decide), nI_clamp (show a < 2 ^ 31 by omega), ho1, nI_clamp (show a2 < 2 ^ 31 by omega), hl1, ixN (show a < 2250 by omega) (by omega), ixN (show a2 < 2250 by omega) (by omega), gd_t, gd_t]
    rw [hL]
    by_cases h4 : e = 4
    · rw [if_pos (show nI e = (4 : Int32) by rw [h4]; rfl), if_pos h4]
      by_cases h5 : R a2 ≤ 251
      · rw [if_pos (show nI (R a2) ≤ (251 : Int32) from nI_le (a := R a2) (b := 251) h5 (by omega)), if_pos h5]
        obtain ⟨c2, flt, pl, out2, ct2, e1, g1, g2⟩ := many_m (b := bf) (t := R a2) (bAt := bAt) (c := c) (s1 := (c, nI a, nI e, bef, nI i, (0 : Int32), (-1 : Int32), out, nI m)) (hbef (by omega)) hlim hm (by omega) hO2
        unfold Model_expand_J70 Model_expand_J141
        show ∃ cc flt pl out2 ct2, bd (bd (bd (lpF (Model_expand_L73 (nI (R a2)) (nI lim) (nI bAt) (c, nI a, nI e, bef, nI i, (0 : Int32), (-1 : Int32), out, nI m)) gas (c, (0 : Int32), (0 : Int32), (-1 : Int32), out, nI m)) (fun v12 => some (Sum.inl (v12.1, nI a2, (0 : Int32), (-1 : Int32), nI i + (1 : Int32), v12.2.1, v12.2.2.1, v12.2.2.2.1, v12.2.2.2.2)))) _) _ = _ ∧ _
        rw [e1, bd_s, nI_1]
        by_cases h6 : m + R a2 ≤ lim
        · obtain ⟨q1, q2, q3, q4, q5⟩ := g1 h6
          rw [if_pos h6, q1, q2, q3, q4]
          exact ih a2 0 bf (ckN c bf (R a2)) (m + R a2) (flN w m (m + R a2) bf) (i + 1) (-1 : Int32) out2 z (by omega) ho2 (by omega) (fun _ => rfl) (fun q => absurd q (Nat.lt_irrefl _)) hbf h6 q5 (by omega)
        · obtain ⟨q1, q2⟩ := g2 h6
          rw [if_neg h6, q1, q2]
          exact hfail z _ _ _ _ _ 12 _ _ (by omega) (by omega) (by omega)
      · rw [if_neg (show ¬ nI (R a2) ≤ (251 : Int32) from nI_ge (a := 251) (b := R a2) (by omega) (by omega)), if_neg h5, stop_0, bd_s]
        have e3 : lpF (Model_expand_L73 (nI (R a2)) (nI lim) (nI bAt) (c, nI a, nI e, bef, nI i, (0 : Int32), (-1 : Int32), out, nI m)) gas (c, (0 : Int32), (11 : Int32), nI bAt, out, nI m) = some (c, (11 : Int32), nI bAt, out, nI m) := by
          obtain ⟨g3, hg3⟩ : ∃ g3, gas = g3 + 1 := ⟨gas - 1, by have := gas_le; omega⟩
          have hb : Model_expand_L73 (nI (R a2)) (nI lim) (nI bAt) (c, nI a, nI e, bef, nI i, (0 : Int32), (-1 : Int32), out, nI m) (c, (0 : Int32), (11 : Int32), nI bAt, out, nI m) = some (Sum.inr (c, (11 : Int32), nI bAt, out, nI m)) := by
            show (if nI (R a2) ≤ nI 0 then _ else bd (Model_isFine_f (11 : Int32)) (fun u15 => (if u15 = 0 then some (Sum.inr (c, (11 : Int32), nI bAt, out, nI m)) else _))) = _
            rw [if_neg (nI_ge (by omega) (by omega)), fine_n (by decide), bd_s, if_pos rfl]
          rw [hg3, lpF_s, hb]
          rfl
        unfold Model_expand_J70 Model_expand_J141
        show ∃ cc flt pl out2 ct2, bd (bd (bd (lpF (Model_expand_L73 (nI (R a2)) (nI lim) (nI bAt) (c, nI a, nI e, bef, nI i, (0 : Int32), (-1 : Int32), out, nI m)) gas (c, (0 : Int32), (11 : Int32), nI bAt, out, nI m)) (fun v12 => some (Sum.inl (v12.1, nI a2, (0 : Int32), (-1 : Int32), nI i + (1 : Int32), v12.2.1, v12.2.2.1, v12.2.2.2.1, v12.2.2.2.2)))) _) _ = _ ∧ _
        rw [e3, bd_s]
        exact hfail z _ _ _ _ _ 11 _ _ (by omega) (by omega) (by omega)
    · rw [if_neg (show ¬ nI e = (4 : Int32) from fun q => h4 ((nI_eq (a := e) (b := 4) (by omega) (by omega)).mp q)), if_neg h4]
      have hne : ∀ j, j < 256 → ¬ nI j = (-1 : Int32) := fun j hj q3 => by
        have h5 := congrArg Int32.toInt q3
        rw [nI_toInt (by omega)] at h5
        have h6 : ((-1 : Int32)).toInt = -1 := by decide
        omega
      have heq : (if nI (R a2) = bef then Model_expand_J126 (c, nI a, nI e, bef, nI i, (0 : Int32), (-1 : Int32), out, nI m) (nI lim) (nI bAt) (nI a2) (nI (R a2)) (nI e + (1 : Int32)) else Model_expand_J126 (c, nI a, nI e, bef, nI i, (0 : Int32), (-1 : Int32), out, nI m) (nI lim) (nI bAt) (nI a2) (nI (R a2)) (1 : Int32)) = Model_expand_J126 (c, nI a, nI e, bef, nI i, (0 : Int32), (-1 : Int32), out, nI m) (nI lim) (nI bAt) (nI a2) (nI (R a2)) (nI (if e ≠ 0 ∧ R a2 = bf then e + 1 else 1)) := by
        by_cases h9 : e = 0
        · rw [if_neg (show ¬ nI (R a2) = bef by rw [hbe0 h9]; exact hne _ hl2), if_neg (fun q => q.1 h9)]
          rfl
        · rw [hbef (by omega)]
          by_cases h10 : R a2 = bf
          · rw [if_pos (by rw [h10]), if_pos ⟨h9, h10⟩, nI_1]
          · rw [if_neg (show ¬ nI (R a2) = nI bf by rw [nI_eq (by omega) (by omega)]; exact h10), if_neg (fun q => h10 q.2)]
            rfl
      rw [heq]
      have he2 : (if e ≠ 0 ∧ R a2 = bf then e + 1 else 1) ≤ 4 ∧ 0 < (if e ≠ 0 ∧ R a2 = bf then e + 1 else 1) := by
        by_cases h10 : e ≠ 0 ∧ R a2 = bf
        · rw [if_pos h10]; omega
        · rw [if_neg h10]; omega
      generalize (if e ≠ 0 ∧ R a2 = bf then e + 1 else 1) = e2 at *
      unfold Model_expand_J126 Model_expand_J141
      show ∃ cc flt pl out2 ct2, bd (bd (bd (Model_give_f (nI m) (nI lim) (0 : Int32) (nI bAt) (-1 : Int32) c out (nI (R a2))) (fun u9 => some (Sum.inl (u9.1, nI a2, nI e2, nI (R a2), nI i + (1 : Int32), u9.2.1, u9.2.2.1, u9.2.2.2.1, u9.2.2.2.2)))) _) _ = _ ∧ _
      by_cases h6 : m + 1 ≤ lim
      · rw [give_m hlim (by omega), bd_s, nI_1, if_pos h6, ckN_1]
        dsimp only
        generalize chk c (R a2) = c9
        exact ih a2 e2 (R a2) c9 (m + 1) (flN w m (m + 1) (R a2)) (i + 1) (nI (R a2)) (upd out m (nb (R a2))) z (by omega) ho2 he2.1 (fun q => by omega) (fun _ => rfl) hl2 h6 (OB_add hO2) (by omega)
      · rw [show m = lim by omega, give_me, bd_s, if_neg (by omega)]
        exact hfail z _ _ _ _ _ 12 _ _ (by omega) (by omega) (by omega)
