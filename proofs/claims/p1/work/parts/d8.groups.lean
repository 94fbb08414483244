/-! UNPACKING: how many tables and groups; which group has which table -/
noncomputable def rcN (E : Nat) (x : Nat → Bool) (q : Nat) : (Nat × Nat) ⊕ (Nat × Nat) := if q + 3 ≤ E then (if bvN x q 3 < 2 ∨ 6 < bvN x q 3 then Sum.inl (5, q) else if q + 18 ≤ E then (if bvN x (q + 3) 15 = 0 then Sum.inl (5, q + 3) else Sum.inr (bvN x q 3, bvN x (q + 3) 15)) else Sum.inl (2, E)) else Sum.inl (2, E)
noncomputable def onN (E : Nat) (x : Nat → Bool) (tc q0 : Nat) : Nat → Nat → (Nat × Nat) ⊕ (Nat × Nat)
  | 0, _ => Sum.inl (5, q0)
  | r + 1, q => if q < E then (if x q = true then onN E x tc q0 r (q + 1) else Sum.inr (tc - (r + 1), q + 1)) else Sum.inl (2, E)
noncomputable def grN (E : Nat) (x : Nat → Bool) (tc : Nat) : Nat → Nat → Nat → (Nat → Nat) → (Nat → Nat) → (Nat × Nat) ⊕ (Nat × (Nat → Nat))
  | 0, _, q, _, T => Sum.inr (q, T)
  | f + 1, i, q, g, T => Sum.elim (fun e => Sum.inl e) (fun v => grN E x tc f (i + 1) v.2 (mtfN g v.1) (updN T i (g v.1))) (onN E x tc q tc q)
theorem onN_r {E : Nat} {x : Nat → Bool} {tc q0 : Nat} : ∀ {r q o q2 : Nat}, r ≤ tc → onN E x tc q0 r q = Sum.inr (o, q2) → o < tc ∧ q2 ≤ E := by
  intro r
  induction r with
  | zero => intro q o q2 _ h; cases h
  | succ r ih =>
    intro q o q2 hr h
    rw [onN] at h
    by_cases h1 : q < E
    · rw [if_pos h1] at h
      by_cases h2 : x q = true
      · rw [if_pos h2] at h
        exact ih (by omega) h
      · rw [if_neg h2] at h
        have h3 := Sum.inr.inj h
        have e1 : tc - (r + 1) = o := congrArg Prod.fst h3
        have e2 : q + 1 = q2 := congrArg Prod.snd h3
        omega
    · rw [if_neg h1] at h
      cases h
theorem onN_e {E : Nat} {x : Nat → Bool} {tc q0 : Nat} : ∀ {r q e p : Nat}, onN E x tc q0 r q = Sum.inl (e, p) → (e = 2 ∧ p = E) ∨ (e = 5 ∧ p = q0) := by
  intro r
  induction r with
  | zero =>
    intro q e p h
    have h3 := Sum.inl.inj h
    exact Or.inr ⟨(congrArg Prod.fst h3).symm, (congrArg Prod.snd h3).symm⟩
  | succ r ih =>
    intro q e p h
    rw [onN] at h
    by_cases h1 : q < E
    · rw [if_pos h1] at h
      by_cases h2 : x q = true
      · rw [if_pos h2] at h
        exact ih h
      · rw [if_neg h2] at h
        cases h
    · rw [if_neg h1] at h
      have h3 := Sum.inl.inj h
      exact Or.inl ⟨(congrArg Prod.fst h3).symm, (congrArg Prod.snd h3).symm⟩
theorem mtfN_lt {g : Nat → Nat} {tc o b : Nat} (ho : o < tc) (h : ∀ j, j < tc → g j < b) : ∀ j, j < tc → mtfN g o j < b := by
  intro j hj
  unfold mtfN
  by_cases h0 : j = 0
  · rw [if_pos h0]; exact h o ho
  · rw [if_neg h0]
    by_cases h1 : j ≤ o
    · rw [if_pos h1]; exact h _ (by omega)
    · rw [if_neg h1]; exact h _ hj
theorem grN_b {E : Nat} {x : Nat → Bool} {tc : Nat} : ∀ (f i q : Nat) (g T : Nat → Nat) (q2 : Nat) (T2 : Nat → Nat), q ≤ E → (∀ j, j < tc → g j < tc) → (∀ j, j < i → T j < tc) → grN E x tc f i q g T = Sum.inr (q2, T2) → q2 ≤ E ∧ ∀ j, j < i + f → T2 j < tc := by
  intro f
  induction f with
  | zero =>
    intro i q g T q2 T2 hq _ hT h
    have h3 := Sum.inr.inj h
    have e1 : q = q2 := congrArg Prod.fst h3
    have e2 : T = T2 := congrArg Prod.snd h3
    rw [← e1, ← e2]
    exact ⟨hq, hT⟩
  | succ f ih =>
    intro i q g T q2 T2 hq hg hT h
    rw [grN] at h
    cases ho : onN E x tc q tc q with
    | inl e => rw [ho] at h; cases h
    | inr v =>
      obtain ⟨o, q3⟩ := v
      rw [ho] at h
      have h : grN E x tc f (i + 1) q3 (mtfN g o) (updN T i (g o)) = Sum.inr (q2, T2) := h
      obtain ⟨b1, b2⟩ := onN_r (Nat.le_refl _) ho
      obtain ⟨a1, a2⟩ := ih _ _ _ _ _ _ b2 (mtfN_lt b1 hg) (fun j hj => by
        by_cases hji : j = i
        · rw [hji, updN_s]; exact hg o b1
        · rw [updN_n _ hji]; exact hT j (by omega)) h
      exact ⟨a1, fun j hj => a2 j (by omega)⟩
theorem rcN_b {E q tc G : Nat} {x : Nat → Bool} (h : rcN E x q = Sum.inr (tc, G)) : 2 ≤ tc ∧ tc ≤ 6 ∧ 0 < G ∧ G < 32768 ∧ q + 18 ≤ E := by
  unfold rcN at h
  by_cases h1 : q + 3 ≤ E
  · rw [if_pos h1] at h
    by_cases h2 : bvN x q 3 < 2 ∨ 6 < bvN x q 3
    · rw [if_pos h2] at h; cases h
    · rw [if_neg h2] at h
      by_cases h3 : q + 18 ≤ E
      · rw [if_pos h3] at h
        by_cases h4 : bvN x (q + 3) 15 = 0
        · rw [if_pos h4] at h; cases h
        · rw [if_neg h4] at h
          have h5 := Sum.inr.inj h
          have e1 : bvN x q 3 = tc := congrArg Prod.fst h5
          have e2 : bvN x (q + 3) 15 = G := congrArg Prod.snd h5
          have := bvN_lt x (q + 3) 15
          omega
      · rw [if_neg h3] at h; cases h
  · rw [if_neg h1] at h; cases h
theorem counts_c {tp : Nat → Nat} {F nb q : Nat} {f : Nat → Int32} {tc0 gc0 : Int32} (hF : F ≤ nb) (hF2 : F ≤ 10240) (hnb : nb < 1000000) (hf : ∀ j, j < F → f j = nI (tp j)) (hq : q ≤ 8 * F) : ∃ tk at2 tc gc, Unpacker_readCounts_f (nI (8 * F)) (nI F) nb f (0 : Int32) (-1 : Int32) (nI q) tc0 gc0 = some (Sum.elim (fun e => ((0 : Int32), tk, nI e.1, nI e.2, at2, tc, gc)) (fun v => ((1 : Int32), tk, (0 : Int32), (-1 : Int32), nI (q + 18), nI v.1, nI v.2)) (rcN (8 * F) (xb tp) q)) := by
  unfold Unpacker_readCounts_f rcN
  by_cases h1 : q + 3 ≤ 8 * F
  · rw [show BitReader_take_f (3 : Int32) (nI (8 * F)) (nI F) nb f (0 : Int32) (-1 : Int32) (nI q) = _ from take_c (k := 3) hF hnb hf (by omega) h1, bd_s, if_pos h1, bvI_N _ _ 3 (by omega)]
    have hb3 := bvN_lt (xb tp) q 3
    show ∃ tk at2 tc gc, (if (1 : Int32) = 0 then _ else (if nI (bvN (xb tp) q 3) < nI 2 then some ((0 : Int32), nI (bvN (xb tp) q 3), nI 5, nI q, nI (q + 3), nI (bvN (xb tp) q 3), gc0) else (if nI (bvN (xb tp) q 3) ≤ nI 6 then bd (BitReader_take_f (nI 15) (nI (8 * F)) (nI F) nb f (0 : Int32) (-1 : Int32) (nI (q + 3))) (fun u8 => (if u8.1 = 0 then some ((0 : Int32), u8.2.1, u8.2.2.1, u8.2.2.2.1, u8.2.2.2.2, nI (bvN (xb tp) q 3), gc0) else (if 0 < u8.2.1 then some ((1 : Int32), u8.2.1, u8.2.2.1, u8.2.2.2.1, u8.2.2.2.2, nI (bvN (xb tp) q 3), u8.2.1) else some ((0 : Int32), u8.2.1, nI 5, nI (q + 3), u8.2.2.2.2, nI (bvN (xb tp) q 3), u8.2.1)))) else some ((0 : Int32), nI (bvN (xb tp) q 3), nI 5, nI q, nI (q + 3), nI (bvN (xb tp) q 3), gc0)))) = _
    rw [if_neg (show ¬ (1 : Int32) = 0 by decide)]
    by_cases h2 : bvN (xb tp) q 3 < 2
    · rw [if_pos (nI_lt h2 (by omega)), if_pos (Or.inl h2)]
      exact ⟨_, _, _, _, rfl⟩
    · rw [if_neg (nI_nlt (by omega) (by omega))]
      by_cases h3 : 6 < bvN (xb tp) q 3
      · rw [if_neg (nI_ge h3 (by omega)), if_pos (Or.inr h3)]
        exact ⟨_, _, _, _, rfl⟩
      · rw [if_pos (nI_le (by omega) (by omega)), if_neg (show ¬ (bvN (xb tp) q 3 < 2 ∨ 6 < bvN (xb tp) q 3) by omega)]
        by_cases h4 : q + 18 ≤ 8 * F
        · rw [take_c (k := 15) hF hnb hf (by omega) (show q + 3 + 15 ≤ 8 * F by omega), bd_s, if_pos h4, bvI_N _ _ 15 (by omega)]
          have hb15 := bvN_lt (xb tp) (q + 3) 15
          show ∃ tk at2 tc gc, (if (1 : Int32) = 0 then _ else (if nI 0 < nI (bvN (xb tp) (q + 3) 15) then some ((1 : Int32), nI (bvN (xb tp) (q + 3) 15), (0 : Int32), (-1 : Int32), nI (q + 3 + 15), nI (bvN (xb tp) q 3), nI (bvN (xb tp) (q + 3) 15)) else some ((0 : Int32), nI (bvN (xb tp) (q + 3) 15), nI 5, nI (q + 3), nI (q + 3 + 15), nI (bvN (xb tp) q 3), nI (bvN (xb tp) (q + 3) 15)))) = _
          rw [if_neg (show ¬ (1 : Int32) = 0 by decide)]
          by_cases h5 : bvN (xb tp) (q + 3) 15 = 0
          · rw [if_neg (nI_nlt (by omega) (by omega)), if_pos h5]
            exact ⟨_, _, _, _, rfl⟩
          · rw [if_pos (nI_lt (by omega) (by omega)), if_neg h5]
            exact ⟨nI (bvN (xb tp) (q + 3) 15), (0 : Int32), (0 : Int32), (0 : Int32), rfl⟩
        · obtain ⟨tk, et⟩ := take_ce (k := 15) (flt := (0 : Int32)) (fa := (-1 : Int32)) hF hnb hf (by omega) (show q + 3 ≤ 8 * F from h1) (show 8 * F < q + 3 + 15 by omega)
          rw [et, bd_s, if_neg h4]
          exact ⟨_, _, _, _, rfl⟩
  · obtain ⟨tk, et⟩ := take_ce (k := 3) (flt := (0 : Int32)) (fa := (-1 : Int32)) hF hnb hf (by omega) hq (show 8 * F < q + 3 by omega)
    rw [show BitReader_take_f (3 : Int32) (nI (8 * F)) (nI F) nb f (0 : Int32) (-1 : Int32) (nI q) = _ from et, bd_s, if_neg h1]
    exact ⟨tk, _, _, _, rfl⟩
noncomputable def bq (F : Nat) (tp : Nat → Nat) (q : Nat) : Int32 × Int32 × Int32 × Int32 := if q < 8 * F then (nI (xb tp q).toNat, (0 : Int32), (-1 : Int32), nI (q + 1)) else ((-1 : Int32), nI 2, nI (8 * F), nI (8 * F))
theorem bit_q {tp : Nat → Nat} {F nb q : Nat} {f : Nat → Int32} (hF : F ≤ nb) (hF2 : F ≤ 10240) (hnb : nb < 1000000) (hf : ∀ j, j < F → f j = nI (tp j)) (hq : q ≤ 8 * F) : BitReader_bit_f (nI q) (nI (8 * F)) (nI F) nb f (0 : Int32) (-1 : Int32) = some (bq F tp q) := by
  unfold bq
  by_cases h : q < 8 * F
  · rw [if_pos h, bit_c hF hnb hf h]
  · rw [if_neg h, show q = 8 * F by omega, bit_ce (by omega)]
abbrev okG1 (E q0 : Nat) (r : (Nat × Nat) ⊕ (Nat × Nat)) (v : Int32 × Int32 × Int32 × Int32 × Int32) : Prop := (∀ e, r = Sum.inl e → (e = (2, E) ∧ v.2.1 = (-1 : Int32) ∧ v.2.2.1 = nI 2 ∧ v.2.2.2.1 = nI E) ∨ (e = (5, q0) ∧ v.2.1 = (1 : Int32))) ∧ ∀ w, r = Sum.inr w → v = (nI w.1, (0 : Int32), (0 : Int32), (-1 : Int32), nI w.2)
theorem ones_c {tp : Nat → Nat} {F nb tc q0 : Nat} {f : Nat → Int32} (hF : F ≤ nb) (hF2 : F ≤ 10240) (hnb : nb < 1000000) (hf : ∀ j, j < F → f j = nI (tp j)) (htc : tc ≤ 6) : ∀ (r z q : Nat), r + 1 ≤ tc → r < z → q ≤ 8 * F → ∃ v, lpF (Unpacker_readGroups_L40 (nI tc) (nI (8 * F)) (nI F) nb f) z (nI (tc - (r + 1)), (bq F tp q).1, (bq F tp q).2.1, (bq F tp q).2.2.1, (bq F tp q).2.2.2) = some v ∧ okG1 (8 * F) q0 (onN (8 * F) (xb tp) tc q0 (r + 1) q) v := by
  intro r
  induction r with
  | zero =>
    intro z q hr hz hq
    obtain ⟨z, rfl⟩ : ∃ z2, z = z2 + 1 := ⟨z - 1, by omega⟩
    rw [lpF_s, onN]
    unfold bq
    by_cases h : q < 8 * F
    · rw [if_pos h, if_pos h]
      cases hx : xb tp q with
      | true =>
        rw [if_pos (show true = true from rfl)]
        refine ⟨(nI (tc - 1), (1 : Int32), (0 : Int32), (-1 : Int32), nI (q + 1)), ?_, ⟨fun e he => Or.inr ⟨(Sum.inl.inj he).symm, rfl⟩, fun w hw => (by cases hw)⟩⟩
        show bd (if (1 : Int32) = (1 : Int32) then (if nI tc - nI 1 ≤ nI (tc - 1) then some (Sum.inr (nI (tc - 1), (1 : Int32), (0 : Int32), (-1 : Int32), nI (q + 1))) else _) else _) _ = _
        rw [if_pos rfl, pk_sub (show 1 ≤ tc by omega), if_pos (nI_le (Nat.le_refl _) (by omega))]
        rfl
      | false =>
        rw [if_neg Bool.noConfusion]
        refine ⟨(nI (tc - 1), (0 : Int32), (0 : Int32), (-1 : Int32), nI (q + 1)), ?_, ⟨fun e he => (by cases he), fun w hw => (by cases hw; rfl)⟩⟩
        show bd (if (0 : Int32) = (1 : Int32) then _ else some (Sum.inr (nI (tc - 1), (0 : Int32), (0 : Int32), (-1 : Int32), nI (q + 1)))) _ = _
        rw [if_neg (show ¬ (0 : Int32) = 1 by decide)]
        rfl
    · rw [if_neg h, if_neg h]
      refine ⟨(nI (tc - 1), (-1 : Int32), nI 2, nI (8 * F), nI (8 * F)), ?_, ⟨fun e he => Or.inl ⟨(Sum.inl.inj he).symm, rfl, rfl, rfl⟩, fun w hw => (by cases hw)⟩⟩
      show bd (if (-1 : Int32) = (1 : Int32) then _ else some (Sum.inr (nI (tc - 1), (-1 : Int32), nI 2, nI (8 * F), nI (8 * F)))) _ = _
      rw [if_neg (show ¬ (-1 : Int32) = 1 by decide)]
      rfl
  | succ r ih =>
    intro z q hr hz hq
    obtain ⟨z, rfl⟩ : ∃ z2, z = z2 + 1 := ⟨z - 1, by omega⟩
    rw [lpF_s, onN]
    unfold bq
    by_cases h : q < 8 * F
    · rw [if_pos h, if_pos h]
      cases hx : xb tp q with
      | true =>
        rw [if_pos (show true = true from rfl)]
        have hL : Unpacker_readGroups_L40 (nI tc) (nI (8 * F)) (nI F) nb f (nI (tc - (r + 1 + 1)), nI true.toNat, (0 : Int32), (-1 : Int32), nI (q + 1)) = some (Sum.inl (nI (tc - (r + 1)), (bq F tp (q + 1)).1, (bq F tp (q + 1)).2.1, (bq F tp (q + 1)).2.2.1, (bq F tp (q + 1)).2.2.2)) := by
          show (if (1 : Int32) = (1 : Int32) then (if nI tc - nI 1 ≤ nI (tc - (r + 1 + 1)) then _ else bd (BitReader_bit_f (nI (q + 1)) (nI (8 * F)) (nI F) nb f (0 : Int32) (-1 : Int32)) (fun u23 => some (Sum.inl (nI (tc - (r + 1 + 1)) + (1 : Int32), u23.1, u23.2.1, u23.2.2.1, u23.2.2.2)))) else _) = _
          rw [if_pos rfl, pk_sub (show 1 ≤ tc by omega), if_neg (nI_ge (by omega) (by omega)), bit_q hF hF2 hnb hf (by omega), bd_s, nI_1, show tc - (r + 1 + 1) + 1 = tc - (r + 1) by omega]
        rw [hL]
        exact ih z (q + 1) (by omega) (by omega) (by omega)
      | false =>
        rw [if_neg Bool.noConfusion]
        refine ⟨(nI (tc - (r + 1 + 1)), (0 : Int32), (0 : Int32), (-1 : Int32), nI (q + 1)), ?_, ⟨fun e he => (by cases he), fun w hw => (by cases hw; rfl)⟩⟩
        show bd (if (0 : Int32) = (1 : Int32) then _ else some (Sum.inr (nI (tc - (r + 1 + 1)), (0 : Int32), (0 : Int32), (-1 : Int32), nI (q + 1)))) _ = _
        rw [if_neg (show ¬ (0 : Int32) = 1 by decide)]
        rfl
    · rw [if_neg h, if_neg h]
      refine ⟨(nI (tc - (r + 1 + 1)), (-1 : Int32), nI 2, nI (8 * F), nI (8 * F)), ?_, ⟨fun e he => Or.inl ⟨(Sum.inl.inj he).symm, rfl, rfl, rfl⟩, fun w hw => (by cases hw)⟩⟩
      show bd (if (-1 : Int32) = (1 : Int32) then _ else some (Sum.inr (nI (tc - (r + 1 + 1)), (-1 : Int32), nI 2, nI (8 * F), nI (8 * F)))) _ = _
      rw [if_neg (show ¬ (-1 : Int32) = 1 by decide)]
      rfl
abbrev okG (G : Nat) (r : (Nat × Nat) ⊕ (Nat × (Nat → Nat))) (rt flt fa at' : Int32) (gt : Nat → Int32) : Prop := (∀ e, r = Sum.inl e → rt = 0 ∧ flt = nI e.1 ∧ fa = nI e.2) ∧ ∀ v, r = Sum.inr v → rt = 1 ∧ flt = 0 ∧ fa = (-1 : Int32) ∧ at' = nI v.1 ∧ ∀ j, j < 46 → j < G → gt j = nI (v.2 j)
theorem okG_e {G e p : Nat} {at' : Int32} {gt : Nat → Int32} : okG G (Sum.inl (e, p)) (0 : Int32) (nI e) (nI p) at' gt := ⟨fun e2 h => (by cases h; exact ⟨rfl, rfl, rfl⟩), fun v h => (by cases h)⟩
theorem okG_r {G q : Nat} {T : Nat → Nat} {gt : Nat → Int32} (h : ∀ j, j < 46 → j < G → gt j = nI (T j)) : okG G (Sum.inr (q, T)) (1 : Int32) (0 : Int32) (-1 : Int32) (nI q) gt := ⟨fun e h2 => (by cases h2), fun v h2 => (by cases h2; exact ⟨rfl, rfl, rfl, rfl, h⟩)⟩
theorem readGroups_c {tp : Nat → Nat} {F nb tc G q : Nat} {f mem gt : Nat → Int32} (hF : F ≤ nb) (hF2 : F ≤ 10240) (hnb : nb < 1000000) (hf : ∀ j, j < F → f j = nI (tp j)) (htc1 : 1 ≤ tc) (htc : tc ≤ 6) (hG : G < 32768) (hq : q ≤ 8 * F) :
    ∃ rt mem2 flt fa at2 gt2, Unpacker_readGroups_f (nI tc) mem (nI G) (nI (8 * F)) (nI F) nb f (0 : Int32) (-1 : Int32) (nI q) gt = some (rt, nI tc, mem2, flt, fa, at2, gt2) ∧ okG G (grN (8 * F) (xb tp) tc G 0 q (fun j => j) (fun _ => 0)) rt flt fa at2 gt2 := by
  have key : ∀ (u : Int32 × (Nat → Int32)), u.1 = nI tc → ∀ (r i z q : Nat) (g T : Nat → Nat) (mem gt : Nat → Int32), r + i = G → r < z → q ≤ 8 * F → RS tc mem g → (∀ j, j < 46 → j < i → gt j = nI (T j)) → ∃ rt mem2 flt fa at2 gt2, bd (lpF (Unpacker_readGroups_L13 (nI G) (nI (8 * F)) (nI F) nb f (nI tc) u) z (nI i, mem, (0 : Int32), (-1 : Int32), nI q, gt)) (fun u3 => (Sum.elim (fun v4 => some ((0 : Int32), u.1, v4.1, v4.2.1, v4.2.2.1, v4.2.2.2.1, v4.2.2.2.2)) (Sum.elim (fun v5 => bd (BitReader_fail_f (5 : Int32) v5.1) (fun u6 => gd (bl u6.1) (some (u6.1, u.1, v5.2.1, u6.2.1, u6.2.2, v5.2.2.2.2.1, v5.2.2.2.2.2)))) (fun v8 => some ((1 : Int32), u.1, v8.1, v8.2.1, v8.2.2.1, v8.2.2.2.1, v8.2.2.2.2)))) u3) = some (rt, nI tc, mem2, flt, fa, at2, gt2) ∧ okG G (grN (8 * F) (xb tp) tc r i q g T) rt flt fa at2 gt2 := by
    intro u hu r
    induction r with
    | zero =>
      intro i z q g T mem gt hri hz hq hm hgt
      obtain ⟨z, rfl⟩ : ∃ z2, z = z2 + 1 := ⟨z - 1, by omega⟩
      have hb : Unpacker_readGroups_L13 (nI G) (nI (8 * F)) (nI F) nb f (nI tc) u (nI i, mem, (0 : Int32), (-1 : Int32), nI q, gt) = some (Sum.inr (Sum.inr (Sum.inr (mem, (0 : Int32), (-1 : Int32), nI q, gt)))) := by
        show (if nI G ≤ nI i then _ else _) = _
        rw [if_pos (nI_le (by omega) (by omega))]
      rw [lpF_s, hb, grN]
      exact ⟨_, _, _, _, _, _, show some ((1 : Int32), u.1, mem, (0 : Int32), (-1 : Int32), nI q, gt) = _ by rw [hu], okG_r (fun j h1 h2 => hgt j h1 (by omega))⟩
    | succ r ih =>
      intro i z q g T mem gt hri hz hq hm hgt
      obtain ⟨z, rfl⟩ : ∃ z2, z = z2 + 1 := ⟨z - 1, by omega⟩
      rw [lpF_s, grN]
      obtain ⟨v, ev, hv1, hv2⟩ := ones_c (tp := tp) (q0 := q) hF hF2 hnb hf htc (tc - 1) gas q (by omega) (Nat.lt_of_lt_of_le (by omega) gas_le) hq
      rw [show tc - 1 + 1 = tc by omega, show tc - tc = 0 by omega] at ev
      rw [show tc - 1 + 1 = tc by omega] at hv1 hv2
      have hS : Unpacker_readGroups_L13 (nI G) (nI (8 * F)) (nI F) nb f (nI tc) u (nI i, mem, (0 : Int32), (-1 : Int32), nI q, gt) = (if v.2.1 = (-1 : Int32) then some (Sum.inr (Sum.inl (mem, v.2.2.1, v.2.2.2.1, v.2.2.2.2, gt))) else (if v.2.1 = (1 : Int32) then some (Sum.inr (Sum.inr (Sum.inl (nI q, mem, v.2.2.1, v.2.2.2.1, v.2.2.2.2, gt)))) else bd (FrontList_raiseAt_f v.1 mem u.1) (fun u17 => (if nI 46 ≤ nI i then some (Sum.inl (nI i + (1 : Int32), u17.2, v.2.2.1, v.2.2.2.1, v.2.2.2.2, gt)) else gd (ix (nI i) 46) (some (Sum.inl (nI i + (1 : Int32), u17.2, v.2.2.1, v.2.2.2.1, v.2.2.2.2, upd gt (nI i).toNatClampNeg u17.1))))))) := by
        show (if nI G ≤ nI i then _ else bd (BitReader_bit_f (nI q) (nI (8 * F)) (nI F) nb f (0 : Int32) (-1 : Int32)) (fun u11 => bd (lpF (Unpacker_readGroups_L40 (nI tc) (nI (8 * F)) (nI F) nb f) gas ((0 : Int32), u11.1, u11.2.1, u11.2.2.1, u11.2.2.2)) _)) = _
        rw [if_neg (nI_ge (by omega) (by omega)), bit_q hF hF2 hnb hf hq, bd_s, show lpF (Unpacker_readGroups_L40 (nI tc) (nI (8 * F)) (nI F) nb f) gas ((0 : Int32), (bq F tp q).1, (bq F tp q).2.1, (bq F tp q).2.2.1, (bq F tp q).2.2.2) = _ from ev, bd_s]
        rfl
      rw [hS]
      cases ho : onN (8 * F) (xb tp) tc q tc q with
      | inl e =>
        rcases hv1 e ho with ⟨h1, h2, h3, h4⟩ | ⟨h1, h2⟩
        · rw [if_pos h2, h1, h3, h4]
          exact ⟨_, _, _, _, _, _, show some ((0 : Int32), u.1, mem, nI 2, nI (8 * F), v.2.2.2.2, gt) = _ by rw [hu], okG_e⟩
        · rw [if_neg (by rw [h2]; decide), if_pos h2, h1]
          exact ⟨_, _, _, _, _, _, show some ((0 : Int32), u.1, mem, nI 5, nI q, v.2.2.2.2, gt) = _ by rw [hu], okG_e⟩
      | inr w =>
        obtain ⟨o, q2⟩ := w
        obtain ⟨ho1, ho2⟩ := onN_r (Nat.le_refl _) ho
        have hv : v = (nI o, (0 : Int32), (0 : Int32), (-1 : Int32), nI q2) := hv2 _ ho
        rw [hv]
        show ∃ rt mem2 flt fa at2 gt2, bd (bd (if (0 : Int32) = (-1 : Int32) then _ else (if (0 : Int32) = (1 : Int32) then _ else bd (FrontList_raiseAt_f (nI o) mem u.1) (fun u17 => (if nI 46 ≤ nI i then some (Sum.inl (nI i + (1 : Int32), u17.2, (0 : Int32), (-1 : Int32), nI q2, gt)) else gd (ix (nI i) 46) (some (Sum.inl (nI i + (1 : Int32), u17.2, (0 : Int32), (-1 : Int32), nI q2, upd gt (nI i).toNatClampNeg u17.1))))))) _) _ = _ ∧ okG G (grN (8 * F) (xb tp) tc r (i + 1) q2 (mtfN g o) (updN T i (g o))) rt flt fa at2 gt2
        rw [if_neg (show ¬ (0 : Int32) = -1 by decide), if_neg (show ¬ (0 : Int32) = 1 by decide), hu, fl_raiseAt ho1 (by omega), bd_s, nI_1, hm o ho1]
        by_cases h46 : i < 46
        · rw [if_neg (nI_ge h46 (by omega)), ixN h46 (by omega), gd_t, nI_clamp (by omega), bd_s]
          refine hu ▸ ih (i + 1) z q2 (mtfN g o) (updN T i (g o)) (mtf mem o) (upd gt i (nI (g o))) (by omega) (by omega) ho2 (RS_mtf ho1 hm) (fun j h1 h2 => ?_)
          by_cases hji : j = i
          · rw [hji, updN_s]; exact if_pos rfl
          · rw [updN_n _ hji]
            exact (if_neg hji).trans (hgt j h1 (by omega))
        · rw [if_pos (nI_le (by omega) (by omega)), bd_s]
          refine hu ▸ ih (i + 1) z q2 (mtfN g o) (updN T i (g o)) (mtf mem o) gt (by omega) (by omega) ho2 (RS_mtf ho1 hm) (fun j h1 h2 => ?_)
          rw [updN_n _ (by omega)]
          exact hgt j h1 (by omega)
  unfold Unpacker_readGroups_f
  rw [fl_begin (by omega), bd_s]
  exact key (nI tc, idr mem tc) rfl G 0 gas q (fun j => j) (fun _ => 0) (idr mem tc) gt (by omega) (Nat.lt_of_lt_of_le (by omega) gas_le) hq (fun j hj => if_pos hj) (fun j _ h => absurd h (Nat.not_lt_zero _))
