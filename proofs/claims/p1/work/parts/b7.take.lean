/-! RUNS: a block takes runs as long as they fit whole -/
abbrev rst1 : Type := Nat × (Nat → Nat) × Nat × Int32
abbrev rst1.k (s : rst1) : Nat := s.1
abbrev rst1.d (s : rst1) : Nat → Nat := s.2.1
abbrev rst1.n (s : rst1) : Nat := s.2.2.1
abbrev rst1.c (s : rst1) : Int32 := s.2.2.2
noncomputable def stp (tp : Nat → Nat) (F : Nat) (s : rst1) : rst1 := ⟨s.k + rln tp F s.k, dx s.d s.n (tp s.k) (rln tp F s.k), s.n + nd (rln tp F s.k), ckN s.c (tp s.k) (rln tp F s.k)⟩
noncomputable def tkN (tp : Nat → Nat) (F most : Nat) : Nat → rst1 → rst1
  | 0, s => s
  | f + 1, s => if F ≤ s.k then s else if s.n + nd (rln tp F s.k) ≤ most then tkN tp F most f (stp tp F s) else s
theorem tkN_f (tp : Nat → Nat) (F most : Nat) : ∀ (f : Nat) (s : rst1), F - s.k ≤ f → tkN tp F most f s = tkN tp F most (f + 1) s := by
  intro f
  induction f with
  | zero =>
    intro s h
    show s = if F ≤ s.k then s else _
    rw [if_pos (by omega)]
  | succ f ih =>
    intro s h
    show (if F ≤ s.k then s else if s.n + nd (rln tp F s.k) ≤ most then tkN tp F most f (stp tp F s) else s) = (if F ≤ s.k then s else if s.n + nd (rln tp F s.k) ≤ most then tkN tp F most (f + 1) (stp tp F s) else s)
    by_cases h1 : F ≤ s.k
    · rw [if_pos h1, if_pos h1]
    · rw [if_neg h1, if_neg h1]
      by_cases h2 : s.n + nd (rln tp F s.k) ≤ most
      · have := (rln_spec (tp := tp) (show s.k < F by omega)).1
        rw [if_pos h2, if_pos h2, ih (stp tp F s) (by show F - (s.k + rln tp F s.k) ≤ f; omega)]
      · rw [if_neg h2, if_neg h2]
noncomputable def tk (tp : Nat → Nat) (F most : Nat) (s : rst1) : rst1 := tkN tp F most F s
theorem tk_end {tp : Nat → Nat} {F most : Nat} {s : rst1} (h : F ≤ s.k) : tk tp F most s = s := by
  unfold tk
  rw [tkN_f tp F most F s (by omega)]
  exact if_pos h
theorem tk_full {tp : Nat → Nat} {F most : Nat} {s : rst1} (h : ¬ s.n + nd (rln tp F s.k) ≤ most) : tk tp F most s = s := by
  unfold tk
  rw [tkN_f tp F most F s (by omega)]
  show (if F ≤ s.k then s else if s.n + nd (rln tp F s.k) ≤ most then _ else s) = s
  by_cases h1 : F ≤ s.k
  · rw [if_pos h1]
  · rw [if_neg h1, if_neg h]
theorem tk_step {tp : Nat → Nat} {F most : Nat} {s : rst1} (h : s.k < F) (h2 : s.n + nd (rln tp F s.k) ≤ most) : tk tp F most s = tk tp F most (stp tp F s) := by
  unfold tk
  rw [tkN_f tp F most F s (by omega)]
  show (if F ≤ s.k then s else if s.n + nd (rln tp F s.k) ≤ most then tkN tp F most F (stp tp F s) else s) = _
  rw [if_neg (by omega), if_pos h2]
theorem nd_b {r : Nat} (h : 1 ≤ r) : 1 ≤ nd r ∧ nd r ≤ 5 ∧ 4 * nd r ≤ 5 * r := by
  unfold nd
  by_cases h1 : r < 4
  · rw [if_pos h1]; omega
  · rw [if_neg h1]; omega
/-- what is known of a row that is taken -/
abbrev tok (F most : Nat) (s : rst1) : Prop := s.k ≤ F ∧ s.n ≤ most ∧ ∀ j, j < s.n → s.d j < 256
theorem tok.k {F most : Nat} {s : rst1} (h : tok F most s) : s.k ≤ F := h.1
theorem tok.n {F most : Nat} {s : rst1} (h : tok F most s) : s.n ≤ most := h.2.1
theorem tok.d {F most : Nat} {s : rst1} (h : tok F most s) : ∀ j, j < s.n → s.d j < 256 := h.2.2
theorem stp_ok {tp : Nat → Nat} {F most : Nat} {s : rst1} (ht : ∀ j, j < F → tp j < 256) (h : tok F most s) (hk : s.k < F) (h2 : s.n + nd (rln tp F s.k) ≤ most) : tok F most (stp tp F s) := by
  obtain ⟨r1, r2, r3, r4, r5⟩ := rln_spec (tp := tp) hk
  exact ⟨r3, h2, dx_b h.d (ht _ hk) r2⟩
/-- by induction on what is left of the tape -/
theorem tk_ind {tp : Nat → Nat} {F most : Nat} (Q : rst1 → Prop) (ht : ∀ j, j < F → tp j < 256) (hstep : ∀ s, tok F most s → s.k < F → s.n + nd (rln tp F s.k) ≤ most → Q s → Q (stp tp F s)) : ∀ (f : Nat) (s : rst1), F - s.k ≤ f → tok F most s → Q s → Q (tk tp F most s) ∧ tok F most (tk tp F most s) ∧ (F ≤ (tk tp F most s).k ∨ ¬ (tk tp F most s).n + nd (rln tp F (tk tp F most s).k) ≤ most) := by
  intro f
  induction f with
  | zero =>
    intro s hf h hq
    rw [tk_end (by omega)]
    exact ⟨hq, h, Or.inl (by omega)⟩
  | succ f ih =>
    intro s hf h hq
    rcases Nat.lt_or_ge s.k F with h1 | h1
    · by_cases h2 : s.n + nd (rln tp F s.k) ≤ most
      · have := (rln_spec (tp := tp) h1).1
        rw [tk_step h1 h2]
        exact ih (stp tp F s) (by show F - (s.k + rln tp F s.k) ≤ f; omega) (stp_ok ht h h1 h2) (hstep s h h1 h2 hq)
      · rw [tk_full h2]
        exact ⟨hq, h, Or.inr h2⟩
    · rw [tk_end h1]
      exact ⟨hq, h, Or.inl h1⟩
theorem takeRuns_l {tp : Nat → Nat} {F most nb : Nat} {fb lv : Nat → Int32} (hF : F ≤ nb) (hnb : nb < 1000000) (hmost : most ≤ 2250) (hlv : ∀ j, j < 256 → lv j = chkT j) (hf : ∀ j, j < F → fb j = nI (tp j) ∧ tp j < 256) (s0 : rst1) (j0 : Nat) (told : Nat → Int32) (hj0 : j0 ≤ s0.n) (hok : tok F most s0) (hR : RS s0.n told s0.d) :
    ∃ e : (Int32 × Int32 × Int32 × (Nat → Int32)) ⊕ (Int32 × Int32 × Int32 × (Nat → Int32)), lpF (Block_takeRuns_L16 (nI most) (nI F) nb fb lv) gas (nI s0.k, nI j0, nI s0.n, s0.c, told) = some e ∧ ∃ f2, RS (tk tp F most s0).n f2 (tk tp F most s0).d ∧ (e = Sum.inl (nI (tk tp F most s0).k, nI (tk tp F most s0).n, (tk tp F most s0).c, f2) ∨ e = Sum.inr (nI (tk tp F most s0).k, nI (tk tp F most s0).n, (tk tp F most s0).c, f2)) := by
  have ht : ∀ j, j < F → tp j < 256 := fun j hj => (hf j hj).2
  refine lp_totg (fun s => ∃ st j f, s = (nI st.k, nI j, nI st.n, st.c, f) ∧ tk tp F most st = tk tp F most s0 ∧ j ≤ st.n ∧ tok F most st ∧ RS st.n f st.d) (fun s => 1000000 - 1 - s.1.toNatClampNeg) _ ?_ ⟨s0, j0, told, rfl, rfl, hj0, hok, hR⟩ (by show 1000000 - 1 - _ < 1000000; omega)
  rintro s ⟨st, j, f, rfl, htk, hj, hst, hfR⟩
  have hsk := hst.k
  have hsn := hst.n
  by_cases h1 : most ≤ j
  · refine Or.inr ⟨Sum.inr (nI st.k, nI st.n, st.c, f), ?_, f, ?_, Or.inr ?_⟩
    · show (if nI most ≤ nI j then some (Sum.inr (Sum.inr (nI st.k, nI st.n, st.c, f))) else _) = _
      rw [if_pos (nI_le h1 (by omega))]
    all_goals
      have he : tk tp F most st = st := by
        rcases Nat.lt_or_ge st.k F with h2 | h2
        · have := nd_b (rln_spec (tp := tp) h2).1
          exact tk_full (by omega)
        · exact tk_end h2
      rw [← htk, he]
    · exact hfR
  · by_cases h2 : F ≤ st.k
    · refine Or.inr ⟨Sum.inr (nI st.k, nI st.n, st.c, f), ?_, f, ?_, Or.inr ?_⟩
      · show (if nI most ≤ nI j then _ else (if nI F ≤ nI st.k then some (Sum.inr (Sum.inr (nI st.k, nI st.n, st.c, f))) else _)) = _
        rw [if_neg (nI_ge (by omega) (by omega)), if_pos (nI_le h2 (by omega))]
      all_goals rw [← htk, tk_end h2]
      · exact hfR
    · have hlt : st.k < F := by omega
      obtain ⟨r1, r2, r3, r4, r5⟩ := rln_spec (tp := tp) hlt
      have hnd := nd_b r1
      have hL : Block_takeRuns_L16 (nI most) (nI F) nb fb lv (nI st.k, nI j, nI st.n, st.c, f) = Block_takeRuns_J51 (nI st.k, nI j, nI st.n, st.c, f) (nI most) (nI F) nb fb lv (nI (rln tp F st.k)) (nI (nd (rln tp F st.k))) := by
        show (if nI most ≤ nI j then _ else (if nI F ≤ nI st.k then _ else bd (Block_runFrom_f (nI F) (nI st.k) nb fb) (fun u13 => (if nI 4 ≤ u13 then Block_takeRuns_J51 (nI st.k, nI j, nI st.n, st.c, f) (nI most) (nI F) nb fb lv u13 (nI 5) else Block_takeRuns_J51 (nI st.k, nI j, nI st.n, st.c, f) (nI most) (nI F) nb fb lv u13 u13)))) = _
        rw [if_neg (nI_ge (by omega) (by omega)), if_neg (nI_ge (by omega) (by omega)), runFrom_c hlt hF hnb hf, bd_s]
        unfold nd
        by_cases h4 : rln tp F st.k < 4
        · rw [if_neg (nI_ge h4 (by omega)), if_pos h4]
        · rw [if_pos (nI_le (by omega) (by omega)), if_neg h4]
      rw [hL]
      have hJ : Block_takeRuns_J51 (nI st.k, nI j, nI st.n, st.c, f) (nI most) (nI F) nb fb lv (nI (rln tp F st.k)) (nI (nd (rln tp F st.k))) = (if nI (st.n + nd (rln tp F st.k)) ≤ nI most then bd (ByteRow_get_f (nI st.k) (nI F) nb fb) (fun u9 => bd (Block_tellRun_f (nI (rln tp F st.k)) u9 lv st.c f (nI st.n)) (fun u10 => some (Sum.inl (nI (st.k + rln tp F st.k), nI (j + 1), u10.2.2, u10.1, u10.2.1)))) else some (Sum.inr (Sum.inl (nI st.k, nI st.n, st.c, f)))) := by
        show (if nI st.n + nI (nd (rln tp F st.k)) ≤ nI most then bd (ByteRow_get_f (nI st.k) (nI F) nb fb) (fun u9 => bd (Block_tellRun_f (nI (rln tp F st.k)) u9 lv st.c f (nI st.n)) (fun u10 => some (Sum.inl (nI st.k + nI (rln tp F st.k), nI j + (1 : Int32), u10.2.2, u10.1, u10.2.1)))) else some (Sum.inr (Sum.inl (nI st.k, nI st.n, st.c, f)))) = _
        rw [nI_add, nI_add, nI_1]
      rw [hJ]
      by_cases h3 : st.n + nd (rln tp F st.k) ≤ most
      · obtain ⟨f2, e2, h4⟩ := tellRun_c (c := st.c) hlv (ht _ hlt) r2 (show st.n + nd (rln tp F st.k) ≤ 2250 by omega) hfR
        refine Or.inl ⟨(nI (st.k + rln tp F st.k), nI (j + 1), nI (st.n + nd (rln tp F st.k)), ckN st.c (tp st.k) (rln tp F st.k), f2), ?_, ⟨stp tp F st, j + 1, f2, rfl, by rw [← tk_step hlt h3]; exact htk, by show j + 1 ≤ st.n + nd (rln tp F st.k); omega, stp_ok ht hst hlt h3, h4⟩, ?_⟩
        · rw [if_pos (nI_le h3 (by omega)), row_get hlt hF (by omega), bd_s, (hf _ hlt).1, e2, bd_s]
        · show 1000000 - 1 - (nI (st.k + rln tp F st.k)).toNatClampNeg < 1000000 - 1 - (nI st.k).toNatClampNeg
          rw [nI_clamp (by omega), nI_clamp (by omega)]
          omega
      · refine Or.inr ⟨Sum.inl (nI st.k, nI st.n, st.c, f), ?_, f, ?_, Or.inl ?_⟩
        · rw [if_neg (nI_ge (by omega) (by omega))]
        all_goals rw [← htk, tk_full h3]
        · exact hfR
theorem takeRuns_c {tp : Nat → Nat} {F most nb k : Nat} {fb lv told : Nat → Int32} (d : Nat → Nat) (hF : F ≤ nb) (hnb : nb < 1000000) (hmost : most ≤ 2250) (hk : k ≤ F) (hlv : ∀ j, j < 256 → lv j = chkT j) (hf : ∀ j, j < F → fb j = nI (tp j) ∧ tp j < 256) :
    ∃ f2, Block_takeRuns_f (nI most) (nI F) nb fb lv (nI k) told = some (nI (tk tp F most ⟨k, d, 0, -1⟩).k, nI (tk tp F most ⟨k, d, 0, -1⟩).n, (tk tp F most ⟨k, d, 0, -1⟩).c, (tk tp F most ⟨k, d, 0, -1⟩).c ^^^ (-1 : Int32), f2) ∧ RS (tk tp F most ⟨k, d, 0, -1⟩).n f2 (tk tp F most ⟨k, d, 0, -1⟩).d := by
  obtain ⟨e, e1, f2, h1, h2⟩ := takeRuns_l (tp := tp) hF hnb hmost hlv hf ⟨k, d, 0, -1⟩ 0 told (Nat.le_refl _) ⟨hk, Nat.zero_le _, fun j h => absurd h (Nat.not_lt_zero _)⟩ (fun j h => absurd h (Nat.not_lt_zero _))
  refine ⟨f2, ?_, h1⟩
  unfold Block_takeRuns_f Block_takeRuns_J94 Check_ofBlock_f Check_begin_f
  rw [bd_s, show lpF (Block_takeRuns_L16 (nI most) (nI F) nb fb lv) gas (nI k, (0 : Int32), (0 : Int32), (-1 : Int32), told) = some e from e1, bd_s]
  rcases h2 with rfl | rfl
  · rfl
  · rfl
/-! RUNS, the reference's -/
theorem nb_and : ∀ v, v < 256 → (nI v).toInt8.toInt32 &&& (255 : Int32) = nI v := by decide +kernel
theorem nb255 {v : Nat} (h : v < 256) : nb v &&& (255 : Int32) = nI v := by
  unfold nb
  rw [vp_nar_byte]
  exact nb_and v h
theorem ckloop_m {r b : Nat} {c : Int32} (hr : r ≤ 255) : lpF (Model_pack_L256 (nI r) (nI b)) gas (c, (0 : Int32)) = some (ckN c b r) := by
  refine lp_gas (fun i => (ckN c b i, nI i)) (i0 := 0) (N := r) (Nat.zero_le _) (by omega) ?_ ?_
  · intro i _ hi
    show (if nI r ≤ nI i then _ else bd (Model_checked_f (nI b) (ckN c b i)) (fun u29 => some (Sum.inl (u29, nI i + (1 : Int32))))) = _
    rw [if_neg (nI_ge hi (by omega)), checked_eq, bd_s, nI_1]
    rfl
  · show (if nI r ≤ nI r then _ else _) = _
    rw [if_pos (nI_le (Nat.le_refl _) (by omega))]
theorem toldloop_m {n b r : Nat} {f : Nat → Int32} {d : Nat → Nat} (hr : 1 ≤ r) (hr2 : r ≤ 255) (hn : n + nd r ≤ 2250) (h : RS n f d) :
    ∃ f2, lpF (Model_pack_L206 (nI (nd r)) (nI r) (nI b)) gas ((0 : Int32), nI n, f) = some (nI (n + nd r), f2) ∧ RS (n + nd r) f2 (dx d n b r) := by
  have hnd : nd r = r ∧ r < 4 ∨ nd r = 5 ∧ 4 ≤ r := by
    unfold nd
    by_cases h1 : r < 4
    · rw [if_pos h1]; omega
    · rw [if_neg h1]; omega
  have l1 : ∃ p : Int32 × (Nat → Int32), lpF (Model_pack_L206 (nI (nd r)) (nI r) (nI b)) gas ((0 : Int32), nI n, f) = some p ∧ p.1 = nI (n + nd r) ∧ RS (n + nd r) p.2 (dx d n b r) := by
    refine lp_for (fun i s => ∃ f, s = (nI i, nI (n + i), f) ∧ RS (n + i) f (if i ≤ 4 then dx0 d n b i else updN (dx0 d n b 4) (n + 4) (r - 4))) _ (i0 := 0) (N := nd r) (Nat.zero_le _) (by omega) ?_ ?_ ⟨f, rfl, by rw [if_pos (by omega)]; exact RS_dx00 h⟩
    · rintro i s _ hi ⟨f, rfl, hf⟩
      rw [if_pos (show i ≤ 4 by omega)] at hf
      have hL : Model_pack_L206 (nI (nd r)) (nI r) (nI b) (nI i, nI (n + i), f) = (if nI 4 ≤ nI i then some (Sum.inl (nI (i + 1), nI (n + i + 1), upd f (n + i) (nI r - nI 4))) else some (Sum.inl (nI (i + 1), nI (n + i + 1), upd f (n + i) (nI b)))) := by
        unfold Model_pack_L206 Model_pack_J236
        show (if nI (nd r) ≤ nI i then _ else (if nI 4 ≤ nI i then gd (ix (nI (n + i)) 2250) (some (Sum.inl (nI i + (1 : Int32), nI (n + i) + (1 : Int32), upd f (nI (n + i)).toNatClampNeg (nI r - nI 4)))) else gd (ix (nI (n + i)) 2250) (some (Sum.inl (nI i + (1 : Int32), nI (n + i) + (1 : Int32), upd f (nI (n + i)).toNatClampNeg (nI b)))))) = _
        rw [if_neg (nI_ge hi (by omega)), ixN (show n + i < 2250 by omega) (by omega), nI_clamp (show n + i < 2 ^ 31 by omega), nI_1, nI_1]
        rfl
      rw [hL]
      by_cases h4 : i = 4
      · subst h4
        rw [if_pos (by decide), pk_sub (show 4 ≤ r by omega)]
        exact ⟨_, rfl, _, rfl, by rw [if_neg (by omega)]; exact RS_upd hf⟩
      · rw [if_neg (nI_ge (by omega) (by omega))]
        exact ⟨_, rfl, _, rfl, by rw [if_pos (by omega)]; exact RS_dx0 hf⟩
    · rintro s ⟨f, rfl, hf⟩
      refine ⟨(nI (n + nd r), f), ?_, rfl, ?_⟩
      · show (if nI (nd r) ≤ nI (nd r) then _ else _) = _
        rw [if_pos (nI_le (Nat.le_refl _) (by omega))]
      · unfold dx
        rcases hnd with ⟨q1, q2⟩ | ⟨q1, q2⟩
        · rw [if_pos q2]
          rw [if_pos (by omega), q1] at hf
          rw [q1]
          exact hf
        · rw [if_neg (by omega)]
          rw [if_neg (by omega)] at hf
          exact hf
  obtain ⟨⟨n1, f2⟩, e1, hn1, h1⟩ := l1
  have hn1 : n1 = nI (n + nd r) := hn1
  subst hn1
  exact ⟨f2, e1, h1⟩
