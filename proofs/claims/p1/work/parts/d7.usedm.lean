/-! UNPACKING: which bytes the block has, the reference's -/
abbrev okC (r : (Nat × Nat) ⊕ (Nat × Nat × (Nat → Nat))) (flt pl bit cn : Int32) (list : Nat → Int32) : Prop := (∀ e, r = Sum.inl e → flt = nI e.1 ∧ pl = nI e.2 ∧ 0 < e.1 ∧ e.1 < 16) ∧ ∀ v, r = Sum.inr v → flt = 0 ∧ pl = (-1 : Int32) ∧ bit = nI v.1 ∧ cn = nI v.2.1 ∧ RS v.2.1 list v.2.2
theorem okC_e {e p : Nat} {bit cn : Int32} {list : Nat → Int32} (h1 : 0 < e) (h2 : e < 16) : okC (Sum.inl (e, p)) (nI e) (nI p) bit cn list := ⟨fun e2 h => (by cases h; exact ⟨rfl, rfl, h1, h2⟩), fun v h => (by cases h)⟩
theorem okC_r {q c : Nat} {g : Nat → Nat} {list : Nat → Int32} (h : RS c list g) : okC (Sum.inr (q, c, g)) (0 : Int32) (-1 : Int32) (nI q) (nI c) list := ⟨fun e h2 => (by cases h2), fun v h2 => (by cases h2; exact ⟨rfl, rfl, rfl, rfl, h⟩)⟩
theorem gas_s : ∃ z, gas = z + 1 := ⟨gas - 1, by have := gas_le; omega⟩
theorem app_m {v : Int32} {s c : Nat} {g : Nat → Nat} {list : Nat → Int32} {s1 : Int32 × Int32 × Int32 × Int32 × Int32 × (Nat → Int32)} (hs1 : s1.1 = nI s) (hs : s < 16) (hc : c + 16 ≤ 256) (h : RS c list g) : ∃ m, lpF (Model_readBytes_L99 (0 : Int32) v s1) gas ((0 : Int32), nI c, list) = some (nI (apN v (16 * s) c g 16).1, m) ∧ RS (apN v (16 * s) c g 16).1 m (apN v (16 * s) c g 16).2 := by
  have l1 : ∃ q : Int32 × (Nat → Int32), lpF (Model_readBytes_L99 (0 : Int32) v s1) gas ((0 : Int32), nI c, list) = some q ∧ q.1 = nI (apN v (16 * s) c g 16).1 ∧ RS (apN v (16 * s) c g 16).1 q.2 (apN v (16 * s) c g 16).2 := by
    refine lp_for (fun i st => ∃ m, st = (nI i, nI (apN v (16 * s) c g i).1, m) ∧ RS (apN v (16 * s) c g i).1 m (apN v (16 * s) c g i).2) _ (i0 := 0) (N := 16) (by omega) (by omega) ?_ ?_ ⟨list, rfl, h⟩
    · rintro i st _ hi ⟨m, rfl, hm⟩
      have hab := apN_b v (16 * s) c g i
      have hS : Model_readBytes_L99 (0 : Int32) v s1 (nI i, nI (apN v (16 * s) c g i).1, m) = (if nI (bt v (15 - i)).toNat = 0 then some (Sum.inl (nI (i + 1), nI (apN v (16 * s) c g i).1, m)) else some (Sum.inl (nI (i + 1), nI ((apN v (16 * s) c g i).1 + 1), upd m (apN v (16 * s) c g i).1 (nI (16 * s + i))))) := by
        show (if nI 16 ≤ nI i then _ else bd (Model_isFine_f (0 : Int32)) (fun u10 => (if u10 = 0 then _ else (if (v >>> (((15 : Int32) - nI i) &&& 31)) &&& (1 : Int32) = 0 then some (Sum.inl (nI i + (1 : Int32), nI (apN v (16 * s) c g i).1, m)) else gd (ix (nI (apN v (16 * s) c g i).1) 256) (some (Sum.inl (nI i + (1 : Int32), nI (apN v (16 * s) c g i).1 + (1 : Int32), upd m (nI (apN v (16 * s) c g i).1).toNatClampNeg (nI 16 * s1.1 + nI i)))))))) = _
        rw [if_neg (nI_ge hi (by omega)), fine_0, bd_s, if_neg (show ¬ (1 : Int32) = 0 by decide), show (15 : Int32) - nI i = nI (15 - i) from pk_sub (show i ≤ 15 by omega), sshr1 v (by omega), hs1, pk_mul, nI_add, nI_1, nI_1, ixN (by omega) (by omega), gd_t, nI_clamp (by omega)]
      rw [hS]
      by_cases hb1 : bt v (15 - i) = true
      · have hap : apN v (16 * s) c g (i + 1) = ((apN v (16 * s) c g i).1 + 1, updN (apN v (16 * s) c g i).2 (apN v (16 * s) c g i).1 (16 * s + i)) := if_pos hb1
        rw [hb1, if_neg (by decide), hap]
        exact ⟨_, rfl, upd m (apN v (16 * s) c g i).1 (nI (16 * s + i)), rfl, RS_upd hm⟩
      · have hap : apN v (16 * s) c g (i + 1) = apN v (16 * s) c g i := if_neg hb1
        have hbf : bt v (15 - i) = false := by
          cases hbb : bt v (15 - i) with
          | false => rfl
          | true => exact absurd hbb hb1
        rw [hbf, if_pos (show nI false.toNat = (0 : Int32) from rfl), hap]
        exact ⟨_, rfl, m, rfl, hm⟩
    · rintro st ⟨m, rfl, hm⟩
      refine ⟨(nI (apN v (16 * s) c g 16).1, m), ?_, rfl, hm⟩
      show (if nI 16 ≤ nI 16 then _ else _) = _
      rw [if_pos (nI_le (Nat.le_refl _) (by omega))]
  obtain ⟨⟨c2, m⟩, e1, hc2, hm⟩ := l1
  have hc2 : c2 = nI (apN v (16 * s) c g 16).1 := hc2
  refine ⟨m, ?_, hm⟩
  rw [e1, hc2]
theorem app_f {v fl : Int32} {cn : Int32} {list : Nat → Int32} {s1 : Int32 × Int32 × Int32 × Int32 × Int32 × (Nat → Int32)} (h : ¬ fl = 0) : lpF (Model_readBytes_L99 fl v s1) gas ((0 : Int32), cn, list) = some (cn, list) := by
  obtain ⟨z, hz⟩ := gas_s
  have hb : Model_readBytes_L99 fl v s1 ((0 : Int32), cn, list) = some (Sum.inr (cn, list)) := by
    show (if (16 : Int32) ≤ (0 : Int32) then _ else bd (Model_isFine_f fl) (fun u10 => (if u10 = 0 then some (Sum.inr (cn, list)) else _))) = _
    rw [if_neg (show ¬ (16 : Int32) ≤ (0 : Int32) by decide), fine_n h, bd_s, if_pos rfl]
  rw [hz, lpF_s, hb]
  rfl
theorem r16_e {E q e p : Nat} {x : Nat → Bool} (h : r16 E x q = Sum.inl (e, p)) : (e = 2 ∧ p = E ∧ E < q + 16) ∨ (e = 4 ∧ p = q ∧ q + 16 ≤ E ∧ bvI x q 16 = 0) := by
  unfold r16 at h
  by_cases h1 : q + 16 ≤ E
  · rw [if_pos h1] at h
    by_cases h2 : bvI x q 16 = 0
    · rw [if_pos h2] at h
      have h2' := Sum.inl.inj h
      exact Or.inr ⟨(congrArg Prod.fst h2').symm, (congrArg Prod.snd h2').symm, h1, h2⟩
    · rw [if_neg h2] at h
      cases h
  · rw [if_neg h1] at h
    have h2' := Sum.inl.inj h
    exact Or.inl ⟨(congrArg Prod.fst h2').symm, (congrArg Prod.snd h2').symm, by omega⟩
theorem r16_r {E q : Nat} {v : Int32} {x : Nat → Bool} (h : r16 E x q = Sum.inr v) : q + 16 ≤ E ∧ ¬ v = 0 ∧ v = bvI x q 16 := by
  unfold r16 at h
  by_cases h1 : q + 16 ≤ E
  · rw [if_pos h1] at h
    by_cases h2 : bvI x q 16 = 0
    · rw [if_pos h2] at h
      cases h
    · rw [if_neg h2] at h
      have h3 := Sum.inr.inj h
      exact ⟨h1, h3 ▸ h2, h3.symm⟩
  · rw [if_neg h1] at h
    cases h
theorem readBytes_m {tp : Nat → Nat} {F q : Nat} {tape list : Nat → Int32} (hF : F ≤ 10240) (ht : ∀ j, j < F → tape j = nb (tp j) ∧ tp j < 256) (hq : q ≤ 8 * F) :
    ∃ cn flt pl bit list2, Model_readBytes_f (0 : Int32) (nI (8 * F)) tape (nI q) (-1 : Int32) list = some (cn, flt, pl, bit, cn, list2) ∧ okC (ruN (8 * F) (xb tp) q) flt pl bit cn list2 := by
  have hstop : ∀ (v : Int32) (z : Nat) (a1 fl p b cn : Int32) (l : Nat → Int32), ¬ fl = 0 → 0 < z → lpF (Model_readBytes_L37 v (nI (8 * F)) tape) z (a1, fl, p, b, cn, l) = some (fl, p, b, cn, l) := by
    intro v z a1 fl p b cn l hfl hz
    obtain ⟨z, rfl⟩ : ∃ z2, z = z2 + 1 := ⟨z - 1, by omega⟩
    have hb : Model_readBytes_L37 v (nI (8 * F)) tape (a1, fl, p, b, cn, l) = some (Sum.inr (fl, p, b, cn, l)) := by
      show (if (16 : Int32) ≤ a1 then some (Sum.inr (fl, p, b, cn, l)) else bd (Model_isFine_f fl) (fun u15 => (if u15 = 0 then some (Sum.inr (fl, p, b, cn, l)) else _))) = _
      by_cases h : (16 : Int32) ≤ a1
      · rw [if_pos h]
      · rw [if_neg h, fine_n hfl, bd_s, if_pos rfl]
    rw [lpF_s, hb]
    rfl
  have key : ∀ (v : Int32) (r z q c : Nat) (g : Nat → Nat) (list : Nat → Int32), r ≤ 16 → r < z → q ≤ 8 * F → c ≤ 16 * (16 - r) → RS c list g → ∃ flt pl bit cn list2, lpF (Model_readBytes_L37 v (nI (8 * F)) tape) z (nI (16 - r), (0 : Int32), (-1 : Int32), nI q, nI c, list) = some (flt, pl, bit, cn, list2) ∧ okC (usN (8 * F) (xb tp) v r q c g) flt pl bit cn list2 := by
    intro v r
    induction r with
    | zero =>
      intro z q c g list _ hz hq hc hR
      obtain ⟨z, rfl⟩ : ∃ z2, z = z2 + 1 := ⟨z - 1, by omega⟩
      have hb : Model_readBytes_L37 v (nI (8 * F)) tape (nI (16 - 0), (0 : Int32), (-1 : Int32), nI q, nI c, list) = some (Sum.inr ((0 : Int32), (-1 : Int32), nI q, nI c, list)) := by
        show (if nI 16 ≤ nI 16 then _ else _) = _
        rw [if_pos (nI_le (Nat.le_refl _) (by omega))]
      rw [lpF_s, hb]
      exact ⟨_, _, _, _, _, rfl, okC_r hR⟩
    | succ r ih =>
      intro z q c g list hr hz hq hc hR
      obtain ⟨z, rfl⟩ : ∃ z2, z = z2 + 1 := ⟨z - 1, by omega⟩
      obtain ⟨s, hs⟩ : ∃ s, s = 16 - (r + 1) := ⟨_, rfl⟩
      have e3 : 16 - r = s + 1 := by omega
      rw [lpF_s, usN, ← hs]
      have hS : Model_readBytes_L37 v (nI (8 * F)) tape (nI s, (0 : Int32), (-1 : Int32), nI q, nI c, list) = (if nI (bt v (15 - s)).toNat = 0 then some (Sum.inl (nI (s + 1), (0 : Int32), (-1 : Int32), nI q, nI c, list)) else bd (Model_read_f (0 : Int32) (nI 16) (nI (8 * F)) tape (nI q) (-1 : Int32)) (fun u18 => bd (Model_isFine_f u18.2.1) (fun u19 => (if u19 = 0 then Model_readBytes_J96 (nI s, (0 : Int32), (-1 : Int32), nI q, nI c, list) u18.1 u18.2.1 u18.2.2.1 u18.2.2.2 else (if u18.1 = 0 then bd (Model_stop_f u18.2.1 (4 : Int32) (nI q) u18.2.2.1) (fun u22 => Model_readBytes_J96 (nI s, (0 : Int32), (-1 : Int32), nI q, nI c, list) u18.1 u22.2.1 u22.2.2 u18.2.2.2) else Model_readBytes_J96 (nI s, (0 : Int32), (-1 : Int32), nI q, nI c, list) u18.1 u18.2.1 u18.2.2.1 u18.2.2.2))))) := by
        show (if nI 16 ≤ nI s then _ else bd (Model_isFine_f (0 : Int32)) (fun u15 => (if u15 = 0 then _ else (if (v >>> (((15 : Int32) - nI s) &&& 31)) &&& (1 : Int32) = 0 then some (Sum.inl (nI s + (1 : Int32), (0 : Int32), (-1 : Int32), nI q, nI c, list)) else _)))) = _
        rw [if_neg (nI_ge (by omega) (by omega)), fine_0, bd_s, if_neg (show ¬ (1 : Int32) = 0 by decide), show (15 : Int32) - nI s = nI (15 - s) from pk_sub (show s ≤ 15 by omega), sshr1 v (by omega), nI_1]
        rfl
      have hJ : ∀ (w fl p b : Int32), ¬ fl = 0 → Model_readBytes_J96 (nI s, (0 : Int32), (-1 : Int32), nI q, nI c, list) w fl p b = some (Sum.inl (nI (s + 1), fl, p, b, nI c, list)) := by
        intro w fl p b hfl
        unfold Model_readBytes_J96
        rw [show lpF (Model_readBytes_L99 fl w (nI s, (0 : Int32), (-1 : Int32), nI q, nI c, list)) gas ((0 : Int32), ((nI s, (0 : Int32), (-1 : Int32), nI q, nI c, list) : Int32 × Int32 × Int32 × Int32 × Int32 × (Nat → Int32)).2.2.2.2.1, ((nI s, (0 : Int32), (-1 : Int32), nI q, nI c, list) : Int32 × Int32 × Int32 × Int32 × Int32 × (Nat → Int32)).2.2.2.2.2) = _ from app_f hfl, bd_s]
        show some (Sum.inl (nI s + (1 : Int32), fl, p, b, nI c, list)) = _
        rw [nI_1]
      rw [hS]
      by_cases hb1 : bt v (15 - s) = true
      · rw [hb1, if_neg (show ¬ nI true.toNat = (0 : Int32) by decide), if_pos (show true = true from rfl)]
        cases hr2 : r16 (8 * F) (xb tp) q with
        | inl e =>
          obtain ⟨x1, x2⟩ := e
          rcases r16_e hr2 with ⟨h1, h2, h3⟩ | ⟨h1, h2, h3, h4⟩
          · rw [read_me hF ht (by omega) hq h3, bd_s, h1, h2]
            show ∃ flt pl bit cn list2, bd (bd (Model_isFine_f (nI 2)) (fun u19 => (if u19 = 0 then Model_readBytes_J96 (nI s, (0 : Int32), (-1 : Int32), nI q, nI c, list) (0 : Int32) (nI 2) (nI (8 * F)) (nI (8 * F)) else _))) _ = _ ∧ _
            rw [fine_n (by decide), bd_s, if_pos rfl, hJ _ _ _ _ (by decide), bd_s]
            refine ⟨nI 2, nI (8 * F), nI (8 * F), nI c, list, hstop v z _ _ _ _ _ _ (by decide) (by omega), okC_e (by omega) (by omega)⟩
          · rw [read_m hF ht (by omega) h3, bd_s, h1, h2]
            show ∃ flt pl bit cn list2, bd (bd (Model_isFine_f (0 : Int32)) (fun u19 => (if u19 = 0 then _ else (if bvI (xb tp) q 16 = 0 then bd (Model_stop_f (0 : Int32) (4 : Int32) (nI q) (-1 : Int32)) (fun u22 => Model_readBytes_J96 (nI s, (0 : Int32), (-1 : Int32), nI q, nI c, list) (bvI (xb tp) q 16) u22.2.1 u22.2.2 (nI (q + 16))) else _)))) _ = _ ∧ _
            rw [fine_0, bd_s, if_neg (show ¬ (1 : Int32) = 0 by decide), if_pos h4, stop_0, bd_s]
            show ∃ flt pl bit cn list2, bd (Model_readBytes_J96 (nI s, (0 : Int32), (-1 : Int32), nI q, nI c, list) (bvI (xb tp) q 16) (nI 4) (nI q) (nI (q + 16))) _ = _ ∧ _
            rw [hJ _ _ _ _ (by decide), bd_s]
            refine ⟨nI 4, nI q, nI (q + 16), nI c, list, hstop v z _ _ _ _ _ _ (by decide) (by omega), okC_e (by omega) (by omega)⟩
        | inr v2 =>
          obtain ⟨hq3, hv2, hv3⟩ := r16_r hr2
          rw [read_m hF ht (by omega) hq3, ← hv3, bd_s]
          show ∃ flt pl bit cn list2, bd (bd (Model_isFine_f (0 : Int32)) (fun u19 => (if u19 = 0 then _ else (if v2 = 0 then _ else Model_readBytes_J96 (nI s, (0 : Int32), (-1 : Int32), nI q, nI c, list) v2 (0 : Int32) (-1 : Int32) (nI (q + 16)))))) _ = _ ∧ okC (usN (8 * F) (xb tp) v r (q + 16) (apN v2 (16 * s) c g 16).1 (apN v2 (16 * s) c g 16).2) flt pl bit cn list2
          rw [fine_0, bd_s, if_neg (show ¬ (1 : Int32) = 0 by decide), if_neg hv2]
          obtain ⟨mem2, e4, h4⟩ := app_m (v := v2) (s := s) (s1 := (nI s, (0 : Int32), (-1 : Int32), nI q, nI c, list)) rfl (by omega) (show c + 16 ≤ 256 by omega) hR
          have hJ2 : Model_readBytes_J96 (nI s, (0 : Int32), (-1 : Int32), nI q, nI c, list) v2 (0 : Int32) (-1 : Int32) (nI (q + 16)) = some (Sum.inl (nI (s + 1), (0 : Int32), (-1 : Int32), nI (q + 16), nI (apN v2 (16 * s) c g 16).1, mem2)) := by
            unfold Model_readBytes_J96
            rw [show lpF (Model_readBytes_L99 (0 : Int32) v2 (nI s, (0 : Int32), (-1 : Int32), nI q, nI c, list)) gas ((0 : Int32), ((nI s, (0 : Int32), (-1 : Int32), nI q, nI c, list) : Int32 × Int32 × Int32 × Int32 × Int32 × (Nat → Int32)).2.2.2.2.1, ((nI s, (0 : Int32), (-1 : Int32), nI q, nI c, list) : Int32 × Int32 × Int32 × Int32 × Int32 × (Nat → Int32)).2.2.2.2.2) = _ from e4, bd_s]
            show some (Sum.inl (nI s + (1 : Int32), (0 : Int32), (-1 : Int32), nI (q + 16), nI (apN v2 (16 * s) c g 16).1, mem2)) = _
            rw [nI_1]
          rw [hJ2, bd_s]
          have hab := apN_b v2 (16 * s) c g 16
          have hih := ih z (q + 16) (apN v2 (16 * s) c g 16).1 (apN v2 (16 * s) c g 16).2 mem2 (by omega) (by omega) hq3 (by omega) h4
          rw [e3] at hih
          exact hih
      · have hbf : bt v (15 - s) = false := by
          cases hbb : bt v (15 - s) with
          | false => rfl
          | true => exact absurd hbb hb1
        rw [hbf, if_pos (show nI false.toNat = (0 : Int32) from rfl), if_neg Bool.noConfusion, bd_s]
        have hih := ih z q c g list (by omega) (by omega) hq (by omega) hR
        rw [e3] at hih
        exact hih
  unfold Model_readBytes_f ruN
  cases hr2 : r16 (8 * F) (xb tp) q with
  | inl e =>
    obtain ⟨x1, x2⟩ := e
    rcases r16_e hr2 with ⟨h1, h2, h3⟩ | ⟨h1, h2, h3, h4⟩
    · rw [show Model_read_f (0 : Int32) (16 : Int32) (nI (8 * F)) tape (nI q) (-1 : Int32) = _ from read_me (k := 16) hF ht (by omega) hq h3, bd_s, h1, h2]
      show ∃ cn flt pl bit list2, bd (Model_isFine_f (nI 2)) (fun u24 => (if u24 = 0 then Model_readBytes_J30 (nI (8 * F)) tape list (0 : Int32) (nI 2) (nI (8 * F)) (nI (8 * F)) else _)) = _ ∧ _
      rw [fine_n (by decide), bd_s, if_pos rfl]
      unfold Model_readBytes_J30
      rw [hstop _ gas _ _ _ _ _ _ (by decide) (Nat.lt_of_lt_of_le (by omega) gas_le), bd_s]
      exact ⟨_, _, _, _, _, rfl, okC_e (by omega) (by omega)⟩
    · rw [show Model_read_f (0 : Int32) (16 : Int32) (nI (8 * F)) tape (nI q) (-1 : Int32) = _ from read_m (k := 16) hF ht (by omega) h3, bd_s, h1, h2]
      show ∃ cn flt pl bit list2, bd (Model_isFine_f (0 : Int32)) (fun u24 => (if u24 = 0 then _ else (if bvI (xb tp) q 16 = 0 then bd (Model_stop_f (0 : Int32) (4 : Int32) (nI q) (-1 : Int32)) (fun u27 => Model_readBytes_J30 (nI (8 * F)) tape list (bvI (xb tp) q 16) u27.2.1 u27.2.2 (nI (q + 16))) else _))) = _ ∧ _
      rw [fine_0, bd_s, if_neg (show ¬ (1 : Int32) = 0 by decide), if_pos h4, stop_0, bd_s]
      unfold Model_readBytes_J30
      rw [hstop _ gas _ _ _ _ _ _ (show ¬ (4 : Int32) = 0 by decide) (Nat.lt_of_lt_of_le (by omega) gas_le), bd_s]
      exact ⟨_, _, _, _, _, rfl, okC_e (e := 4) (by omega) (by omega)⟩
  | inr v =>
    obtain ⟨hq3, hv2, hv3⟩ := r16_r hr2
    rw [show Model_read_f (0 : Int32) (16 : Int32) (nI (8 * F)) tape (nI q) (-1 : Int32) = _ from read_m (k := 16) hF ht (by omega) hq3, ← hv3, bd_s]
    show ∃ cn flt pl bit list2, bd (Model_isFine_f (0 : Int32)) (fun u24 => (if u24 = 0 then _ else (if v = 0 then _ else Model_readBytes_J30 (nI (8 * F)) tape list v (0 : Int32) (-1 : Int32) (nI (q + 16))))) = _ ∧ okC (usN (8 * F) (xb tp) v 16 (q + 16) 0 (fun _ => 0)) flt pl bit cn list2
    rw [fine_0, bd_s, if_neg (show ¬ (1 : Int32) = 0 by decide), if_neg hv2]
    obtain ⟨flt, pl, bit, cn, list2, e5, h5⟩ := key v 16 gas (q + 16) 0 (fun _ => 0) list (Nat.le_refl _) (Nat.lt_of_lt_of_le (by omega) gas_le) hq3 (Nat.zero_le _) (fun j hj => absurd hj (Nat.not_lt_zero _))
    refine ⟨cn, flt, pl, bit, list2, ?_, h5⟩
    unfold Model_readBytes_J30
    rw [show lpF (Model_readBytes_L37 v (nI (8 * F)) tape) gas ((0 : Int32), (0 : Int32), (-1 : Int32), nI (q + 16), (0 : Int32), list) = _ from e5, bd_s]
