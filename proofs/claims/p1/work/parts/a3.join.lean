/-! CODES, the class's: two queues -/
theorem lp_two {S E : Type} {b : S → Option (S ⊕ E)} {s0 s1 s2 : S} {e : E} (h0 : b s0 = some (Sum.inl s1)) (h1 : b s1 = some (Sum.inl s2)) (h2 : b s2 = some (Sum.inr e)) : lpF b gas s0 = some e := by
  obtain ⟨g, hg⟩ : ∃ g, gas = g + 3 := ⟨gas - 3, by have := gas_le; omega⟩
  rw [hg, lpF_s, h0]
  show lpF b (g + 2) s1 = _
  rw [lpF_s, h1]
  show lpF b (g + 1) s2 = _
  rw [lpF_s, h2]
  rfl
theorem jl_sym {n m i j c x : Nat} {W S sd : Nat → Int32} {q1 q2 : Int32} {q4 q5 : Nat → Int32} (hn : n ≤ 258) (hm : m < 516) (hj : j ≤ m) (hc : c < 2) (hi : i < n) (hx : sd i = nI x) (hxb : x < n) (hw : j = m ∨ ¬ W j < W x) :
    Coder_joinLeast_L28 (q1, q2, nI m, q4, q5) (nI n) sd (nI i, nI j, nI c, W, S) = some (Sum.inl (nI (i + 1), nI j, nI (c + 1), upd W m (W m + W x), upd S x (nI m))) := by
  have h80 : Coder_joinLeast_J80 (nI i, nI j, nI c, W, S) (q1, q2, nI m, q4, q5) sd = some (Sum.inl (nI (i + 1), nI j, nI (c + 1), upd W m (W m + W x), upd S x (nI m))) := by
    show gd (ix (nI i) 258) (gd (ix (sd (nI i).toNatClampNeg) 516) (gd (ix (nI m) 516) (gd (ix (sd (nI i).toNatClampNeg) 516) (gd (ix (nI m) 516) (some (Sum.inl (nI i + (1 : Int32), nI j, nI c + (1 : Int32), upd W (nI m).toNatClampNeg (W (nI m).toNatClampNeg + W (sd (nI i).toNatClampNeg).toNatClampNeg), upd S (sd (nI i).toNatClampNeg).toNatClampNeg (nI m)))))))) = _
    rw [nI_clamp (show i < 2 ^ 31 by omega), hx, nI_clamp (show m < 2 ^ 31 by omega), nI_clamp (show x < 2 ^ 31 by omega), ixN (show i < 258 by omega) (by omega), ixN (show x < 516 by omega) (by omega), ixN hm (by omega), nI_1, nI_1]
    rfl
  show (if nI 2 ≤ nI c then _ else if nI j = nI m then Coder_joinLeast_J45 (nI n) (nI i, nI j, nI c, W, S) (q1, q2, nI m, q4, q5) sd (1 : Int32) else Coder_joinLeast_J45 (nI n) (nI i, nI j, nI c, W, S) (q1, q2, nI m, q4, q5) sd (0 : Int32)) = _
  rw [if_neg (nI_ge hc (by omega))]
  by_cases hjm : j = m
  · rw [if_pos (by rw [hjm])]
    show (if nI n ≤ nI i then _ else Coder_joinLeast_J80 (nI i, nI j, nI c, W, S) (q1, q2, nI m, q4, q5) sd) = _
    rw [if_neg (nI_ge hi (by omega)), h80]
  · rw [if_neg (by rw [nI_eq (by omega) (by omega)]; exact hjm)]
    show (if nI n ≤ nI i then _ else gd (ix (nI i) 258) (gd (ix (sd (nI i).toNatClampNeg) 516) (gd (ix (nI j) 516) (if W (nI j).toNatClampNeg < W (sd (nI i).toNatClampNeg).toNatClampNeg then _ else Coder_joinLeast_J80 (nI i, nI j, nI c, W, S) (q1, q2, nI m, q4, q5) sd)))) = _
    rcases hw with hw | hw
    · exact absurd hw hjm
    · rw [if_neg (nI_ge hi (by omega)), nI_clamp (show i < 2 ^ 31 by omega), hx, nI_clamp (show j < 2 ^ 31 by omega), nI_clamp (show x < 2 ^ 31 by omega), ixN (show i < 258 by omega) (by omega), ixN (show x < 516 by omega) (by omega), ixN (show j < 516 by omega) (by omega), gd_t, gd_t, gd_t, if_neg hw, h80]
theorem jl_sum {n m i j c x : Nat} {W S sd : Nat → Int32} {q1 q2 : Int32} {q4 q5 : Nat → Int32} (hn : n ≤ 258) (hm : m < 516) (hj : j < m) (hc : c < 2) (hi : i ≤ n) (hx : i = n ∨ (i < n ∧ sd i = nI x ∧ x < n ∧ W j < W x)) :
    Coder_joinLeast_L28 (q1, q2, nI m, q4, q5) (nI n) sd (nI i, nI j, nI c, W, S) = some (Sum.inl (nI i, nI (j + 1), nI (c + 1), upd W m (W m + W j), upd S j (nI m))) := by
  have h94 : Coder_joinLeast_J94 (q1, q2, nI m, q4, q5) (nI i, nI j, nI c, W, S) (nI j) = some (Sum.inl (nI i, nI (j + 1), nI (c + 1), upd W m (W m + W j), upd S j (nI m))) := by
    show gd (ix (nI j) 516) (gd (ix (nI m) 516) (gd (ix (nI j) 516) (gd (ix (nI m) 516) (some (Sum.inl (nI i, nI j + (1 : Int32), nI c + (1 : Int32), upd W (nI m).toNatClampNeg (W (nI m).toNatClampNeg + W (nI j).toNatClampNeg), upd S (nI j).toNatClampNeg (nI m))))))) = _
    rw [nI_clamp (show m < 2 ^ 31 by omega), nI_clamp (show j < 2 ^ 31 by omega), ixN (show j < 516 by omega) (by omega), ixN hm (by omega), nI_1, nI_1]
    rfl
  show (if nI 2 ≤ nI c then _ else if nI j = nI m then _ else Coder_joinLeast_J45 (nI n) (nI i, nI j, nI c, W, S) (q1, q2, nI m, q4, q5) sd (0 : Int32)) = _
  rw [if_neg (nI_ge hc (by omega)), if_neg (by rw [nI_eq (by omega) (by omega)]; omega)]
  show (if nI n ≤ nI i then Coder_joinLeast_J94 (q1, q2, nI m, q4, q5) (nI i, nI j, nI c, W, S) (nI j) else gd (ix (nI i) 258) (gd (ix (sd (nI i).toNatClampNeg) 516) (gd (ix (nI j) 516) (if W (nI j).toNatClampNeg < W (sd (nI i).toNatClampNeg).toNatClampNeg then Coder_joinLeast_J94 (q1, q2, nI m, q4, q5) (nI i, nI j, nI c, W, S) (nI j) else _)))) = _
  rcases hx with hx | ⟨h1, h2, h3, h4⟩
  · rw [if_pos (nI_le (by omega) (by omega)), h94]
  · rw [if_neg (nI_ge h1 (by omega)), nI_clamp (show i < 2 ^ 31 by omega), h2, nI_clamp (show j < 2 ^ 31 by omega), nI_clamp (show x < 2 ^ 31 by omega), ixN (show i < 258 by omega) (by omega), ixN (show x < 516 by omega) (by omega), ixN (show j < 516 by omega) (by omega), gd_t, gd_t, gd_t, if_pos h4, h94]
/-- the first i symbols of the sorted row and the sums before j are joined -/
def jn (w0 : Nat → Nat) (n i j m : Nat) (P : Nat → Nat) : Prop := ∀ k, k < m → (P k ≠ 0 ↔ (k < n ∧ kpos (lexk w0 (fun x => x) n) n k < i) ∨ (n ≤ k ∧ k < j))
/-- one pick: what the class takes is the least -/
theorem jl_pick {n m i j c : Nat} {W P w0 : Nat → Nat} {Wc S sd : Nat → Int32} {q1 q2 : Int32} {q4 q5 : Nat → Int32} (hn0 : 0 < n) (hn : n ≤ 258) (hm : m < 516) (hnm : n ≤ m) (hi : i ≤ n) (hnj : n ≤ j) (hj : j ≤ m) (hc : c < 2) (hleft : i < n ∨ j < m)
    (hA : ∀ k, k < n → W k = w0 k) (hO : ∀ b, b < n → sd (kpos (lexk w0 (fun x => x) n) n b) = nI b) (hJ : jn w0 n i j m P) (hmono : ∀ x y, n ≤ x → x < y → y < m → W x ≤ W y) (hW : ∀ k, k < m → Wc k = nI (W k)) (hWb : ∀ k, k < m → P k = 0 → W k < 2 ^ 30) :
    ∃ x i2 j2, isL W P m x ∧ Coder_joinLeast_L28 (q1, q2, nI m, q4, q5) (nI n) sd (nI i, nI j, nI c, Wc, S) = some (Sum.inl (nI i2, nI j2, nI (c + 1), upd Wc m (Wc m + nI (W x)), upd S x (nI m))) ∧ jn w0 n i2 j2 m (updN P x m) ∧ i2 ≤ n ∧ n ≤ j2 ∧ j2 ≤ m ∧ i2 + j2 = i + j + 1 := by
  have hK : ∀ x y, x < n → y < n → lexk w0 (fun x => x) n x = lexk w0 (fun x => x) n y → x = y := fun x y hx hy h => lexk_inj (fun _ h => h) (fun _ _ _ _ h => h) hx hy h
  have hsym : ∀ x, x < n → kpos (lexk w0 (fun x => x) n) n x = i → ∀ k, k < n → P k = 0 → k = x ∨ W x < W k ∨ (W x = W k ∧ x < k) := by
    intro x hx hxi k hk hp
    have h1 : ¬ kpos (lexk w0 (fun x => x) n) n k < i := fun q => (hJ k (by omega)).mpr (Or.inl ⟨hk, q⟩) hp
    by_cases hkx : k = x
    · exact Or.inl hkx
    · have h2 : kpos (lexk w0 (fun x => x) n) n k ≠ kpos (lexk w0 (fun x => x) n) n x := fun q => hkx (hK k x hk hx ((kpos_eq_iff hk hx).mp q))
      have h3 := (kpos_lt_iff hx hk).mp (show kpos (lexk w0 (fun x => x) n) n x < kpos (lexk w0 (fun x => x) n) n k by omega)
      rw [lexk_lt hx hk] at h3
      rw [hA x hx, hA k hk]
      exact Or.inr h3
  have hjsym : ∀ x, x < n → kpos (lexk w0 (fun x => x) n) n x = i → jn w0 n (i + 1) j m (updN P x m) := by
    intro x hx hxi k hk
    by_cases hkx : k = x
    · rw [hkx, updN_s]
      exact ⟨fun _ => Or.inl ⟨hx, by omega⟩, fun _ => by omega⟩
    · rw [updN_n P hkx, hJ k hk]
      constructor
      · rintro (h | h)
        · exact Or.inl ⟨h.1, by omega⟩
        · exact Or.inr h
      · rintro (h | h)
        · have h2 : kpos (lexk w0 (fun x => x) n) n k ≠ kpos (lexk w0 (fun x => x) n) n x := fun q => hkx (hK k x h.1 hx ((kpos_eq_iff h.1 hx).mp q))
          exact Or.inl ⟨h.1, by omega⟩
        · exact Or.inr h
  have hjsum : j < m → jn w0 n i (j + 1) m (updN P j m) := by
    intro hjm k hk
    by_cases hkx : k = j
    · rw [hkx, updN_s]
      exact ⟨fun _ => Or.inr ⟨hnj, by omega⟩, fun _ => by omega⟩
    · rw [updN_n P hkx, hJ k hk]
      constructor
      · rintro (h | h)
        · exact Or.inl h
        · exact Or.inr ⟨h.1, by omega⟩
      · rintro (h | h)
        · exact Or.inl h
        · exact Or.inr ⟨h.1, by omega⟩
  have hpj : j < m → P j = 0 := fun hjm => Decidable.byContradiction (fun q => by
    have := (hJ j hjm).mp q
    omega)
  have hsumle : ∀ k, k < m → n ≤ k → P k = 0 → j ≤ k := fun k hk h1 h2 => Nat.le_of_not_lt (fun q => (hJ k hk).mpr (Or.inr ⟨h1, q⟩) h2)
  by_cases hin : i < n
  · obtain ⟨x, hx, hxi⟩ := kpos_sur hK hin
    have hsx : sd i = nI x := by rw [← hxi]; exact hO x hx
    have hpx : P x = 0 := Decidable.byContradiction (fun q => by
      have := (hJ x (by omega)).mp q
      omega)
    by_cases hcmp : j = m ∨ ¬ W j < W x
    · refine ⟨x, i + 1, j, ⟨by omega, hpx, fun k hk hp => ?_⟩, ?_, hjsym x hx hxi, by omega, hnj, hj, by omega⟩
      · rcases Nat.lt_or_ge k n with h1 | h1
        · exact hsym x hx hxi k h1 hp
        · have h2 := hsumle k hk h1 hp
          have h3 : W j ≤ W k := by
            rcases Nat.lt_or_ge j k with h4 | h4
            · exact hmono j k hnj h4 hk
            · rw [show k = j by omega]; exact Nat.le_refl _
          omega
      · rw [jl_sym hn hm hj hc hin hsx hx (by
          rcases hcmp with q | q
          · exact Or.inl q
          · by_cases hjm : j = m
            · exact Or.inl hjm
            · refine Or.inr (fun q2 => q ?_)
              rw [hW j (by omega), hW x (by omega)] at q2
              exact (nI_ltI (by have := hWb j (by omega) (hpj (by omega)); omega) (by have := hWb x (by omega) hpx; omega)).mp q2), hW x (by omega)]
    · have hjm : j < m := by omega
      have hlt : W j < W x := by omega
      refine ⟨j, i, j + 1, ⟨hjm, hpj hjm, fun k hk hp => ?_⟩, ?_, hjsum hjm, hi, by omega, by omega, by omega⟩
      · rcases Nat.lt_or_ge k n with h1 | h1
        · have h2 := hsym x hx hxi k h1 hp
          have h3 : W x ≤ W k := by
            rcases h2 with h2 | h2 | h2
            · rw [h2]; exact Nat.le_refl _
            · omega
            · omega
          omega
        · have h2 := hsumle k hk h1 hp
          rcases Nat.lt_or_ge j k with h4 | h4
          · have := hmono j k hnj h4 hk
            omega
          · omega
      · rw [jl_sum hn hm hjm hc hi (Or.inr ⟨hin, hsx, hx, by
          rw [hW j hjm, hW x (by omega)]
          exact (nI_ltI (by have := hWb j (by omega) (hpj (by omega)); omega) (by have := hWb x (by omega) hpx; omega)).mpr hlt⟩), hW j hjm]
  · have hjm : j < m := by omega
    refine ⟨j, i, j + 1, ⟨hjm, hpj hjm, fun k hk hp => ?_⟩, ?_, hjsum hjm, hi, by omega, by omega, by omega⟩
    · rcases Nat.lt_or_ge k n with h1 | h1
      · exfalso
        have h2 := kpos_lt (K := lexk w0 (fun x => x) n) h1
        exact (hJ k hk).mpr (Or.inl ⟨h1, by omega⟩) hp
      · have h2 := hsumle k hk h1 hp
        rcases Nat.lt_or_ge j k with h4 | h4
        · have := hmono j k hnj h4 hk
          omega
        · omega
    · rw [jl_sum (x := 0) hn hm hjm hc hi (Or.inl (by omega)), hW j hjm]
theorem joinLeast_eq {n : Nat} {wt sm0 sd : Nat → Int32} {w0 : Nat → Nat} (hn2 : 2 ≤ n) (hn : n ≤ 258) (hw : ∀ k, k < n → wt k = nI (w0 k)) (ht : sm w0 n < 2 ^ 30) (hO : ∀ b, b < n → sd (kpos (lexk w0 (fun x => x) n) n b) = nI b) :
    ∃ Wc S, Coder_joinLeast_f (nI n) sd wt sm0 = some (Wc, S) ∧ ∀ k, k + 2 < 2 * n → S k = nI ((hst n w0 (n - 1)).2 k) := by
  have l1 : ∃ p : (Nat → Int32) × (Nat → Int32), lpF (Coder_joinLeast_L7 (nI n) sd) gas ((0 : Int32), nI n, nI n, wt, sm0) = some p ∧ ∀ k, k + 2 < 2 * n → p.2 k = nI ((hst n w0 (n - 1)).2 k) := by
    refine lp_for (fun r s => ∃ i j Wc S, s = (nI i, nI j, nI (n + r), Wc, S) ∧ i ≤ n ∧ n ≤ j ∧ j ≤ n + r ∧ i + j = n + 2 * r ∧ jn w0 n i j (n + r) (hst n w0 r).2 ∧ (∀ k, k < n + r → Wc k = nI ((hst n w0 r).1 k)) ∧ ∀ k, k < n + r → (hst n w0 r).2 k ≠ 0 → S k = nI ((hst n w0 r).2 k)) _ (i0 := 0) (N := n - 1) (Nat.zero_le _) (by omega) ?_ ?_ ⟨0, n, wt, sm0, rfl, by omega, by omega, by omega, by omega, fun k hk => ⟨fun h => absurd rfl h, fun h => by omega⟩, hw, fun k hk h => absurd rfl h⟩
    · rintro r s _ hr ⟨i, j, Wc, S, rfl, hi, hnj, hj, hij, hJ, hW, hS⟩
      have h := hst_I (n := n) w0 r (by omega)
      have hWb : ∀ k, k < n + r → (hst n w0 r).2 k = 0 → (hst n w0 r).1 k < 2 ^ 30 := by
        intro k hk hp
        have h1 := sm_le (f := fun k => if (hst n w0 r).2 k = 0 then (hst n w0 r).1 k else 0) hk
        rw [h.T] at h1
        have h2 : (if (hst n w0 r).2 k = 0 then (hst n w0 r).1 k else 0) = (hst n w0 r).1 k := if_pos hp
        have h3 : (if (hst n w0 r).2 k = 0 then (hst n w0 r).1 k else 0) ≤ sm w0 n := h1
        omega
      have hmono : ∀ x y, n ≤ x → x < y → y < n + r → (hst n w0 r).1 x ≤ (hst n w0 r).1 y := fun x y hx hxy hy => hI_sums h hx hxy hy
      have hst1 : hst n w0 (r + 1) = hnx (hst n w0 r).1 (hst n w0 r).2 (n + r) := rfl
      generalize (hst n w0 r).1 = W at *
      generalize (hst n w0 r).2 = P at *
      obtain ⟨m, hm⟩ : ∃ m, m = n + r := ⟨_, rfl⟩
      rw [← hm] at hJ hW hS hWb hmono hst1 hj ⊢
      obtain ⟨a, i2, j2, ha, ea, hJ2, hi2, hnj2, hj2, hij2⟩ := jl_pick (c := 0) (Wc := upd Wc m 0) (S := S) (q1 := nI i) (q2 := nI j) (q4 := Wc) (q5 := S) (by omega) hn (by omega) (by omega) hi hnj hj (by omega) (by omega) h.A hO hJ hmono (fun k hk => by rw [pk_un (by omega)]; exact hW k hk) hWb
      have hpa := ha.2.1
      have ham := ha.1
      obtain ⟨b, i3, j3, hb, eb, hJ3, hi3, hnj3, hj3, hij3⟩ := jl_pick (c := 1) (Wc := upd (upd Wc m 0) m (upd Wc m 0 m + nI (W a))) (S := upd S a (nI m)) (q1 := nI i) (q2 := nI j) (q4 := Wc) (q5 := S) (by omega) hn (by omega) (by omega) hi2 hnj2 hj2 (by omega) (by omega) h.A hO hJ2 hmono (fun k hk => by rw [pk_un (by omega), pk_un (by omega)]; exact hW k hk) (fun k hk hp => by
        by_cases hka : k = a
        · rw [hka, updN_s] at hp; omega
        · rw [updN_n P hka] at hp
          exact hWb k hk hp)
      have hbm := hb.1
      have hab : b ≠ a := fun q => by
        have h1 := hb.2.1
        rw [q, updN_s] at h1
        omega
      have hpb : P b = 0 := by
        have h1 := hb.2.1
        rwa [updN_n P hab] at h1
      rw [hnx_eq ha hb] at hst1
      refine ⟨(nI i3, nI j3, nI (n + (r + 1)), upd Wc m (nI (W a + W b)), upd (upd S a (nI m)) b (nI m)), ?_, i3, j3, _, _, rfl, hi3, hnj3, by omega, by omega, ?_, fun k hk => ?_, fun k hk hp => ?_⟩
      · have hlp : lpF (Coder_joinLeast_L28 (nI i, nI j, nI m, Wc, S) (nI n) sd) gas (nI i, nI j, (0 : Int32), upd Wc (nI m).toNatClampNeg (0 : Int32), S) = some (nI i3, nI j3, upd Wc m (nI (W a + W b)), upd (upd S a (nI m)) b (nI m)) := by
          rw [nI_clamp (show m < 2 ^ 31 by omega)]
          refine lp_two ea eb ?_
          show (if nI 2 ≤ nI 2 then some (Sum.inr (nI i3, nI j3, upd (upd (upd Wc m 0) m (upd Wc m 0 m + nI (W a))) m (upd (upd Wc m 0) m (upd Wc m 0 m + nI (W a)) m + nI (W b)), upd (upd S a (nI m)) b (nI m))) else _) = _
          rw [if_pos (nI_le (Nat.le_refl 2) (by omega)), pk_us, pk_us, Int32.zero_add, nI_add]
          have hu : upd (upd (upd Wc m 0) m (nI (W a))) m (nI (W a + W b)) = upd Wc m (nI (W a + W b)) := by
            funext k
            by_cases hk : k = m
            · rw [hk, pk_us, pk_us]
            · rw [pk_un hk, pk_un hk, pk_un hk, pk_un hk]
          rw [hu]
        show (if nI 2 * nI n - nI 1 ≤ nI m then _ else gd (ix (nI m) 516) (bd (lpF (Coder_joinLeast_L28 (nI i, nI j, nI m, Wc, S) (nI n) sd) gas (nI i, nI j, (0 : Int32), upd Wc (nI m).toNatClampNeg (0 : Int32), S)) (fun v9 => some (Sum.inl (v9.1, v9.2.1, nI m + (1 : Int32), v9.2.2.1, v9.2.2.2))))) = _
        rw [pk_mul, pk_sub (by omega), if_neg (nI_ge (by omega) (by omega)), ixN (show m < 516 by omega) (by omega), gd_t, hlp, bd_s, nI_1, show n + (r + 1) = m + 1 by omega]
      · rw [hst1, show n + (r + 1) = m + 1 by omega]
        intro k hk
        rcases Nat.lt_or_ge k m with h1 | h1
        · show updN (updN (updN P a m) b m) m 0 k ≠ 0 ↔ _
          rw [updN_n _ (by omega)]
          exact hJ3 k h1
        · rw [show k = m by omega]
          show updN (updN (updN P a m) b m) m 0 m ≠ 0 ↔ _
          rw [updN_s]
          exact ⟨fun q => absurd rfl q, fun q => by omega⟩
      · rw [hst1]
        show upd Wc m (nI (W a + W b)) k = nI (updN W m (W a + W b) k)
        by_cases hk2 : k = m
        · rw [hk2, pk_us, updN_s]
        · rw [pk_un hk2, updN_n W hk2]
          exact hW k (by omega)
      · rw [hst1] at hp ⊢
        have hp : updN (updN (updN P a m) b m) m 0 k ≠ 0 := hp
        show upd (upd S a (nI m)) b (nI m) k = nI (updN (updN (updN P a m) b m) m 0 k)
        have hkm : k ≠ m := fun q => by rw [q, updN_s] at hp; exact hp rfl
        rw [updN_n _ hkm] at hp ⊢
        by_cases hkb : k = b
        · rw [hkb, pk_us, updN_s]
        · rw [pk_un hkb]
          rw [updN_n _ hkb] at hp ⊢
          by_cases hka : k = a
          · rw [hka, pk_us, updN_s]
          · rw [pk_un hka]
            rw [updN_n _ hka] at hp ⊢
            exact hS k (by omega) hp
    · rintro s ⟨i, j, Wc, S, rfl, hi, hnj, hj, hij, hJ, hW, hS⟩
      refine ⟨(Wc, S), ?_, fun k hk => ?_⟩
      · show (if nI 2 * nI n - nI 1 ≤ nI (n + (n - 1)) then some (Sum.inr (Wc, S)) else _) = _
        rw [pk_mul, pk_sub (by omega), if_pos (nI_le (by omega) (by omega))]
      · refine hS k (by omega) ?_
        have := (hst_F (w0 := w0) hn2).up k hk
        omega
  obtain ⟨⟨Wc, S⟩, e1, hS⟩ := l1
  refine ⟨Wc, S, ?_, hS⟩
  unfold Coder_joinLeast_f
  rw [e1]
  rfl
