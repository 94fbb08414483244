/-! ROTATED, the class's: the whole -/
/-- what stands in the stage of w bytes -/
def rst (t : Nat → Nat) (n w : Nat) (od rk : Nat → Int32) (r : Nat) : Prop := ∃ K : Nat → Nat, (∀ x y, x < n → y < n → K x = K y → x = y) ∧ (∀ x y, x < n → y < n → K x < K y → rv t n x w ≤ rv t n y w) ∧ (∀ b, b < n → od (kpos K n b) = nI b) ∧ (∀ b, b < n → rk b = nI (kpos (fun x => rv t n x w) n b)) ∧ rk_r K (fun x => rv t n x w) n n r
theorem rv_1 {t : Nat → Nat} {n x : Nat} (hx : x < n) : rv t n x 1 = t x := by
  rw [rv_s]
  show 0 * 256 + t ((x + 0) % n) = t x
  rw [Nat.add_zero, Nat.mod_eq_of_lt hx]
  omega
theorem rst_next {t : Nat → Nat} {n w : Nat} {sl od rk odn rkn : Nat → Int32} {r : Nat} (hn : n ≤ 2250) (hw : w < n) (ht : ∀ j, j < n → t j < 256) (h : rst t n w od rk r) :
    ∃ S O r2 R2, Rotations_sortByNext_f (nI n) sl od (nI w) rk odn = some (S, od, O) ∧ Rotations_rankByNext_f (nI n) O (nI w) rk rkn = some (nI r2, rk, R2) ∧ rst t n (w + w) O R2 r2 := by
  obtain ⟨K, hK, hm, hO, hR, hr⟩ := h
  have h0 : 0 < n := by omega
  have hmn : ∀ x, (x + w) % n < n := fun x => Nat.mod_lt _ h0
  obtain ⟨S, O, e1, hO2⟩ := sortByNext_eq (sl := sl) (odn := odn) hn hw hK hO hR
  have he : ∀ x, x < n → (fun x => kpos K n ((x + w) % n)) x < n := fun x _ => kpos_lt (hmn x)
  have hmod : ∀ x y, x < n → y < n → (x + w) % n = (y + w) % n → x = y := by
    intro x y hx hy h1
    have h2 : ∀ x, x < n → (x + w) % n = x + w ∨ (x + w) % n = x + w - n ∧ n ≤ x + w := by
      intro x hx
      by_cases h : x + w < n
      · exact Or.inl (Nat.mod_eq_of_lt h)
      · exact Or.inr ⟨by rw [Nat.mod_eq_sub_mod (by omega), Nat.mod_eq_of_lt (by omega)], by omega⟩
    have h3 := h2 x hx
    have h4 := h2 y hy
    omega
  have hi : ∀ x y, x < n → y < n → (fun x => kpos K n ((x + w) % n)) x = (fun x => kpos K n ((x + w) % n)) y → x = y := fun x y hx hy h => hmod x y hx hy (hK _ _ (hmn x) (hmn y) ((kpos_eq_iff (hmn x) (hmn y)).mp h))
  have hm2 : ∀ x y, x < n → y < n → lexk (fun x => rv t n x w) (fun x => kpos K n ((x + w) % n)) n x < lexk (fun x => rv t n x w) (fun x => kpos K n ((x + w) % n)) n y → rv t n x (w + w) ≤ rv t n y (w + w) := by
    intro x y hx hy h
    rw [lexk_lt (V := fun x => rv t n x w) (e := fun x => kpos K n ((x + w) % n)) (he x hx) (he y hy)] at h
    refine Nat.le_of_not_lt (fun q => ?_)
    rw [rv_lt h0 ht] at q
    rcases h with h | ⟨h, h2⟩
    · have h : rv t n x w < rv t n y w := h
      omega
    · have h : rv t n x w = rv t n y w := h
      have h3 := (kpos_lt_iff (hmn x) (hmn y)).mp h2
      have h4 := hm _ _ (hmn x) (hmn y) h3
      rw [rv_mod, rv_mod] at h4
      omega
  obtain ⟨r2, R2, e2, hR2, hr2⟩ := rankByNext_eq (rkn := rkn) (V := fun x => rv t n x w) (V2 := fun x => rv t n x (w + w)) hn hw (fun x y hx hy => lexk_inj he hi hx hy) hm2 hO2 hR (fun x y hx hy => by
    show rv t n x (w + w) = rv t n y (w + w) ↔ rv t n x w = rv t n y w ∧ rv t n ((x + w) % n) w = rv t n ((y + w) % n) w
    rw [rv_mod, rv_mod]
    exact rv_eq h0 ht x y w w)
  exact ⟨S, O, r2, R2, e1, e2, _, fun x y hx hy => lexk_inj he hi hx hy, hm2, hO2, hR2, hr2⟩
theorem rotate_c {n n1 n3 : Nat} {sl f1 od rk odn rkn f3 : Nat → Int32} {t : Nat → Nat} (h0 : 0 < n) (hn : n ≤ 2250) (hn1 : n ≤ n1) (h1 : n1 < 2 ^ 31) (hn3 : n ≤ n3) (h3 : n3 < 2 ^ 31) (hf : ∀ j, j < n → f1 j = nI (t j) ∧ t j < 256) :
    ∃ S O r R On Rn L, Rotations_rotate_f sl (nI n) n1 f1 od rk odn rkn n3 f3 = some (nI (kpos (rot t n) n 0), S, O, r, R, On, Rn, L) ∧ ∀ b, b < n → L (kpos (rot t n) n b) = nI (t ((b + n - 1) % n)) := by
  have ht : ∀ j, j < n → t j < 256 := fun j hj => (hf j hj).2
  obtain ⟨S1, O1, e1, hO1⟩ := sortByByte_eq (f2 := od) (f3 := sl) hn1 h1 (by omega) hn (by omega) (show 257 ≤ 2250 by omega) (by omega) hf
  have hK1 : ∀ x y, x < n → y < n → lexk t (fun x => x) n x = lexk t (fun x => x) n y → x = y := fun x y hx hy h => lexk_inj (fun _ h => h) (fun _ _ _ _ h => h) hx hy h
  have hm1 : ∀ x y, x < n → y < n → lexk t (fun x => x) n x < lexk t (fun x => x) n y → t x ≤ t y := by
    intro x y hx hy h
    rw [lexk_lt hx hy] at h
    omega
  obtain ⟨r1, R1, e2, hR1, hr1⟩ := rankByByte_eq (rk := rk) hn hn1 h1 hK1 hm1 hO1 hf
  have hst : rst t n 1 O1 R1 r1 := by
    have hk : ∀ b, b < n → kpos (fun x => rv t n x 1) n b = kpos t n b := by
      intro b hb
      refine cnt_congr (fun j hj => ?_)
      show decide (rv t n j 1 < rv t n b 1) = _
      rw [rv_1 hj, rv_1 hb]
    refine ⟨_, hK1, fun x y hx hy h => ?_, hO1, fun b hb => ?_, hr1.1, fun h x y hx hy hxy hy2 => ?_⟩
    · rw [rv_1 hx, rv_1 hy]
      exact hm1 x y hx hy h
    · rw [hR1 b hb, hk b hb]
    · show rv t n x 1 < rv t n y 1
      rw [rv_1 hx, rv_1 hy]
      exact hr1.2 h x y hx hy hxy hy2
  have l1 : ∃ e : (Nat → Int32) × (Nat → Int32) × Int32 × (Nat → Int32) × (Nat → Int32) × (Nat → Int32), lpF (Rotations_rotate_L22 (nI n)) gas ((1 : Int32), S1, O1, nI r1, R1, odn, rkn) = some e ∧ ∀ b, b < n → e.2.2.2.1 b = nI (kpos (fun x => rv t n x n) n b) := by
    refine lp_totg (fun s => ∃ w S O r R On Rn, s = (nI w, S, O, nI r, R, On, Rn) ∧ 0 < w ∧ w < 5000 ∧ rst t n w O R r) (fun s => 5000 - s.1.toNatClampNeg) _ ?_ ⟨1, S1, O1, r1, R1, odn, rkn, rfl, by omega, by omega, hst⟩ (by show 5000 - _ < 1000000; omega)
    rintro s ⟨w, S, O, r, R, On, Rn, rfl, hw0, hw, hs⟩
    have hdone : (n ≤ w ∨ ∀ x y, x < n → y < n → rv t n x w = rv t n y w → x = y) → ∀ b, b < n → R b = nI (kpos (fun x => rv t n x n) n b) := by
      intro hh b hb
      obtain ⟨K, hK, hm, hO, hR, hr⟩ := hs
      rw [hR b hb]
      refine congrArg nI (cnt_congr (fun j hj => ?_))
      rw [decide_eq_decide]
      exact rv_done h0 ht hh hj hb
    by_cases h1 : n ≤ w
    · refine Or.inr ⟨(S, O, nI r, R, On, Rn), ?_, hdone (Or.inl h1)⟩
      show (if nI n ≤ nI w then _ else _) = _
      rw [if_pos (nI_le h1 (by omega))]
    · by_cases h2 : n ≤ r
      · refine Or.inr ⟨(S, O, nI r, R, On, Rn), ?_, hdone (Or.inr ?_)⟩
        · show (if nI n ≤ nI w then _ else if nI n ≤ nI r then _ else _) = _
          obtain ⟨K, hK, hm, hO, hR, hr⟩ := hs
          have := hr.1
          rw [if_neg (nI_ge (by omega) (by omega)), if_pos (nI_le h2 (by omega))]
        · obtain ⟨K, hK, hm, hO, hR, hr⟩ := hs
          have h3 : r = n := Nat.le_antisymm hr.1 h2
          rw [h3] at hr
          exact rk_inj hK hr
      · obtain ⟨S2, O2, r2, R2, e3, e4, hs2⟩ := rst_next (sl := S) (odn := On) (rkn := Rn) hn (by omega) ht hs
        refine Or.inl ⟨(nI (w + w), S2, O2, nI r2, R2, O, R), ?_, ⟨w + w, S2, O2, r2, R2, O, R, rfl, by omega, by omega, hs2⟩, ?_⟩
        · show (if nI n ≤ nI w then _ else if nI n ≤ nI r then _ else bd (Rotations_sortByNext_f (nI n) S O (nI w) R On) (fun u20 => bd (Rotations_rankByNext_f (nI n) u20.2.2 (nI w) R Rn) (fun u21 => some (Sum.inl (nI w * nI 2, u20.1, u20.2.2, u21.1, u21.2.2, u20.2.1, u21.2.1))))) = _
          rw [if_neg (nI_ge (by omega) (by omega)), if_neg (nI_ge (by omega) (by omega)), e3, bd_s, e4, bd_s, pk_mul, show w * 2 = w + w by omega]
        · show 5000 - (nI (w + w)).toNatClampNeg < 5000 - (nI w).toNatClampNeg
          rw [nI_clamp (by omega), nI_clamp (by omega)]
          omega
  obtain ⟨⟨S2, O2, r2, R2, On2, Rn2⟩, e3, hR2⟩ := l1
  obtain ⟨S3, O3, e4, hO3⟩ := sortEq_eq (sl := S2) (od := O2) hn hR2
  have hKr : ∀ x y, x < n → y < n → rot t n x = rot t n y → x = y := fun x y hx hy h => lexk_inj (fun _ h => h) (fun _ _ _ _ h => h) hx hy h
  have l2 : ∃ e : Int32 × (Nat → Int32), lpF (Rotations_rotate_L70 (nI n) (S3, O3) n1 n3 f1) gas ((0 : Int32), (0 : Int32), f3) = some e ∧ e.1 = nI (kpos (rot t n) n 0) ∧ ∀ b, b < n → e.2 (kpos (rot t n) n b) = nI (t ((b + n - 1) % n)) := by
    refine lp_for (fun i s => ∃ og L, s = (og, nI i, L) ∧ (kpos (rot t n) n 0 < i → og = nI (kpos (rot t n) n 0)) ∧ ∀ b, b < n → kpos (rot t n) n b < i → L (kpos (rot t n) n b) = nI (t ((b + n - 1) % n))) _ (i0 := 0) (N := n) (Nat.zero_le _) (by omega) ?_ ?_ ⟨_, _, rfl, fun h => absurd h (Nat.not_lt_zero _), fun b _ h => absurd h (Nat.not_lt_zero _)⟩
    · rintro i s _ hi ⟨og, L, rfl, hog, hL⟩
      obtain ⟨x, hx, hxi⟩ := kpos_sur hKr hi
      have hox : O3 i = nI x := by rw [← hxi]; exact hO3 x hx
      have hpm : (x + n - 1) % n < n := Nat.mod_lt _ h0
      have hJ : ∀ (j0 j1 : Int32), j1 = nI ((x + n - 1) % n) → Rotations_rotate_J113 n1 n3 (og, nI i, L) f1 j0 j1 (nI i) = some (Sum.inl (j0, nI (i + 1), upd L i (nI (t ((x + n - 1) % n))))) := by
        intro j0 j1 hj
        unfold Rotations_rotate_J113
        rw [hj, nI_clamp (show (x + n - 1) % n < 2 ^ 31 by omega), (hf _ hpm).1]
        show gd (ix (nI ((x + n - 1) % n)) n1) (gd (ix (nI i) n3) (some (Sum.inl (j0, nI i + (1 : Int32), upd L (nI i).toNatClampNeg (nI (t ((x + n - 1) % n))))))) = _
        rw [ixN (show (x + n - 1) % n < n1 by omega) (by omega), ixN (show i < n3 by omega) (by omega), nI_1 i, nI_clamp (show i < 2 ^ 31 by omega)]
        rfl
      have hL2 : ∀ b, b < n → kpos (rot t n) n b < i + 1 → upd L i (nI (t ((x + n - 1) % n))) (kpos (rot t n) n b) = nI (t ((b + n - 1) % n)) := by
        intro b hb hbi
        by_cases h : kpos (rot t n) n b = i
        · have h2 : b = x := hKr b x hb hx ((kpos_eq_iff hb hx).mp (by omega))
          rw [h, pk_us, h2]
        · rw [pk_un h]
          exact hL b hb (by omega)
      have hS : Rotations_rotate_L70 (nI n) (S3, O3) n1 n3 f1 (og, nI i, L) = (if nI x = 0 then Rotations_rotate_J94 n1 n3 (og, nI i, L) f1 (nI n) (nI i) (nI x) else Rotations_rotate_J94 n1 n3 (og, nI i, L) f1 (nI n) og (nI x)) := by
        show (if nI n ≤ nI i then _ else gd (ix (nI i) 2250) (if O3 (nI i).toNatClampNeg = 0 then Rotations_rotate_J94 n1 n3 (og, nI i, L) f1 (nI n) (nI i) (O3 (nI i).toNatClampNeg) else Rotations_rotate_J94 n1 n3 (og, nI i, L) f1 (nI n) og (O3 (nI i).toNatClampNeg))) = _
        rw [if_neg (nI_ge hi (by omega)), nI_clamp (show i < 2 ^ 31 by omega), hox, ixN (show i < 2250 by omega) (by omega)]
        rfl
      by_cases hx0 : x = 0
      · refine ⟨(nI i, nI (i + 1), upd L i (nI (t ((x + n - 1) % n)))), ?_, _, _, rfl, fun _ => by rw [← hxi, hx0], hL2⟩
        rw [hS, if_pos (by rw [hx0]; rfl)]
        show (if nI x = 0 then Rotations_rotate_J113 n1 n3 (og, nI i, L) f1 (nI i) (nI n - nI 1) (nI i) else _) = _
        rw [if_pos (by rw [hx0]; rfl)]
        refine hJ _ _ ?_
        rw [pk_sub (by omega), hx0, Nat.zero_add, Nat.mod_eq_of_lt (by omega)]
      · refine ⟨(og, nI (i + 1), upd L i (nI (t ((x + n - 1) % n)))), ?_, _, _, rfl, fun h => hog ?_, hL2⟩
        · rw [hS, if_neg (nI_ne0 (by omega) (by omega))]
          show (if nI x = 0 then _ else Rotations_rotate_J113 n1 n3 (og, nI i, L) f1 og (nI x - nI 1) (nI i)) = _
          rw [if_neg (nI_ne0 (by omega) (by omega))]
          refine hJ _ _ ?_
          rw [pk_sub (by omega), show x + n - 1 = x - 1 + n by omega, Nat.add_mod_right, Nat.mod_eq_of_lt (by omega)]
        · have h2 : kpos (rot t n) n 0 ≠ i := fun q => hx0 (hKr x 0 hx h0 ((kpos_eq_iff hx h0).mp (by omega)))
          omega
    · rintro s ⟨og, L, rfl, hog, hL⟩
      refine ⟨(og, L), ?_, hog (kpos_lt h0), fun b hb => hL b hb (kpos_lt hb)⟩
      show (if nI n ≤ nI n then _ else _) = _
      rw [if_pos (nI_le (Nat.le_refl n) (by omega))]
  obtain ⟨⟨og, L⟩, e5, hog, hL⟩ := l2
  have hog : og = nI (kpos (rot t n) n 0) := hog
  refine ⟨S3, O3, r2, R2, On2, Rn2, L, ?_, hL⟩
  unfold Rotations_rotate_f
  rw [e1, bd_s]
  show bd (Rotations_rankByByte_f (nI n) O1 n1 f1 rk) _ = _
  rw [e2, bd_s]
  show bd (lpF (Rotations_rotate_L22 (nI n)) gas ((1 : Int32), S1, O1, nI r1, R1, odn, rkn)) _ = _
  rw [e3, bd_s]
  show bd (Rotations_sortEqualByPlace_f (nI n) S2 R2 O2) _ = _
  rw [e4, bd_s, e5, hog]
  rfl
