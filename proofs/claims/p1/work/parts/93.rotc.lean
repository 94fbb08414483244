/-! ROTATED, the class's: counting sorts and ranks -/
theorem sba {y w n : Nat} (h : w ≤ n) : nI y - nI w + nI n = nI (y + n - w) := by
  rw [Int32.sub_eq_add_neg, Int32.add_assoc, Int32.add_comm (-nI w), ← Int32.sub_eq_add_neg, pk_sub h, nI_add]
  exact congrArg nI (by omega)
theorem slots_eq {n : Nat} {f : Nat → Int32} (h : n ≤ 2250) : Rotations_openSlots_f (nI n) f = some (idr f n) := by
  have key : lpF (Rotations_openSlots_L2 (nI n)) gas (nI 0, idr f 0) = some (idr f n) := by
    refine lp_gas (fun i => (nI i, idr f i)) (Nat.zero_le n) (by omega) ?_ ?_
    · intro i _ hi
      show (if nI n ≤ nI i then _ else gd (ix (nI i) 2250) (some (Sum.inl (nI i + 1, upd (idr f i) (nI i).toNatClampNeg (nI i))))) = _
      rw [if_neg (nI_ge hi (by omega)), ixN (show i < 2250 by omega) (by omega), nI_1, nI_clamp (show i < 2 ^ 31 by omega), idr_s]
      rfl
    · show (if nI n ≤ nI n then _ else _) = _
      rw [if_pos (nI_le (Nat.le_refl n) (by omega))]
  rw [idr_0] at key
  show bd (lpF (Rotations_openSlots_L2 (nI n)) gas (nI 0, f)) _ = _
  rw [key]
  rfl
/-- sortByByte: the places in the order of bytes, equal ones by their place -/
theorem sortByByte_eq {n n0 n2 n3 : Nat} {f0 f2 f3 : Nat → Int32} {t : Nat → Nat} (hn0 : n ≤ n0) (h0 : n0 < 2 ^ 31) (hn : n < 1000000) (hn2 : n ≤ n2) (h2 : n2 < 2 ^ 31) (hn3 : 257 ≤ n3) (h3 : n3 < 1000000) (ht : ∀ j, j < n → f0 j = nI (t j) ∧ t j < 256) :
    ∃ S O, Rotations_sortByByte_f n3 f3 (nI n) n0 f0 n2 f2 = some (S, O) ∧ ∀ b, b < n → O (kpos (lexk t (fun x => x) n) n b) = nI b := by
  have l1 : ∃ S1, lpF (Rotations_sortByByte_L12 (nI n) n0 f0 n3) gas ((0 : Int32), flr f3 0 257 0) = some S1 ∧ ∀ v, v < 257 → S1 v = nI (cnt (fun y => decide (t y + 1 = v)) n) := by
    refine lp_for (fun i s => ∃ S, s = (nI i, S) ∧ ∀ v, v < 257 → S v = nI (cnt (fun y => decide (t y + 1 = v)) i)) _ (i0 := 0) (N := n) (Nat.zero_le _) hn ?_ ?_ ⟨_, rfl, fun v hv => ?_⟩
    · rintro i s _ hi ⟨S, rfl, hS⟩
      obtain ⟨ht1, ht2⟩ := ht i hi
      refine ⟨(nI (i + 1), upd S (t i + 1) (S (t i + 1) + 1)), ?_, _, rfl, fun v hv => ?_⟩
      · show (if nI n ≤ nI i then _ else gd (ix (nI i) n0) (gd (ix (f0 (nI i).toNatClampNeg + (1 : Int32)) n3) (gd (ix (f0 (nI i).toNatClampNeg + (1 : Int32)) n3) (some (Sum.inl (nI i + (1 : Int32), upd S (f0 (nI i).toNatClampNeg + (1 : Int32)).toNatClampNeg (S (f0 (nI i).toNatClampNeg + (1 : Int32)).toNatClampNeg + (1 : Int32)))))))) = _
        rw [if_neg (nI_ge hi (by omega)), nI_clamp (show i < 2 ^ 31 by omega), ht1, nI_1 (t i), ixN (show i < n0 by omega) (by omega), ixN (show t i + 1 < n3 by omega) (by omega), nI_clamp (show t i + 1 < 2 ^ 31 by omega), nI_1 i]
        rfl
      · by_cases h : v = t i + 1
        · subst h
          rw [pk_us, hS _ hv, nI_1, cnt_s, tN_t (decide_eq_true rfl)]
        · rw [pk_un h, hS v hv, cnt_s, tN_f (decide_eq_false (by omega)), Nat.add_zero]
    · rintro s ⟨S, rfl, hS⟩
      refine ⟨S, ?_, hS⟩
      show (if nI n ≤ nI n then _ else _) = _
      rw [if_pos (nI_le (Nat.le_refl n) (by omega))]
    · show (if 0 ≤ v ∧ v < 257 then (0 : Int32) else f3 v) = _
      rw [if_pos (by omega)]
      rfl
  obtain ⟨S1, e1, hS1⟩ := l1
  have l2 : ∃ S2, lpF (Rotations_sortByByte_L39 n3) gas ((1 : Int32), S1) = some S2 ∧ ∀ v, v < 256 → S2 v = nI (cnt (fun y => decide (t y < v)) n) := by
    refine lp_for (fun i s => ∃ S, s = (nI i, S) ∧ (∀ v, v < i → S v = nI (cnt (fun y => decide (t y < v)) n)) ∧ ∀ v, i ≤ v → v < 257 → S v = nI (cnt (fun y => decide (t y + 1 = v)) n)) _ (i0 := 1) (N := 256) (by omega) (by omega) ?_ ?_ ⟨_, rfl, fun v hv => ?_, fun v _ hv => hS1 v hv⟩
    · rintro i s hi1 hi ⟨S, rfl, hA, hB⟩
      obtain ⟨k, rfl⟩ : ∃ k, i = k + 1 := ⟨i - 1, by omega⟩
      have hc : cnt (fun y => decide (t y < k + 1)) n = cnt (fun y => decide (t y + 1 = k + 1)) n + cnt (fun y => decide (t y < k)) n := by
        refine cnt_or (fun j hj => ?_) (fun j hj h => ?_)
        · rw [← Bool.decide_or, decide_eq_decide]
          omega
        · simp only [decide_eq_true_eq, decide_eq_false_iff_not] at h ⊢
          omega
      have hv : S (k + 1) + S k = nI (cnt (fun y => decide (t y < k + 1)) n) := by
        rw [hB (k + 1) (Nat.le_refl _) (by omega), hA k (by omega), nI_add, hc]
      refine ⟨(nI (k + 1 + 1), upd S (k + 1) (S (k + 1) + S k)), ?_, _, rfl, fun v hv2 => ?_, fun v hv2 hv3 => ?_⟩
      · show (if nI 256 ≤ nI (k + 1) then _ else gd (ix (nI (k + 1)) n3) (gd (ix (nI (k + 1) - (1 : Int32)) n3) (gd (ix (nI (k + 1)) n3) (some (Sum.inl (nI (k + 1) + (1 : Int32), upd S (nI (k + 1)).toNatClampNeg (S (nI (k + 1)).toNatClampNeg + S (nI (k + 1) - (1 : Int32)).toNatClampNeg))))))) = _
        rw [if_neg (nI_ge hi (by omega)), nI_pred, ixN (show k + 1 < n3 by omega) (by omega), ixN (show k < n3 by omega) (by omega), nI_clamp (show k + 1 < 2 ^ 31 by omega), nI_clamp (show k < 2 ^ 31 by omega), nI_1 (k + 1)]
        rfl
      · by_cases h : v = k + 1
        · subst h
          rw [pk_us, hv]
        · rw [pk_un h]
          exact hA v (by omega)
      · rw [pk_un (show v ≠ k + 1 by omega)]
        exact hB v (by omega) hv3
    · rintro s ⟨S, rfl, hA, hB⟩
      refine ⟨S, ?_, hA⟩
      show (if nI 256 ≤ nI 256 then _ else _) = _
      rw [if_pos (nI_le (Nat.le_refl 256) (by omega))]
    · have h : v = 0 := by omega
      subst h
      rw [hS1 0 (by omega), cnt_none (fun j _ => decide_eq_false (by omega)), cnt_none (fun j _ => decide_eq_false (by omega))]
  obtain ⟨S2, e2, hS2⟩ := l2
  have l3 : ∃ p : (Nat → Int32) × (Nat → Int32), lpF (Rotations_sortByByte_L69 (nI n) n0 f0 n3 n2) gas ((0 : Int32), S2, f2) = some p ∧ cs_O t (fun x => x) n n p.2 := by
    refine lp_for (fun i s => ∃ S O, s = (nI i, S, O) ∧ cs_S t t (fun x => x) n i S ∧ cs_O t (fun x => x) n i O) _ (i0 := 0) (N := n) (Nat.zero_le _) hn ?_ ?_ ⟨_, _, rfl, cs_S0 (fun b hb => hS2 (t b) (ht b hb).2), cs_O0⟩
    · rintro i s _ hi ⟨S, O, rfl, hS, hO⟩
      obtain ⟨ht1, ht2⟩ := ht i hi
      have hat : S (t i) = nI (kpos (lexk t (fun x => x) n) n i) := cs_at (fun x h => h) hS hi rfl
      have hp := kpos_lt (K := lexk t (fun x => x) n) hi
      refine ⟨(nI (i + 1), upd S (t i) (nI (kpos (lexk t (fun x => x) n) n i + 1)), upd O (kpos (lexk t (fun x => x) n) n i) (nI i)), ?_, _, _, rfl, cs_stepS (σ := t) (fun x h => h) (fun x y _ _ h => h) (fun x y _ _ => Iff.rfl) hS hi rfl, cs_stepO (fun x h => h) (fun x y _ _ h => h) hO hi rfl⟩
      generalize kpos (lexk t (fun x => x) n) n i = q at hat hp
      show (if nI n ≤ nI i then _ else gd (ix (nI i) n0) (gd (ix (f0 (nI i).toNatClampNeg) n3) (gd (ix (S (f0 (nI i).toNatClampNeg).toNatClampNeg) n2) (gd (ix (nI i) n0) (gd (ix (f0 (nI i).toNatClampNeg) n3) (gd (ix (f0 (nI i).toNatClampNeg) n3) (some (Sum.inl (nI i + (1 : Int32), upd S (f0 (nI i).toNatClampNeg).toNatClampNeg (S (f0 (nI i).toNatClampNeg).toNatClampNeg + (1 : Int32)), upd O (S (f0 (nI i).toNatClampNeg).toNatClampNeg).toNatClampNeg (nI i)))))))))) = _
      rw [if_neg (nI_ge hi (by omega)), nI_clamp (show i < 2 ^ 31 by omega), ht1, nI_clamp (show t i < 2 ^ 31 by omega), hat, ixN (show i < n0 by omega) (by omega), ixN (show t i < n3 by omega) (by omega), ixN (show q < n2 by omega) (by omega), nI_clamp (show q < 2 ^ 31 by omega), nI_1 q, nI_1 i]
      rfl
    · rintro s ⟨S, O, rfl, hS, hO⟩
      refine ⟨(S, O), ?_, hO⟩
      show (if nI n ≤ nI n then _ else _) = _
      rw [if_pos (nI_le (Nat.le_refl n) (by omega))]
  obtain ⟨⟨S3, O3⟩, e3, hO⟩ := l3
  refine ⟨S3, O3, ?_, fun b hb => hO b hb hb⟩
  unfold Rotations_sortByByte_f
  rw [show Arrays_fill1_f (0 : Int32) (257 : Int32) n3 (0 : Int32) f3 = some (flr f3 0 257 0) from fill1_eq (Nat.zero_le _) hn3 h3 0 f3, bd_s, e1, bd_s, e2, bd_s, e3]
  rfl
/-- sortByNext: from an order by K to one by V, then by where the order by K has what stands w behind -/
theorem sortByNext_eq {n w : Nat} {sl od rk odn : Nat → Int32} {K V : Nat → Nat} (hn : n ≤ 2250) (hw : w < n) (hK : ∀ x y, x < n → y < n → K x = K y → x = y) (hO : ∀ b, b < n → od (kpos K n b) = nI b) (hR : ∀ b, b < n → rk b = nI (kpos V n b)) :
    ∃ S O, Rotations_sortByNext_f (nI n) sl od (nI w) rk odn = some (S, od, O) ∧ ∀ b, b < n → O (kpos (lexk V (fun x => kpos K n ((x + w) % n)) n) n b) = nI b := by
  have he : ∀ x, x < n → (fun x => kpos K n ((x + w) % n)) x < n := fun x _ => kpos_lt (Nat.mod_lt _ (by omega))
  have hmod : ∀ x, x < n → (x + w) % n = if x + w < n then x + w else x + w - n := by
    intro x hx
    by_cases h : x + w < n
    · rw [if_pos h, Nat.mod_eq_of_lt h]
    · rw [if_neg h, Nat.mod_eq_sub_mod (by omega), Nat.mod_eq_of_lt (by omega)]
  have hi : ∀ x y, x < n → y < n → (fun x => kpos K n ((x + w) % n)) x = (fun x => kpos K n ((x + w) % n)) y → x = y := by
    intro x y hx hy h
    have h1 : (x + w) % n = (y + w) % n := hK _ _ (Nat.mod_lt _ (by omega)) (Nat.mod_lt _ (by omega)) ((kpos_eq_iff (Nat.mod_lt _ (by omega)) (Nat.mod_lt _ (by omega))).mp h)
    rw [hmod x hx, hmod y hy] at h1
    by_cases h2 : x + w < n
    · by_cases h3 : y + w < n
      · rw [if_pos h2, if_pos h3] at h1; omega
      · rw [if_pos h2, if_neg h3] at h1; omega
    · by_cases h3 : y + w < n
      · rw [if_neg h2, if_pos h3] at h1; omega
      · rw [if_neg h2, if_neg h3] at h1; omega
  have hσ : ∀ x y, x < n → y < n → (kpos V n x = kpos V n y ↔ V x = V y) := fun x y hx hy => kpos_eq_iff hx hy
  have l3 : ∃ p : (Nat → Int32) × (Nat → Int32), lpF (Rotations_sortByNext_L7 (nI n) od (nI w) rk) gas ((0 : Int32), idr sl n, odn) = some p ∧ cs_O V (fun x => kpos K n ((x + w) % n)) n n p.2 := by
    refine lp_for (fun i s => ∃ S O, s = (nI i, S, O) ∧ cs_S (kpos V n) V (fun x => kpos K n ((x + w) % n)) n i S ∧ cs_O V (fun x => kpos K n ((x + w) % n)) n i O) _ (i0 := 0) (N := n) (Nat.zero_le _) (by omega) ?_ ?_ ⟨_, _, rfl, cs_S0 (fun b hb => ?_), cs_O0⟩
    · rintro i s _ hin ⟨S, O, rfl, hS, hO2⟩
      obtain ⟨y, hy, hyi⟩ := kpos_sur hK hin
      have hod : od i = nI y := by rw [← hyi]; exact hO y hy
      obtain ⟨x, hx, hxy, hbr⟩ : ∃ x, x < n ∧ (x + w) % n = y ∧ ((w ≤ y ∧ x = y - w) ∨ (y < w ∧ x = y + n - w)) := by
        rcases Nat.lt_or_ge y w with h | h
        · refine ⟨y + n - w, by omega, ?_, Or.inr ⟨h, rfl⟩⟩
          rw [show y + n - w + w = y + n by omega, Nat.add_mod_right, Nat.mod_eq_of_lt hy]
        · refine ⟨y - w, by omega, ?_, Or.inl ⟨h, rfl⟩⟩
          rw [show y - w + w = y by omega, Nat.mod_eq_of_lt hy]
      have hex : (fun x => kpos K n ((x + w) % n)) x = i := by
        show kpos K n ((x + w) % n) = i
        rw [hxy, hyi]
      have hat := cs_at he hS hx hex
      have hp := kpos_lt (K := lexk V (fun x => kpos K n ((x + w) % n)) n) hx
      have hq := kpos_lt (K := V) hx
      have hrx := hR x hx
      refine ⟨(nI (i + 1), upd S (kpos V n x) (nI (kpos (lexk V (fun x => kpos K n ((x + w) % n)) n) n x + 1)), upd O (kpos (lexk V (fun x => kpos K n ((x + w) % n)) n) n x) (nI x)), ?_, _, _, rfl, cs_stepS he hi hσ hS hx hex, cs_stepO he hi hO2 hx hex⟩
      generalize kpos (lexk V (fun x => kpos K n ((x + w) % n)) n) n x = q at hat hp
      generalize kpos V n x = r at hat hq hrx
      have hJ : ∀ j0 j1 : Int32, j1 + j0 = nI x → Rotations_sortByNext_J34 rk (nI i, S, O) j0 j1 = some (Sum.inl (nI (i + 1), upd S r (nI (q + 1)), upd O q (nI x))) := by
        intro j0 j1 hj
        unfold Rotations_sortByNext_J34
        rw [hj, nI_clamp (show x < 2 ^ 31 by omega), hrx, nI_clamp (show r < 2 ^ 31 by omega)]
        show gd (ix (nI x) 2250) (gd (ix (nI r) 2250) (gd (ix (S r) 2250) (gd (ix (nI x) 2250) (gd (ix (nI r) 2250) (gd (ix (nI r) 2250) (some (Sum.inl (nI i + (1 : Int32), upd S r (S r + (1 : Int32)), upd O (S r).toNatClampNeg (nI x))))))))) = _
        rw [hat, ixN (show x < 2250 by omega) (by omega), ixN (show r < 2250 by omega) (by omega), ixN (show q < 2250 by omega) (by omega), nI_clamp (show q < 2 ^ 31 by omega), nI_1 q, nI_1 i]
        rfl
      show (if nI n ≤ nI i then _ else gd (ix (nI i) 2250) (if 0 ≤ od (nI i).toNatClampNeg - nI w then Rotations_sortByNext_J34 rk (nI i, S, O) (0 : Int32) (od (nI i).toNatClampNeg - nI w) else Rotations_sortByNext_J34 rk (nI i, S, O) (nI n) (od (nI i).toNatClampNeg - nI w))) = _
      rw [if_neg (nI_ge hin (by omega)), nI_clamp (show i < 2 ^ 31 by omega), hod]
      refine gd_of (ixN (by omega) (by omega)) ?_
      rcases hbr with ⟨h1, h2⟩ | ⟨h1, h2⟩
      · rw [if_pos (by rw [pk_sub h1]; exact nI_pos' (by omega))]
        exact hJ _ _ (by rw [Int32.add_zero, pk_sub h1, h2])
      · rw [if_neg (Int32.not_le.mpr (pk_sneg (by omega) h1))]
        exact hJ _ _ (by rw [sba (by omega), h2])
    · rintro s ⟨S, O, rfl, hS, hO2⟩
      refine ⟨(S, O), ?_, hO2⟩
      show (if nI n ≤ nI n then _ else _) = _
      rw [if_pos (nI_le (Nat.le_refl n) (by omega))]
    · exact if_pos (kpos_lt hb)
  obtain ⟨⟨S3, O3⟩, e3, hO3⟩ := l3
  refine ⟨S3, O3, ?_, fun b hb => hO3 b hb (he b hb)⟩
  unfold Rotations_sortByNext_f
  rw [slots_eq hn, bd_s, e3]
  rfl
/-- sortEqualByPlace -/
theorem sortEq_eq {n : Nat} {sl od rk : Nat → Int32} {V : Nat → Nat} (hn : n ≤ 2250) (hR : ∀ b, b < n → rk b = nI (kpos V n b)) :
    ∃ S O, Rotations_sortEqualByPlace_f (nI n) sl rk od = some (S, O) ∧ ∀ b, b < n → O (kpos (lexk V (fun x => x) n) n b) = nI b := by
  have hσ : ∀ x y, x < n → y < n → (kpos V n x = kpos V n y ↔ V x = V y) := fun x y hx hy => kpos_eq_iff hx hy
  have l3 : ∃ p : (Nat → Int32) × (Nat → Int32), lpF (Rotations_sortEqualByPlace_L7 (nI n) rk) gas ((0 : Int32), idr sl n, od) = some p ∧ cs_O V (fun x => x) n n p.2 := by
    refine lp_for (fun i s => ∃ S O, s = (nI i, S, O) ∧ cs_S (kpos V n) V (fun x => x) n i S ∧ cs_O V (fun x => x) n i O) _ (i0 := 0) (N := n) (Nat.zero_le _) (by omega) ?_ ?_ ⟨_, _, rfl, cs_S0 (fun b hb => ?_), cs_O0⟩
    · rintro i s _ hi ⟨S, O, rfl, hS, hO⟩
      have hat := cs_at (fun x h => h) hS hi rfl
      have hp := kpos_lt (K := lexk V (fun x => x) n) hi
      have hq := kpos_lt (K := V) hi
      have hrx := hR i hi
      refine ⟨(nI (i + 1), upd S (kpos V n i) (nI (kpos (lexk V (fun x => x) n) n i + 1)), upd O (kpos (lexk V (fun x => x) n) n i) (nI i)), ?_, _, _, rfl, cs_stepS (fun x h => h) (fun x y _ _ h => h) hσ hS hi rfl, cs_stepO (fun x h => h) (fun x y _ _ h => h) hO hi rfl⟩
      generalize kpos (lexk V (fun x => x) n) n i = q at hat hp
      generalize kpos V n i = r at hat hq hrx
      show (if nI n ≤ nI i then _ else gd (ix (nI i) 2250) (gd (ix (rk (nI i).toNatClampNeg) 2250) (gd (ix (S (rk (nI i).toNatClampNeg).toNatClampNeg) 2250) (gd (ix (nI i) 2250) (gd (ix (rk (nI i).toNatClampNeg) 2250) (gd (ix (rk (nI i).toNatClampNeg) 2250) (some (Sum.inl (nI i + (1 : Int32), upd S (rk (nI i).toNatClampNeg).toNatClampNeg (S (rk (nI i).toNatClampNeg).toNatClampNeg + (1 : Int32)), upd O (S (rk (nI i).toNatClampNeg).toNatClampNeg).toNatClampNeg (nI i)))))))))) = _
      rw [if_neg (nI_ge hi (by omega)), nI_clamp (show i < 2 ^ 31 by omega), hrx, nI_clamp (show r < 2 ^ 31 by omega), hat, ixN (show i < 2250 by omega) (by omega), ixN (show r < 2250 by omega) (by omega), ixN (show q < 2250 by omega) (by omega), nI_clamp (show q < 2 ^ 31 by omega), nI_1 q, nI_1 i]
      rfl
    · rintro s ⟨S, O, rfl, hS, hO⟩
      refine ⟨(S, O), ?_, hO⟩
      show (if nI n ≤ nI n then _ else _) = _
      rw [if_pos (nI_le (Nat.le_refl n) (by omega))]
    · exact if_pos (kpos_lt hb)
  obtain ⟨⟨S3, O3⟩, e3, hO3⟩ := l3
  refine ⟨S3, O3, ?_, fun b hb => hO3 b hb hb⟩
  unfold Rotations_sortEqualByPlace_f
  rw [slots_eq hn, bd_s, e3]
  rfl
