/-! end, alter, copy, out, about: the class's and the reference's -/
theorem pend_c {x : Int32} {c i : Nat} (h : x = nI i) (hi : i ≤ c) (hc : c ≤ 10240) : Press_end_f x (nI c) = some (nI i) := by
  subst h
  unfold Press_end_f
  rw [if_neg (nI_pos (by omega)), if_pos (nI_le hi (by omega))]
theorem pend_m {x : Int32} {c i : Nat} (h : x = nI i) (hi : i ≤ c) (hc : c ≤ 10240) : Model_end_f x (nI c) = some ((0 : Int32), nI i) := by
  subst h
  unfold Model_end_f
  rw [if_neg (nI_pos (by omega)), if_pos (nI_le hi (by omega))]
  rfl
theorem pend_mr {x : Int32} {c : Nat} (h : x < 0 ∨ ¬ x ≤ nI c) : Model_end_f x (nI c) = some ((1 : Int32), nI c) := by
  unfold Model_end_f
  by_cases h0 : x < 0
  · rw [if_pos h0]
    rfl
  · rw [if_neg h0, if_neg (h.elim (fun h9 => absurd h9 h0) (fun h9 => h9))]
    rfl
/-- a number is below 0, above c, or one of 0 .. c -/
theorem le_cases (x : Int32) {c : Nat} (hc : c < 2 ^ 31 - 1) : (x < 0 ∨ ¬ x ≤ nI c) ∨ ∃ i, i ≤ c ∧ x = nI i := by
  rcases pk_ix x (n := c + 1) (by omega) with h | h | ⟨j, hj, h⟩
  · exact Or.inl (Or.inl h)
  · refine Or.inl (Or.inr (fun h2 => ?_))
    have h3 : nI (c + 1) ≤ nI c := Int32.le_trans h h2
    exact nI_ge (a := c) (b := c + 1) (by omega) (by omega) h3
  · exact Or.inr ⟨j, by omega, h⟩
theorem alter_c {i b c n : Nat} {f : Nat → Int32} (hi : i < c) (hc : c ≤ n) (hn : n < 2 ^ 31) (hb : b < 256) : Press_alter_f (nI i) (nI c) (nI b) f n = some (f i, upd f i (nI b)) := by
  unfold Press_alter_f ByteRow_exchange_f
  rw [row_has (by omega), if_pos ⟨by rw [nI_toInt (by omega)]; omega, by rw [nI_toInt (by omega)]; omega⟩, bd_s]
  rw [if_neg (by decide), if_neg (nI_pos (by omega)), if_pos (show nI b < (256 : Int32) from nI_lt (b := 256) hb (by omega)), bd_s]
  rw [if_neg (by decide), ixN (show i < n by omega) (by omega), nI_clamp (by omega)]
  rfl
theorem alter_m {i b c : Nat} {f : Nat → Int32} (hi : i < c) (hc : c ≤ 10240) (hb : b < 256) : Model_alter_f (nI i) (nI b) f (nI c) = some (f i &&& (255 : Int32), (0 : Int32), upd f i (nb b)) := by
  unfold Model_alter_f Model_alter_J18 Model_alter_J42
  rw [if_neg (nI_pos (by omega)), if_pos (nI_lt hi (by omega)), show Model_fails_f (0 : Int32) (1 : Int32) = some ((0 : Int32), (0 : Int32)) from rfl, bd_s]
  dsimp only
  rw [if_pos rfl, if_neg (nI_pos (by omega)), if_pos (show nI b ≤ (255 : Int32) from nI_le (b := 255) (by omega) (by omega)), show Model_fails_f (0 : Int32) (2 : Int32) = some ((0 : Int32), (0 : Int32)) from rfl, bd_s]
  dsimp only
  rw [if_pos rfl, ixN (show i < 10240 by omega) (by omega), nI_clamp (by omega), nb_2]
  rfl
theorem alter_mr {x y : Int32} {c : Nat} {f : Nat → Int32} (h : x < 0 ∨ ¬ x < nI c) : Model_alter_f x y f (nI c) = some ((0 : Int32), (1 : Int32), f) := by
  unfold Model_alter_f
  by_cases h0 : x < 0
  · rw [if_pos h0]
    rfl
  · rw [if_neg h0, if_neg (h.elim (fun h9 => absurd h9 h0) (fun h9 => h9))]
    rfl
theorem alter_mr2 {y : Int32} {i c : Nat} {f : Nat → Int32} (hi : i < c) (hc : c ≤ 10240) (h : y < 0 ∨ ¬ y ≤ (255 : Int32)) : Model_alter_f (nI i) y f (nI c) = some ((0 : Int32), (2 : Int32), f) := by
  unfold Model_alter_f Model_alter_J18
  rw [if_neg (nI_pos (by omega)), if_pos (nI_lt hi (by omega)), show Model_fails_f (0 : Int32) (1 : Int32) = some ((0 : Int32), (0 : Int32)) from rfl, bd_s]
  dsimp only
  rw [if_pos rfl]
  by_cases h0 : y < 0
  · rw [if_pos h0]
    rfl
  · rw [if_neg h0, if_neg (h.elim (fun h9 => absurd h9 h0) (fun h9 => h9))]
    rfl
theorem out_c {i c n : Nat} {f : Nat → Int32} (hi : i < c) (hc : c ≤ n) (hn : n < 2 ^ 31) : Press_out_f (nI i) (nI c) n f = some (f i) := by
  unfold Press_out_f
  rw [row_has (by omega), if_pos ⟨by rw [nI_toInt (by omega)]; omega, by rw [nI_toInt (by omega)]; omega⟩, bd_s]
  rw [if_neg (by decide), row_get hi hc hn, bd_s]
theorem out_m {i c : Nat} {f : Nat → Int32} (hi : i < c) (hc : c ≤ 262144) : Model_out_f (nI i) f (nI c) = some (f i &&& (255 : Int32), (0 : Int32)) := by
  unfold Model_out_f Model_out_J18
  rw [if_neg (nI_pos (by omega)), if_pos (nI_lt hi (by omega)), show Model_fails_f (0 : Int32) (1 : Int32) = some ((0 : Int32), (0 : Int32)) from rfl, bd_s]
  dsimp only
  rw [if_pos rfl, ixN (show i < 262144 by omega) (by omega), nI_clamp (by omega)]
  rfl
theorem out_mr {x : Int32} {c : Nat} {f : Nat → Int32} (h : x < 0 ∨ ¬ x < nI c) : Model_out_f x f (nI c) = some ((0 : Int32), (1 : Int32)) := by
  unfold Model_out_f
  by_cases h0 : x < 0
  · rw [if_pos h0]
    rfl
  · rw [if_neg h0, if_neg (h.elim (fun h9 => absurd h9 h0) (fun h9 => h9))]
    rfl
theorem copy_c {m n n0 : Nat} {f g : Nat → Int32} (hm : m ≤ 10240) (hn : m ≤ n) (hn0 : m ≤ n0) (hb : n0 < 2 ^ 31) (hb2 : n < 2 ^ 31) : Press_copy_f (nI m) n0 n f g = some (nI m, va_cpy f g 0 0 m, nI m) := by
  unfold Press_copy_f ByteRow_become_f ByteRow_become_J22
  rw [if_pos (show nI m ≤ (10240 : Int32) from nI_le (b := 10240) hm (by omega)), if_pos (show nI m ≤ Int32.ofNat n0 from nI_le hn0 hb)]
  have h : cpk (0 : Int32) (0 : Int32) (nI m) n n0 = true := by
    unfold cpk
    rw [nI_clamp (by omega)]
    simp only [Bool.and_eq_true, decide_eq_true_eq]
    refine ⟨⟨⟨⟨by decide, by decide⟩, nI_pos (by omega)⟩, ?_⟩, ?_⟩
    · show 0 + m ≤ n
      omega
    · show 0 + m ≤ n0
      omega
  rw [h, nI_clamp (by omega)]
  rfl
theorem copy_m {m : Nat} {f g : Nat → Int32} {fed : Int32} (w : Nat → Nat) (hm : m ≤ 10240) (hw : ∀ j, j < m → f j = nb (w j)) : ∃ t2 : Nat → Int32, Model_copy_f (nI m) f g fed = some (nI m, (0 : Int32), t2, nI m) ∧ ∀ j, j < m → t2 j = nb (w j) := by
  let st : Nat → Int32 × (Nat → Int32) := fun i => (nI i, fun j => if j < i then nb (w j) else g j)
  have hl : lpF (Model_copy_L27 (nI m) f) gas (st 0) = some (st m).2 := by
    refine lp_gas st (N := m) (Nat.zero_le _) (by omega) ?_ ?_
    · intro i _ hi
      show (if nI m ≤ nI i then _ else _) = _
      rw [if_neg (nI_ge hi (by omega))]
      show gd (ix (nI i) 262144) (gd (ix (nI i) 10240) (some (Sum.inl (nI i + (1 : Int32), upd (st i).2 (nI i).toNatClampNeg (vp_nar .byte (f (nI i).toNatClampNeg)))))) = _
      rw [ixN (show i < 262144 by omega) (by omega), ixN (show i < 10240 by omega) (by omega), nI_clamp (by omega), hw i hi, show nI i + (1 : Int32) = nI (i + 1) from nI_add i 1]
      have e : upd (st i).2 i (vp_nar .byte (nb (w i))) = (st (i + 1)).2 := by
        funext j
        by_cases hj : j = i
        · subst hj
          rw [pk_us]
          show _ = if j < j + 1 then _ else _
          rw [if_pos (by omega)]
          exact nb_2 (w j)
        · rw [pk_un hj]
          show (if j < i then _ else _) = if j < i + 1 then _ else _
          by_cases h : j < i
          · rw [if_pos h, if_pos (by omega)]
          · rw [if_neg h, if_neg (by omega)]
      rw [e]
      rfl
    · show (if nI m ≤ nI m then _ else _) = _
      rw [if_pos (nI_le (Nat.le_refl _) (by omega))]
  have h0 : st 0 = ((0 : Int32), g) := by
    show (nI 0, _) = _
    refine congrArg (Prod.mk _) ?_
    funext j
    exact if_neg (by omega)
  rw [h0] at hl
  refine ⟨(st m).2, ?_, fun j hj => if_pos hj⟩
  unfold Model_copy_f Model_copy_J16
  rw [if_pos (show nI m ≤ (10240 : Int32) from nI_le (b := 10240) hm (by omega)), show Model_fails_f (0 : Int32) (1 : Int32) = some ((0 : Int32), (0 : Int32)) from rfl, bd_s]
  dsimp only
  rw [if_pos rfl, hl, bd_s]
theorem copy_mr {m : Nat} {f g : Nat → Int32} {fed : Int32} (hm : 10240 < m) (hm2 : m < 2 ^ 31) : Model_copy_f (nI m) f g fed = some ((0 : Int32), (1 : Int32), g, fed) := by
  unfold Model_copy_f
  rw [if_neg (show ¬ nI m ≤ (10240 : Int32) from nI_ge (a := 10240) hm (by omega))]
  rfl
theorem about_mr {x nbl aT aS aG og lc tc ck : Int32} (h : x < 0 ∨ ¬ x ≤ (7 : Int32)) : Model_about_f x nbl aT aS aG og lc tc ck = some ((0 : Int32), (1 : Int32)) := by
  unfold Model_about_f
  by_cases h0 : x < 0
  · rw [if_pos h0]
    rfl
  · rw [if_neg h0, if_neg (h.elim (fun h9 => absurd h9 h0) (fun h9 => h9))]
    rfl
/-- what about tells: no block, nothing told -/
theorem about_cm {i nbl : Nat} {aT aS aG og lc tc ck og2 lc2 tc2 ck2 : Int32} (hi : i < 8) (hb : nbl < 2 ^ 31) (h0 : nbl = 0 → aT = 0 ∧ aS = 0 ∧ aG = 0) (h1 : 0 < nbl → og2 = og ∧ lc2 = lc ∧ tc2 = tc ∧ ck2 = ck) :
    ∃ r, Press_about_f (nI i) (nI nbl) aT aS aG og lc tc ck = some r ∧ Model_about_f (nI i) (nI nbl) aT aS aG og2 lc2 tc2 ck2 = some (r, (0 : Int32)) := by
  unfold Press_about_f Model_about_f Model_about_J16 Packer_tell_f
  rw [if_neg (nI_pos (by omega)), if_neg (nI_pos (by omega)), if_pos (show nI i < (8 : Int32) from nI_lt (b := 8) hi (by omega)), if_pos (show nI i ≤ (7 : Int32) from nI_le (b := 7) (by omega) (by omega)), show Model_fails_f (0 : Int32) (1 : Int32) = some ((0 : Int32), (0 : Int32)) from rfl, bd_s]
  dsimp only
  rw [if_pos rfl]
  by_cases hz : nbl = 0
  · obtain ⟨rfl, rfl, rfl⟩ := h0 hz
    subst hz
    refine ⟨0, ?_, ?_⟩
    · rw [if_pos (show nI 0 = (0 : Int32) from rfl), bd_s]
    · rcases (by omega : i = 0 ∨ i = 1 ∨ i = 2 ∨ i = 3 ∨ i = 4 ∨ i = 5 ∨ i = 6 ∨ i = 7) with rfl | rfl | rfl | rfl | rfl | rfl | rfl | rfl <;> rfl
  · obtain ⟨rfl, rfl, rfl, rfl⟩ := h1 (by omega)
    have hn0 : ¬ nI nbl = 0 := nI_ne0 (by omega) (by omega)
    have hn1 : ¬ nI nbl ≤ 0 := nI_ge (a := 0) (b := nbl) (by omega) (by omega)
    rw [if_neg hn0]
    simp only [if_neg hn1]
    rcases (by omega : i = 0 ∨ i = 1 ∨ i = 2 ∨ i = 3 ∨ i = 4 ∨ i = 5 ∨ i = 6 ∨ i = 7) with rfl | rfl | rfl | rfl | rfl | rfl | rfl | rfl <;> exact ⟨_, rfl, rfl⟩
