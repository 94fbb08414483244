/-! piece: the class's and the reference's -/
noncomputable def elN (x : Int32) (c : Nat) (f : Nat → Int32) : Int32 := if x < 0 then (-1 : Int32) else if nI c ≤ x then (-1 : Int32) else f x.toNatClampNeg
theorem elem_c {x : Int32} {c len : Nat} {f g : Nat → Int32} (hc : c ≤ len) (hl : len < 2 ^ 31) (h : ∀ j, j < c → f j = g j) : Block_element_f x (nI c) len f = some (elN x c g) := by
  unfold Block_element_f elN Block_element_J21 Block_element_J22
  rcases pk_ix x (n := c) (by omega) with h1 | h1 | ⟨j, hj, rfl⟩
  · rw [if_pos h1, if_pos h1]
  · by_cases h0 : x < 0
    · rw [if_pos h0, if_pos h0]
    · rw [if_neg h0, if_neg h0, if_pos h1, if_pos h1]
  · rw [if_neg (nI_pos (by omega)), if_neg (nI_pos (by omega)), if_neg (nI_ge hj (by omega)), if_neg (nI_ge hj (by omega)), if_neg (show ¬ Int32.ofNat len ≤ nI j from nI_ge (by omega) hl), ixN (show j < len by omega) (by omega), nI_clamp (by omega), h j hj]
    rfl
/-- the piece i of a block -/
noncomputable def pcN (t : Nat → Nat) (n i : Nat) (x : Int32) : Int32 :=
  if i = 0 then elN x n (fun j => nI (t j)) else if i = 1 then elN x n (fun j => nI (LN t n j)) else if i = 2 then elN x n (fun j => nI (UP t n j)) else if i = 3 then elN x (MN t n) (fun j => nI (SY t n j)) else if i = 4 then elN x (GN t n) (fun j => nI (TB t n j)) else if i - 5 < TC t n then elN x (CN t n + 2) (fun j => nI (LT t n (i - 5) j)) else (-1 : Int32)
theorem GN_46 {t : Nat → Nat} {n : Nat} (h0 : 0 < n) (hn : n ≤ 2250) (ht : ∀ j, j < n → t j < 256) : GN t n ≤ 46 := by
  have h := (MN_b h0 ht).2.1
  unfold GN
  omega
theorem piece_c {i n : Nat} {t : Nat → Nat} {x : Int32} {told last ups sy gt ki : Nat → Int32} {Lf : Nat → Nat → Int32} (hi : i < 11) (h0 : 0 < n) (hn : n ≤ 2250) (ht : ∀ j, j < n → t j < 256) (k1 : RS n told t) (k2 : RS n last (LN t n)) (k3 : RS n ups (UP t n)) (k4 : RS (MN t n) sy (SY t n)) (k5 : ∀ g, g < GN t n → gt g = nI (TB t n g)) (k6 : ∀ k j, k < TC t n → j < CN t n + 2 → Lf k j = nI (LT t n k j)) (k7 : ∀ k, k < TC t n → ki k = nI (CN t n + 2)) :
    Press_piece_f (nI i) (1 : Int32) x (nI n) told last ups (nI (MN t n)) sy (nI (GN t n)) gt (nI (TC t n)) ki Lf = some (pcN t n i x) := by
  have hm := (MN_b h0 ht).2.1
  have hg := GN_46 h0 hn ht
  have hc := CN_b t n
  have htc := TC_b t n
  unfold Press_piece_f
  rw [if_neg (nI_pos (by omega)), if_pos (show nI i < (11 : Int32) from nI_lt (b := 11) hi (by omega)), if_neg (by decide)]
  unfold Block_tell_f pcN
  by_cases e0 : i = 0
  · subst e0
    rw [if_pos (show nI 0 = (0 : Int32) from rfl), if_pos rfl, elem_c (g := fun j => nI (t j)) hn (by omega) k1, bd_s, bd_s]
    rfl
  rw [if_neg (show ¬ nI i = (0 : Int32) from fun h => e0 ((nI_eq (a := i) (b := 0) (by omega) (by omega)).mp h)), if_neg e0]
  by_cases e1 : i = 1
  · subst e1
    rw [if_pos (show nI 1 = (1 : Int32) from rfl), if_pos rfl, elem_c (g := fun j => nI (LN t n j)) hn (by omega) k2, bd_s, bd_s]
    rfl
  rw [if_neg (show ¬ nI i = (1 : Int32) from fun h => e1 ((nI_eq (a := i) (b := 1) (by omega) (by omega)).mp h)), if_neg e1]
  by_cases e2 : i = 2
  · subst e2
    rw [if_pos (show nI 2 = (2 : Int32) from rfl), if_pos rfl, elem_c (g := fun j => nI (UP t n j)) hn (by omega) k3, bd_s, bd_s]
    rfl
  rw [if_neg (show ¬ nI i = (2 : Int32) from fun h => e2 ((nI_eq (a := i) (b := 2) (by omega) (by omega)).mp h)), if_neg e2]
  by_cases e3 : i = 3
  · subst e3
    rw [if_pos (show nI 3 = (3 : Int32) from rfl), if_pos rfl, elem_c (g := fun j => nI (SY t n j)) (by omega) (by omega) k4, bd_s, bd_s]
    rfl
  rw [if_neg (show ¬ nI i = (3 : Int32) from fun h => e3 ((nI_eq (a := i) (b := 3) (by omega) (by omega)).mp h)), if_neg e3]
  by_cases e4 : i = 4
  · subst e4
    rw [if_pos (show nI 4 = (4 : Int32) from rfl), if_pos rfl, elem_c (g := fun j => nI (TB t n j)) hg (by omega) k5, bd_s, bd_s]
    rfl
  rw [if_neg (show ¬ nI i = (4 : Int32) from fun h => e4 ((nI_eq (a := i) (b := 4) (by omega) (by omega)).mp h)), if_neg e4]
  unfold Block_lengthIn_f Block_lengthIn_J37 Block_lengthIn_J38
  rw [show nI i - (5 : Int32) = nI (i - 5) from pk_sub (b := 5) (by omega), if_neg (nI_pos (by omega))]
  by_cases hk : i - 5 < TC t n
  · rw [if_neg (nI_ge hk (by omega)), if_pos hk, ixN (show i - 5 < 6 by omega) (by omega), nI_clamp (by omega), k7 _ hk]
    show bd (bd (bd (Block_element_f x (nI (CN t n + 2)) 258 (Lf (i - 5))) _) _) _ = _
    rw [elem_c (g := fun j => nI (LT t n (i - 5) j)) (by omega) (by omega) (fun j hj => k6 _ j hk hj), bd_s, bd_s, bd_s]
    rfl
  · rw [if_pos (nI_le (by omega) (by omega)), if_neg hk, bd_s, bd_s]
    rfl
theorem piece_c0 {i : Nat} {x tc mn gn tn : Int32} {told last ups sy gt ki : Nat → Int32} {Lf : Nat → Nat → Int32} (hi : i < 11) : Press_piece_f (nI i) (0 : Int32) x tc told last ups mn sy gn gt tn ki Lf = some (-1 : Int32) := by
  unfold Press_piece_f
  rw [if_neg (nI_pos (by omega)), if_pos (show nI i < (11 : Int32) from nI_lt (b := 11) hi (by omega)), if_pos rfl]
  rfl
theorem piece_mr {x y nbl fr tl mn gn tn lc : Int32} {told last up sy tbl lens : Nat → Int32} (h : x < 0 ∨ ¬ x ≤ (10 : Int32)) : Model_piece_f x nbl fr y tl told last up mn sy gn tbl tn lc lens = some ((0 : Int32), (1 : Int32)) := by
  unfold Model_piece_f
  by_cases h0 : x < 0
  · rw [if_pos h0]
    rfl
  · rw [if_neg h0, if_neg (h.elim (fun h9 => absurd h9 h0) (fun h9 => h9))]
    rfl
theorem piece_m0 {i : Nat} {y nbl fr tl mn gn tn lc : Int32} {told last up sy tbl lens : Nat → Int32} (hi : i < 11) (h : nbl = 0 ∨ fr = 0) : Model_piece_f (nI i) nbl fr y tl told last up mn sy gn tbl tn lc lens = some ((-1 : Int32), (0 : Int32)) := by
  unfold Model_piece_f Model_piece_J16 Model_piece_J43
  rw [if_neg (nI_pos (by omega)), if_pos (show nI i ≤ (10 : Int32) from nI_le (b := 10) (by omega) (by omega)), show Model_fails_f (0 : Int32) (1 : Int32) = some ((0 : Int32), (0 : Int32)) from rfl, bd_s]
  dsimp only
  rw [if_pos rfl]
  by_cases hz : nbl = 0
  · rw [if_pos hz]
  · rw [if_neg hz, if_pos (h.elim (fun h9 => absurd h9 hz) (fun h9 => h9))]
theorem elem_m {x v : Int32} {c len : Nat} {f g : Nat → Int32} (hc : c ≤ len) (hl : len < 2 ^ 31) (h0 : ¬ x < 0) (h : ∀ j, j < c → f j = g j) : (if nI c ≤ x then some ((-1 : Int32), v) else gd (ix x len) (some (f x.toNatClampNeg, v))) = some (elN x c g, v) := by
  unfold elN
  rw [if_neg h0]
  rcases pk_ix x (n := c) (by omega) with h1 | h1 | ⟨j, hj, rfl⟩
  · exact absurd h1 h0
  · rw [if_pos h1, if_pos h1]
  · rw [if_neg (nI_ge hj (by omega)), if_neg (nI_ge hj (by omega)), ixN (show j < len by omega) (by omega), nI_clamp (by omega), h j hj]
    rfl
theorem elN_neg {x : Int32} {c : Nat} {g : Nat → Int32} (h : x < 0) : elN x c g = (-1 : Int32) := if_pos h
theorem pcN_neg {t : Nat → Nat} {n i : Nat} {x : Int32} (h : x < 0) : pcN t n i x = (-1 : Int32) := by
  unfold pcN
  repeat' split
  all_goals first | exact elN_neg h | rfl
theorem piece_m {i n nbl : Nat} {t : Nat → Nat} {x : Int32} {told last up sy tbl lens : Nat → Int32} (hi : i < 11) (h0 : 0 < n) (hn : n ≤ 2250) (ht : ∀ j, j < n → t j < 256) (hb : 0 < nbl) (hb2 : nbl < 2 ^ 31) (k1 : RS n told t) (hk : mblk t n last up sy tbl lens) :
    Model_piece_f (nI i) (nI nbl) (1 : Int32) x (nI n) told last up (nI (MN t n)) sy (nI (GN t n)) tbl (nI (TC t n)) (nI (CN t n)) lens = some (pcN t n i x, (0 : Int32)) := by
  have hm := (MN_b h0 ht).2.1
  have hg := GN_46 h0 hn ht
  have hc := CN_b t n
  have htc := TC_b t n
  obtain ⟨k2, k3, k4, k5, k6⟩ := hk
  unfold Model_piece_f Model_piece_J16 Model_piece_J43 Model_piece_J98 Model_piece_J117 Model_piece_J136 Model_piece_J155 Model_piece_J174 Model_piece_J212 Model_piece_J213
  rw [if_neg (nI_pos (by omega)), if_pos (show nI i ≤ (10 : Int32) from nI_le (b := 10) (by omega) (by omega)), show Model_fails_f (0 : Int32) (1 : Int32) = some ((0 : Int32), (0 : Int32)) from rfl, bd_s]
  dsimp only
  rw [if_pos rfl, if_neg (nI_ne0 hb hb2), if_neg (by decide)]
  by_cases hx : x < 0
  · rw [if_neg (Int32.not_le.mpr hx), pcN_neg hx]
  rw [if_pos (Int32.not_lt.mp hx)]
  unfold pcN
  by_cases e0 : i = 0
  · subst e0
    rw [if_pos (show nI 0 = (0 : Int32) from rfl), if_pos rfl]
    exact elem_m (g := fun j => nI (t j)) hn (by omega) hx k1
  rw [if_neg (show ¬ nI i = (0 : Int32) from fun h => e0 ((nI_eq (a := i) (b := 0) (by omega) (by omega)).mp h)), if_neg e0]
  by_cases e1 : i = 1
  · subst e1
    rw [if_pos (show nI 1 = (1 : Int32) from rfl), if_pos rfl]
    exact elem_m (g := fun j => nI (LN t n j)) hn (by omega) hx k2
  rw [if_neg (show ¬ nI i = (1 : Int32) from fun h => e1 ((nI_eq (a := i) (b := 1) (by omega) (by omega)).mp h)), if_neg e1]
  by_cases e2 : i = 2
  · subst e2
    rw [if_pos (show nI 2 = (2 : Int32) from rfl), if_pos rfl]
    exact elem_m (g := fun j => nI (UP t n j)) hn (by omega) hx k3
  rw [if_neg (show ¬ nI i = (2 : Int32) from fun h => e2 ((nI_eq (a := i) (b := 2) (by omega) (by omega)).mp h)), if_neg e2]
  by_cases e3 : i = 3
  · subst e3
    rw [if_pos (show nI 3 = (3 : Int32) from rfl), if_pos rfl]
    exact elem_m (g := fun j => nI (SY t n j)) (by omega) (by omega) hx k4
  rw [if_neg (show ¬ nI i = (3 : Int32) from fun h => e3 ((nI_eq (a := i) (b := 3) (by omega) (by omega)).mp h)), if_neg e3]
  by_cases e4 : i = 4
  · subst e4
    rw [if_pos (show nI 4 = (4 : Int32) from rfl), if_pos rfl]
    exact elem_m (g := fun j => nI (TB t n j)) (by omega) (by omega) hx k5
  rw [if_neg (show ¬ nI i = (4 : Int32) from fun h => e4 ((nI_eq (a := i) (b := 4) (by omega) (by omega)).mp h)), if_neg e4]
  rw [show nI i - (5 : Int32) = nI (i - 5) from pk_sub (b := 5) (by omega)]
  by_cases hk : i - 5 < TC t n
  · rw [if_neg (nI_ge hk (by omega)), if_pos hk, show nI (CN t n) + (2 : Int32) = nI (CN t n + 2) from nI_add _ 2]
    unfold elN
    rw [if_neg hx]
    rcases pk_ix x (n := CN t n + 2) (by omega) with h1 | h1 | ⟨j, hj, rfl⟩
    · exact absurd h1 hx
    · rw [if_pos h1, if_pos h1]
    · rw [if_neg (nI_ge hj (by omega)), if_neg (nI_ge hj (by omega)), show (258 : Int32) * nI (i - 5) = nI (258 * (i - 5)) from pk_mul 258 _, nI_add, ixN (show 258 * (i - 5) + j < 1548 by omega) (by omega), nI_clamp (by omega), k6 _ j hk hj, nI_clamp (by omega)]
      rfl
  · rw [if_pos (nI_le (by omega) (by omega)), if_neg hk]
