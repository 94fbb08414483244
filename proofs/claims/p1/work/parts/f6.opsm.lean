/-! THE CLASS's REFUSALS, AND THE REFERENCE's CALLS, on the common state -/
theorem lt_cases (x : Int32) {c : Nat} (hc : c < 2 ^ 31) : (x < 0 ∨ ¬ x < 0 ∧ nI c ≤ x) ∨ ∃ i, i < c ∧ x = nI i := by
  by_cases h0 : x < 0
  · exact Or.inl (Or.inl h0)
  · rcases pk_ix x (n := c) hc with h | h | ⟨j, hj, h⟩
    · exact absurd h h0
    · exact Or.inl (Or.inr ⟨h0, h⟩)
    · exact Or.inr ⟨j, hj, h⟩
theorem not_lt_of {x : Int32} {c : Nat} (h : x < 0 ∨ ¬ x < 0 ∧ nI c ≤ x) : x < 0 ∨ ¬ x < nI c := h.imp id (fun h9 => Int32.not_lt.mpr h9.2)
theorem Tx_feed (l : Launch) (hl : l.stackTraces = false) (D : va_G) (K : Nat → ClassId) {q N : Nat} {w : va_W} {s : ST} (p1 p2 p3 p4 p5 : Int32) (h : CX K q s N w) (hc : 10220 < s.F) (hF : s.F ≤ 10240) : Ct l D K y_Press_feed (g_wd y_Press_feed b_Press_feed 6 (some .int)) rmT [.ref q, .int p1, .int p2, .int p3, .int p4, .int p5] w "java/lang/IllegalStateException" := by
  obtain ⟨a, ae, n, F, Fe, z, ze, rfl, rfl, hN, ⟨h6, h7⟩, ⟨h8, h9⟩, hR⟩ := h
  exact Ct_sub (t_feed l hl D K (a 0) (a 1) (a 3) (a 5) (a 33) (z 0) (z 1) (a 2) (z 2) p1 p2 p3 p4 p5 (by rw [h6]; exact nI_ge (a := 10220) hc (by omega))) _ [0, 1] rfl
theorem Tx_end (l : Launch) (hl : l.stackTraces = false) (D : va_G) (K : Nat → ClassId) {q N : Nat} {w : va_W} {s : ST} (p1 : Int32) (h : CX K q s N w) (hp : p1 < 0 ∨ ¬ p1 ≤ nI s.F) : Ct l D K y_Press_end (g_wd y_Press_end b_Press_end 2 none) rmT [.ref q, .int p1] w "java/lang/IllegalArgumentException" := by
  obtain ⟨a, ae, n, F, Fe, z, ze, rfl, rfl, hN, ⟨h6, h7⟩, ⟨h8, h9⟩, hR⟩ := h
  exact Ct_sub (t_end l hl D K (a 0) (a 1) (a 3) (a 5) (a 33) (z 0) (z 1) (a 2) (z 2) p1 (by rw [h6]; exact hp)) _ [0, 1] rfl
theorem Tx_alter (l : Launch) (hl : l.stackTraces = false) (D : va_G) (K : Nat → ClassId) {q N : Nat} {w : va_W} {s : ST} (p1 p2 : Int32) (h : CX K q s N w) (hp : p1 < 0 ∨ ¬ p1 < 0 ∧ nI s.F ≤ p1) : Ct l D K y_Press_alter (g_wd y_Press_alter b_Press_alter 3 (some .int)) rmT [.ref q, .int p1, .int p2] w "java/lang/IndexOutOfBoundsException" := by
  obtain ⟨a, ae, n, F, Fe, z, ze, rfl, rfl, hN, ⟨h6, h7⟩, ⟨h8, h9⟩, hR⟩ := h
  exact Ct_sub (t_alter l hl D K (a 0) (a 1) (a 3) (a 5) (a 33) (z 0) (z 1) (a 2) (z 2) p1 p2 (by rw [h6]; exact hp)) _ [0, 1] rfl
theorem Tx_alter2 (l : Launch) (hl : l.stackTraces = false) (D : va_G) (K : Nat → ClassId) {q N : Nat} {w : va_W} {s : ST} (p1 p2 : Int32) (h : CX K q s N w) (h0 : ¬ p1 < 0) (h1 : ¬ nI s.F ≤ p1) (hp : p2 < 0 ∨ ¬ p2 < 256) : Ct l D K y_Press_alter (g_wd y_Press_alter b_Press_alter 3 (some .int)) rmT [.ref q, .int p1, .int p2] w "java/lang/IllegalArgumentException" := by
  obtain ⟨a, ae, n, F, Fe, z, ze, rfl, rfl, hN, ⟨h6, h7⟩, ⟨h8, h9⟩, hR⟩ := h
  exact Ct_sub (t_alter2 l hl D K (a 0) (a 1) (a 3) (a 5) (a 33) (z 0) (z 1) (a 2) (z 2) p1 p2 h0 (by rw [h6]; exact h1) hp) _ [0, 1] rfl
theorem Tx_copy (l : Launch) (hl : l.stackTraces = false) (D : va_G) (K : Nat → ClassId) {q N : Nat} {w : va_W} {s : ST} (h : CX K q s N w) (hc : 10240 < s.M) (hM : s.M < 2 ^ 31) : Ct l D K y_Press_copy (g_wd y_Press_copy b_Press_copy 1 (some .int)) rmT [.ref q] w "java/lang/IllegalStateException" := by
  obtain ⟨a, ae, n, F, Fe, z, ze, rfl, rfl, hN, ⟨h6, h7⟩, ⟨h8, h9⟩, hR⟩ := h
  exact Ct_sub (t_copy l hl D K (a 0) (a 1) (a 3) (a 5) (a 33) (z 0) (z 1) (a 4) (z 3)  (by rw [h8]; exact nI_ge (a := 10240) hc hM)) _ [0, 3] rfl
theorem Tx_pack (l : Launch) (hl : l.stackTraces = false) (D : va_G) (K : Nat → ClassId) {q N : Nat} {w : va_W} {s : ST} (p1 : Int32) (h : CX K q s N w) (hp : p1 < 1 ∨ ¬ p1 ≤ 9) : Ct l D K y_Press_pack (g_wd y_Press_pack b_Press_pack 2 (some .int)) rmT [.ref q, .int p1] w "java/lang/IllegalArgumentException" := by
  obtain ⟨a, ae, n, F, Fe, z, ze, rfl, rfl, hN, ⟨h6, h7⟩, ⟨h8, h9⟩, hR⟩ := h
  exact Ct_sub (t_pack l hl D K (a 0) (a 1) (a 3) (a 5) (a 33) (z 0) (z 1) p1 hp) _ [0] rfl
theorem Tx_unpack (l : Launch) (hl : l.stackTraces = false) (D : va_G) (K : Nat → ClassId) {q N : Nat} {w : va_W} {s : ST} (p1 : Int32) (h : CX K q s N w) (hp : p1 < 0 ∨ ¬ p1 ≤ 60000) : Ct l D K y_Press_unpack (g_wd y_Press_unpack b_Press_unpack 3 (some .int)) rmT [.ref q, .int p1] w "java/lang/IllegalArgumentException" := by
  obtain ⟨a, ae, n, F, Fe, z, ze, rfl, rfl, hN, ⟨h6, h7⟩, ⟨h8, h9⟩, hR⟩ := h
  exact Ct_sub (t_unpack l hl D K (a 0) (a 1) (a 3) (a 5) (a 33) (z 0) (z 1) p1 hp) _ [0] rfl
theorem Tx_out (l : Launch) (hl : l.stackTraces = false) (D : va_G) (K : Nat → ClassId) {q N : Nat} {w : va_W} {s : ST} (p1 : Int32) (h : CX K q s N w) (hp : p1 < 0 ∨ ¬ p1 < 0 ∧ nI s.M ≤ p1) : Ct l D K y_Press_out (g_wd y_Press_out b_Press_out 2 (some .int)) rmT [.ref q, .int p1] w "java/lang/IndexOutOfBoundsException" := by
  obtain ⟨a, ae, n, F, Fe, z, ze, rfl, rfl, hN, ⟨h6, h7⟩, ⟨h8, h9⟩, hR⟩ := h
  exact Ct_sub (t_out l hl D K (a 0) (a 1) (a 3) (a 5) (a 33) (z 0) (z 1) (a 4) (z 3) p1 (by rw [h8]; exact hp)) _ [0, 3] rfl
theorem Tx_piece (l : Launch) (hl : l.stackTraces = false) (D : va_G) (K : Nat → ClassId) {q N : Nat} {w : va_W} {s : ST} (p1 p2 : Int32) (h : CX K q s N w) (hp : p1 < 0 ∨ ¬ p1 < 11) : Ct l D K y_Press_piece (g_wd y_Press_piece b_Press_piece 3 (some .int)) rmT [.ref q, .int p1, .int p2] w "java/lang/IllegalArgumentException" := by
  obtain ⟨a, ae, n, F, Fe, z, ze, rfl, rfl, hN, ⟨h6, h7⟩, ⟨h8, h9⟩, hR⟩ := h
  exact Ct_sub (t_piece l hl D K (a 0) (a 1) (a 3) (a 5) (a 33) (z 0) (z 1) p1 p2 hp) _ [0] rfl
theorem Tx_about (l : Launch) (hl : l.stackTraces = false) (D : va_G) (K : Nat → ClassId) {q N : Nat} {w : va_W} {s : ST} (p1 : Int32) (h : CX K q s N w) (hp : p1 < 0 ∨ ¬ p1 < 8) : Ct l D K y_Press_about (g_wd y_Press_about b_Press_about 2 (some .int)) rmT [.ref q, .int p1] w "java/lang/IllegalArgumentException" := by
  obtain ⟨a, ae, n, F, Fe, z, ze, rfl, rfl, hN, ⟨h6, h7⟩, ⟨h8, h9⟩, hR⟩ := h
  exact Ct_sub (t_about l hl D K (a 0) (a 1) (a 3) (a 5) (a 33) (z 0) (z 1) p1 hp) _ [0] rfl
def OmV (l : Launch) (D : va_G) (K : Nat → ClassId) (y : MethodName) (wy : List Cond) (av : List Value) (q : Nat) (s2 : ST) (k : Int32) (w : va_W) : Prop :=
  ∃ (rm : Room), (rm.frames ≤ 20 ∧ rm.locals ≤ 1000) ∧ (rm.cells = 0 ∧ rm.slots = 0) ∧ Cv l D K y wy rm av w (fun x : {v : va_W // CM K q s2 k v} => x.1)
theorem Om_feed (l : Launch) (D : va_G) (K : Nat → ClassId) {q : Nat} {k0 : Int32} {w : va_W} {s : ST} (p1 p2 p3 p4 p5 : Int32) (h : CM K q s k0 w) (hc : s.F ≤ 10220) : Om l D K y_Model_feed (g_wd y_Model_feed b_Model_feed 8 (some .int)) [.ref q, .int p1, .int p2, .int p3, .int p4, .int p5] q (sFeed s p1 p2 p3 p4 p5) 0 w (nI (s.F + 20)) := by
  obtain ⟨b, G, y, rfl, rfl, ⟨m1, m2⟩, ⟨m3, m4⟩, m5, m6, m7, m8, m9⟩ := h
  obtain ⟨t2, e, g1, g2⟩ := feed_m (c := s.F) (tape := G 0) (p1 := p1) (p2 := p2) (p3 := p3) (p4 := p4) (p5 := p5) hc
  have hf : Model_feed_f (y 0) p5 p4 p3 p2 p1 (G 0) = some (nI (s.F + 20), (0 : Int32), t2, nI (s.F + 20)) := by
    rw [m1]
    exact e
  refine ⟨_, ?_, ?_, Ci_re (M_feed l D K b G y p1 p2 p3 p4 p5 _ hf) (fun x => ⟨⟨_, b, _, _, rfl, rfl, ?_⟩, rfl⟩)⟩
  · exact ⟨Nat.le_of_ble_eq_true rfl, Nat.le_of_ble_eq_true rfl⟩
  · exact ⟨rfl, rfl⟩
  · refine ⟨⟨rfl, fun j hj => ?_⟩, ⟨m3, m4⟩, m5, rfl, m7, m8, m9⟩
    have hj : j < s.F + 20 := hj
    show t2 j = nb (if j < s.F then s.T j else fdB p1 p2 p3 p4 p5 (j - s.F))
    by_cases hlt : j < s.F
    · rw [if_pos hlt, g1 j hlt]
      exact m2 j hlt
    · rw [if_neg hlt, show j = s.F + (j - s.F) by omega, g2 _ (by omega), show s.F + (j - s.F) - s.F = j - s.F by omega]
theorem Om_feedr (l : Launch) (D : va_G) (K : Nat → ClassId) {q : Nat} {k0 : Int32} {w : va_W} {s : ST} (p1 p2 p3 p4 p5 : Int32) (h : CM K q s k0 w) (hc : 10220 < s.F) (hF : s.F ≤ 10240) : Om l D K y_Model_feed (g_wd y_Model_feed b_Model_feed 8 (some .int)) [.ref q, .int p1, .int p2, .int p3, .int p4, .int p5] q s 1 w 0 := by
  obtain ⟨b, G, y, rfl, rfl, ⟨m1, m2⟩, ⟨m3, m4⟩, m5, m6, m7, m8, m9⟩ := h
  have hf : Model_feed_f (y 0) p5 p4 p3 p2 p1 (G 0) = some ((0 : Int32), (1 : Int32), G 0, y 0) := by
    rw [m1]
    exact feed_mr hc hF
  refine ⟨_, ?_, ?_, Ci_re (M_feed l D K b G y p1 p2 p3 p4 p5 _ hf) (fun x => ⟨⟨_, b, _, _, rfl, rfl, ?_⟩, rfl⟩)⟩
  · exact ⟨Nat.le_of_ble_eq_true rfl, Nat.le_of_ble_eq_true rfl⟩
  · exact ⟨rfl, rfl⟩
  · exact ⟨⟨m1, m2⟩, ⟨m3, m4⟩, m5, rfl, m7, m8, m9⟩
theorem Om_end (l : Launch) (D : va_G) (K : Nat → ClassId) {q : Nat} {k0 : Int32} {w : va_W} {s : ST} (i : Nat) (h : CM K q s k0 w) (hF : s.F ≤ 10240) (hi : i ≤ s.F) : OmV l D K y_Model_end (g_wd y_Model_end b_Model_end 2 none) [.ref q, .int (nI i)] q (sEnd s i) 0 w := by
  obtain ⟨b, G, y, rfl, rfl, ⟨m1, m2⟩, ⟨m3, m4⟩, m5, m6, m7, m8, m9⟩ := h
  have hf : Model_end_f (nI i) (y 0) = some ((0 : Int32), nI i) := by
    rw [m1]
    exact pend_m rfl hi hF
  refine ⟨_, ?_, ?_, Cv_re (M_end l D K b G y (nI i) _ hf) (fun x => ⟨⟨_, b, _, _, rfl, rfl, ?_⟩, rfl⟩)⟩
  · exact ⟨Nat.le_of_ble_eq_true rfl, Nat.le_of_ble_eq_true rfl⟩
  · exact ⟨rfl, rfl⟩
  · exact ⟨⟨rfl, fun j hj => m2 j (Nat.lt_of_lt_of_le hj hi)⟩, ⟨m3, m4⟩, m5, rfl, m7, m8, m9⟩
theorem Om_endr (l : Launch) (D : va_G) (K : Nat → ClassId) {q : Nat} {k0 : Int32} {w : va_W} {s : ST} (p1 : Int32) (h : CM K q s k0 w) (hp : p1 < 0 ∨ ¬ p1 ≤ nI s.F) : OmV l D K y_Model_end (g_wd y_Model_end b_Model_end 2 none) [.ref q, .int p1] q s 1 w := by
  obtain ⟨b, G, y, rfl, rfl, ⟨m1, m2⟩, ⟨m3, m4⟩, m5, m6, m7, m8, m9⟩ := h
  have hf : Model_end_f p1 (y 0) = some ((1 : Int32), y 0) := by
    rw [m1]
    exact pend_mr hp
  refine ⟨_, ?_, ?_, Cv_re (M_end l D K b G y p1 _ hf) (fun x => ⟨⟨_, b, _, _, rfl, rfl, ?_⟩, rfl⟩)⟩
  · exact ⟨Nat.le_of_ble_eq_true rfl, Nat.le_of_ble_eq_true rfl⟩
  · exact ⟨rfl, rfl⟩
  · exact ⟨⟨m1, m2⟩, ⟨m3, m4⟩, m5, rfl, m7, m8, m9⟩
theorem Om_alter (l : Launch) (D : va_G) (K : Nat → ClassId) {q : Nat} {k0 : Int32} {w : va_W} {s : ST} (i c : Nat) (h : CM K q s k0 w) (hs : stOk s) (hi : i < s.F) (hc : c < 256) : Om l D K y_Model_alter (g_wd y_Model_alter b_Model_alter 4 (some .int)) [.ref q, .int (nI i), .int (nI c)] q (sAlter s i c) 0 w (nI (s.T i)) := by
  obtain ⟨b, G, y, rfl, rfl, ⟨m1, m2⟩, ⟨m3, m4⟩, m5, m6, m7, m8, m9⟩ := h
  have hf : Model_alter_f (nI i) (nI c) (G 0) (y 0) = some (nI (s.T i), (0 : Int32), upd (G 0) i (nb c)) := by
    rw [m1, alter_m hi hs.1 hc, m2 i hi, show nb (s.T i) &&& (255 : Int32) = nI (s.T i) from nb_and _ (hs.2.1 i hi)]
  refine ⟨_, ?_, ?_, Ci_re (M_alter l D K b G y (nI i) (nI c) _ hf) (fun x => ⟨⟨_, b, _, _, rfl, rfl, ?_⟩, rfl⟩)⟩
  · exact ⟨Nat.le_of_ble_eq_true rfl, Nat.le_of_ble_eq_true rfl⟩
  · exact ⟨rfl, rfl⟩
  · refine ⟨⟨m1, fun j hj => ?_⟩, ⟨m3, m4⟩, m5, rfl, m7, m8, m9⟩
    show upd (G 0) i (nb c) j = nb (if j = i then c else s.T j)
    by_cases hj2 : j = i
    · rw [hj2, pk_us, if_pos rfl]
    · rw [pk_un hj2, if_neg hj2]
      exact m2 j hj
theorem Om_alterr (l : Launch) (D : va_G) (K : Nat → ClassId) {q : Nat} {k0 : Int32} {w : va_W} {s : ST} (p1 p2 : Int32) (h : CM K q s k0 w) (hp : p1 < 0 ∨ ¬ p1 < nI s.F) : Om l D K y_Model_alter (g_wd y_Model_alter b_Model_alter 4 (some .int)) [.ref q, .int p1, .int p2] q s 1 w 0 := by
  obtain ⟨b, G, y, rfl, rfl, ⟨m1, m2⟩, ⟨m3, m4⟩, m5, m6, m7, m8, m9⟩ := h
  have hf : Model_alter_f p1 p2 (G 0) (y 0) = some ((0 : Int32), (1 : Int32), G 0) := by
    rw [m1]
    exact alter_mr hp
  refine ⟨_, ?_, ?_, Ci_re (M_alter l D K b G y p1 p2 _ hf) (fun x => ⟨⟨_, b, _, _, rfl, rfl, ?_⟩, rfl⟩)⟩
  · exact ⟨Nat.le_of_ble_eq_true rfl, Nat.le_of_ble_eq_true rfl⟩
  · exact ⟨rfl, rfl⟩
  · exact ⟨⟨m1, m2⟩, ⟨m3, m4⟩, m5, rfl, m7, m8, m9⟩
theorem Om_alterr2 (l : Launch) (D : va_G) (K : Nat → ClassId) {q : Nat} {k0 : Int32} {w : va_W} {s : ST} (i : Nat) (p2 : Int32) (h : CM K q s k0 w) (hF : s.F ≤ 10240) (hi : i < s.F) (hp : p2 < 0 ∨ ¬ p2 ≤ (255 : Int32)) : Om l D K y_Model_alter (g_wd y_Model_alter b_Model_alter 4 (some .int)) [.ref q, .int (nI i), .int p2] q s 2 w 0 := by
  obtain ⟨b, G, y, rfl, rfl, ⟨m1, m2⟩, ⟨m3, m4⟩, m5, m6, m7, m8, m9⟩ := h
  have hf : Model_alter_f (nI i) p2 (G 0) (y 0) = some ((0 : Int32), (2 : Int32), G 0) := by
    rw [m1]
    exact alter_mr2 hi hF hp
  refine ⟨_, ?_, ?_, Ci_re (M_alter l D K b G y (nI i) p2 _ hf) (fun x => ⟨⟨_, b, _, _, rfl, rfl, ?_⟩, rfl⟩)⟩
  · exact ⟨Nat.le_of_ble_eq_true rfl, Nat.le_of_ble_eq_true rfl⟩
  · exact ⟨rfl, rfl⟩
  · exact ⟨⟨m1, m2⟩, ⟨m3, m4⟩, m5, rfl, m7, m8, m9⟩
theorem Om_copy (l : Launch) (D : va_G) (K : Nat → ClassId) {q : Nat} {k0 : Int32} {w : va_W} {s : ST} (h : CM K q s k0 w) (hm : s.M ≤ 10240) : Om l D K y_Model_copy (g_wd y_Model_copy b_Model_copy 2 (some .int)) [.ref q] q (sCopy s) 0 w (nI s.M) := by
  obtain ⟨b, G, y, rfl, rfl, ⟨m1, m2⟩, ⟨m3, m4⟩, m5, m6, m7, m8, m9⟩ := h
  obtain ⟨t2, e, g1⟩ := copy_m (m := s.M) (f := G 1) (g := G 0) (fed := y 0) s.W hm m4
  have hf : Model_copy_f (y 1) (G 1) (G 0) (y 0) = some (nI s.M, (0 : Int32), t2, nI s.M) := by
    rw [m3]
    exact e
  refine ⟨_, ?_, ?_, Ci_re (M_copy l D K b G y  _ hf) (fun x => ⟨⟨_, b, _, _, rfl, rfl, ?_⟩, rfl⟩)⟩
  · exact ⟨Nat.le_of_ble_eq_true rfl, Nat.le_of_ble_eq_true rfl⟩
  · exact ⟨rfl, rfl⟩
  · exact ⟨⟨rfl, g1⟩, ⟨m3, m4⟩, m5, rfl, m7, m8, m9⟩
theorem Om_copyr (l : Launch) (D : va_G) (K : Nat → ClassId) {q : Nat} {k0 : Int32} {w : va_W} {s : ST} (h : CM K q s k0 w) (hc : 10240 < s.M) (hM : s.M < 2 ^ 31) : Om l D K y_Model_copy (g_wd y_Model_copy b_Model_copy 2 (some .int)) [.ref q] q s 1 w 0 := by
  obtain ⟨b, G, y, rfl, rfl, ⟨m1, m2⟩, ⟨m3, m4⟩, m5, m6, m7, m8, m9⟩ := h
  have hf : Model_copy_f (y 1) (G 1) (G 0) (y 0) = some ((0 : Int32), (1 : Int32), G 0, y 0) := by
    rw [m3]
    exact copy_mr hc hM
  refine ⟨_, ?_, ?_, Ci_re (M_copy l D K b G y  _ hf) (fun x => ⟨⟨_, b, _, _, rfl, rfl, ?_⟩, rfl⟩)⟩
  · exact ⟨Nat.le_of_ble_eq_true rfl, Nat.le_of_ble_eq_true rfl⟩
  · exact ⟨rfl, rfl⟩
  · exact ⟨⟨m1, m2⟩, ⟨m3, m4⟩, m5, rfl, m7, m8, m9⟩
theorem Om_place (l : Launch) (D : va_G) (K : Nat → ClassId) {q : Nat} {k0 : Int32} {w : va_W} {s : ST} (h : CM K q s k0 w)  : Om l D K y_Model_place (g_wd y_Model_place b_Model_place 1 (some .int)) [.ref q] q s 0 w s.P := by
  obtain ⟨b, G, y, rfl, rfl, ⟨m1, m2⟩, ⟨m3, m4⟩, m5, m6, m7, m8, m9⟩ := h
  have hf : Model_place_f (y 3) = some (s.P, (0 : Int32)) := by
    rw [m5]
    rfl
  refine ⟨_, ?_, ?_, Ci_re (M_place l D K b G y  _ hf) (fun x => ⟨⟨_, b, _, _, rfl, rfl, ?_⟩, rfl⟩)⟩
  · exact ⟨Nat.le_of_ble_eq_true rfl, Nat.le_of_ble_eq_true rfl⟩
  · exact ⟨rfl, rfl⟩
  · exact ⟨⟨m1, m2⟩, ⟨m3, m4⟩, m5, rfl, m7, m8, m9⟩
theorem Om_length (l : Launch) (D : va_G) (K : Nat → ClassId) {q : Nat} {k0 : Int32} {w : va_W} {s : ST} (h : CM K q s k0 w)  : Om l D K y_Model_length (g_wd y_Model_length b_Model_length 1 (some .int)) [.ref q] q s 0 w (nI s.F) := by
  obtain ⟨b, G, y, rfl, rfl, ⟨m1, m2⟩, ⟨m3, m4⟩, m5, m6, m7, m8, m9⟩ := h
  have hf : Model_length_f (y 0) = some ((nI s.F), (0 : Int32)) := by
    rw [m1]
    rfl
  refine ⟨_, ?_, ?_, Ci_re (M_length l D K b G y  _ hf) (fun x => ⟨⟨_, b, _, _, rfl, rfl, ?_⟩, rfl⟩)⟩
  · exact ⟨Nat.le_of_ble_eq_true rfl, Nat.le_of_ble_eq_true rfl⟩
  · exact ⟨rfl, rfl⟩
  · exact ⟨⟨m1, m2⟩, ⟨m3, m4⟩, m5, rfl, m7, m8, m9⟩
theorem Om_size (l : Launch) (D : va_G) (K : Nat → ClassId) {q : Nat} {k0 : Int32} {w : va_W} {s : ST} (h : CM K q s k0 w)  : Om l D K y_Model_size (g_wd y_Model_size b_Model_size 1 (some .int)) [.ref q] q s 0 w (nI s.M) := by
  obtain ⟨b, G, y, rfl, rfl, ⟨m1, m2⟩, ⟨m3, m4⟩, m5, m6, m7, m8, m9⟩ := h
  have hf : Model_size_f (y 1) = some ((nI s.M), (0 : Int32)) := by
    rw [m3]
    rfl
  refine ⟨_, ?_, ?_, Ci_re (M_size l D K b G y  _ hf) (fun x => ⟨⟨_, b, _, _, rfl, rfl, ?_⟩, rfl⟩)⟩
  · exact ⟨Nat.le_of_ble_eq_true rfl, Nat.le_of_ble_eq_true rfl⟩
  · exact ⟨rfl, rfl⟩
  · exact ⟨⟨m1, m2⟩, ⟨m3, m4⟩, m5, rfl, m7, m8, m9⟩
theorem Om_out (l : Launch) (D : va_G) (K : Nat → ClassId) {q : Nat} {k0 : Int32} {w : va_W} {s : ST} (i : Nat) (h : CM K q s k0 w) (hs : stOk s) (hi : i < s.M) : Om l D K y_Model_out (g_wd y_Model_out b_Model_out 2 (some .int)) [.ref q, .int (nI i)] q s 0 w (nI (s.W i)) := by
  obtain ⟨b, G, y, rfl, rfl, ⟨m1, m2⟩, ⟨m3, m4⟩, m5, m6, m7, m8, m9⟩ := h
  have hf : Model_out_f (nI i) (G 1) (y 1) = some (nI (s.W i), (0 : Int32)) := by
    rw [m3, out_m hi (by have := hs.2.2.1; omega), m4 i hi, show nb (s.W i) &&& (255 : Int32) = nI (s.W i) from nb_and _ (hs.2.2.2.1 i hi)]
  refine ⟨_, ?_, ?_, Ci_re (M_out l D K b G y (nI i) _ hf) (fun x => ⟨⟨_, b, _, _, rfl, rfl, ?_⟩, rfl⟩)⟩
  · exact ⟨Nat.le_of_ble_eq_true rfl, Nat.le_of_ble_eq_true rfl⟩
  · exact ⟨rfl, rfl⟩
  · exact ⟨⟨m1, m2⟩, ⟨m3, m4⟩, m5, rfl, m7, m8, m9⟩
theorem Om_outr (l : Launch) (D : va_G) (K : Nat → ClassId) {q : Nat} {k0 : Int32} {w : va_W} {s : ST} (p1 : Int32) (h : CM K q s k0 w) (hp : p1 < 0 ∨ ¬ p1 < nI s.M) : Om l D K y_Model_out (g_wd y_Model_out b_Model_out 2 (some .int)) [.ref q, .int p1] q s 1 w 0 := by
  obtain ⟨b, G, y, rfl, rfl, ⟨m1, m2⟩, ⟨m3, m4⟩, m5, m6, m7, m8, m9⟩ := h
  have hf : Model_out_f p1 (G 1) (y 1) = some ((0 : Int32), (1 : Int32)) := by
    rw [m3]
    exact out_mr hp
  refine ⟨_, ?_, ?_, Ci_re (M_out l D K b G y p1 _ hf) (fun x => ⟨⟨_, b, _, _, rfl, rfl, ?_⟩, rfl⟩)⟩
  · exact ⟨Nat.le_of_ble_eq_true rfl, Nat.le_of_ble_eq_true rfl⟩
  · exact ⟨rfl, rfl⟩
  · exact ⟨⟨m1, m2⟩, ⟨m3, m4⟩, m5, rfl, m7, m8, m9⟩
theorem Om_piece (l : Launch) (D : va_G) (K : Nat → ClassId) {q : Nat} {k0 : Int32} {w : va_W} {s : ST} (i : Nat) (x : Int32) (h : CM K q s k0 w) (hs : stOk s) (hi : i < 11) : Om l D K y_Model_piece (g_wd y_Model_piece b_Model_piece 3 (some .int)) [.ref q, .int (nI i), .int x] q s 0 w (pcS s i x) := by
  obtain ⟨b, G, y, rfl, rfl, ⟨m1, m2⟩, ⟨m3, m4⟩, m5, m6, m7, m8, m9⟩ := h
  have hf : Model_piece_f (nI i) (y 11) (y 12) x (y 4) (G 2) (G 5) (G 6) (y 5) (G 7) (y 7) (G 9) (y 8) (y 6) (G 10) = some (pcS s i x, (0 : Int32)) := by
    unfold pcS
    cases hb : s.B with
    | true =>
      rw [if_pos rfl]
      have hp := hs.2.2.2.2.2 hb
      obtain ⟨c1, c2, c3⟩ := hs.2.2.2.2.1.2.2 hp
      obtain ⟨k1, k2, k3, k4, k5, k6, k7, k8, k9⟩ := m9 hp
      rw [m8.1, m7.1 hb, k1, k6, k7, k8, k5]
      exact piece_m hi c1 c2 c3 hp (by have := hs.2.2.2.2.1.2.1; omega) k2 k9
    | false =>
      rw [if_neg (by decide)]
      exact piece_m0 hi ((m7.2 hb).elim Or.inr (fun h9 => Or.inl (by rw [m8.1, h9]; rfl)))
  refine ⟨_, ?_, ?_, Ci_re (M_piece l D K b G y (nI i) x _ hf) (fun x => ⟨⟨_, b, _, _, rfl, rfl, ?_⟩, rfl⟩)⟩
  · exact ⟨Nat.le_of_ble_eq_true rfl, Nat.le_of_ble_eq_true rfl⟩
  · exact ⟨rfl, rfl⟩
  · exact ⟨⟨m1, m2⟩, ⟨m3, m4⟩, m5, rfl, m7, m8, m9⟩
theorem Om_piecer (l : Launch) (D : va_G) (K : Nat → ClassId) {q : Nat} {k0 : Int32} {w : va_W} {s : ST} (p1 p2 : Int32) (h : CM K q s k0 w) (hp : p1 < 0 ∨ ¬ p1 ≤ (10 : Int32)) : Om l D K y_Model_piece (g_wd y_Model_piece b_Model_piece 3 (some .int)) [.ref q, .int p1, .int p2] q s 1 w 0 := by
  obtain ⟨b, G, y, rfl, rfl, ⟨m1, m2⟩, ⟨m3, m4⟩, m5, m6, m7, m8, m9⟩ := h
  have hf : Model_piece_f p1 (y 11) (y 12) p2 (y 4) (G 2) (G 5) (G 6) (y 5) (G 7) (y 7) (G 9) (y 8) (y 6) (G 10) = some ((0 : Int32), (1 : Int32)) := by
    exact piece_mr hp
  refine ⟨_, ?_, ?_, Ci_re (M_piece l D K b G y p1 p2 _ hf) (fun x => ⟨⟨_, b, _, _, rfl, rfl, ?_⟩, rfl⟩)⟩
  · exact ⟨Nat.le_of_ble_eq_true rfl, Nat.le_of_ble_eq_true rfl⟩
  · exact ⟨rfl, rfl⟩
  · exact ⟨⟨m1, m2⟩, ⟨m3, m4⟩, m5, rfl, m7, m8, m9⟩
theorem Om_about (l : Launch) (D : va_G) (K : Nat → ClassId) {q : Nat} {k0 : Int32} {w : va_W} {s : ST} (i : Nat) (h : CM K q s k0 w) (hs : stOk s) (hi : i < 8) : Om l D K y_Model_about (g_wd y_Model_about b_Model_about 2 (some .int)) [.ref q, .int (nI i)] q s 0 w (abN s.A i) := by
  obtain ⟨b, G, y, rfl, rfl, ⟨m1, m2⟩, ⟨m3, m4⟩, m5, m6, m7, m8, m9⟩ := h
  have hf : Model_about_f (nI i) (y 11) (y 13) (y 14) (y 15) (y 9) (y 6) (y 8) (y 10) = some (abN s.A i, (0 : Int32)) := by
    rw [m8.1, m8.2.1, m8.2.2.1, m8.2.2.2]
    exact abt_m hi hs.2.2.2.2.1.2.1 hs.2.2.2.2.1.1 (fun hp => by
      obtain ⟨k1, k2, k3, k4, k5, k6, k7, k8, k9⟩ := m9 hp
      exact ⟨k4, k5, k8, k3⟩)
  refine ⟨_, ?_, ?_, Ci_re (M_about l D K b G y (nI i) _ hf) (fun x => ⟨⟨_, b, _, _, rfl, rfl, ?_⟩, rfl⟩)⟩
  · exact ⟨Nat.le_of_ble_eq_true rfl, Nat.le_of_ble_eq_true rfl⟩
  · exact ⟨rfl, rfl⟩
  · exact ⟨⟨m1, m2⟩, ⟨m3, m4⟩, m5, rfl, m7, m8, m9⟩
theorem Om_aboutr (l : Launch) (D : va_G) (K : Nat → ClassId) {q : Nat} {k0 : Int32} {w : va_W} {s : ST} (p1 : Int32) (h : CM K q s k0 w) (hp : p1 < 0 ∨ ¬ p1 ≤ (7 : Int32)) : Om l D K y_Model_about (g_wd y_Model_about b_Model_about 2 (some .int)) [.ref q, .int p1] q s 1 w 0 := by
  obtain ⟨b, G, y, rfl, rfl, ⟨m1, m2⟩, ⟨m3, m4⟩, m5, m6, m7, m8, m9⟩ := h
  have hf : Model_about_f p1 (y 11) (y 13) (y 14) (y 15) (y 9) (y 6) (y 8) (y 10) = some ((0 : Int32), (1 : Int32)) := by
    exact about_mr hp
  refine ⟨_, ?_, ?_, Ci_re (M_about l D K b G y p1 _ hf) (fun x => ⟨⟨_, b, _, _, rfl, rfl, ?_⟩, rfl⟩)⟩
  · exact ⟨Nat.le_of_ble_eq_true rfl, Nat.le_of_ble_eq_true rfl⟩
  · exact ⟨rfl, rfl⟩
  · exact ⟨⟨m1, m2⟩, ⟨m3, m4⟩, m5, rfl, m7, m8, m9⟩
theorem Om_thrown (l : Launch) (D : va_G) (K : Nat → ClassId) {q : Nat} {k0 : Int32} {w : va_W} {s : ST} (h : CM K q s k0 w) : Om l D K y_Model_thrown (g_wd y_Model_thrown b_Model_thrown 1 (some .int)) [.ref q] q s k0 w k0 := by
  obtain ⟨b, G, y, rfl, rfl, ⟨m1, m2⟩, ⟨m3, m4⟩, m5, m6, m7, m8, m9⟩ := h
  have hf : Model_thrown_f (y 2) = some k0 := by
    rw [m6]
    rfl
  refine ⟨_, ?_, ?_, Ci_re (M_thrown l D K b G y _ hf) (fun x => ⟨⟨_, b, G, y, rfl, rfl, ?_⟩, rfl⟩)⟩
  · exact ⟨Nat.le_of_ble_eq_true rfl, Nat.le_of_ble_eq_true rfl⟩
  · exact ⟨rfl, rfl⟩
  · exact ⟨⟨m1, m2⟩, ⟨m3, m4⟩, m5, m6, m7, m8, m9⟩
theorem Om_pack (l : Launch) (D : va_G) (K : Nat → ClassId) {q : Nat} {k0 : Int32} {w : va_W} {s : ST} (lv : Nat) (h : CM K q s k0 w) (hs : stOk s) (h1v : 1 ≤ lv) (h9v : lv ≤ 9) : Om l D K y_Model_pack (g_wd y_Model_pack b_Model_pack 8 (some .int)) [.ref q, .int (nI lv)] q (sPack s lv) 0 w (nI (PS s.T s.F lv).c) := by
  obtain ⟨b, G, y, rfl, rfl, ⟨m1, m2⟩, ⟨m3, m4⟩, m5, m6, m7, m8, m9⟩ := h
  obtain ⟨out2, tl2, ck2, od2, mgd2, last2, og2, lc2, list2, mn2, up2, sy2, gn2, tn2, tbl2, cts2, we2, pa2, lens2, cds2, told2, e, hW, hR⟩ := pack_m (tp := s.T) (F := s.F) (lv := lv) (tape := G 0) (out := G 1) (ck := y 10) (od := G 3) (mgd := G 4) (last := G 5) (og := y 9) (lc := y 6) (list := G 8) (mn := y 5) (up := G 6) (sy := G 7) (gn := y 7) (tn := y 8) (tbl := G 9) (cts := G 14) (we := G 12) (pa := G 13) (lens := G 10) (cds := G 11) (told := G 2) (fr' := y 12) (bit' := y 16) (coa' := y 17) (nbl' := y 11) (aT' := y 13) (aS' := y 14) (aG' := y 15) (tl' := y 4) (sz' := y 1) hs.1 h1v h9v (fun j hj => ⟨m2 j hj, hs.2.1 j hj⟩)
  have hf : Model_pack_f (nI lv) (G 1) (y 0) (G 0) (y 10) (G 3) (G 4) (G 5) (y 9) (y 6) (G 8) (y 5) (G 6) (G 7) (y 7) (y 8) (G 9) (G 14) (G 12) (G 13) (G 10) (G 11) (G 2) (y 12) (y 16) (y 17) (y 11) (y 13) (y 14) (y 15) (y 4) (y 1) = some (nI (PS s.T s.F lv).c, (0 : Int32), (1 : Int32), nI (blen (PS s.T s.F lv)), (PA s.T s.F lv).coa, nI (PA s.T s.F lv).nbl, nI (PA s.T s.F lv).aT, nI (PA s.T s.F lv).aS, nI (PA s.T s.F lv).aG, out2, tl2, ck2, od2, mgd2, last2, og2, lc2, list2, mn2, up2, sy2, gn2, tn2, tbl2, cts2, we2, pa2, lens2, cds2, told2, nI (PS s.T s.F lv).c, (0 : Int32)) := by
    rw [m1]
    exact e
  unfold sPack
  generalize PS s.T s.F lv = ps at *
  generalize PA s.T s.F lv = pa0 at *
  refine ⟨_, ?_, ?_, Ci_re (M_pack l D K b G y (nI lv) _ hf) (fun x => ⟨⟨_, b, _, _, rfl, rfl, ?_⟩, rfl⟩)⟩
  · exact ⟨Nat.le_of_ble_eq_true rfl, Nat.le_of_ble_eq_true rfl⟩
  · exact ⟨rfl, rfl⟩
  · refine ⟨⟨rfl, fun j hj => absurd hj (Nat.not_lt_zero _)⟩, ⟨rfl, hW.2.2.1⟩, m5, rfl, ⟨fun _ => rfl, fun hd => Or.inr ?_⟩, ⟨rfl, rfl, rfl, rfl⟩, hR⟩
    have hd2 : ¬ 0 < pa0.nbl := of_decide_eq_false hd
    show pa0.nbl = 0
    omega
theorem Om_packr (l : Launch) (D : va_G) (K : Nat → ClassId) {q : Nat} {k0 : Int32} {w : va_W} {s : ST} (p1 : Int32) (h : CM K q s k0 w) (hp : p1 < 1 ∨ ¬ p1 ≤ 9) : Om l D K y_Model_pack (g_wd y_Model_pack b_Model_pack 8 (some .int)) [.ref q, .int p1] q s 1 w 0 := by
  obtain ⟨b, G, y, rfl, rfl, ⟨m1, m2⟩, ⟨m3, m4⟩, m5, m6, m7, m8, m9⟩ := h
  have hf : Model_pack_f p1 (G 1) (y 0) (G 0) (y 10) (G 3) (G 4) (G 5) (y 9) (y 6) (G 8) (y 5) (G 6) (G 7) (y 7) (y 8) (G 9) (G 14) (G 12) (G 13) (G 10) (G 11) (G 2) (y 12) (y 16) (y 17) (y 11) (y 13) (y 14) (y 15) (y 4) (y 1) = some ((0 : Int32), (1 : Int32), y 12, y 16, y 17, y 11, y 13, y 14, y 15, G 1, y 4, y 10, G 3, G 4, G 5, y 9, y 6, G 8, y 5, G 6, G 7, y 7, y 8, G 9, G 14, G 12, G 13, G 10, G 11, G 2, y 1, y 0) := by
    unfold Model_pack_f
    by_cases h0 : p1 < 1
    · rw [if_pos h0]
      rfl
    · rw [if_neg h0, if_neg (hp.elim (fun h9 => absurd h9 h0) (fun h9 => h9))]
      rfl
  refine ⟨_, ?_, ?_, Ci_re (M_pack l D K b G y p1 _ hf) (fun x => ⟨⟨_, b, _, _, rfl, rfl, ?_⟩, rfl⟩)⟩
  · exact ⟨Nat.le_of_ble_eq_true rfl, Nat.le_of_ble_eq_true rfl⟩
  · exact ⟨rfl, rfl⟩
  · exact ⟨⟨m1, m2⟩, ⟨m3, m4⟩, m5, rfl, m7, m8, m9⟩
theorem Om_unpackr (l : Launch) (D : va_G) (K : Nat → ClassId) {q : Nat} {k0 : Int32} {w : va_W} {s : ST} (p1 : Int32) (h : CM K q s k0 w) (hp : p1 < 0 ∨ ¬ p1 ≤ 60000) : Om l D K y_Model_unpack (g_wd y_Model_unpack b_Model_unpack 6 (some .int)) [.ref q, .int p1] q s 1 w 0 := by
  obtain ⟨b, G, y, rfl, rfl, ⟨m1, m2⟩, ⟨m3, m4⟩, m5, m6, m7, m8, m9⟩ := h
  have hf : Model_unpack_f p1 (y 0) (G 0) (y 23) (G 8) (y 22) (y 21) (G 17) (G 18) (G 19) (y 20) (G 15) (G 16) (G 1) (y 12) (y 24) (y 25) (y 18) (y 3) (y 16) (y 19) (y 17) (y 1) = some ((0 : Int32), (1 : Int32), y 12, y 24, y 25, y 18, y 3, y 16, y 19, y 17, y 23, G 8, y 22, y 21, G 17, G 18, G 19, y 20, G 15, G 16, G 1, y 0, y 1) := by
    unfold Model_unpack_f
    by_cases h0 : p1 < 0
    · rw [if_pos h0]
      rfl
    · rw [if_neg h0, if_neg (hp.elim (fun h9 => absurd h9 h0) (fun h9 => h9))]
      rfl
  refine ⟨_, ?_, ?_, Ci_re (M_unpack l D K b G y p1 _ hf) (fun x => ⟨⟨_, b, _, _, rfl, rfl, ?_⟩, rfl⟩)⟩
  · exact ⟨Nat.le_of_ble_eq_true rfl, Nat.le_of_ble_eq_true rfl⟩
  · exact ⟨rfl, rfl⟩
  · exact ⟨⟨m1, m2⟩, ⟨m3, m4⟩, m5, rfl, m7, m8, m9⟩
theorem Om_unpack (l : Launch) (D : va_G) (K : Nat → ClassId) {q : Nat} {k0 : Int32} {w : va_W} {s : ST} (lim : Nat) (h : CM K q s k0 w) (hs : stOk s) (hlim : lim ≤ 60000) : Om l D K y_Model_unpack (g_wd y_Model_unpack b_Model_unpack 6 (some .int)) [.ref q, .int (nI lim)] q (sUnpack s lim) 0 w (rUnpack s lim) := by
  obtain ⟨b, G, y, rfl, rfl, ⟨m1, m2⟩, ⟨m3, m4⟩, m5, m6, m7, m8, m9⟩ := h
  obtain ⟨t, e, r1, r2, r3, r4, r5, r6⟩ := unpack_m (tp := s.T) (F := s.F) (lim := lim) (tape := G 0) (sb := y 23) (list := G 8) (st := y 22) (cc := y 21) (ch := G 17) (seen := G 18) (pre := G 19) (rc := y 20) (rows := G 15) (fr := G 16) (out := G 1) (fre := y 12) (lim0 := y 24) (ct0 := y 25) (flt0 := y 18) (pl0 := y 3) (bit0 := y 16) (tot0 := y 19) (coa0 := y 17) (sz0 := y 1) hs.1 (fun j hj => ⟨m2 j hj, hs.2.1 j hj⟩) hlim
  have hf : Model_unpack_f (nI lim) (y 0) (G 0) (y 23) (G 8) (y 22) (y 21) (G 17) (G 18) (G 19) (y 20) (G 15) (G 16) (G 1) (y 12) (y 24) (y 25) (y 18) (y 3) (y 16) (y 19) (y 17) (y 1) = some t := by
    rw [m1]
    exact e
  have hr : t.1 = rUnpack s lim := by
    unfold rUnpack
    cases hU : UP1 s.T s.F lim with
    | inl er => exact (r5 er hU).1
    | inr v => exact (r6 v hU).1
  rw [← hr]
  refine ⟨_, ?_, ?_, Ci_re (M_unpack l D K b G y (nI lim) t hf) (fun x => ⟨⟨_, b, _, _, rfl, rfl, ?_⟩, rfl⟩)⟩
  · exact ⟨Nat.le_of_ble_eq_true rfl, Nat.le_of_ble_eq_true rfl⟩
  · exact ⟨rfl, rfl⟩
  · unfold sUnpack
    cases hU : UP1 s.T s.F lim with
    | inl er =>
      obtain ⟨g1, g2, g3, g4, g5⟩ := r5 er hU
      exact ⟨⟨r4, fun j hj => absurd hj (Nat.not_lt_zero _)⟩, ⟨g4, fun j hj => absurd hj (Nat.not_lt_zero _)⟩, g3, r1, ⟨(fun h9 => (by cases h9)), fun _ => Or.inl r2⟩, m8, m9⟩
    | inr v =>
      obtain ⟨g1, g2, g3, g4, g5, g6⟩ := r6 v hU
      exact ⟨⟨r4, fun j hj => absurd hj (Nat.not_lt_zero _)⟩, ⟨g4, g6⟩, g3, r1, ⟨(fun h9 => (by cases h9)), fun _ => Or.inl r2⟩, m8, m9⟩
