/-! THE CLASS's CALLS on the common state: where they answer -/
noncomputable def sFeed (s : ST) (p1 p2 p3 p4 p5 : Int32) : ST := (s.F + 20, fun j => if j < s.F then s.T j else fdB p1 p2 p3 p4 p5 (j - s.F), s.M, s.W, s.P, s.A, s.B)
def sEnd (s : ST) (i : Nat) : ST := (i, s.T, s.M, s.W, s.P, s.A, s.B)
def sAlter (s : ST) (i b : Nat) : ST := (s.F, fun j => if j = i then b else s.T j, s.M, s.W, s.P, s.A, s.B)
def sCopy (s : ST) : ST := (s.M, s.W, s.M, s.W, s.P, s.A, s.B)
theorem Ox_feed (l : Launch) (D : va_G) (K : Nat → ClassId) {q N : Nat} {w : va_W} {s : ST} (p1 p2 p3 p4 p5 : Int32) (h : CX K q s N w) (hc : s.F ≤ 10220) : Ox l D K y_Press_feed (g_wd y_Press_feed b_Press_feed 6 (some .int)) [.ref q, .int p1, .int p2, .int p3, .int p4, .int p5] q (sFeed s p1 p2 p3 p4 p5) N w (nI (s.F + 20)) := by
  obtain ⟨a, ae, n, F, Fe, z, ze, rfl, rfl, ⟨h1, h2, h3, h4, h5⟩, ⟨h6, h7⟩, hM, hA, hB, hC, hD, hE⟩ := h
  obtain ⟨f2, e, g1, g2⟩ := feed_c (c := s.F) (f := F 0) (p1 := p1) (p2 := p2) (p3 := p3) (p4 := p4) (p5 := p5) hc
  have hf : Press_feed_f (z 2) (n 0) p1 (F 0) p2 p3 p4 p5 = some (nI (s.F + 20), 10240, f2, nI (s.F + 20)) := by rw [h6, h1]; exact e
  refine ⟨_, N, ⟨Nat.le_refl _, h5⟩, ?_, ?_, Ci_re (X_feed l D K a ae n F Fe z ze p1 p2 p3 p4 p5 _ hf) (fun x => ⟨⟨_, _, ae, _, _, Fe, _, ze, rfl, (by rfl), ?_⟩, rfl⟩)⟩
  · exact ⟨Nat.le_of_ble_eq_true rfl, Nat.le_of_ble_eq_true rfl⟩
  · show 10240 - n 0 ≤ _ ∧ 2 * (10240 - n 0) ≤ _
    rw [h1]
    omega
  · refine ⟨⟨rfl, h2, h3, h4, h5⟩, ⟨rfl, fun j hj => ?_⟩, hM, hA, hB, hC, hD, hE⟩
    have hj : j < s.F + 20 := hj
    show f2 j = nI (if j < s.F then s.T j else fdB p1 p2 p3 p4 p5 (j - s.F))
    by_cases hlt : j < s.F
    · rw [if_pos hlt, g1 j hlt]
      exact h7 j hlt
    · rw [if_neg hlt, show j = s.F + (j - s.F) by omega, g2 _ (by omega), show s.F + (j - s.F) - s.F = j - s.F by omega]
/-- end: no answer -/
def OxV (l : Launch) (D : va_G) (K : Nat → ClassId) (y : MethodName) (wy : List Cond) (av : List Value) (q : Nat) (s2 : ST) (N : Nat) (w : va_W) : Prop :=
  ∃ (rm : Room), (rm.frames ≤ 20 ∧ rm.locals ≤ 1000) ∧ (rm.cells = 0 ∧ rm.slots = 0) ∧ Cv l D K y wy rm av w (fun x : {v : va_W // CX K q s2 N v} => x.1)
theorem Ox_end (l : Launch) (D : va_G) (K : Nat → ClassId) {q N : Nat} {w : va_W} {s : ST} (i : Nat) (h : CX K q s N w) (hF : s.F ≤ 10240) (hi : i ≤ s.F) : OxV l D K y_Press_end (g_wd y_Press_end b_Press_end 2 none) [.ref q, .int (nI i)] q (sEnd s i) N w := by
  obtain ⟨a, ae, n, F, Fe, z, ze, rfl, rfl, hN, ⟨h6, h7⟩, hM, hA, hB, hC, hD, hE⟩ := h
  have hf : Press_end_f (nI i) (z 2) = some (nI i) := by rw [h6]; exact pend_c rfl hi hF
  refine ⟨_, ?_, ?_, Cv_re (X_end l D K a ae n F Fe z ze (nI i) _ hf) (fun x => ⟨⟨_, _, ae, _, _, Fe, _, ze, rfl, rfl, ?_⟩, rfl⟩)⟩
  · exact ⟨Nat.le_of_ble_eq_true rfl, Nat.le_of_ble_eq_true rfl⟩
  · exact ⟨rfl, rfl⟩
  · exact ⟨hN, ⟨rfl, fun j hj => h7 j (Nat.lt_of_lt_of_le hj hi)⟩, hM, hA, hB, hC, hD, hE⟩
theorem Ox_alter (l : Launch) (D : va_G) (K : Nat → ClassId) {q N : Nat} {w : va_W} {s : ST} (i b : Nat) (h : CX K q s N w) (hF : s.F ≤ 10240) (hi : i < s.F) (hb : b < 256) : Ox l D K y_Press_alter (g_wd y_Press_alter b_Press_alter 3 (some .int)) [.ref q, .int (nI i), .int (nI b)] q (sAlter s i b) N w (nI (s.T i)) := by
  obtain ⟨a, ae, n, F, Fe, z, ze, rfl, rfl, ⟨h1, h2, h3, h4, h5⟩, ⟨h6, h7⟩, hM, hA, hB, hC, hD, hE⟩ := h
  have hf : Press_alter_f (nI i) (z 2) (nI b) (F 0) (n 0) = some (nI (s.T i), upd (F 0) i (nI b)) := by
    rw [h6, h1, alter_c hi hF (by omega) hb, h7 i hi]
  refine ⟨_, N, ⟨Nat.le_refl _, h5⟩, ?_, ?_, Ci_re (X_alter l D K a ae n F Fe z ze (nI i) (nI b) _ hf) (fun x => ⟨⟨_, _, ae, _, _, Fe, _, ze, rfl, rfl, ?_⟩, rfl⟩)⟩
  · exact ⟨Nat.le_of_ble_eq_true rfl, Nat.le_of_ble_eq_true rfl⟩
  · exact ⟨Nat.zero_le _, Nat.zero_le _⟩
  · refine ⟨⟨h1, h2, h3, h4, h5⟩, ⟨h6, fun j hj => ?_⟩, hM, hA, hB, hC, hD, hE⟩
    show upd (F 0) i (nI b) j = nI (if j = i then b else s.T j)
    by_cases hj2 : j = i
    · rw [hj2, pk_us, if_pos rfl]
    · rw [pk_un hj2, if_neg hj2]
      exact h7 j hj
theorem Ox_copy (l : Launch) (D : va_G) (K : Nat → ClassId) {q N : Nat} {w : va_W} {s : ST} (h : CX K q s N w) (hm : s.M ≤ 10240) : Ox l D K y_Press_copy (g_wd y_Press_copy b_Press_copy 1 (some .int)) [.ref q] q (sCopy s) N w (nI s.M) := by
  obtain ⟨a, ae, n, F, Fe, z, ze, rfl, rfl, ⟨h1, h2, h3, h4, h5⟩, hT, ⟨h8, h9⟩, hA, hB, hC, hD, hE⟩ := h
  have hf : Press_copy_f (z 3) (n 0) (n 1) (F 1) (F 0) = some (nI s.M, va_cpy (F 1) (F 0) 0 0 s.M, nI s.M) := by
    rw [h8, h1, h2]
    exact copy_c hm h3 hm (by omega) (by omega)
  refine ⟨_, N, ⟨Nat.le_refl _, h5⟩, ?_, ?_, Ci_re (X_copy l D K a ae n F Fe z ze _ hf) (fun x => ⟨⟨_, _, ae, _, _, Fe, _, ze, rfl, rfl, ?_⟩, rfl⟩)⟩
  · exact ⟨Nat.le_of_ble_eq_true rfl, Nat.le_of_ble_eq_true rfl⟩
  · exact ⟨Nat.zero_le _, Nat.zero_le _⟩
  · refine ⟨⟨h1, h2, h3, h4, h5⟩, ⟨rfl, fun j hj => ?_⟩, ⟨h8, h9⟩, hA, hB, hC, hD, hE⟩
    have hj : j < s.M := hj
    show va_cpy (F 1) (F 0) 0 0 s.M j = nI (s.W j)
    unfold va_cpy
    rw [if_pos (by omega)]
    have e9 : 0 + (j - 0) = j := by omega
    first | rw [e9]; exact h9 j hj | exact h9 j hj
theorem Ox_place (l : Launch) (D : va_G) (K : Nat → ClassId) {q N : Nat} {w : va_W} {s : ST} (h : CX K q s N w) : Ox l D K y_Press_place (g_wd y_Press_place b_Press_place 1 (some .int)) [.ref q] q s N w s.P := by
  obtain ⟨a, ae, n, F, Fe, z, ze, rfl, rfl, hN, hT, hM, hA, hR⟩ := h
  have hf : Press_place_f (z 0) = some s.P := by rw [hA.1]; rfl
  refine ⟨_, N, ⟨Nat.le_refl _, hN.2.2.2.2⟩, ?_, ?_, Ci_re (X_place l D K a ae n F Fe z ze _ hf) (fun x => ⟨⟨_, a, ae, n, F, Fe, z, ze, rfl, rfl, ?_⟩, rfl⟩)⟩
  · exact ⟨Nat.le_of_ble_eq_true rfl, Nat.le_of_ble_eq_true rfl⟩
  · exact ⟨Nat.zero_le _, Nat.zero_le _⟩
  · exact ⟨hN, hT, hM, hA, hR⟩
theorem Ox_length (l : Launch) (D : va_G) (K : Nat → ClassId) {q N : Nat} {w : va_W} {s : ST} (h : CX K q s N w) : Ox l D K y_Press_length (g_wd y_Press_length b_Press_length 1 (some .int)) [.ref q] q s N w (nI s.F) := by
  obtain ⟨a, ae, n, F, Fe, z, ze, rfl, rfl, hN, hT, hM, hR⟩ := h
  have hf : Press_length_f (z 2) = some (nI s.F) := by rw [hT.1]; rfl
  refine ⟨_, N, ⟨Nat.le_refl _, hN.2.2.2.2⟩, ?_, ?_, Ci_re (X_length l D K a ae n F Fe z ze _ hf) (fun x => ⟨⟨_, a, ae, n, F, Fe, z, ze, rfl, rfl, ?_⟩, rfl⟩)⟩
  · exact ⟨Nat.le_of_ble_eq_true rfl, Nat.le_of_ble_eq_true rfl⟩
  · exact ⟨Nat.zero_le _, Nat.zero_le _⟩
  · exact ⟨hN, hT, hM, hR⟩
theorem Ox_size (l : Launch) (D : va_G) (K : Nat → ClassId) {q N : Nat} {w : va_W} {s : ST} (h : CX K q s N w) : Ox l D K y_Press_size (g_wd y_Press_size b_Press_size 1 (some .int)) [.ref q] q s N w (nI s.M) := by
  obtain ⟨a, ae, n, F, Fe, z, ze, rfl, rfl, hN, hT, hM, hR⟩ := h
  have hf : Press_size_f (z 3) = some (nI s.M) := by rw [hM.1]; rfl
  refine ⟨_, N, ⟨Nat.le_refl _, hN.2.2.2.2⟩, ?_, ?_, Ci_re (X_size l D K a ae n F Fe z ze _ hf) (fun x => ⟨⟨_, a, ae, n, F, Fe, z, ze, rfl, rfl, ?_⟩, rfl⟩)⟩
  · exact ⟨Nat.le_of_ble_eq_true rfl, Nat.le_of_ble_eq_true rfl⟩
  · exact ⟨Nat.zero_le _, Nat.zero_le _⟩
  · exact ⟨hN, hT, hM, hR⟩
theorem Ox_out (l : Launch) (D : va_G) (K : Nat → ClassId) {q N : Nat} {w : va_W} {s : ST} (i : Nat) (h : CX K q s N w) (hi : i < s.M) : Ox l D K y_Press_out (g_wd y_Press_out b_Press_out 2 (some .int)) [.ref q, .int (nI i)] q s N w (nI (s.W i)) := by
  obtain ⟨a, ae, n, F, Fe, z, ze, rfl, rfl, hN, hT, ⟨h8, h9⟩, hR⟩ := h
  have hf : Press_out_f (nI i) (z 3) (n 1) (F 1) = some (nI (s.W i)) := by
    rw [h8, hN.2.1, out_c hi hN.2.2.1 (by have := hN.2.2.2.2; omega), h9 i hi]
  refine ⟨_, N, ⟨Nat.le_refl _, hN.2.2.2.2⟩, ?_, ?_, Ci_re (X_out l D K a ae n F Fe z ze (nI i) _ hf) (fun x => ⟨⟨_, a, ae, n, F, Fe, z, ze, rfl, rfl, ?_⟩, rfl⟩)⟩
  · exact ⟨Nat.le_of_ble_eq_true rfl, Nat.le_of_ble_eq_true rfl⟩
  · exact ⟨Nat.zero_le _, Nat.zero_le _⟩
  · exact ⟨hN, hT, ⟨h8, h9⟩, hR⟩
/-- what piece answers -/
noncomputable def pcS (s : ST) (i : Nat) (x : Int32) : Int32 := if s.B = true then pcN s.A.t s.A.n i x else (-1 : Int32)
theorem Ox_piece (l : Launch) (D : va_G) (K : Nat → ClassId) {q N : Nat} {w : va_W} {s : ST} (i : Nat) (x : Int32) (h : CX K q s N w) (hs : stOk s) (hi : i < 11) : Ox l D K y_Press_piece (g_wd y_Press_piece b_Press_piece 3 (some .int)) [.ref q, .int (nI i), .int x] q s N w (pcS s i x) := by
  obtain ⟨a, ae, n, F, Fe, z, ze, rfl, rfl, hN, hT, hM, hA, hB, hC, hD, hE⟩ := h
  have hf : Press_piece_f (nI i) (z 1) x (z 8) (F 2) (F 3) (F 4) (z 9) (F 5) (z 12) (F 8) (z 13) (ze 0) (Fe 0) = some (pcS s i x) := by
    unfold pcS
    rw [hA.2]
    by_cases hb : s.B = true
    · rw [if_pos hb, if_pos hb]
      have hp := hs.2.2.2.2.2 hb
      obtain ⟨c1, c2, c3⟩ := hs.2.2.2.2.1.2.2 hp
      obtain ⟨k1, k2, k3, k4, k5, k6, k7, k8, k9, ka, kb, kc, kd, ke⟩ := hD.2.2.2.2.1 hp
      rw [k1, k6, k7, k8]
      exact piece_c hi c1 c2 c3 k3 k9 ka kb kc kd ke
    · rw [if_neg hb, if_neg hb]
      exact piece_c0 hi
  refine ⟨_, N, ⟨Nat.le_refl _, hN.2.2.2.2⟩, ?_, ?_, Ci_re (X_piece l D K a ae n F Fe z ze (nI i) x _ hf) (fun x => ⟨⟨_, a, ae, n, F, Fe, z, ze, rfl, rfl, ?_⟩, rfl⟩)⟩
  · exact ⟨Nat.le_of_ble_eq_true rfl, Nat.le_of_ble_eq_true rfl⟩
  · exact ⟨Nat.zero_le _, Nat.zero_le _⟩
  · exact ⟨hN, hT, hM, hA, hB, hC, hD, hE⟩
