/-! THE COMMON STATE of the class and of the reference between two calls -/
/-- tape: how many, which; out: how many, which; the fault's place; the last packing; do its pieces stand -/
abbrev ST : Type := Nat × (Nat → Nat) × Nat × (Nat → Nat) × Int32 × pacc × Bool
abbrev ST.F (s : ST) : Nat := s.1
abbrev ST.T (s : ST) : Nat → Nat := s.2.1
abbrev ST.M (s : ST) : Nat := s.2.2.1
abbrev ST.W (s : ST) : Nat → Nat := s.2.2.2.1
abbrev ST.P (s : ST) : Int32 := s.2.2.2.2.1
abbrev ST.A (s : ST) : pacc := s.2.2.2.2.2.1
abbrev ST.B (s : ST) : Bool := s.2.2.2.2.2.2
abbrev pacOk (a : pacc) : Prop := (a.nbl = 0 → a.aT = 0 ∧ a.aS = 0 ∧ a.aG = 0) ∧ a.nbl ≤ 10240 ∧ (0 < a.nbl → 0 < a.n ∧ a.n ≤ 2250 ∧ ∀ j, j < a.n → a.t j < 256)
abbrev stOk (s : ST) : Prop := s.F ≤ 10240 ∧ (∀ j, j < s.F → s.T j < 256) ∧ s.M ≤ 218013 ∧ (∀ j, j < s.M → s.W j < 256) ∧ pacOk s.A ∧ (s.B = true → 0 < s.A.nbl)
abbrev FX (s : ST) (N : Nat) (n : Nat → Nat) (F : Nat → Nat → Int32) (Fe : Nat → Nat → Nat → Int32) (z : Nat → Int32) (ze : Nat → Nat → Int32) : Prop :=
  (n 0 = 10240 ∧ n 1 = N ∧ s.M ≤ N ∧ 16384 ≤ N ∧ N ≤ 436026) ∧ (z 2 = nI s.F ∧ RS s.F (F 0) s.T) ∧ (z 3 = nI s.M ∧ RS s.M (F 1) s.W) ∧ (z 0 = s.P ∧ z 1 = if s.B = true then (1 : Int32) else (0 : Int32)) ∧ ((∀ j, j < 256 → F 9 j = chkT j) ∧ ∀ j, j < 256 → F 21 j = chkT j) ∧ (z 17 = 0 ∧ z 18 = 0) ∧
  Cir s.A (z 4) (z 5) (z 6) (z 7) (z 8) (z 11) (F 2) (F 3) (z 10) (z 14) (F 4) (z 9) (F 5) (z 12) (z 13) (F 8) (Fe 0) (ze 0) (Fe 4) (Fe 5) ∧ TZ (Fe 10) (Fe 11)
abbrev FM (s : ST) (k : Int32) (G : Nat → Nat → Int32) (y : Nat → Int32) : Prop :=
  (y 0 = nI s.F ∧ OB s.F (G 0) s.T) ∧ (y 1 = nI s.M ∧ OB s.M (G 1) s.W) ∧ y 3 = s.P ∧ y 2 = k ∧ ((s.B = true → y 12 = (1 : Int32)) ∧ (s.B = false → y 12 = 0 ∨ s.A.nbl = 0)) ∧ (y 11 = nI s.A.nbl ∧ y 13 = nI s.A.aT ∧ y 14 = nI s.A.aS ∧ y 15 = nI s.A.aG) ∧
  Mir s.A (y 4) (y 10) (G 5) (y 9) (y 6) (y 5) (G 6) (G 7) (y 7) (y 8) (G 9) (G 10) (G 2)
def CX (K : Nat → ClassId) (q : Nat) (s : ST) (N : Nat) (w : va_W) : Prop := ∃ (a : Nat → Nat) (ae : Nat → Nat → Nat) (n : Nat → Nat) (F : Nat → Nat → Int32) (Fe : Nat → Nat → Nat → Int32) (z : Nat → Int32) (ze : Nat → Nat → Int32), w = WX K a ae n F Fe z ze ∧ a 0 = q ∧ FX s N n F Fe z ze
def CM (K : Nat → ClassId) (q : Nat) (s : ST) (k : Int32) (w : va_W) : Prop := ∃ (b : Nat → Nat) (G : Nat → Nat → Int32) (y : Nat → Int32), w = WM K b G y ∧ b 0 = q ∧ FM s k G y
theorem Ci_re {l : Launch} {D : va_G} {K : Nat → ClassId} {y : MethodName} {wy : List Cond} {rm : Room} {av : List Value} {wi : va_W} {X X2 : Type} {wo : X → va_W} {wo2 : X2 → va_W} {r : Int32} (hM : Ci l D K y wy rm av wi wo r) (hx : ∀ x, ∃ x2, wo x = wo2 x2) : Ci l D K y wy rm av wi wo2 r := by
  intro sz
  refine MetFree_mono (hM sz) (fun _ _ h => h) ?_
  intro a U o t _ ⟨⟨⟨r2, x, ho, hr, hP1, hD1⟩, hF⟩, hL⟩
  obtain ⟨x2, e⟩ := hx x
  rw [e] at hP1 hD1
  exact ⟨⟨⟨r2, x2, ho, hr, hP1, hD1⟩, hF⟩, hL⟩
theorem Cv_re {l : Launch} {D : va_G} {K : Nat → ClassId} {y : MethodName} {wy : List Cond} {rm : Room} {av : List Value} {wi : va_W} {X X2 : Type} {wo : X → va_W} {wo2 : X2 → va_W} (hM : Cv l D K y wy rm av wi wo) (hx : ∀ x, ∃ x2, wo x = wo2 x2) : Cv l D K y wy rm av wi wo2 := by
  intro sz
  refine MetFree_mono (hM sz) (fun _ _ h => h) ?_
  intro a U o t _ ⟨⟨⟨x, ho, hr, hP1, hD1⟩, hF⟩, hL⟩
  obtain ⟨x2, e⟩ := hx x
  rw [e] at hP1 hD1
  exact ⟨⟨⟨x2, ho, hr, hP1, hD1⟩, hF⟩, hL⟩
/-- a call of the class that answers r and leads from s to s2 -/
def Ox (l : Launch) (D : va_G) (K : Nat → ClassId) (y : MethodName) (wy : List Cond) (av : List Value) (q : Nat) (s2 : ST) (N : Nat) (w : va_W) (r : Int32) : Prop :=
  ∃ (rm : Room) (N2 : Nat), (N ≤ N2 ∧ N2 ≤ 436026) ∧ (rm.frames ≤ 20 ∧ rm.locals ≤ 1000) ∧ (rm.cells ≤ N2 - N ∧ rm.slots ≤ 2 * (N2 - N)) ∧ Ci l D K y wy rm av w (fun x : {v : va_W // CX K q s2 N2 v} => x.1) r
/-- a call of the reference that answers r, tells k as refused, and leads to s2 -/
def Om (l : Launch) (D : va_G) (K : Nat → ClassId) (y : MethodName) (wy : List Cond) (av : List Value) (q : Nat) (s2 : ST) (k : Int32) (w : va_W) (r : Int32) : Prop :=
  ∃ (rm : Room), (rm.frames ≤ 20 ∧ rm.locals ≤ 1000) ∧ (rm.cells = 0 ∧ rm.slots = 0) ∧ Ci l D K y wy rm av w (fun x : {v : va_W // CM K q s2 k v} => x.1) r
/-- what packing leaves of its last block -/
theorem PK_n {tp : Nat → Nat} {F most : Nat} (ht : ∀ j, j < F → tp j < 256) (h5 : 5 ≤ most) (hm : most ≤ 2250) : ∀ (f k : Nat) (a : pacc), (0 < a.nbl → 0 < a.n ∧ a.n ≤ 2250 ∧ ∀ j, j < a.n → a.t j < 256) → 0 < (PK tp F most f k a).nbl → 0 < (PK tp F most f k a).n ∧ (PK tp F most f k a).n ≤ 2250 ∧ ∀ j, j < (PK tp F most f k a).n → (PK tp F most f k a).t j < 256 := by
  intro f
  induction f with
  | zero => intro k a ha; exact ha
  | succ f ih =>
    intro k a ha
    unfold PK
    by_cases hk : F ≤ k
    · rw [if_pos hk]
      exact ha
    · rw [if_neg hk]
      refine ih _ _ (fun _ => ?_)
      obtain ⟨h1, h2, h3, -⟩ := TK_ok (most := most) ht h5 (show k < F by omega)
      exact ⟨h3, Nat.le_trans h1.n hm, h1.2.2⟩
theorem PA_ok {tp : Nat → Nat} {F lv : Nat} (ht : ∀ j, j < F → tp j < 256) (hF : F ≤ 10240) (h1 : 1 ≤ lv) (h9 : lv ≤ 9) (hp : pin F F (PA tp F lv)) : pacOk (PA tp F lv) := by
  refine ⟨fun h => ?_, Nat.le_trans hp.2.2.2.1 hF, PK_n ht (by omega) (by omega) _ _ _ (fun h => absurd h (Nat.lt_irrefl _))⟩
  by_cases hz : F = 0
  · subst hz
    exact ⟨rfl, rfl, rfl⟩
  · have h2 := hp.2.2.2.2 (Nat.le_refl _) (by omega)
    rw [h] at h2
    exact absurd h2 (Nat.lt_irrefl _)
