/-! PURE WORDS: the class's methods as functions to Option (none: an index out of range, a division by 0, no end within 'gas' rounds) -/
def bd {α β : Type} (x : Option α) (f : α → Option β) : Option β := match x with
  | none => none
  | some a => f a
def gd {α : Type} (b : Bool) (x : Option α) : Option α := match b with
  | true => x
  | false => none
def ix (i : Int32) (n : Nat) : Bool := decide (0 ≤ i.toInt) && decide (i.toInt < (n : Int))
def nz (x : Int32) : Bool := decide (¬ x = 0)
def ush (x y : Int32) : Int32 := (x.toUInt32 >>> (y.toUInt32 &&& Int32.toUInt32 31)).toInt32
def lpF {S E : Type} (b : S → Option (S ⊕ E)) : Nat → S → Option E
  | 0, _ => none
  | n + 1, s => bd (b s) (fun u => Sum.elim (lpF b n) some u)
def jmax (x y : Int32) : Int32 := if x < y then y else x
def jmin (x y : Int32) : Int32 := if y < x then y else x
def cpk (sp dp z : Int32) (n0 n1 : Nat) : Bool := decide (¬ sp < 0) && decide (¬ dp < 0) && decide (¬ z < 0) && decide (sp.toNatClampNeg + z.toNatClampNeg ≤ n0) && decide (dp.toNatClampNeg + z.toNatClampNeg ≤ n1)
theorem cpk_ok {sp dp z : Int32} {n0 n1 : Nat} (h : cpk sp dp z n0 n1 = true) : ¬ sp < 0 ∧ ¬ dp < 0 ∧ ¬ z < 0 ∧ sp.toNatClampNeg + z.toNatClampNeg ≤ n0 ∧ dp.toNatClampNeg + z.toNatClampNeg ≤ n1 := by
  simp only [cpk, Bool.and_eq_true, decide_eq_true_eq] at h
  exact ⟨h.1.1.1.1, h.1.1.1.2, h.1.1.2, h.1.2, h.2⟩
theorem gas_ex : ∃ n : Nat, 1000000 ≤ n := ⟨1000000, Nat.le_refl _⟩
noncomputable def gas : Nat := Classical.choose gas_ex
theorem gas_le : 1000000 ≤ gas := Classical.choose_spec gas_ex
theorem bd_some {α β : Type} {x : Option α} {f : α → Option β} {r : β} (h : bd x f = some r) : ∃ a, x = some a ∧ f a = some r := by
  cases x with
  | none => cases h
  | some a => exact ⟨a, rfl, h⟩
theorem bd_of {α β : Type} {x : Option α} {f : α → Option β} {a : α} {r : Option β} (h : x = some a) (h2 : f a = r) : bd x f = r := by subst h; exact h2
theorem gd_some {α : Type} {b : Bool} {x : Option α} {r : α} (h : gd b x = some r) : b = true ∧ x = some r := by
  cases b with
  | false => cases h
  | true => exact ⟨rfl, h⟩
theorem gd_of {α : Type} {b : Bool} {x : Option α} {r : Option α} (h : b = true) (h2 : x = r) : gd b x = r := by subst h; exact h2
theorem it_t {α : Type} {c : Prop} [d : Decidable c] {x y : α} {r : α} (h : c) (hf : (if c then x else y) = r) : x = r := by rwa [if_pos h] at hf
theorem it_f {α : Type} {c : Prop} [d : Decidable c] {x y : α} {r : α} (h : ¬ c) (hf : (if c then x else y) = r) : y = r := by rwa [if_neg h] at hf
theorem el_l {α β γ : Type} {f : α → γ} {g : β → γ} {a : α} {r : γ} (h : Sum.elim f g (Sum.inl a) = r) : f a = r := h
theorem el_r {α β γ : Type} {f : α → γ} {g : β → γ} {b : β} {r : γ} (h : Sum.elim f g (Sum.inr b) = r) : g b = r := h
theorem nz_ne {x : Int32} (h : nz x = true) : ¬ x = 0 := of_decide_eq_true h
theorem ix_iff {i : Int32} {n : Nat} : ix i n = true ↔ 0 ≤ i.toInt ∧ i.toInt < (n : Int) := by simp [ix]
theorem ix_in {i : Int32} {n : Nat} (h : ix i n = true) : vp_in i n := vp_in_iff.mpr (ix_iff.mp h)
def bl (x : Int32) : Bool := decide (x = 0) || decide (x = 1)
theorem bl_nar {x : Int32} (h : bl x = true) : narrow .boolean (.int x) = .int x := by
  rcases (show x = 0 ∨ x = 1 by simpa [bl] using h) with rfl | rfl <;> rfl
theorem bl_fit {x : Int32} (h : bl x = true) : fits .boolean (.int x) = true := by
  rcases (show x = 0 ∨ x = 1 by simpa [bl] using h) with rfl | rfl <;> rfl
theorem tne {x v : Int32} {z : Int} (h : ¬ x = v) (hv : v.toInt = z) : x.toInt ≠ z := fun q => h (Int32.toInt_inj.mp (q.trans hv.symm))
theorem lp_ind {S E : Type} {b : S → Option (S ⊕ E)} {G : S → Prop} {o : E} (step : ∀ s u, b s = some u → (∀ s2, some (Sum.inl s2) = some u → G s2) → (∀ e, some (Sum.inr e) = some u → e = o) → G s) : ∀ (n : Nat) (s : S), lpF b n s = some o → G s := by
  intro n
  induction n with
  | zero => intro s h; cases h
  | succ n ih =>
    intro s h
    obtain ⟨u, hu, h⟩ := bd_some h
    cases u with
    | inl s2 => exact step s _ hu (fun s3 h3 => by cases h3; exact ih s2 h) (fun e h3 => by cases h3)
    | inr e => exact step s _ hu (fun s3 h3 => by cases h3) (fun e2 h3 => by cases h3; exact Option.some.inj (el_r h))
theorem lt6 {z : Nat} (h : z < 6) : z = 0 ∨ z = 1 ∨ z = 2 ∨ z = 3 ∨ z = 4 ∨ z = 5 := by omega
theorem ix_lt {i : Int32} {n : Nat} (h : ix i n = true) : i.toNatClampNeg < n := Nat.not_le.mp fun q => ix_in h (Or.inr q)
/-- a greater copy may be made: at least double, and not too great -/
def cok (n : Nat) (L : Int32) : Bool := decide (¬ L < 0) && decide (1 ≤ n) && decide (2 * n ≤ L.toNatClampNeg) && decide (L.toNatClampNeg ≤ 134217728)
theorem cok_le {n : Nat} {L : Int32} (h : cok n L = true) : 1 ≤ n ∧ 2 * n ≤ L.toNatClampNeg := by
  simp only [cok, Bool.and_eq_true, decide_eq_true_eq] at h
  exact ⟨h.1.1.2, h.1.2⟩
theorem cok_all {n : Nat} {L : Int32} (h : cok n L = true) : ¬ L < 0 ∧ 1 ≤ n ∧ 2 * n ≤ L.toNatClampNeg ∧ L.toNatClampNeg ≤ 134217728 := by
  simp only [cok, Bool.and_eq_true, decide_eq_true_eq] at h
  exact ⟨h.1.1.1, h.1.1.2, h.1.2, h.2⟩
theorem va_Psub {D : va_G} {cl : List vw_C} {ws ws2 : va_W} {H : Heap} (h : va_P D cl ws H) (is : List Nat) (hs : is.map (fun i => ws[i]?) = ws2.map some) : va_P D cl ws2 H := by
  intro k q hk
  have h1 : (is.map (fun i => ws[i]?))[k]? = some (some q) := by rw [hs, List.getElem?_map, hk]; rfl
  rw [List.getElem?_map] at h1
  cases hi : is[k]? with
  | none => rw [hi] at h1; cases h1
  | some i => rw [hi] at h1; exact h i q (Option.some.inj h1)
