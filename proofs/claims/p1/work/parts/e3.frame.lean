/-! CONTRACTS OVER A GREATER WORLD -/
theorem MetFree_mono {l : Launch} {y : MethodName} {S : Spec} {P P2 : Array Value → State → Prop} {K : Program → Env → List Frame → State → Array Value → Prop} {Q Q2 : Array Value → State → Outcome → State → Prop} (h : Jvm.Free.MetFree l y S P K Q) (hP : ∀ a s, P2 a s → P a s) (hQ : ∀ a s o t, P2 a s → Q a s o t → Q2 a s o t) : Jvm.Free.MetFree l y S P2 K Q2 := by
  intro p e ha hc hk s m args below hf happ hp hK
  obtain ⟨n, o, h1, h2, h3, h4⟩ := h p e ha hc hk s m args below hf happ (hP _ _ hp) hK
  exact ⟨n, o, h1, h2, h3, hQ _ _ _ _ hp h4⟩
theorem Ci_sub {l : Launch} {D : va_G} {K : Nat → ClassId} {y : MethodName} {wy : List Cond} {rm : Room} {av : List Value} {wi : va_W} {X : Type} {wo : X → va_W} {r : Int32} (hM : Ci l D K y wy rm av wi wo r) (ws : va_W) (isC isR : List Nat) (wr : va_W) (hn1 : va_nd isC = true) (h1 : isC.map (fun i => ws[i]?) = wi.map some) (hn2 : va_nd isR = true) (h2 : isR.map (fun i => ws[i]?) = wr.map some) (hdis : isR.all (fun i => !isC.contains i) = true) {X2 : Type} (w2 : X2 → va_W) (hx : ∀ x : X, ∃ (x2 : X2) (isP : List Nat), va_nd isP = true ∧ isP.map (fun i => (wr ++ wo x)[i]?) = (w2 x2).map some) : Ci l D K y wy rm av ws w2 r := by
  intro sz
  refine MetFree_mono (hM sz) ?_ ?_
  · intro a U ⟨hv, hz, hP, hK, hD, hO⟩
    exact ⟨hv, hz, va_Psub hP isC h1, hK, hD.sub isC hn1 h1, hO⟩
  · intro a U o t ⟨hv, hz, hP, hK, hD, hO⟩ ⟨⟨⟨r2, x, ho, hr, hP1, hD1⟩, hF⟩, L, hE, hL⟩
    subst hz
    have hDs : va_D (va_A ws U.heap.size) ws := hD.self (sz := U.heap.size)
    have hFc : ∀ q, va_A wi U.heap.size q → va_A ws U.heap.size q := va_free (wc := wi) hDs (va_S.rf (A := va_A ws U.heap.size) (H0 := U.heap)) (fun q h => Or.inr h) isC h1
    have hdis2 : ∀ i ∈ isR, i ∉ isC := fun i hi hc => by have h9 := List.all_eq_true.mp hdis i hi; simp [hc] at h9
    obtain ⟨hP2, hD2⟩ := va_join hP hDs isC isR h1 h2 hn2 hdis2 hF.2 hFc hP1 hD1
    obtain ⟨x2, isP, hnP, hPP⟩ := hx x
    exact ⟨⟨⟨r2, x2, ho, hr, va_Psub hP2 isP hPP, hD2.sub isP hnP hPP⟩, hF.1, fun q hq hn => hF.2 q hq (fun h9 => hn (hFc q h9))⟩, L, hE, fun q hq => hFc _ (hL q hq)⟩
theorem Cv_sub {l : Launch} {D : va_G} {K : Nat → ClassId} {y : MethodName} {wy : List Cond} {rm : Room} {av : List Value} {wi : va_W} {X : Type} {wo : X → va_W} (hM : Cv l D K y wy rm av wi wo) (ws : va_W) (isC isR : List Nat) (wr : va_W) (hn1 : va_nd isC = true) (h1 : isC.map (fun i => ws[i]?) = wi.map some) (hn2 : va_nd isR = true) (h2 : isR.map (fun i => ws[i]?) = wr.map some) (hdis : isR.all (fun i => !isC.contains i) = true) {X2 : Type} (w2 : X2 → va_W) (hx : ∀ x : X, ∃ (x2 : X2) (isP : List Nat), va_nd isP = true ∧ isP.map (fun i => (wr ++ wo x)[i]?) = (w2 x2).map some) : Cv l D K y wy rm av ws w2 := by
  intro sz
  refine MetFree_mono (hM sz) ?_ ?_
  · intro a U ⟨hv, hz, hP, hK, hD, hO⟩
    exact ⟨hv, hz, va_Psub hP isC h1, hK, hD.sub isC hn1 h1, hO⟩
  · intro a U o t ⟨hv, hz, hP, hK, hD, hO⟩ ⟨⟨⟨x, ho, hr, hP1, hD1⟩, hF⟩, L, hE, hL⟩
    subst hz
    have hDs : va_D (va_A ws U.heap.size) ws := hD.self (sz := U.heap.size)
    have hFc : ∀ q, va_A wi U.heap.size q → va_A ws U.heap.size q := va_free (wc := wi) hDs (va_S.rf (A := va_A ws U.heap.size) (H0 := U.heap)) (fun q h => Or.inr h) isC h1
    have hdis2 : ∀ i ∈ isR, i ∉ isC := fun i hi hc => by have h9 := List.all_eq_true.mp hdis i hi; simp [hc] at h9
    obtain ⟨hP2, hD2⟩ := va_join hP hDs isC isR h1 h2 hn2 hdis2 hF.2 hFc hP1 hD1
    obtain ⟨x2, isP, hnP, hPP⟩ := hx x
    exact ⟨⟨⟨x2, ho, trivial, va_Psub hP2 isP hPP, hD2.sub isP hnP hPP⟩, hF.1, fun q hq hn => hF.2 q hq (fun h9 => hn (hFc q h9))⟩, L, hE, fun q hq => hFc _ (hL q hq)⟩
theorem Ct_sub {l : Launch} {D : va_G} {K : Nat → ClassId} {y : MethodName} {wy : List Cond} {rm : Room} {av : List Value} {wr : va_W} {E : String} (hM : Ct l D K y wy rm av wr E) (ws : va_W) (isC : List Nat) (h1 : isC.map (fun i => ws[i]?) = wr.map some) : Ct l D K y wy rm av ws E := by
  intro sz
  refine MetFree_mono (hM sz) ?_ (fun a U o t _ h => h)
  intro a U ⟨hv, hz, hP, hK, hO, hT⟩
  exact ⟨hv, hz, va_Psub hP isC h1, hK, hO, hT⟩
/-- index lists of a world in two or three pieces -/
theorem nd_range (a : Nat) : ∀ n : Nat, va_nd (List.range' a n) = true := by
  intro n
  induction n generalizing a with
  | zero => rfl
  | succ n ih =>
    rw [List.range'_succ]
    show (decide (a ∉ List.range' (a + 1) n) && va_nd (List.range' (a + 1) n)) = true
    rw [ih (a + 1), Bool.and_true, decide_eq_true_eq, List.mem_range']
    rintro ⟨i, -, h⟩
    omega
theorem nd_app {a b : List Nat} (ha : va_nd a = true) (hb : va_nd b = true) (h : ∀ i ∈ a, i ∉ b) : va_nd (a ++ b) = true := by
  induction a with
  | nil => exact hb
  | cons x a ih =>
    have h1 : (decide (x ∉ a) && va_nd a) = true := ha
    rw [Bool.and_eq_true, decide_eq_true_eq] at h1
    show (decide (x ∉ a ++ b) && va_nd (a ++ b)) = true
    rw [ih h1.2 (fun i hi => h i (List.mem_cons_of_mem _ hi)), Bool.and_true, decide_eq_true_eq, List.mem_append]
    rintro (h2 | h2)
    · exact h1.1 h2
    · exact h x List.mem_cons_self h2
theorem at_range {u v w : va_W} : (List.range' u.length v.length).map (fun i => (u ++ (v ++ w))[i]?) = v.map some := by
  apply List.ext_getElem?
  intro k
  rw [List.getElem?_map, List.getElem?_map]
  by_cases hk : k < v.length
  · rw [List.getElem?_range' hk]
    show some ((u ++ (v ++ w))[u.length + 1 * k]?) = _
    rw [List.getElem?_append_right (by omega), show u.length + 1 * k - u.length = k by omega, List.getElem?_append_left hk, List.getElem?_eq_getElem hk]
    rfl
  · rw [List.getElem?_eq_none (by rw [List.length_range']; omega), List.getElem?_eq_none (by omega)]
    rfl
theorem dis_range (a n b m : Nat) (h : a + n ≤ b ∨ b + m ≤ a) : (List.range' a n).all (fun i => !(List.range' b m).contains i) = true := by
  rw [List.all_eq_true]
  intro i hi
  rw [Bool.not_eq_true', ← Bool.not_eq_true, List.contains_iff_mem]
  intro h2
  obtain ⟨x, hx, rfl⟩ := List.mem_range'.mp hi
  obtain ⟨z, hz, h3⟩ := List.mem_range'.mp h2
  omega
