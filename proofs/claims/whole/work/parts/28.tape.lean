def pZ (P : Int32 → Mm → Prop) : Option Value → Mm → Prop := fun r m => ∃ v, r = some (.int v) ∧ P v m
theorem ppZ {l : Launch} {E : Ev} {K : Kt} {pc : Nat} {lv : List (Nat × Value)} {st : List Value} {P : Int32 → Mm → Prop} (h : ∀ v M', P v M' → G l E K pc lv (.int v :: st) M') : ∀ r M', pZ P r M' → G l E K pc lv (r.toList ++ st) M' := fun r M' hp => by
  obtain ⟨v, rfl, hp⟩ := hp
  exact h v M' hp
/-- the tape's scratch too -/
def scrT (k j : Nat) : Prop := scr k j ∨ (k = 52 ∧ (j = 1 ∨ j = 5)) ∨ k = 53 ∨ k = 54 ∨ (k = 65 ∧ (j = 15 ∨ j = 16)) ∨ k = 84 ∨ k = 85
def SameT (M M' : Mm) : Prop := ∀ k j, ¬ scrT k j → M' k j = M k j
theorem SameT.rf {M : Mm} : SameT M M := fun _ _ _ => rfl
theorem SameT.tr {M M1 M2 : Mm} (h1 : SameT M M1) (h2 : SameT M1 M2) : SameT M M2 := fun k j h => (h2 k j h).trans (h1 k j h)
theorem SameT.m1 {M M1 : Mm} {k j0 : Nat} {x : Int32} (h : SameT M M1) (hk : scrT k j0) : SameT M (mw M1 k j0 x) := fun k' j hs => by
  by_cases e : k' = k
  · subst e
    exact rdj (fun z => hs (by rw [z]; exact hk)) (h _ _ hs)
  · exact rdn e (h _ _ hs)
theorem Same.T {M m : Mm} (h : Same M m) : SameT M m := fun k j hs => h k j (fun z => hs (Or.inl z))
/-! programs: bytes b, length len -/
def isC (b : Nat → Int32) (len p : Nat) (c : Int32) : Prop := p < len ∧ b p = c
def isL (b : Nat → Int32) (len p : Nat) : Prop := p < len ∧ isB 97 122 (b p)
def isD (b : Nat → Int32) (len p : Nat) : Prop := p < len ∧ isB 48 57 (b p)
noncomputable def eow (b : Nat → Int32) (len : Nat) : Nat → Nat → Nat
  | 0, p => p
  | k + 1, p => ifc (isL b len p) (eow b len k (p + 1)) p
noncomputable def eo (b : Nat → Int32) (len p : Nat) : Nat := eow b len (len - p) p
theorem eow_s {b : Nat → Int32} {len q : Nat} (h : isL b len q) : eow b len (len - q) q = eow b len (len - (q + 1)) (q + 1) := by
  rw [show len - q = (len - (q + 1)) + 1 by have := h.1; omega]
  exact ifc_t h
theorem eow_e {b : Nat → Int32} {len q : Nat} (h : ¬ isL b len q) : eow b len (len - q) q = q := by
  cases e : len - q with
  | zero => rfl
  | succ k => exact ifc_f h
theorem eow_b {b : Nat → Int32} {len : Nat} : ∀ k p, p + k = len → p ≤ eow b len k p ∧ eow b len k p ≤ len := by
  intro k
  induction k with
  | zero => intro p h; exact ⟨Nat.le_refl _, by show p ≤ len; omega⟩
  | succ k ih =>
    intro p h
    unfold eow
    by_cases c : isL b len p
    · rw [ifc_t c]
      have := ih (p + 1) (by omega)
      omega
    · rw [ifc_f c]; omega
theorem eo_b {b : Nat → Int32} {len p : Nat} (h : p ≤ len) : p ≤ eo b len p ∧ eo b len p ≤ len := eow_b (len - p) p (by omega)
def smW (b : Nat → Int32) (i p e : Nat) : Prop := e - p = lenL.getD i 0 ∧ ∀ j, j < lenL.getD i 0 → b (p + j) = chr i j
noncomputable def fw (b : Nat → Int32) (p e : Nat) : Option Nat := fnd (fun i => ifc (smW b i p e) (some i) none) 11 0
theorem fw_in {b : Nat → Int32} {p e i : Nat} (h : fw b p e = some i) : i < 11 ∧ smW b i p e := by
  obtain ⟨j, -, h2, h3⟩ := fnd_in _ _ h
  by_cases c : smW b j p e
  · rw [ifc_t c] at h3; cases h3; exact ⟨by omega, c⟩
  · rw [ifc_f c] at h3; cases h3
noncomputable def np2 (b : Nat → Int32) (len p : Nat) : Nat := ifc (isC b len (p + 1) 45) (p + 2) (p + 1)
noncomputable def nk (b : Nat → Int32) (len q : Nat) : Nat := ifc (isD b len q) (ifc (isD b len (q + 1)) (ifc (isD b len (q + 2)) 3 2) 1) 0
def nv (b : Nat → Int32) (q : Nat) : Nat → Int32
  | 0 => 0
  | k + 1 => nv b q k * 10 + b (q + k) - 48
def nOk (b : Nat → Int32) (len p : Nat) : Prop := isC b len p 32 ∧ isD b len (np2 b len p)
noncomputable def nEnd (b : Nat → Int32) (len p : Nat) : Nat := ifc (isC b len p 32) (np2 b len p + nk b len (np2 b len p)) p
noncomputable def nVal (b : Nat → Int32) (len p : Nat) : Int32 := ifc (isC b len (p + 1) 45) (-(nv b (np2 b len p) (nk b len (np2 b len p)))) (nv b (np2 b len p) (nk b len (np2 b len p)))
theorem np2_b {b : Nat → Int32} {len p : Nat} (h : p < len) : p + 1 ≤ np2 b len p ∧ np2 b len p ≤ len := by
  unfold np2
  by_cases c : isC b len (p + 1) 45
  · rw [ifc_t c]; have := c.1; omega
  · rw [ifc_f c]; omega
theorem nk_b {b : Nat → Int32} {len q : Nat} (h : q ≤ len) : q + nk b len q ≤ len ∧ nk b len q ≤ 3 ∧ (isD b len q → 1 ≤ nk b len q) := by
  unfold nk
  by_cases c : isD b len q
  · rw [ifc_t c]
    by_cases d : isD b len (q + 1)
    · rw [ifc_t d]
      by_cases f : isD b len (q + 2)
      · rw [ifc_t f]; have := f.1; exact ⟨by omega, by omega, fun _ => by omega⟩
      · rw [ifc_f f]; have := d.1; exact ⟨by omega, by omega, fun _ => by omega⟩
    · rw [ifc_f d]; have := c.1; exact ⟨by omega, by omega, fun _ => by omega⟩
  · rw [ifc_f c]; exact ⟨by omega, by omega, fun z => absurd z c⟩
theorem nEnd_b {b : Nat → Int32} {len p : Nat} (h : p ≤ len) : p ≤ nEnd b len p ∧ nEnd b len p ≤ len ∧ (nOk b len p → p + 2 ≤ nEnd b len p) := by
  unfold nEnd
  by_cases c : isC b len p 32
  · rw [ifc_t c]
    have h1 := np2_b (b := b) c.1
    have h2 := nk_b (b := b) h1.2
    exact ⟨by omega, by omega, fun z => by have := h2.2.2 z.2; omega⟩
  · rw [ifc_f c]; exact ⟨by omega, by omega, fun z => absurd z.1 c⟩
def arL : List Nat := [3, 3, 2, 2, 2, 1, 1, 1, 1, 3, 2]
def ar (i : Nat) : Nat := arL.getD i 0
theorem ar_ok : ∀ i, i < 11 → 1 ≤ ar i ∧ ar i ≤ 3 ∧ numbersL.getD i 0 = nI (ar i) := by decide +kernel
noncomputable def nq (b : Nat → Int32) (len e : Nat) : Nat → Nat
  | 0 => e
  | k + 1 => nEnd b len (nq b len e k)
theorem nq_b {b : Nat → Int32} {len e : Nat} (h : e ≤ len) : ∀ k, e ≤ nq b len e k ∧ nq b len e k ≤ len := by
  intro k
  induction k with
  | zero => exact ⟨Nat.le_refl _, h⟩
  | succ k ih =>
    have := nEnd_b (b := b) ih.2
    exact ⟨Nat.le_trans ih.1 this.1, this.2.1⟩
noncomputable def nsc (b : Nat → Int32) (len : Nat) : Nat → Nat → Nat
  | 0, q => q
  | k + 1, q => ifc (nOk b len q) (nsc b len k (nEnd b len q)) (nEnd b len q)
def cOk (b : Nat → Int32) (len p : Nat) : Prop := ∃ i, fw b p (eo b len p) = some i ∧ ∀ j, j < ar i → nOk b len (nq b len (eo b len p) j)
noncomputable def cEnd (b : Nat → Int32) (len p : Nat) : Nat := match fw b p (eo b len p) with
  | none => p
  | some i => nsc b len (ar i) (eo b len p)
theorem nsc_ok {b : Nat → Int32} {len : Nat} : ∀ k e, (∀ j, j < k → nOk b len (nq b len e j)) → nsc b len k e = nq b len e k := by
  intro k
  induction k with
  | zero => intro e _; rfl
  | succ k ih =>
    intro e h
    have hs : ∀ j, nq b len (nEnd b len e) j = nq b len e (j + 1) := by
      intro j
      induction j with
      | zero => rfl
      | succ j ihj => show nEnd b len (nq b len (nEnd b len e) j) = nEnd b len (nq b len e (j + 1)); rw [ihj]
    show ifc (nOk b len e) (nsc b len k (nEnd b len e)) (nEnd b len e) = _
    rw [ifc_t (show nOk b len e from h 0 (by omega)), ih (nEnd b len e) (fun j hj => by rw [hs]; exact h (j + 1) (by omega)), hs]
theorem nsc_no {b : Nat → Int32} {len : Nat} : ∀ k e j, j < k → (∀ i, i < j → nOk b len (nq b len e i)) → ¬ nOk b len (nq b len e j) → nsc b len k e = nq b len e (j + 1) := by
  intro k
  induction k with
  | zero => intro e j h; omega
  | succ k ih =>
    intro e j hj h hn
    have hs : ∀ j, nq b len (nEnd b len e) j = nq b len e (j + 1) := by
      intro j
      induction j with
      | zero => rfl
      | succ j ihj => show nEnd b len (nq b len (nEnd b len e) j) = nEnd b len (nq b len e (j + 1)); rw [ihj]
    show ifc (nOk b len e) (nsc b len k (nEnd b len e)) (nEnd b len e) = _
    cases j with
    | zero => rw [ifc_f (show ¬ nOk b len e from hn)]; rfl
    | succ j =>
      rw [ifc_t (show nOk b len e from h 0 (by omega)), ih (nEnd b len e) j (by omega) (fun i hi => by rw [hs]; exact h (i + 1) (by omega)) (by rw [hs]; exact hn), hs]
theorem cEnd_ok {b : Nat → Int32} {len p i : Nat} (h : fw b p (eo b len p) = some i) (hn : ∀ j, j < ar i → nOk b len (nq b len (eo b len p) j)) : cEnd b len p = nq b len (eo b len p) (ar i) := by
  unfold cEnd
  rw [h]
  exact nsc_ok _ _ hn
theorem cEnd_no {b : Nat → Int32} {len p i j : Nat} (h : fw b p (eo b len p) = some i) (hj : j < ar i) (h1 : ∀ k, k < j → nOk b len (nq b len (eo b len p) k)) (h2 : ¬ nOk b len (nq b len (eo b len p) j)) : cEnd b len p = nq b len (eo b len p) (j + 1) ∧ ¬ cOk b len p := by
  refine ⟨?_, fun z => ?_⟩
  · unfold cEnd
    rw [h]
    exact nsc_no _ _ _ hj h1 h2
  · obtain ⟨i', e, z⟩ := z
    rw [h] at e
    cases e
    exact h2 (z j hj)
theorem cEnd_fw {b : Nat → Int32} {len p : Nat} (h : fw b p (eo b len p) = none) : cEnd b len p = p ∧ ¬ cOk b len p := by
  refine ⟨?_, fun z => ?_⟩
  · unfold cEnd
    rw [h]
  · obtain ⟨i', e, z⟩ := z
    rw [h] at e
    cases e
theorem cEnd_b {b : Nat → Int32} {len p : Nat} (h : p ≤ len) (hc : cOk b len p) : p + 5 ≤ cEnd b len p ∧ cEnd b len p ≤ len := by
  obtain ⟨i, h1, h2⟩ := hc
  rw [cEnd_ok h1 h2]
  obtain ⟨hi, hw⟩ := fw_in h1
  have hl := len_ok i hi
  have ha := ar_ok i hi
  have he := eo_b (b := b) h
  have e1 := hw.1
  have h3 := nq_b (b := b) he.2 (ar i)
  refine ⟨?_, h3.2⟩
  have h4 := nEnd_b (b := b) he.2
  have h5 := h4.2.2 (h2 0 (by omega))
  have h6 : ∀ k, nq b len (eo b len p) 1 ≤ nq b len (eo b len p) (k + 1) := by
    intro k
    induction k with
    | zero => exact Nat.le_refl _
    | succ k ih =>
      have := (nEnd_b (b := b) (nq_b (b := b) he.2 (k + 1)).2).1
      exact Nat.le_trans ih this
  have h7 := h6 (ar i - 1)
  rw [show ar i - 1 + 1 = ar i by omega] at h7
  have h8 : nq b len (eo b len p) 1 = nEnd b len (eo b len p) := rfl
  omega
/-- where the commands begin -/
noncomputable def ps (b : Nat → Int32) (len : Nat) : Nat → Nat
  | 0 => 0
  | k + 1 => cEnd b len (ps b len k) + 1
def good (b : Nat → Int32) (len c : Nat) : Prop := cOk b len (ps b len c) ∧ isC b len (cEnd b len (ps b len c)) 59
theorem ps_b {b : Nat → Int32} {len : Nat} : ∀ c, (∀ i, i < c → good b len i) → 6 * c ≤ ps b len c ∧ ps b len c ≤ len := by
  intro c
  induction c with
  | zero => intro _; exact ⟨Nat.le_refl _, Nat.zero_le _⟩
  | succ c ih =>
    intro h
    obtain ⟨h1, h2⟩ := ih (fun i hi => h i (by omega))
    obtain ⟨g1, g2⟩ := h c (by omega)
    have h3 := cEnd_b (b := b) h2 g1
    have h4 := g2.1
    exact ⟨by show 6 * (c + 1) ≤ cEnd b len (ps b len c) + 1; omega, by show cEnd b len (ps b len c) + 1 ≤ len; omega⟩
theorem good_u {b : Nat → Int32} {len c c' : Nat} (h1 : ∀ i, i < c → good b len i) (h2 : ¬ good b len c) (h3 : ∀ i, i < c' → good b len i) (h4 : ¬ good b len c') : c = c' := by
  rcases Nat.lt_trichotomy c c' with h | h | h
  · exact absurd (h3 c h) h2
  · exact h
  · exact absurd (h1 c' h) h4
theorem isB_1 {c x : Int32} : isB c c x ↔ x = c := by
  unfold isB
  exact ⟨fun h => Int32.le_antisymm (Int32.not_lt.mp h.2) (Int32.not_lt.mp h.1), fun h => by rw [h]; exact ⟨Int32.lt_irrefl, Int32.lt_irrefl⟩⟩
/-- a number behind its word: cells of at, numbers, words, commands -/
def numP (ka ja kn kw kc jc : Nat) (b : Nat → Int32) (len p q : Nat) (M : Mm) : Int32 → Mm → Prop := fun r m => SameT M m ∧ m ka ja = nI (nEnd b len p) ∧ (∀ j, ¬ j = q → m kn j = M kn j) ∧ m kw = M kw ∧ m kc jc = M kc jc ∧ ((r = 1 ∧ nOk b len p ∧ m kn q = nVal b len p) ∨ (r = 0 ∧ ¬ nOk b len p))
/-- a command c at p -/
def cmdP (ka ja kn kw kc jc : Nat) (wd : Nat → Nat) (b : Nat → Int32) (len p c c' : Nat) (M : Mm) : Int32 → Mm → Prop := fun r m => SameT M m ∧ m ka ja = nI (cEnd b len p) ∧ (∀ j, j < 3 * c → m kn j = M kn j) ∧ (∀ j, ¬ j = c → m kw j = M kw j) ∧ ((r = 1 ∧ cOk b len p ∧ m kc jc = nI c' ∧ ∃ w, w < 11 ∧ fw b p (eo b len p) = some (wd w) ∧ m kw c = nI w ∧ ∀ j, j < ar (wd w) → m kn (3 * c + j) = nVal b len (nq b len (eo b len p) j)) ∨ (r = 0 ∧ ¬ cOk b len p))
/-- the commands that are read -/
def stdP (kn kw : Nat) (wd : Nat → Nat) (b : Nat → Int32) (len i : Nat) (m : Mm) : Prop := ∃ w, w < 11 ∧ fw b (ps b len i) (eo b len (ps b len i)) = some (wd w) ∧ m kw i = nI w ∧ ∀ j, j < ar (wd w) → m kn (3 * i + j) = nVal b len (nq b len (eo b len (ps b len i)) j)
theorem nl_00 {b : Nat → Int32} {len p : Nat} (h1 : isC b len p 32) (h2 : ¬ isC b len (p + 1) 45) (d0 : ¬ isD b len (p + 1)) : nEnd b len p = p + 1 ∧ nVal b len p = nv b (p + 1) 0 ∧ ¬ nOk b len p := by
  have e2 : np2 b len p = p + 1 := ifc_f h2
  have ek : nk b len (p + 1) = 0 := by
    unfold nk
    rw [ifc_f (show ¬ isD b len (p + 1) from d0)]
  refine ⟨?_, ?_, ?_⟩
  · unfold nEnd
    rw [ifc_t h1, e2, ek]
  · unfold nVal
    rw [ifc_f h2, e2, ek]
  · exact fun z => d0 (by have := z.2; rw [e2] at this; exact this)
theorem nl_01 {b : Nat → Int32} {len p : Nat} (h1 : isC b len p 32) (h2 : ¬ isC b len (p + 1) 45) (d0 : isD b len (p + 1)) (d1 : ¬ isD b len (p + 1 + 1)) : nEnd b len p = p + 1 + 1 ∧ nVal b len p = nv b (p + 1) 1 ∧ nOk b len p := by
  have e2 : np2 b len p = p + 1 := ifc_f h2
  have ek : nk b len (p + 1) = 1 := by
    unfold nk
    rw [ifc_t (show isD b len (p + 1) from d0), ifc_f (show ¬ isD b len (p + 1 + 1) from d1)]
  refine ⟨?_, ?_, ?_⟩
  · unfold nEnd
    rw [ifc_t h1, e2, ek]
  · unfold nVal
    rw [ifc_f h2, e2, ek]
  · exact ⟨h1, by rw [e2]; exact d0⟩
theorem nl_02 {b : Nat → Int32} {len p : Nat} (h1 : isC b len p 32) (h2 : ¬ isC b len (p + 1) 45) (d0 : isD b len (p + 1)) (d1 : isD b len (p + 1 + 1)) (d2 : ¬ isD b len (p + 1 + 1 + 1)) : nEnd b len p = p + 1 + 1 + 1 ∧ nVal b len p = nv b (p + 1) 2 ∧ nOk b len p := by
  have e2 : np2 b len p = p + 1 := ifc_f h2
  have ek : nk b len (p + 1) = 2 := by
    unfold nk
    rw [ifc_t (show isD b len (p + 1) from d0), ifc_t (show isD b len (p + 1 + 1) from d1), ifc_f (show ¬ isD b len (p + 1 + 2) from d2)]
  refine ⟨?_, ?_, ?_⟩
  · unfold nEnd
    rw [ifc_t h1, e2, ek]
  · unfold nVal
    rw [ifc_f h2, e2, ek]
  · exact ⟨h1, by rw [e2]; exact d0⟩
theorem nl_03 {b : Nat → Int32} {len p : Nat} (h1 : isC b len p 32) (h2 : ¬ isC b len (p + 1) 45) (d0 : isD b len (p + 1)) (d1 : isD b len (p + 1 + 1)) (d2 : isD b len (p + 1 + 1 + 1)) : nEnd b len p = p + 1 + 1 + 1 + 1 ∧ nVal b len p = nv b (p + 1) 3 ∧ nOk b len p := by
  have e2 : np2 b len p = p + 1 := ifc_f h2
  have ek : nk b len (p + 1) = 3 := by
    unfold nk
    rw [ifc_t (show isD b len (p + 1) from d0), ifc_t (show isD b len (p + 1 + 1) from d1), ifc_t (show isD b len (p + 1 + 2) from d2)]
  refine ⟨?_, ?_, ?_⟩
  · unfold nEnd
    rw [ifc_t h1, e2, ek]
  · unfold nVal
    rw [ifc_f h2, e2, ek]
  · exact ⟨h1, by rw [e2]; exact d0⟩
theorem nl_10 {b : Nat → Int32} {len p : Nat} (h1 : isC b len p 32) (h2 : isC b len (p + 1) 45) (d0 : ¬ isD b len (p + 1 + 1)) : nEnd b len p = p + 1 + 1 ∧ nVal b len p = -(nv b (p + 1 + 1) 0) ∧ ¬ nOk b len p := by
  have e2 : np2 b len p = p + 2 := ifc_t h2
  have ek : nk b len (p + 2) = 0 := by
    unfold nk
    rw [ifc_f (show ¬ isD b len (p + 2) from d0)]
  refine ⟨?_, ?_, ?_⟩
  · unfold nEnd
    rw [ifc_t h1, e2, ek]
  · unfold nVal
    rw [ifc_t h2, e2, ek]
  · exact fun z => d0 (by have := z.2; rw [e2] at this; exact this)
theorem nl_11 {b : Nat → Int32} {len p : Nat} (h1 : isC b len p 32) (h2 : isC b len (p + 1) 45) (d0 : isD b len (p + 1 + 1)) (d1 : ¬ isD b len (p + 1 + 1 + 1)) : nEnd b len p = p + 1 + 1 + 1 ∧ nVal b len p = -(nv b (p + 1 + 1) 1) ∧ nOk b len p := by
  have e2 : np2 b len p = p + 2 := ifc_t h2
  have ek : nk b len (p + 2) = 1 := by
    unfold nk
    rw [ifc_t (show isD b len (p + 2) from d0), ifc_f (show ¬ isD b len (p + 2 + 1) from d1)]
  refine ⟨?_, ?_, ?_⟩
  · unfold nEnd
    rw [ifc_t h1, e2, ek]
  · unfold nVal
    rw [ifc_t h2, e2, ek]
  · exact ⟨h1, by rw [e2]; exact d0⟩
theorem nl_12 {b : Nat → Int32} {len p : Nat} (h1 : isC b len p 32) (h2 : isC b len (p + 1) 45) (d0 : isD b len (p + 1 + 1)) (d1 : isD b len (p + 1 + 1 + 1)) (d2 : ¬ isD b len (p + 1 + 1 + 1 + 1)) : nEnd b len p = p + 1 + 1 + 1 + 1 ∧ nVal b len p = -(nv b (p + 1 + 1) 2) ∧ nOk b len p := by
  have e2 : np2 b len p = p + 2 := ifc_t h2
  have ek : nk b len (p + 2) = 2 := by
    unfold nk
    rw [ifc_t (show isD b len (p + 2) from d0), ifc_t (show isD b len (p + 2 + 1) from d1), ifc_f (show ¬ isD b len (p + 2 + 2) from d2)]
  refine ⟨?_, ?_, ?_⟩
  · unfold nEnd
    rw [ifc_t h1, e2, ek]
  · unfold nVal
    rw [ifc_t h2, e2, ek]
  · exact ⟨h1, by rw [e2]; exact d0⟩
theorem nl_13 {b : Nat → Int32} {len p : Nat} (h1 : isC b len p 32) (h2 : isC b len (p + 1) 45) (d0 : isD b len (p + 1 + 1)) (d1 : isD b len (p + 1 + 1 + 1)) (d2 : isD b len (p + 1 + 1 + 1 + 1)) : nEnd b len p = p + 1 + 1 + 1 + 1 + 1 ∧ nVal b len p = -(nv b (p + 1 + 1) 3) ∧ nOk b len p := by
  have e2 : np2 b len p = p + 2 := ifc_t h2
  have ek : nk b len (p + 2) = 3 := by
    unfold nk
    rw [ifc_t (show isD b len (p + 2) from d0), ifc_t (show isD b len (p + 2 + 1) from d1), ifc_t (show isD b len (p + 2 + 2) from d2)]
  refine ⟨?_, ?_, ?_⟩
  · unfold nEnd
    rw [ifc_t h1, e2, ek]
  · unfold nVal
    rw [ifc_t h2, e2, ek]
  · exact ⟨h1, by rw [e2]; exact d0⟩
theorem nl_n {b : Nat → Int32} {len p : Nat} (h : ¬ isC b len p 32) : nEnd b len p = p ∧ ¬ nOk b len p := ⟨ifc_f h, fun z => h z.1⟩

theorem cf_X4_isFull : CF yX4_isFull cX4_isFull 1 (some .boolean) 0 := ⟨cd_X4_isFull, iz_X4, by decide, by decide +kernel, by decide +kernel, by decide +kernel⟩
set_option maxRecDepth 100000 in
set_option maxHeartbeats 4000000 in
theorem c_X4_isFull {l : Launch} {E : Ev} {M : Mm} {len : Nat} (hI : ∀ k, k < 108 → k ∈ E.2.1) (hl : M 52 0 = nI len) (hlen : len ≤ 100) : Cm l E yX4_isFull cX4_isFull 1 (some .boolean) 0 [.ref (E.2.2.1 52)] M (pB (100 ≤ len) M) := by
  refine Cm.of (by decide) (Nat.le_of_ble_eq_true rfl) (fun K k kt => ?_)
  show G l E K 0 [(0, .ref (E.2.2.1 52))] [] M
  refine gs_aload_n (q := 0) k rfl rfl dX4_isFull_0 ?_
  refine gs_get (C := RX4) (T := TX4) (N := 6) (ci := 4) (k0 := 52) (j := 0) k (hI 52 (by omega)) rfl rfl inX4 (by decide) fl_X4_20 rfl rfl dX4_isFull_1 ?_
  refine gs_bipush (v := 100) k (by decide) dX4_isFull_4 ?_
  refine gs_icmpN_lt (a := len) (b := 100) (tgt := 13) k hl rfl (by omega) (by omega) (by decide) dX4_isFull_6 (fun c1 => ?_) (fun c1 => ?_)
  · refine gs_iconst (v := 0) k (by decide) dX4_isFull_13 ?_
    exact gs_zret k kt (by decide) dX4_isFull_14 (pB0 (by omega))
  · refine gs_iconst (v := 1) k (by decide) dX4_isFull_9 ?_
    refine gs_goto (tgt := 14) k (by decide) dX4_isFull_10 ?_
    exact gs_zret k kt (by decide) dX4_isFull_14 (pB1 c1)

theorem cf_X4_append : CF yX4_append cX4_append 2 none 1 := ⟨cd_X4_append, iz_X4, by decide, by decide +kernel, by decide +kernel, by decide +kernel⟩
set_option maxRecDepth 100000 in
set_option maxHeartbeats 4000000 in
theorem c_X4_append {l : Launch} {E : Ev} {M : Mm} {len : Nat} (hI : ∀ k, k < 108 → k ∈ E.2.1) (hl : M 52 0 = nI len) (hlen : len ≤ 100) (hlt : len < 100) {x : Int32} {c : Nat} (hx : x = nI c) (hc : c < 128) : Cm l E yX4_append cX4_append 2 none 1 [.ref (E.2.2.1 52), .int x] M (pV (mw (mw M 55 len x) 52 0 (nI (len + 1))) ) := by
  refine Cm.of (by decide) (Nat.le_of_ble_eq_true rfl) (fun K k kt => ?_)
  show G l E K 0 [(0, .ref (E.2.2.1 52)), (1, .int x)] [] M
  subst hx
  refine gs_aload_n (q := 0) k rfl rfl dX4_append_0 ?_
  refine gs_callV (As := []) (k0 := 52) (ci := 4) (T := TX4) (N := 6) k (c_X4_isFull hI hl hlen) cf_X4_isFull im_X4_isFull sl_X4_isFull ml_X4_24 (hI 52 (by omega)) rfl rfl (by decide) rfl rfl (Nat.le_of_ble_eq_true rfl) dX4_append_1 (ppB (fun c1 => absurd c1 (by omega)) (fun c1 => ?_))
  refine gs_if_ne (tgt := 28) k (by decide) dX4_append_4 (fun h => absurd h (by decide)) (fun _ => ?_)
  refine gs_aload_n (q := 0) k rfl rfl dX4_append_7 ?_
  refine gs_get (C := RX4) (T := TX4) (N := 6) (ci := 4) (k0 := 52) (j := 4) k (hI 52 (by omega)) rfl rfl inX4 (by decide) fl_X4_16 rfl rfl dX4_append_8 ?_
  refine gs_aload_n (q := 0) k rfl rfl dX4_append_11 ?_
  refine gs_get (C := RX4) (T := TX4) (N := 6) (ci := 4) (k0 := 52) (j := 0) k (hI 52 (by omega)) rfl rfl inX4 (by decide) fl_X4_20 rfl rfl dX4_append_12 ?_
  refine gs_iload_n (q := 1) k rfl rfl dX4_append_15 ?_
  refine gs_i2b (v := nI c) k (i2b_ok c hc) dX4_append_16 ?_
  refine gs_bastN (k0 := 55) (n := 100) (e := len) (x' := nI c) k (hI 55 (by omega)) (fun _ => rfl) hl (by omega) (by decide) (nar_ok c hc) dX4_append_17 ?_
  refine gs_aload_n (q := 0) k rfl rfl dX4_append_18 ?_
  refine gs_dup k rfl dX4_append_19 ?_
  refine gs_get (C := RX4) (T := TX4) (N := 6) (ci := 4) (k0 := 52) (j := 0) k (hI 52 (by omega)) rfl rfl inX4 (by decide) fl_X4_20 rfl rfl dX4_append_20 ?_
  refine gs_top (y := M 52 0) (rdn (by omega) (rfl)) ?_
  refine gs_top (y := nI len) hl ?_
  refine gs_iconst (v := 1) k (by decide) dX4_append_23 ?_
  refine gs_iaddN (a := len) (b := 1) k rfl rfl dX4_append_24 ?_
  refine gs_put (C := RX4) (T := TX4) (N := 6) (ci := 4) (k0 := 52) (j := 0) (ty := .int) k (hI 52 (by omega)) rfl rfl rfl inX4 tyX4 tyX4_ok nmX4 (by decide) fl_X4_20 rfl rfl (tyX4_ok 0 (by decide)) rfl rfl (Nat.le_of_ble_eq_true rfl) dX4_append_25 ?_
  exact gs_vret k kt dX4_append_28 ⟨rfl, rfl⟩

noncomputable def A_feed (len : Nat) (x : Int32) : Int32 := ifc (isB 1 127 x) (ifc (len < 100) (nI (len + 1)) (-3)) (-2)
noncomputable def U_feed (U : Mm) (len : Nat) (x : Int32) (M : Mm) : Mm := ifc (isB 1 127 x) (ifc (len < 100) U M) M
theorem isB_in {x : Int32} (h : isB 1 127 x) : inR x 128 := by
  have h1 := h.1
  have h2 := h.2
  rw [Int32.lt_iff_toInt_lt] at h1 h2
  have e1 : (1 : Int32).toInt = 1 := by decide
  have e2 : (127 : Int32).toInt = 127 := by decide
  unfold inR
  omega
theorem cf_X6_feed : CF yX6_feed cX6_feed 2 (some .int) 1 := ⟨cd_X6_feed, iz_X6, by decide, by decide +kernel, by decide +kernel, by decide +kernel⟩
set_option maxRecDepth 100000 in
set_option maxHeartbeats 4000000 in
theorem c_X6_feed {l : Launch} {E : Ev} {M : Mm} {len : Nat} (hI : ∀ k, k < 108 → k ∈ E.2.1) (hl : M 52 0 = nI len) (hlen : len ≤ 100) {x : Int32} : Cm l E yX6_feed cX6_feed 2 (some .int) 2 [.ref (E.2.2.1 0), .int x] M (pI (A_feed len x) (U_feed (mw (mw M 55 len x) 52 0 (nI (len + 1))) len x M)) := by
  refine Cm.of (by decide) (Nat.le_of_ble_eq_true rfl) (fun K k kt => ?_)
  show G l E K 0 [(0, .ref (E.2.2.1 0)), (1, .int x)] [] M
  refine gs_iload_n (q := 1) k rfl rfl dX6_feed_0 ?_
  refine gs_iconst (v := 1) k (by decide) dX6_feed_1 ?_
  refine gs_icmp_lt (tgt := 11) k (by decide) dX6_feed_2 (fun c1 => ?_) (fun c1 => ?_)
  · have ec1 : ¬ isB (1) 127 x := fun h => h.1 c1
    refine gs_bipush (v := -2) k (by decide) dX6_feed_11 ?_
    exact gs_iret k kt dX6_feed_13 ⟨(by simp [-Int32.not_lt, A_feed, U_feed, ifc_T, ifc_F, c1, ec1]), (by simp [-Int32.not_lt, A_feed, U_feed, ifc_T, ifc_F, c1, ec1])⟩
  · refine gs_iload_n (q := 1) k rfl rfl dX6_feed_5 ?_
    refine gs_bipush (v := 127) k (by decide) dX6_feed_6 ?_
    refine gs_icmp_le (tgt := 14) k (by decide) dX6_feed_8 (fun c2 => ?_) (fun c2 => ?_)
    · have ec2 : isB (1) 127 x := ⟨c1, Int32.not_lt.mpr c2⟩
      have ic2 := isB_in ec2
      have jc2 := inR_lt ic2
      refine gs_aload_n (q := 0) k rfl rfl dX6_feed_14 ?_
      refine gs_get (C := RX6) (T := TX6) (N := 10) (ci := 6) (k0 := 0) (j := 4) k (hI 0 (by omega)) rfl rfl inX6 (by decide) fl_X6_35 rfl rfl dX6_feed_15 ?_
      refine gs_callV (As := []) (k0 := 52) (ci := 4) (T := TX4) (N := 6) k (c_X4_isFull hI hl hlen) cf_X4_isFull im_X4_isFull sl_X4_isFull ml_X6_240 (hI 52 (by omega)) rfl rfl (by decide) rfl rfl (Nat.le_of_ble_eq_true rfl) dX6_feed_18 (ppB (fun c3 => ?_) (fun c3 => ?_))
      · refine gs_if_eq (tgt := 27) k (by decide) dX6_feed_21 (fun h => absurd h (by decide)) (fun _ => ?_)
        refine gs_bipush (v := -3) k (by decide) dX6_feed_24 ?_
        exact gs_iret k kt dX6_feed_26 ⟨(by simp [-Int32.not_lt, A_feed, U_feed, ifc_T, ifc_F, c1, c2, ec2, c3, show ¬ len < 100 from by omega]), (by simp [-Int32.not_lt, A_feed, U_feed, ifc_T, ifc_F, c1, c2, ec2, c3, show ¬ len < 100 from by omega])⟩
      · refine gs_if_eq (tgt := 27) k (by decide) dX6_feed_21 (fun _ => ?_) (fun h => absurd h (by decide))
        refine gs_aload_n (q := 0) k rfl rfl dX6_feed_27 ?_
        refine gs_get (C := RX6) (T := TX6) (N := 10) (ci := 6) (k0 := 0) (j := 4) k (hI 0 (by omega)) rfl rfl inX6 (by decide) fl_X6_35 rfl rfl dX6_feed_28 ?_
        refine gs_iload_n (q := 1) k rfl rfl dX6_feed_31 ?_
        refine gs_callV (As := [.int x]) (k0 := 52) (ci := 4) (T := TX4) (N := 6) k (c_X4_append (c := tn x) hI hl hlen (by omega) (inR_eq ic2) (by omega)) cf_X4_append im_X4_append sl_X4_append ml_X6_243 (hI 52 (by omega)) rfl rfl (by decide) rfl rfl (Nat.le_of_ble_eq_true rfl) dX6_feed_32 (ppV ?_)
        refine gs_aload_n (q := 0) k rfl rfl dX6_feed_35 ?_
        refine gs_get (C := RX6) (T := TX6) (N := 10) (ci := 6) (k0 := 0) (j := 4) k (hI 0 (by omega)) rfl rfl inX6 (by decide) fl_X6_35 rfl rfl dX6_feed_36 ?_
        refine gs_get (C := RX4) (T := TX4) (N := 6) (ci := 4) (k0 := 52) (j := 0) k (hI 52 (by omega)) rfl rfl inX4 (by decide) fl_X6_246 rfl rfl dX6_feed_39 ?_
        refine gs_top (y := nI (len + 1)) (mw_eq _ _ _ _) ?_
        exact gs_iret k kt dX6_feed_42 ⟨(by simp [-Int32.not_lt, A_feed, U_feed, ifc_T, ifc_F, c1, c2, ec2, c3, show len < 100 from by omega]), (by simp [-Int32.not_lt, A_feed, U_feed, ifc_T, ifc_F, c1, c2, ec2, c3, show len < 100 from by omega])⟩
    · have ec2 : ¬ isB (1) 127 x := fun h => h.2 (Int32.not_le.mp c2)
      refine gs_bipush (v := -2) k (by decide) dX6_feed_11 ?_
      exact gs_iret k kt dX6_feed_13 ⟨(by simp [-Int32.not_lt, A_feed, U_feed, ifc_T, ifc_F, c1, c2, ec2]), (by simp [-Int32.not_lt, A_feed, U_feed, ifc_T, ifc_F, c1, c2, ec2])⟩

theorem cf_X7_feed : CF yX7_feed cX7_feed 2 (some .int) 1 := ⟨cd_X7_feed, iz_X7, by decide, by decide +kernel, by decide +kernel, by decide +kernel⟩
set_option maxRecDepth 100000 in
set_option maxHeartbeats 4000000 in
theorem c_X7_feed {l : Launch} {E : Ev} {M : Mm} {len : Nat} (hI : ∀ k, k < 108 → k ∈ E.2.1) (hl : M 65 14 = nI len) (hlen : len ≤ 100) {x : Int32} : Cm l E yX7_feed cX7_feed 2 (some .int) 1 [.ref (E.2.2.1 65), .int x] M (pI (A_feed len x) (U_feed (mw (mw M 83 len x) 65 14 (nI (len + 1))) len x M)) := by
  refine Cm.of (by decide) (Nat.le_of_ble_eq_true rfl) (fun K k kt => ?_)
  show G l E K 0 [(0, .ref (E.2.2.1 65)), (1, .int x)] [] M
  refine gs_iload_n (q := 1) k rfl rfl dX7_feed_0 ?_
  refine gs_i2l k dX7_feed_1 ?_
  refine gs_lconst (v := 1) k (by decide) dX7_feed_2 ?_
  refine gs_ldc2 (v := 127) k cl_X7_259 dX7_feed_3 ?_
  refine gs_callS (As := [.long (x.toInt64), .long (1), .long (127)]) k (Cm.iff (isBL (a := 1) (b := 127) (by decide) (by decide)) c_X7_in) cf_X7_in sm_X7_in ml_X7_79 (by decide) rfl rfl (Nat.le_of_ble_eq_true rfl) dX7_feed_6 (ppB (fun c1 => ?_) (fun c1 => ?_))
  · have ic1 := isB_in c1
    have jc1 := inR_lt ic1
    refine gs_if_ne (tgt := 15) k (by decide) dX7_feed_9 (fun _ => ?_) (fun h => absurd h (by decide))
    refine gs_aload_n (q := 0) k rfl rfl dX7_feed_15 ?_
    refine gs_get (C := RX7) (T := TX7) (N := 27) (ci := 7) (k0 := 65) (j := 14) k (hI 65 (by omega)) rfl rfl inX7 (by decide) fl_X7_261 rfl rfl dX7_feed_16 ?_
    refine gs_bipush (v := 100) k (by decide) dX7_feed_19 ?_
    refine gs_icmpN_ne (a := len) (b := 100) (tgt := 27) k hl rfl (by omega) (by omega) (by decide) dX7_feed_21 (fun c2 => ?_) (fun c2 => ?_)
    · refine gs_aload_n (q := 0) k rfl rfl dX7_feed_27 ?_
      refine gs_get (C := RX7) (T := TX7) (N := 27) (ci := 7) (k0 := 65) (j := 13) k (hI 65 (by omega)) rfl rfl inX7 (by decide) fl_X7_51 rfl rfl dX7_feed_28 ?_
      refine gs_aload_n (q := 0) k rfl rfl dX7_feed_31 ?_
      refine gs_get (C := RX7) (T := TX7) (N := 27) (ci := 7) (k0 := 65) (j := 14) k (hI 65 (by omega)) rfl rfl inX7 (by decide) fl_X7_261 rfl rfl dX7_feed_32 ?_
      refine gs_iload_n (q := 1) k rfl rfl dX7_feed_35 ?_
      refine gs_i2b (v := x) k (by rw [inR_eq ic1]; exact i2b_ok _ jc1) dX7_feed_36 ?_
      refine gs_bastN (k0 := 83) (n := 100) (e := len) (x' := x) k (hI 83 (by omega)) (fun _ => rfl) hl (by omega) (by decide) (by rw [inR_eq ic1]; exact nar_ok _ jc1) dX7_feed_37 ?_
      refine gs_aload_n (q := 0) k rfl rfl dX7_feed_38 ?_
      refine gs_dup k rfl dX7_feed_39 ?_
      refine gs_get (C := RX7) (T := TX7) (N := 27) (ci := 7) (k0 := 65) (j := 14) k (hI 65 (by omega)) rfl rfl inX7 (by decide) fl_X7_261 rfl rfl dX7_feed_40 ?_
      refine gs_top (y := M 65 14) (rdn (by omega) (rfl)) ?_
      refine gs_top (y := nI len) hl ?_
      refine gs_iconst (v := 1) k (by decide) dX7_feed_43 ?_
      refine gs_iaddN (a := len) (b := 1) k rfl rfl dX7_feed_44 ?_
      refine gs_put (C := RX7) (T := TX7) (N := 27) (ci := 7) (k0 := 65) (j := 14) (ty := .int) k (hI 65 (by omega)) rfl rfl rfl inX7 tyX7 tyX7_ok nmX7 (by decide) fl_X7_261 rfl rfl (tyX7_ok 14 (by decide)) rfl rfl (Nat.le_of_ble_eq_true rfl) dX7_feed_45 ?_
      refine gs_aload_n (q := 0) k rfl rfl dX7_feed_48 ?_
      refine gs_get (C := RX7) (T := TX7) (N := 27) (ci := 7) (k0 := 65) (j := 14) k (hI 65 (by omega)) rfl rfl inX7 (by decide) fl_X7_261 rfl rfl dX7_feed_49 ?_
      refine gs_top (y := nI (len + 1)) (mw_eq _ _ _ _) ?_
      exact gs_iret k kt dX7_feed_52 ⟨(by simp [-Int32.not_lt, A_feed, U_feed, ifc_T, ifc_F, c1, c2, show len < 100 from by omega]), (by simp [-Int32.not_lt, A_feed, U_feed, ifc_T, ifc_F, c1, c2, show len < 100 from by omega])⟩
    · refine gs_bipush (v := -3) k (by decide) dX7_feed_24 ?_
      exact gs_iret k kt dX7_feed_26 ⟨(by simp [-Int32.not_lt, A_feed, U_feed, ifc_T, ifc_F, c1, c2, show ¬ len < 100 from by omega]), (by simp [-Int32.not_lt, A_feed, U_feed, ifc_T, ifc_F, c1, c2, show ¬ len < 100 from by omega])⟩
  · refine gs_if_ne (tgt := 15) k (by decide) dX7_feed_9 (fun h => absurd h (by decide)) (fun _ => ?_)
    refine gs_bipush (v := -2) k (by decide) dX7_feed_12 ?_
    exact gs_iret k kt dX7_feed_14 ⟨(by simp [-Int32.not_lt, A_feed, U_feed, ifc_T, ifc_F, c1]), (by simp [-Int32.not_lt, A_feed, U_feed, ifc_T, ifc_F, c1])⟩

theorem cf_X4_isNext : CF yX4_isNext cX4_isNext 2 (some .boolean) 1 := ⟨cd_X4_isNext, iz_X4, by decide, by decide +kernel, by decide +kernel, by decide +kernel⟩
set_option maxRecDepth 100000 in
set_option maxHeartbeats 4000000 in
theorem c_X4_isNext {l : Launch} {E : Ev} {M : Mm} {b : Nat → Int32} {len p : Nat} (hI : ∀ k, k < 108 → k ∈ E.2.1) (hb : M 55 = b) (hl : M 52 0 = nI len) (hp : M 52 5 = nI p) (hlen : len ≤ 100) (hple : p ≤ len) {x : Int32} : Cm l E yX4_isNext cX4_isNext 2 (some .boolean) 0 [.ref (E.2.2.1 52), .int x] M (pB (isC b len p x) M) := by
  refine Cm.of (by decide) (Nat.le_of_ble_eq_true rfl) (fun K k kt => ?_)
  show G l E K 0 [(0, .ref (E.2.2.1 52)), (1, .int x)] [] M
  refine gs_aload_n (q := 0) k rfl rfl dX4_isNext_0 ?_
  refine gs_get (C := RX4) (T := TX4) (N := 6) (ci := 4) (k0 := 52) (j := 5) k (hI 52 (by omega)) rfl rfl inX4 (by decide) fl_X4_28 rfl rfl dX4_isNext_1 ?_
  refine gs_aload_n (q := 0) k rfl rfl dX4_isNext_4 ?_
  refine gs_get (C := RX4) (T := TX4) (N := 6) (ci := 4) (k0 := 52) (j := 0) k (hI 52 (by omega)) rfl rfl inX4 (by decide) fl_X4_20 rfl rfl dX4_isNext_5 ?_
  refine gs_icmpN_ge (a := p) (b := len) (tgt := 28) k hp hl (by omega) (by omega) (by decide) dX4_isNext_8 (fun c1 => ?_) (fun c1 => ?_)
  · refine gs_iconst (v := 0) k (by decide) dX4_isNext_28 ?_
    exact gs_zret k kt (by decide) dX4_isNext_29 (pB0 (fun q => absurd q.1 (by omega)))
  · refine gs_aload_n (q := 0) k rfl rfl dX4_isNext_11 ?_
    refine gs_get (C := RX4) (T := TX4) (N := 6) (ci := 4) (k0 := 52) (j := 4) k (hI 52 (by omega)) rfl rfl inX4 (by decide) fl_X4_16 rfl rfl dX4_isNext_12 ?_
    refine gs_aload_n (q := 0) k rfl rfl dX4_isNext_15 ?_
    refine gs_get (C := RX4) (T := TX4) (N := 6) (ci := 4) (k0 := 52) (j := 5) k (hI 52 (by omega)) rfl rfl inX4 (by decide) fl_X4_28 rfl rfl dX4_isNext_16 ?_
    refine gs_baldN (k0 := 55) (n := 100) (e := p) k (hI 55 (by omega)) (fun _ => rfl) hp (by omega) (by decide) dX4_isNext_19 ?_
    refine gs_top (y := b p) ((congrFun hb _)) ?_
    refine gs_iload_n (q := 1) k rfl rfl dX4_isNext_20 ?_
    refine gs_icmp_ne (tgt := 28) k (by decide) dX4_isNext_21 (fun c2 => ?_) (fun c2 => ?_)
    · refine gs_iconst (v := 0) k (by decide) dX4_isNext_28 ?_
      exact gs_zret k kt (by decide) dX4_isNext_29 (pB0 (fun q => c2 q.2))
    · refine gs_iconst (v := 1) k (by decide) dX4_isNext_24 ?_
      refine gs_goto (tgt := 29) k (by decide) dX4_isNext_25 ?_
      exact gs_zret k kt (by decide) dX4_isNext_29 (pB1 ⟨c1, c2⟩)

theorem cf_X4_isDigitNext : CF yX4_isDigitNext cX4_isDigitNext 1 (some .boolean) 0 := ⟨cd_X4_isDigitNext, iz_X4, by decide, by decide +kernel, by decide +kernel, by decide +kernel⟩
set_option maxRecDepth 100000 in
set_option maxHeartbeats 4000000 in
theorem c_X4_isDigitNext {l : Launch} {E : Ev} {M : Mm} {b : Nat → Int32} {len p : Nat} (hI : ∀ k, k < 108 → k ∈ E.2.1) (hb : M 55 = b) (hl : M 52 0 = nI len) (hp : M 52 5 = nI p) (hlen : len ≤ 100) (hple : p ≤ len) : Cm l E yX4_isDigitNext cX4_isDigitNext 1 (some .boolean) 0 [.ref (E.2.2.1 52)] M (pB (isD b len p) M) := by
  refine Cm.of (by decide) (Nat.le_of_ble_eq_true rfl) (fun K k kt => ?_)
  show G l E K 0 [(0, .ref (E.2.2.1 52))] [] M
  refine gs_aload_n (q := 0) k rfl rfl dX4_isDigitNext_0 ?_
  refine gs_get (C := RX4) (T := TX4) (N := 6) (ci := 4) (k0 := 52) (j := 5) k (hI 52 (by omega)) rfl rfl inX4 (by decide) fl_X4_28 rfl rfl dX4_isDigitNext_1 ?_
  refine gs_aload_n (q := 0) k rfl rfl dX4_isDigitNext_4 ?_
  refine gs_get (C := RX4) (T := TX4) (N := 6) (ci := 4) (k0 := 52) (j := 0) k (hI 52 (by omega)) rfl rfl inX4 (by decide) fl_X4_20 rfl rfl dX4_isDigitNext_5 ?_
  refine gs_icmpN_ge (a := p) (b := len) (tgt := 43) k hp hl (by omega) (by omega) (by decide) dX4_isDigitNext_8 (fun c1 => ?_) (fun c1 => ?_)
  · refine gs_iconst (v := 0) k (by decide) dX4_isDigitNext_43 ?_
    exact gs_zret k kt (by decide) dX4_isDigitNext_44 (pB0 (fun q => absurd q.1 (by omega)))
  · refine gs_aload_n (q := 0) k rfl rfl dX4_isDigitNext_11 ?_
    refine gs_get (C := RX4) (T := TX4) (N := 6) (ci := 4) (k0 := 52) (j := 4) k (hI 52 (by omega)) rfl rfl inX4 (by decide) fl_X4_16 rfl rfl dX4_isDigitNext_12 ?_
    refine gs_aload_n (q := 0) k rfl rfl dX4_isDigitNext_15 ?_
    refine gs_get (C := RX4) (T := TX4) (N := 6) (ci := 4) (k0 := 52) (j := 5) k (hI 52 (by omega)) rfl rfl inX4 (by decide) fl_X4_28 rfl rfl dX4_isDigitNext_16 ?_
    refine gs_baldN (k0 := 55) (n := 100) (e := p) k (hI 55 (by omega)) (fun _ => rfl) hp (by omega) (by decide) dX4_isDigitNext_19 ?_
    refine gs_top (y := b p) ((congrFun hb _)) ?_
    refine gs_bipush (v := 48) k (by decide) dX4_isDigitNext_20 ?_
    refine gs_icmp_lt (tgt := 43) k (by decide) dX4_isDigitNext_22 (fun c2 => ?_) (fun c2 => ?_)
    · refine gs_iconst (v := 0) k (by decide) dX4_isDigitNext_43 ?_
      exact gs_zret k kt (by decide) dX4_isDigitNext_44 (pB0 (fun q => q.2.1 c2))
    · refine gs_aload_n (q := 0) k rfl rfl dX4_isDigitNext_25 ?_
      refine gs_get (C := RX4) (T := TX4) (N := 6) (ci := 4) (k0 := 52) (j := 4) k (hI 52 (by omega)) rfl rfl inX4 (by decide) fl_X4_16 rfl rfl dX4_isDigitNext_26 ?_
      refine gs_aload_n (q := 0) k rfl rfl dX4_isDigitNext_29 ?_
      refine gs_get (C := RX4) (T := TX4) (N := 6) (ci := 4) (k0 := 52) (j := 5) k (hI 52 (by omega)) rfl rfl inX4 (by decide) fl_X4_28 rfl rfl dX4_isDigitNext_30 ?_
      refine gs_baldN (k0 := 55) (n := 100) (e := p) k (hI 55 (by omega)) (fun _ => rfl) hp (by omega) (by decide) dX4_isDigitNext_33 ?_
      refine gs_top (y := b p) ((congrFun hb _)) ?_
      refine gs_bipush (v := 57) k (by decide) dX4_isDigitNext_34 ?_
      refine gs_icmp_gt (tgt := 43) k (by decide) dX4_isDigitNext_36 (fun c3 => ?_) (fun c3 => ?_)
      · refine gs_iconst (v := 0) k (by decide) dX4_isDigitNext_43 ?_
        exact gs_zret k kt (by decide) dX4_isDigitNext_44 (pB0 (fun q => q.2.2 c3))
      · refine gs_iconst (v := 1) k (by decide) dX4_isDigitNext_39 ?_
        refine gs_goto (tgt := 44) k (by decide) dX4_isDigitNext_40 ?_
        exact gs_zret k kt (by decide) dX4_isDigitNext_44 (pB1 ⟨c1, c2, c3⟩)

theorem cf_X4_endOfWord : CF yX4_endOfWord cX4_endOfWord 3 (some .int) 1 := ⟨cd_X4_endOfWord, iz_X4, by decide, by decide +kernel, by decide +kernel, by decide +kernel⟩
set_option maxRecDepth 100000 in
set_option maxHeartbeats 4000000 in
theorem c_X4_endOfWord {l : Launch} {E : Ev} {M : Mm} {b : Nat → Int32} {len : Nat} (hI : ∀ k, k < 108 → k ∈ E.2.1) (hb : M 55 = b) (hl : M 52 0 = nI len) (hlen : len ≤ 100) {y : Int32} {p : Nat} (hy : y = nI p) (hp : p ≤ len) : Cm l E yX4_endOfWord cX4_endOfWord 3 (some .int) 0 [.ref (E.2.2.1 52), .int y] M (pI (nI (eo b len p)) M) := by
  refine Cm.of (by decide) (Nat.le_of_ble_eq_true rfl) (fun K k kt => ?_)
  show G l E K 0 [(0, .ref (E.2.2.1 52)), (1, .int y)] [] M
  subst hy
  refine gs_iload_n (q := 1) k rfl rfl dX4_endOfWord_0 ?_
  refine gs_istore_n (lv' := [(2, .int (nI p)), (0, .ref (E.2.2.1 52)), (1, .int (nI p))]) k rfl (by decide) rfl dX4_endOfWord_1 ?_
  refine gs_lv (lv' := [(0, .ref (E.2.2.1 52)), (1, .int (nI p)), (2, .int (nI p))]) [1, 2, 0] rfl ?_
  refine for_wh (σ := Unit) (fun ix _u => G l E K 2 [(0, .ref (E.2.2.1 52)), (1, .int (nI p)), (2, .int (nI (p + ix)))] [] M) (fun ix _u => p + ix ≤ len ∧ eow b len (len - p) p = eow b len (len - (p + ix)) (p + ix)) 101 (fun ix _u hJ hG => ?_) 0 () ⟨hp, rfl⟩
  show G l E K 2 [(0, .ref (E.2.2.1 52)), (1, .int (nI p)), (2, .int (nI (p + ix)))] [] M
  have hJ1 := hJ.1
  refine gs_iload_n (q := 2) k rfl rfl dX4_endOfWord_2 ?_
  refine gs_aload_n (q := 0) k rfl rfl dX4_endOfWord_3 ?_
  refine gs_get (C := RX4) (T := TX4) (N := 6) (ci := 4) (k0 := 52) (j := 0) k (hI 52 (by omega)) rfl rfl inX4 (by decide) fl_X4_20 rfl rfl dX4_endOfWord_4 ?_
  refine gs_icmpN_ge (a := p + ix) (b := len) (tgt := 38) k rfl hl (by omega) (by omega) (by decide) dX4_endOfWord_7 (fun c1 => ?_) (fun c1 => ?_)
  · refine gs_iload_n (q := 2) k rfl rfl dX4_endOfWord_38 ?_
    exact gs_iret k kt dX4_endOfWord_39 ⟨(by rw [eo, hJ.2, eow_e (fun q => absurd q.1 (by omega))]), rfl⟩
  · refine gs_aload_n (q := 0) k rfl rfl dX4_endOfWord_10 ?_
    refine gs_get (C := RX4) (T := TX4) (N := 6) (ci := 4) (k0 := 52) (j := 4) k (hI 52 (by omega)) rfl rfl inX4 (by decide) fl_X4_16 rfl rfl dX4_endOfWord_11 ?_
    refine gs_iload_n (q := 2) k rfl rfl dX4_endOfWord_14 ?_
    refine gs_baldN (k0 := 55) (n := 100) (e := p + ix) k (hI 55 (by omega)) (fun _ => rfl) rfl (by omega) (by decide) dX4_endOfWord_15 ?_
    refine gs_top (y := b (p + ix)) ((congrFun hb _)) ?_
    refine gs_bipush (v := 97) k (by decide) dX4_endOfWord_16 ?_
    refine gs_icmp_lt (tgt := 38) k (by decide) dX4_endOfWord_18 (fun c2 => ?_) (fun c2 => ?_)
    · refine gs_iload_n (q := 2) k rfl rfl dX4_endOfWord_38 ?_
      exact gs_iret k kt dX4_endOfWord_39 ⟨(by rw [eo, hJ.2, eow_e (fun q => q.2.1 c2)]), rfl⟩
    · refine gs_aload_n (q := 0) k rfl rfl dX4_endOfWord_21 ?_
      refine gs_get (C := RX4) (T := TX4) (N := 6) (ci := 4) (k0 := 52) (j := 4) k (hI 52 (by omega)) rfl rfl inX4 (by decide) fl_X4_16 rfl rfl dX4_endOfWord_22 ?_
      refine gs_iload_n (q := 2) k rfl rfl dX4_endOfWord_25 ?_
      refine gs_baldN (k0 := 55) (n := 100) (e := p + ix) k (hI 55 (by omega)) (fun _ => rfl) rfl (by omega) (by decide) dX4_endOfWord_26 ?_
      refine gs_top (y := b (p + ix)) ((congrFun hb _)) ?_
      refine gs_bipush (v := 122) k (by decide) dX4_endOfWord_27 ?_
      refine gs_icmp_gt (tgt := 38) k (by decide) dX4_endOfWord_29 (fun c3 => ?_) (fun c3 => ?_)
      · refine gs_iload_n (q := 2) k rfl rfl dX4_endOfWord_38 ?_
        exact gs_iret k kt dX4_endOfWord_39 ⟨(by rw [eo, hJ.2, eow_e (fun q => q.2.2 c3)]), rfl⟩
      · refine gs_iincN (q := 2) (a := p + ix) (c := 1) (lv' := [(2, .int (nI (p + ix + 1))), (0, .ref (E.2.2.1 52)), (1, .int (nI p))]) k rfl rfl (by decide) rfl dX4_endOfWord_32 ?_
        refine gs_goto (tgt := 2) k (by decide) dX4_endOfWord_35 ?_
        refine gs_lv (lv' := [(0, .ref (E.2.2.1 52)), (1, .int (nI p)), (2, .int (nI (p + ix + 1)))]) [1, 2, 0] rfl ?_
        exact hG (by omega) () ⟨(by omega), hJ.2.trans (eow_s ⟨c1, c2, c3⟩)⟩

theorem cf_X4_isSame : CF yX4_isSame cX4_isSame 5 (some .boolean) 3 := ⟨cd_X4_isSame, iz_X4, by decide, by decide +kernel, by decide +kernel, by decide +kernel⟩
set_option maxRecDepth 100000 in
set_option maxHeartbeats 4000000 in
theorem c_X4_isSame {l : Launch} {E : Ev} {M : Mm} {b : Nat → Int32} (hI : ∀ k, k < 108 → k ∈ E.2.1) (hb : M 55 = b) {i p e : Nat} (hi : i < 11) (hpe : p ≤ e) (he : e ≤ 100) {x y : Int32} (hx : x = nI p) (hy : y = nI e) : Cm l E yX4_isSame cX4_isSame 5 (some .boolean) 4 [.ref (E.2.2.1 52), .ref (E.2.2.2.2.2.1 i), .int x, .int y] M (pB (smW b i p e) M) := by
  refine Cm.of (by decide) (Nat.le_of_ble_eq_true rfl) (fun K k kt => ?_)
  show G l E K 0 [(0, .ref (E.2.2.1 52)), (1, .ref (E.2.2.2.2.2.1 i)), (2, .int x), (3, .int y)] [] M
  have hle := len_ok i hi
  refine gs_aload_n (q := 1) k rfl rfl dX4_isSame_0 ?_
  refine gs_callK (i := i) (As := []) k (c_J0_length_8abf5 hi) cf_J0_length_8abf5 im_J0_length_8abf5 sl_J0_length_8abf5 ml_X4_67 hi rfl (by decide) rfl rfl (Nat.le_of_ble_eq_true rfl) dX4_isSame_1 (ppI ?_)
  refine gs_iload_n (q := 3) k rfl rfl dX4_isSame_4 ?_
  refine gs_iload_n (q := 2) k rfl rfl dX4_isSame_5 ?_
  refine gs_isubN (a := e) (b := p) k hy hx (by omega) dX4_isSame_6 ?_
  refine gs_icmpN_eq (a := lenL.getD i 0) (b := e - p) (tgt := 12) k rfl rfl (by omega) (by omega) (by decide) dX4_isSame_7 (fun c1 => ?_) (fun c1 => ?_)
  · have hlq := (c1).symm
    refine gs_iconst (v := 0) k (by decide) dX4_isSame_12 ?_
    refine gs_istore (lv' := [(4, .int 0), (0, .ref (E.2.2.1 52)), (1, .ref (E.2.2.2.2.2.1 i)), (2, .int x), (3, .int y)]) k (by decide) rfl dX4_isSame_13 ?_
    refine gs_lv (lv' := [(0, .ref (E.2.2.1 52)), (1, .ref (E.2.2.2.2.2.1 i)), (2, .int x), (3, .int y), (4, .int 0)]) [1, 2, 3, 4, 0] rfl ?_
    refine for_al (fun j => G l E K 15 [(0, .ref (E.2.2.1 52)), (1, .ref (E.2.2.2.2.2.1 i)), (2, .int x), (3, .int y), (4, .int (nI j))] [] M) (fun j => b (p + j) = chr i j) (lenL.getD i 0) 0 (fun j hjs hj hBj hGj => ?_) (fun hEj => ?_) (lenL.getD i 0) 0 (by omega) (Nat.le_refl _) (fun j h1 h2 => absurd h2 (by omega))
    · show G l E K 15 [(0, .ref (E.2.2.1 52)), (1, .ref (E.2.2.2.2.2.1 i)), (2, .int x), (3, .int y), (4, .int (nI j))] [] M
      refine gs_iload (q := 4) k rfl dX4_isSame_15 ?_
      refine gs_aload_n (q := 1) k rfl rfl dX4_isSame_17 ?_
      refine gs_callK (i := i) (As := []) k (c_J0_length_8abf5 hi) cf_J0_length_8abf5 im_J0_length_8abf5 sl_J0_length_8abf5 ml_X4_67 hi rfl (by decide) rfl rfl (Nat.le_of_ble_eq_true rfl) dX4_isSame_18 (ppI ?_)
      refine gs_icmpN_ge (a := j) (b := lenL.getD i 0) (tgt := 50) k rfl rfl (by omega) (by omega) (by decide) dX4_isSame_21 (fun c2 => absurd c2 (by omega)) (fun c2 => ?_)
      refine gs_aload_n (q := 0) k rfl rfl dX4_isSame_24 ?_
      refine gs_get (C := RX4) (T := TX4) (N := 6) (ci := 4) (k0 := 52) (j := 4) k (hI 52 (by omega)) rfl rfl inX4 (by decide) fl_X4_16 rfl rfl dX4_isSame_25 ?_
      refine gs_iload_n (q := 2) k rfl rfl dX4_isSame_28 ?_
      refine gs_iload (q := 4) k rfl dX4_isSame_29 ?_
      refine gs_iaddN (a := p) (b := j) k hx rfl dX4_isSame_31 ?_
      refine gs_baldN (k0 := 55) (n := 100) (e := p + j) k (hI 55 (by omega)) (fun _ => rfl) rfl (by omega) (by decide) dX4_isSame_32 ?_
      refine gs_top (y := b (p + j)) ((congrFun hb _)) ?_
      refine gs_aload_n (q := 1) k rfl rfl dX4_isSame_33 ?_
      refine gs_iload (q := 4) k rfl dX4_isSame_34 ?_
      refine gs_callK (i := i) (As := [.int (nI j)]) k (c_J0_charAt_5068e hi (j := j) (by omega)) cf_J0_charAt_5068e im_J0_charAt_5068e sl_J0_charAt_5068e ml_X4_72 hi rfl (by decide) rfl rfl (Nat.le_of_ble_eq_true rfl) dX4_isSame_36 (ppI ?_)
      refine gs_icmp_eq (tgt := 44) k (by decide) dX4_isSame_39 (fun c3 => ?_) (fun c3 => ?_)
      · refine gs_iincN (q := 4) (a := j) (c := 1) (lv' := [(4, .int (nI (j + 1))), (0, .ref (E.2.2.1 52)), (1, .ref (E.2.2.2.2.2.1 i)), (2, .int x), (3, .int y)]) k rfl rfl (by decide) rfl dX4_isSame_44 ?_
        refine gs_goto (tgt := 15) k (by decide) dX4_isSame_47 ?_
        refine gs_lv (lv' := [(0, .ref (E.2.2.1 52)), (1, .ref (E.2.2.2.2.2.1 i)), (2, .int x), (3, .int y), (4, .int (nI (j + 1)))]) [1, 2, 3, 4, 0] rfl ?_
        exact hGj c3
      · refine gs_iconst (v := 0) k (by decide) dX4_isSame_42 ?_
        exact gs_zret k kt (by decide) dX4_isSame_43 (pB0 (fun q => c3 (q.2 j hj)))
    · show G l E K 15 [(0, .ref (E.2.2.1 52)), (1, .ref (E.2.2.2.2.2.1 i)), (2, .int x), (3, .int y), (4, .int (nI (lenL.getD i 0)))] [] M
      refine gs_iload (q := 4) k rfl dX4_isSame_15 ?_
      refine gs_aload_n (q := 1) k rfl rfl dX4_isSame_17 ?_
      refine gs_callK (i := i) (As := []) k (c_J0_length_8abf5 hi) cf_J0_length_8abf5 im_J0_length_8abf5 sl_J0_length_8abf5 ml_X4_67 hi rfl (by decide) rfl rfl (Nat.le_of_ble_eq_true rfl) dX4_isSame_18 (ppI ?_)
      refine gs_icmpN_ge (a := lenL.getD i 0) (b := lenL.getD i 0) (tgt := 50) k rfl rfl (by omega) (by omega) (by decide) dX4_isSame_21 (fun c2 => ?_) (fun c2 => absurd c2 (by omega))
      refine gs_iconst (v := 1) k (by decide) dX4_isSame_50 ?_
      exact gs_zret k kt (by decide) dX4_isSame_51 (pB1 ⟨hlq, fun j hj => hEj j (Nat.zero_le _) hj⟩)
  · refine gs_iconst (v := 0) k (by decide) dX4_isSame_10 ?_
    exact gs_zret k kt (by decide) dX4_isSame_11 (pB0 (fun q => c1 q.1.symm))

theorem cf_X4_findWord : CF yX4_findWord cX4_findWord 4 (some .int) 2 := ⟨cd_X4_findWord, iz_X4, by decide, by decide +kernel, by decide +kernel, by decide +kernel⟩
set_option maxRecDepth 100000 in
set_option maxHeartbeats 4000000 in
theorem c_X4_findWord {l : Launch} {E : Ev} {M : Mm} {b : Nat → Int32} (hI : ∀ k, k < 108 → k ∈ E.2.1) (hb : M 55 = b) {p e : Nat} (hpe : p ≤ e) (he : e ≤ 100) {x y : Int32} (hx : x = nI p) (hy : y = nI e) : Cm l E yX4_findWord cX4_findWord 4 (some .int) 5 [.ref (E.2.2.1 52), .int x, .int y] M (pI (ob (-1) (fw b p e)) M) := by
  refine Cm.of (by decide) (Nat.le_of_ble_eq_true rfl) (fun K k kt => ?_)
  show G l E K 0 [(0, .ref (E.2.2.1 52)), (1, .int x), (2, .int y)] [] M
  refine gs_iconst (v := 0) k (by decide) dX4_findWord_0 ?_
  refine gs_istore_n (lv' := [(3, .int 0), (0, .ref (E.2.2.1 52)), (1, .int x), (2, .int y)]) k rfl (by decide) rfl dX4_findWord_1 ?_
  refine gs_lv (lv' := [(0, .ref (E.2.2.1 52)), (1, .int x), (2, .int y), (3, .int 0)]) [1, 2, 3, 0] rfl ?_
  refine for_fnd (fun w => G l E K 2 [(0, .ref (E.2.2.1 52)), (1, .int x), (2, .int y), (3, .int (nI w))] [] M) (fun w => ifc (smW b w p e) (some w) none) 11 (fw b p e) (fun w hw hXw hNw => ?_) (fun hEw => ?_) 11 0 (by omega) rfl
  · show G l E K 2 [(0, .ref (E.2.2.1 52)), (1, .int x), (2, .int y), (3, .int (nI w))] [] M
    refine gs_iload_n (q := 3) k rfl rfl dX4_findWord_2 ?_
    refine gs_bipush (v := 11) k (by decide) dX4_findWord_3 ?_
    refine gs_icmpN_ge (a := w) (b := 11) (tgt := 29) k rfl rfl (by omega) (by omega) (by decide) dX4_findWord_5 (fun c1 => absurd c1 (by omega)) (fun c1 => ?_)
    refine gs_aload_n (q := 0) k rfl rfl dX4_findWord_8 ?_
    refine gs_iload_n (q := 3) k rfl rfl dX4_findWord_9 ?_
    refine gs_callS (As := [.int (nI w)]) k (c_X4_spelling (w := w) (by omega)) cf_X4_spelling sm_X4_spelling ml_X4_59 (by decide) rfl rfl (Nat.le_of_ble_eq_true rfl) dX4_findWord_10 (ppA ?_)
    refine gs_iload_n (q := 1) k rfl rfl dX4_findWord_13 ?_
    refine gs_iload_n (q := 2) k rfl rfl dX4_findWord_14 ?_
    refine gs_callV (As := [.ref (E.2.2.2.2.2.1 w), .int x, .int y]) (k0 := 52) (ci := 4) (T := TX4) (N := 6) k (c_X4_isSame (i := w) (p := p) (e := e) hI (hb) (by omega) hpe he hx hy) cf_X4_isSame im_X4_isSame sl_X4_isSame ml_X4_63 (hI 52 (by omega)) rfl rfl (by decide) rfl rfl (Nat.le_of_ble_eq_true rfl) dX4_findWord_15 (ppB (fun c2 => ?_) (fun c2 => ?_))
    · refine gs_if_eq (tgt := 23) k (by decide) dX4_findWord_18 (fun h => absurd h (by decide)) (fun _ => ?_)
      refine gs_iload_n (q := 3) k rfl rfl dX4_findWord_21 ?_
      exact gs_iret k kt dX4_findWord_22 ⟨(by rw [hXw _ (ifc_t c2)]; rfl), rfl⟩
    · refine gs_if_eq (tgt := 23) k (by decide) dX4_findWord_18 (fun _ => ?_) (fun h => absurd h (by decide))
      refine gs_iincN (q := 3) (a := w) (c := 1) (lv' := [(3, .int (nI (w + 1))), (0, .ref (E.2.2.1 52)), (1, .int x), (2, .int y)]) k rfl rfl (by decide) rfl dX4_findWord_23 ?_
      refine gs_goto (tgt := 2) k (by decide) dX4_findWord_26 ?_
      refine gs_lv (lv' := [(0, .ref (E.2.2.1 52)), (1, .int x), (2, .int y), (3, .int (nI (w + 1)))]) [1, 2, 3, 0] rfl ?_
      exact hNw (ifc_f c2)
  · show G l E K 2 [(0, .ref (E.2.2.1 52)), (1, .int x), (2, .int y), (3, .int (nI 11))] [] M
    refine gs_iload_n (q := 3) k rfl rfl dX4_findWord_2 ?_
    refine gs_bipush (v := 11) k (by decide) dX4_findWord_3 ?_
    refine gs_icmpN_ge (a := 11) (b := 11) (tgt := 29) k rfl rfl (by omega) (by omega) (by decide) dX4_findWord_5 (fun c1 => ?_) (fun c1 => absurd c1 (by omega))
    refine gs_iconst (v := -1) k (by decide) dX4_findWord_29 ?_
    exact gs_iret k kt dX4_findWord_30 ⟨(by rw [hEw]; rfl), rfl⟩

