theorem ifc_cg {α : Type} {P : Prop} {a a' b : α} (h : P → a = a') : ifc P a b = ifc P a' b := by
  by_cases c : P
  · rw [ifc_t c, ifc_t c, h c]
  · rw [ifc_f c, ifc_f c]
/-! cuts, choices -/
theorem A_wall_eq {n : Nat} {kd : Nat → Int32} {V : Nat → Nat → Int32} {f s t : Int32} : A_wall (ob (-5) (wallR (V (tn f)) n (tn s) (tn t))) n kd f s t = A_wall (nI (wallC (V (tn f)) n (tn s) (tn t))) n kd f s t :=
  ifc_cg fun c => ifc_cg fun _ => by
    obtain ⟨-, c1, c2, c3⟩ := c
    rw [wall_eq (inR_lt c1) (inR_lt c2) (tn_ne c1 c2 c3)]
    rfl
theorem pcn_low : ∀ m, m < 7 → pcn (2 ^ m - 1) = m ∧ ∀ S, S < 2 ^ m - 1 → ¬ pcn S = m := by
  have H : ∀ m, m < 7 → pcn (2 ^ m - 1) = m := by decide +kernel
  have H2 : ∀ m, m < 7 → ∀ S, S < 2 ^ m - 1 → ¬ pcn S = m := by decide +kernel
  exact fun m hm => ⟨H m hm, H2 m hm⟩
theorem best_eq {v : Nat → Int32} {n m : Nat} (hn : n ≤ 6) (hm : m ≤ n) : bestR v n m = some (bestC v n m) := by
  obtain ⟨h1, h2⟩ := pcn_low m (by omega)
  have hle : 2 ^ m ≤ 2 ^ n := Nat.pow_le_pow_right (by omega) hm
  have hp := p2_pos m
  exact (arg_first (p := fun S => pcn S = m) (dp := fun _ => inferInstance) (q := fun S b => v b < v S) (dq := fun _ _ => inferInstance) (2 ^ m - 1) h1 h2 (fun z => Int32.lt_irrefl z) (2 ^ n)).2 (by omega)
theorem A_most_eq {n : Nat} {kd : Nat → Int32} {V : Nat → Nat → Int32} {f m w g : Int32} (hn : n ≤ 6) : A_most g (ob (-5) (bestR (V (tn f)) n (tn m))) n kd f m w = A_most g (nI (bestC (V (tn f)) n (tn m))) n kd f m w :=
  ifc_cg fun _ => ifc_cg fun c => ifc_cg fun _ => by
    rw [best_eq hn (by have := inR_lt c; omega)]
    rfl
/-! rings -/
theorem ring_eq {v : Nat → Int32} {n p : Nat} (hn : n ≤ 6) : ifc ((ringC v n p).2 = 0) (-5) (ringC v n p).1 = ringR v n p := by
  have hp6 := p2_le6 hn
  have hp0 := p2_pos n
  have key : ∀ k, k ≤ 2 ^ n → ((lp (fun s (z : Int32 × Int32) => if s.testBit p = true ∧ v s = lst v n then (z.1 &&& nI s, 1) else z) k 0 (nI (2 ^ n - 1), 0)).2 = 0 ∧ (lp (fun s (z : Int32 × Int32) => if s.testBit p = true ∧ v s = lst v n then (z.1 &&& nI s, 1) else z) k 0 (nI (2 ^ n - 1), 0)).1 = nI (2 ^ n - 1) ∧ lp (fun s (z : Int32) => if s.testBit p = true ∧ v s = lst v n then (if z < 0 then nI s else z &&& nI s) else z) k 0 (-5) = -5) ∨ ((lp (fun s (z : Int32 × Int32) => if s.testBit p = true ∧ v s = lst v n then (z.1 &&& nI s, 1) else z) k 0 (nI (2 ^ n - 1), 0)).2 = 1 ∧ ∃ m, m < 2 ^ n ∧ (lp (fun s (z : Int32 × Int32) => if s.testBit p = true ∧ v s = lst v n then (z.1 &&& nI s, 1) else z) k 0 (nI (2 ^ n - 1), 0)).1 = nI m ∧ lp (fun s (z : Int32) => if s.testBit p = true ∧ v s = lst v n then (if z < 0 then nI s else z &&& nI s) else z) k 0 (-5) = nI m) := by
    intro k
    induction k with
    | zero => intro _; exact Or.inl ⟨rfl, rfl, rfl⟩
    | succ k ih =>
      intro hk
      have ih := ih (by omega)
      rw [lp_end, lp_end, Nat.zero_add]
      generalize lp (fun s (z : Int32 × Int32) => if s.testBit p = true ∧ v s = lst v n then (z.1 &&& nI s, 1) else z) k 0 (nI (2 ^ n - 1), 0) = zc at ih
      generalize lp (fun s (z : Int32) => if s.testBit p = true ∧ v s = lst v n then (if z < 0 then nI s else z &&& nI s) else z) k 0 (-5) = zr at ih
      by_cases c : k.testBit p = true ∧ v k = lst v n
      · rw [if_pos c, if_pos c]
        rcases ih with ⟨a1, a2, a3⟩ | ⟨a1, m, a2, a3, a4⟩
        · refine Or.inr ⟨rfl, k, by omega, ?_, ?_⟩
          · show zc.1 &&& nI k = nI k
            rw [a2, ni_and, all_and n (by omega) k (by omega)]
          · rw [a3, if_pos (by decide)]
        · refine Or.inr ⟨rfl, m &&& k, Nat.lt_of_le_of_lt Nat.and_le_left a2, ?_, ?_⟩
          · show zc.1 &&& nI k = _
            rw [a3, ni_and]
          · rw [a4, if_neg (nI_pos (by omega)), ni_and]
      · rw [if_neg c, if_neg c]
        exact ih
  unfold ringC ringR
  rcases key (2 ^ n) (Nat.le_refl _) with ⟨a1, a2, a3⟩ | ⟨a1, m, a2, a3, a4⟩
  · rw [ifc_t a1, a3]
  · rw [ifc_f (by rw [a1]; decide), a3, a4]
/-! the weights as a base -/
theorem lp_pair {α β : Type} {f : Nat → α → α} {g : Nat → β → β} : ∀ (k i : Nat) (a : α) (b : β), lp (fun s (z : α × β) => (f s z.1, g s z.2)) k i (a, b) = (lp f k i a, lp g k i b) := by
  intro k
  induction k with
  | zero => intro i a b; rfl
  | succ k ih => intro i a b; exact ih (i + 1) (f i a) (g i b)
theorem lp_flag {P : Nat → Prop} {dP : DecidablePred P} {b : Int32} : ∀ k, lp (fun s x => if P s then 0 else x) k 0 b = ifc (∀ s, s < k → ¬ P s) b 0 := by
  intro k
  induction k with
  | zero => exact (ifc_t (fun s hs => absurd hs (by omega))).symm
  | succ k ih =>
    rw [lp_end, Nat.zero_add, ih]
    by_cases c : P k
    · rw [if_pos c, ifc_f (fun z => z k (by omega) c)]
    · rw [if_neg c]
      by_cases d : ∀ s, s < k → ¬ P s
      · rw [ifc_t d, ifc_t (fun s hs => by
          by_cases e : s = k
          · rw [e]; exact c
          · exact d s (by omega))]
      · rw [ifc_f d, ifc_f (fun z => d (fun s hs => z s (by omega)))]
theorem bas_eq {v w : Nat → Int32} {n : Nat} {b : Int32} : basC b v w n = (ifc (∀ s, s < 2 ^ n → ¬ spv v w n s < 0) b 0, basR v w n) := by
  have h := lp_pair (f := fun s (x : Int32) => if spv v w n s < 0 then 0 else x) (g := fun s (z : Int32 × Int32 × Int32) => if spv v w n s = 0 then (z.1 + 1, (if s = 0 then z.2.1 else z.2.1 &&& nI s), z.2.2 ||| nI s) else z) (2 ^ n) 0 b (0, nI (2 ^ n - 1), 0)
  have h2 := lp_flag (P := fun s => spv v w n s < 0) (dP := fun _ => inferInstance) (b := b) (2 ^ n)
  rw [h2] at h
  exact h
theorem sub0 {x y : Int32} : x - y = 0 ↔ y = x := by
  constructor
  · intro h
    have e : x = (x - y) + y := (Int32.sub_add_cancel x y).symm
    rw [h, Int32.zero_add] at e
    exact e.symm
  · intro h
    rw [h, Int32.sub_self]
theorem bas_b {v w : Nat → Int32} {n : Nat} : ifc ((basC (ifc (wsum w n (2 ^ n - 1) = v (2 ^ n - 1) - v 0) 1 0) v w n).1 = 0) 0 1 = b2i (isBs v w n) := by
  rw [bas_eq]
  show ifc (ifc (∀ s, s < 2 ^ n → ¬ spv v w n s < 0) (ifc (wsum w n (2 ^ n - 1) = v (2 ^ n - 1) - v 0) 1 0) 0 = 0) 0 1 = b2i (isBs v w n)
  unfold b2i isBs
  by_cases c : ∀ s, s < 2 ^ n → ¬ spv v w n s < 0
  · rw [ifc_t c]
    by_cases d : wsum w n (2 ^ n - 1) = v (2 ^ n - 1) - v 0
    · rw [ifc_t d, ifc_f (by decide), ifc_t ⟨c, sub0.mpr d⟩]
    · rw [ifc_f d, ifc_t rfl, ifc_f (fun z => d (sub0.mp z.2))]
  · rw [ifc_f c, ifc_t rfl, ifc_f (fun z => c z.1)]
/-! negative parts -/
def isum : List Int → Int
  | [] => 0
  | x :: l => x + isum l
theorem isum_app : ∀ (a b : List Int), isum (a ++ b) = isum a + isum b := by
  intro a
  induction a with
  | nil => intro b; exact (Int.zero_add _).symm
  | cons x l ih => intro b; show x + isum (l ++ b) = x + isum l + isum b; rw [ih]; omega
theorem isum_perm {a b : List Int} (h : a.Perm b) : isum a = isum b := by
  induction h with
  | nil => rfl
  | cons x _ ih => show x + _ = x + _; rw [ih]
  | swap x y l => show y + (x + isum l) = x + (y + isum l); omega
  | trans _ _ h1 h2 => exact h1.trans h2
def gk (v : Nat → Int32) (n r k : Nat) : Int := (imin 0 (gn v (ou n r k) (oo n r k))).toInt
theorem gk_b {v : Nat → Int32} {n r k : Nat} (hn : n ≤ 6) (hr : r < fac n) (hk : k < n) (hv : ∀ s, s < 2 ^ n → isV (v s)) : -2000000 ≤ gk v n r k ∧ gk v n r k ≤ 0 := by
  obtain ⟨-, -, -, -, -, h1, h2⟩ := ord_all n (by omega) r hr k hk
  have a1 := isV_int (hv _ h1)
  have a2 := isV_int (hv _ (orlt h1 h2))
  have e : (gn v (ou n r k) (oo n r k)).toInt = _ := i_sub (hv _ (orlt h1 h2)) (hv _ h1)
  have z : (0 : Int32).toInt = 0 := by decide
  unfold gk imin
  split
  · rename_i c
    have := Int32.lt_iff_toInt_lt.mp c
    omega
  · omega
theorem nsC_sum {v : Nat → Int32} {n r : Nat} (hn : n ≤ 6) (hr : r < fac n) (hv : ∀ s, s < 2 ^ n → isV (v s)) : ∀ k, k ≤ n → (nsC v n r k).toInt = isum ((List.range k).map (gk v n r)) ∧ -2000000 * (k : Int) ≤ (nsC v n r k).toInt ∧ (nsC v n r k).toInt ≤ 0 := by
  intro k
  induction k with
  | zero =>
    intro _
    have z : (nsC v n r 0).toInt = 0 := show (0 : Int64).toInt = 0 by decide
    exact ⟨z, by omega, by omega⟩
  | succ k ih =>
    intro hk
    obtain ⟨h1, h2, h3⟩ := ih (by omega)
    have hb := gk_b (v := v) hn hr (show k < n by omega) hv
    have e : (nsC v n r (k + 1)).toInt = (nsC v n r k).toInt + gk v n r k := by
      show (nsC v n r k + (imin 0 (gn v (ou n r k) (oo n r k))).toInt64).toInt = _
      rw [Int64.toInt_add, Int32.toInt_toInt64]
      exact l_bmod (by unfold gk at hb; omega) (by unfold gk at hb; omega)
    rw [List.range_succ, List.map_append, isum_app, e, h1]
    refine ⟨?_, by omega, by omega⟩
    show _ = _ + (gk v n r k + 0)
    omega
theorem nsR_sum {v : Nat → Int32} {n r : Nat} (hn : n ≤ 6) (hr : r < fac n) (hv : ∀ s, s < 2 ^ n → isV (v s)) : ∀ p, p ≤ n → (nsR v n r p).toInt = isum ((List.range p).map (fun q => gk v n r (pos n r q))) ∧ -2000000 * (p : Int) ≤ (nsR v n r p).toInt ∧ (nsR v n r p).toInt ≤ 0 := by
  intro p
  induction p with
  | zero =>
    intro _
    have z : (nsR v n r 0).toInt = 0 := show (0 : Int32).toInt = 0 by decide
    exact ⟨z, by omega, by omega⟩
  | succ p ih =>
    intro hp
    obtain ⟨h1, h2, h3⟩ := ih (by omega)
    obtain ⟨b1, b2, -⟩ := pos_all n (by omega) r hr p (by omega)
    have hb := gk_b (v := v) hn hr b1 hv
    have e : (nsR v n r (p + 1)).toInt = (nsR v n r p).toInt + gk v n r (pos n r p) := by
      show (nsR v n r p + imin 0 (gn v (ou n r (pos n r p)) p)).toInt = _
      unfold gk at hb ⊢
      rw [b2] at hb ⊢
      rw [Int32.toInt_add]
      exact i_bmod (by omega) (by omega)
    rw [List.range_succ, List.map_append, isum_app, e, h1]
    refine ⟨?_, by omega, by omega⟩
    show _ = _ + (gk v n r (pos n r p) + 0)
    omega
theorem neg_eq {v : Nat → Int32} {n r : Nat} (hn : n ≤ 6) (hr : r < fac n) (hv : ∀ s, s < 2 ^ n → isV (v s)) : (nsR v n r n).toInt64 = nsC v n r n := by
  apply Int64.toInt_inj.mp
  rw [Int32.toInt_toInt64, (nsR_sum hn hr hv n (Nat.le_refl _)).1, (nsC_sum hn hr hv n (Nat.le_refl _)).1]
  have h := List.isPerm_iff.mp (pos_perm n (by omega) r hr)
  have h2 := isum_perm (h.map (gk v n r))
  rw [List.map_map] at h2
  exact h2
theorem A_neg_eq {n : Nat} {kd : Nat → Int32} {V : Nat → Nat → Int32} {f r : Int32} (hn : n ≤ 6) (hv : ∀ f, f < 6 → ∀ s, s < 2 ^ n → isV (V f s)) : A_negative ((nsR (V (tn f)) n (tn r) n).toInt64) n kd f r = A_negative (nsC (V (tn f)) n (tn r) n) n kd f r :=
  ifc_cg fun c => neg_eq hn (inR_lt c.2) (hv _ (inR_lt c.1.1))
theorem A_paper_cg {n : Nat} {r r' : Nat → Int32} {i : Int32} (h : ∀ j, j < n → r j = r' j) : A_paper n r i = A_paper n r' i := ifc_cg fun c => h _ (inR_lt c)
theorem sC_of {l : Launch} {E : Ev} {M : Mm} {S : As} (hI : ∀ k, k < 108 → k ∈ E.2.1) (h : CA M S) (hg : GA S) {f w : Int32} : Cm l E yX6_of cX6_of 4 (some .int) 3 [.ref (E.2.2.1 0), .int f, .int w] M (hp (.int (A_of S.1.1 S.1.2.2.1 S.1.2.2.2 f w)) (hC S M)) := by
  have c := c_X6_of (l := l) (M := M) (f := f) (w := w) hI h.1.1 h.1.2.1
  exact hq_CI h c
theorem sR_of {l : Launch} {E : Ev} {M : Mm} {S : As} (hI : ∀ k, k < 108 → k ∈ E.2.1) (h : RA M S) (hg : GA S) {f w : Int32} : Cm l E yX7_of cX7_of 3 (some .int) 3 [.ref (E.2.2.1 65), .int f, .int w] M (hp (.int (A_of S.1.1 S.1.2.2.1 S.1.2.2.2 f w)) (hR S M)) := by
  have c := c_X7_of (l := l) (M := M) (f := f) (w := w) hI h.1.1 h.1.2.1
  exact hq_RI h c
theorem sC_taken {l : Launch} {E : Ev} {M : Mm} {S : As} (hI : ∀ k, k < 108 → k ∈ E.2.1) (h : CA M S) (hg : GA S) {f w : Int32} : Cm l E yX6_taken cX6_taken 4 (some .int) 1 [.ref (E.2.2.1 0), .int f, .int w] M (hp (.int (A_taken S.1.2.2.1 f w)) (hC S M)) := by
  have c := c_X6_taken (l := l) (M := M) (f := f) (w := w) hI h.1.1 h.1.2.1 (fun f hf => (hg.1.2.1 f hf).1)
  exact hq_CI h c
theorem sR_taken {l : Launch} {E : Ev} {M : Mm} {S : As} (hI : ∀ k, k < 108 → k ∈ E.2.1) (h : RA M S) (hg : GA S) {f w : Int32} : Cm l E yX7_taken cX7_taken 3 (some .int) 3 [.ref (E.2.2.1 65), .int f, .int w] M (hp (.int (A_taken S.1.2.2.1 f w)) (hR S M)) := by
  have c := c_X7_taken (l := l) (M := M) (f := f) (w := w) hI h.1.1 h.1.2.1
  exact hq_RI h c
theorem sC_value {l : Launch} {E : Ev} {M : Mm} {S : As} (hI : ∀ k, k < 108 → k ∈ E.2.1) (h : CA M S) (hg : GA S) {f w : Int32} : Cm l E yX6_value cX6_value 3 (some .int) 2 [.ref (E.2.2.1 0), .int f, .int w] M (hp (.int (A_value S.1.1 S.1.2.2.1 S.1.2.2.2 f w)) (hC S M)) := by
  have c := c_X6_value (l := l) (M := M) (f := f) (w := w) hI h.1.1 h.1.2.1
  exact hq_CI h c
theorem sR_value {l : Launch} {E : Ev} {M : Mm} {S : As} (hI : ∀ k, k < 108 → k ∈ E.2.1) (h : RA M S) (hg : GA S) {f w : Int32} : Cm l E yX7_value cX7_value 3 (some .int) 3 [.ref (E.2.2.1 65), .int f, .int w] M (hp (.int (A_value S.1.1 S.1.2.2.1 S.1.2.2.2 f w)) (hR S M)) := by
  have c := c_X7_value (l := l) (M := M) (f := f) (w := w) hI h.1.1 h.1.2.1
  exact hq_RI h c
theorem sC_gain {l : Launch} {E : Ev} {M : Mm} {S : As} (hI : ∀ k, k < 108 → k ∈ E.2.1) (h : CA M S) (hg : GA S) {f w p : Int32} : Cm l E yX6_gain cX6_gain 4 (some .long) 2 [.ref (E.2.2.1 0), .int f, .int w, .int p] M (hp (.long (A_gain S.1.1 S.1.2.2.1 S.1.2.2.2 f w p)) (hC S M)) := by
  have c := c_X6_gain (l := l) (M := M) (f := f) (w := w) (p := p) hI h.1.1 h.1.2.1
  exact hq_CL h c
theorem sR_gain {l : Launch} {E : Ev} {M : Mm} {S : As} (hI : ∀ k, k < 108 → k ∈ E.2.1) (h : RA M S) (hg : GA S) {f w p : Int32} : Cm l E yX7_gain cX7_gain 4 (some .long) 3 [.ref (E.2.2.1 65), .int f, .int w, .int p] M (hp (.long (A_gain S.1.1 S.1.2.2.1 S.1.2.2.2 f w p)) (hR S M)) := by
  have c := c_X7_gain (l := l) (M := M) (f := f) (w := w) (p := p) hI h.1.1 h.1.2.1
  exact hq_RL h c
theorem sC_fails {l : Launch} {E : Ev} {M : Mm} {S : As} (hI : ∀ k, k < 108 → k ∈ E.2.1) (h : CA M S) (hg : GA S) {f w : Int32} : Cm l E yX6_fails cX6_fails 4 (some .int) 3 [.ref (E.2.2.1 0), .int f, .int w] M (hp (.int (A_fails S.1.1 S.1.2.2.1 S.1.2.2.2 f w)) (hC S M)) := by
  have c := c_X6_fails (l := l) (M := M) (f := f) (w := w) hI h.1.1 h.1.2.1
  exact hq_CI h c
theorem sR_fails {l : Launch} {E : Ev} {M : Mm} {S : As} (hI : ∀ k, k < 108 → k ∈ E.2.1) (h : RA M S) (hg : GA S) {f w : Int32} : Cm l E yX7_fails cX7_fails 4 (some .int) 3 [.ref (E.2.2.1 65), .int f, .int w] M (hp (.int (A_fails S.1.1 S.1.2.2.1 S.1.2.2.2 f w)) (hR S M)) := by
  have c := c_X7_fails (l := l) (M := M) (f := f) (w := w) hI h.1.1 h.1.2.1
  exact hq_RI h c
theorem sC_base {l : Launch} {E : Ev} {M : Mm} {S : As} (hI : ∀ k, k < 108 → k ∈ E.2.1) (h : CA M S) (hg : GA S) {f r p : Int32} : Cm l E yX6_base cX6_base 6 (some .long) 4 [.ref (E.2.2.1 0), .int f, .int r, .int p] M (hp (.long (A_base S.1.1 S.1.2.2.1 S.1.2.2.2 f r p)) (hC S M)) := by
  have c := c_X6_base (l := l) (M := M) (f := f) (r := r) (p := p) hI h.1.1 h.1.2.1
  exact hq_CR h c
theorem sR_base {l : Launch} {E : Ev} {M : Mm} {S : As} (hI : ∀ k, k < 108 → k ∈ E.2.1) (h : RA M S) (hg : GA S) {f r p : Int32} : Cm l E yX7_base cX7_base 4 (some .long) 8 [.ref (E.2.2.1 65), .int f, .int r, .int p] M (hp (.long (A_base S.1.1 S.1.2.2.1 S.1.2.2.2 f r p)) (hR S M)) := by
  have c := c_X7_base (l := l) (M := M) (f := f) (r := r) (p := p) hI h.1.1 h.1.2.1
  exact hq_RR h c
theorem sC_negative {l : Launch} {E : Ev} {M : Mm} {S : As} (hI : ∀ k, k < 108 → k ∈ E.2.1) (h : CA M S) (hg : GA S) {f r : Int32} : Cm l E yX6_negative cX6_negative 7 (some .long) 4 [.ref (E.2.2.1 0), .int f, .int r] M (hp (.long (A_negative (nsC (S.1.2.2.2 (tn f)) S.1.1 (tn r) S.1.1) S.1.1 S.1.2.2.1 f r)) (hC S M)) := by
  have c := c_X6_negative (l := l) (M := M) (f := f) (r := r) hI h.1.1 h.1.2.1
  exact hq_CR h c
theorem sR_negative {l : Launch} {E : Ev} {M : Mm} {S : As} (hI : ∀ k, k < 108 → k ∈ E.2.1) (h : RA M S) (hg : GA S) {f r : Int32} : Cm l E yX7_negative cX7_negative 5 (some .long) 8 [.ref (E.2.2.1 65), .int f, .int r] M (hp (.long (A_negative (nsC (S.1.2.2.2 (tn f)) S.1.1 (tn r) S.1.1) S.1.1 S.1.2.2.1 f r)) (hR S M)) := by
  have c := c_X7_negative (l := l) (M := M) (f := f) (r := r) hI h.1.1 h.1.2.1
  rw [A_neg_eq h.1.1.2.2 (fun f hf s hs => (hg.1.2.1 f hf).2.2 s hs)] at c
  exact hq_RR h c
theorem sC_based {l : Launch} {E : Ev} {M : Mm} {S : As} (hI : ∀ k, k < 108 → k ∈ E.2.1) (h : CA M S) (hg : GA S) {f w : Int32} : Cm l E yX6_based cX6_based 11 (some .int) 3 [.ref (E.2.2.1 0), .int f, .int w] M (hp (.int (A_based (b2i (isBs (S.1.2.2.2 (tn f)) (S.1.2.1 5) S.1.1)) (basR (S.1.2.2.2 (tn f)) (S.1.2.1 5) S.1.1).1 (basR (S.1.2.2.2 (tn f)) (S.1.2.1 5) S.1.1).2.1 (basR (S.1.2.2.2 (tn f)) (S.1.2.1 5) S.1.1).2.2 S.1.1 S.1.2.2.1 f w)) (hC S M)) := by
  have c := c_X6_based (l := l) (M := M) (f := f) (w := w) hI h.1.1 h.1.2.1
  rw [show M 7 = S.1.2.1 5 from h.1.2.2 5 (by omega)] at c
  rw [bas_b, bas_eq] at c
  exact hq_CI h c
theorem sR_based {l : Launch} {E : Ev} {M : Mm} {S : As} (hI : ∀ k, k < 108 → k ∈ E.2.1) (h : RA M S) (hg : GA S) {f w : Int32} : Cm l E yX7_based cX7_based 7 (some .int) 4 [.ref (E.2.2.1 65), .int f, .int w] M (hp (.int (A_based (b2i (isBs (S.1.2.2.2 (tn f)) (S.1.2.1 5) S.1.1)) (basR (S.1.2.2.2 (tn f)) (S.1.2.1 5) S.1.1).1 (basR (S.1.2.2.2 (tn f)) (S.1.2.1 5) S.1.1).2.1 (basR (S.1.2.2.2 (tn f)) (S.1.2.1 5) S.1.1).2.2 S.1.1 S.1.2.2.1 f w)) (hR S M)) := by
  have c := c_X7_based (l := l) (M := M) (f := f) (w := w) hI h.1.1 h.1.2.1
  rw [show M 71 = S.1.2.1 5 from h.1.2.2 5 (by omega)] at c
  exact hq_RI h c
theorem sC_least {l : Launch} {E : Ev} {M : Mm} {S : As} (hI : ∀ k, k < 108 → k ∈ E.2.1) (h : CA M S) (hg : GA S) {f : Int32} : Cm l E yX6_least cX6_least 2 (some .long) 2 [.ref (E.2.2.1 0), .int f] M (hp (.long (A_least S.1.1 S.1.2.2.1 S.1.2.2.2 f)) (hC S M)) := by
  have c := c_X6_least (l := l) (M := M) (f := f) hI h.1.1 h.1.2.1
  exact hq_CL h c
theorem sR_least {l : Launch} {E : Ev} {M : Mm} {S : As} (hI : ∀ k, k < 108 → k ∈ E.2.1) (h : RA M S) (hg : GA S) {f : Int32} : Cm l E yX7_least cX7_least 2 (some .long) 3 [.ref (E.2.2.1 65), .int f] M (hp (.long (A_least S.1.1 S.1.2.2.1 S.1.2.2.2 f)) (hR S M)) := by
  have c := c_X7_least (l := l) (M := M) (f := f) hI h.1.1 h.1.2.1
  exact hq_RL h c
theorem sC_leastSets {l : Launch} {E : Ev} {M : Mm} {S : As} (hI : ∀ k, k < 108 → k ∈ E.2.1) (h : CA M S) (hg : GA S) {f w : Int32} : Cm l E yX6_leastSets cX6_leastSets 10 (some .int) 3 [.ref (E.2.2.1 0), .int f, .int w] M (hp (.int (A_leastSets S.1.1 S.1.2.2.1 S.1.2.2.2 f w)) (hC S M)) := by
  have c := c_X6_leastSets (l := l) (M := M) (f := f) (w := w) hI h.1.1 h.1.2.1
  exact hq_CI h c
theorem sR_leastSets {l : Launch} {E : Ev} {M : Mm} {S : As} (hI : ∀ k, k < 108 → k ∈ E.2.1) (h : RA M S) (hg : GA S) {f w : Int32} : Cm l E yX7_leastSets cX7_leastSets 8 (some .int) 3 [.ref (E.2.2.1 65), .int f, .int w] M (hp (.int (A_leastSets S.1.1 S.1.2.2.1 S.1.2.2.2 f w)) (hR S M)) := by
  have c := c_X7_leastSets (l := l) (M := M) (f := f) (w := w) hI h.1.1 h.1.2.1
  exact hq_RI h c
theorem sC_ring {l : Launch} {E : Ev} {M : Mm} {S : As} (hI : ∀ k, k < 108 → k ∈ E.2.1) (h : CA M S) (hg : GA S) {f p : Int32} : Cm l E yX6_ring cX6_ring 8 (some .int) 3 [.ref (E.2.2.1 0), .int f, .int p] M (hp (.int (A_ring (ringR (S.1.2.2.2 (tn f)) S.1.1 (tn p)) S.1.1 S.1.2.2.1 f p)) (hC S M)) := by
  have c := c_X6_ring (l := l) (M := M) (f := f) (p := p) hI h.1.1 h.1.2.1
  rw [ring_eq h.1.1.2.2] at c
  exact hq_CI h c
theorem sR_ring {l : Launch} {E : Ev} {M : Mm} {S : As} (hI : ∀ k, k < 108 → k ∈ E.2.1) (h : RA M S) (hg : GA S) {f p : Int32} : Cm l E yX7_ring cX7_ring 6 (some .int) 3 [.ref (E.2.2.1 65), .int f, .int p] M (hp (.int (A_ring (ringR (S.1.2.2.2 (tn f)) S.1.1 (tn p)) S.1.1 S.1.2.2.1 f p)) (hR S M)) := by
  have c := c_X7_ring (l := l) (M := M) (f := f) (p := p) hI h.1.1 h.1.2.1
  exact hq_RI h c
theorem sC_level {l : Launch} {E : Ev} {M : Mm} {S : As} (hI : ∀ k, k < 108 → k ∈ E.2.1) (h : CA M S) (hg : GA S) {f i : Int32} : Cm l E yX6_level cX6_level 3 (some .int) 4 [.ref (E.2.2.1 0), .int f, .int i] M (hp (.int (A_level S.1.1 S.1.2.2.1 S.1.2.2.2 f i)) (hC S M)) := by
  have c := c_X6_level (l := l) (M := M) (f := f) (i := i) hI h.1.1 h.1.2.1 (fun f hf s hs => (hg.1.2.1 f hf).2.2 s hs)
  exact hq_CR h c
theorem sR_level {l : Launch} {E : Ev} {M : Mm} {S : As} (hI : ∀ k, k < 108 → k ∈ E.2.1) (h : RA M S) (hg : GA S) {f i : Int32} : Cm l E yX7_level cX7_level 3 (some .int) 4 [.ref (E.2.2.1 65), .int f, .int i] M (hp (.int (A_level S.1.1 S.1.2.2.1 S.1.2.2.2 f i)) (hR S M)) := by
  have c := c_X7_level (l := l) (M := M) (f := f) (i := i) hI h.1.1 h.1.2.1 (fun f hf s hs => (hg.1.2.1 f hf).2.2 s hs)
  exact hq_RR h c
theorem sC_height {l : Launch} {E : Ev} {M : Mm} {S : As} (hI : ∀ k, k < 108 → k ∈ E.2.1) (h : CA M S) (hg : GA S) {f i p : Int32} : Cm l E yX6_height cX6_height 6 (some .long) 4 [.ref (E.2.2.1 0), .int f, .int i, .int p] M (hp (.long (A_height S.1.1 S.1.2.2.1 S.1.2.2.2 f i p)) (hC S M)) := by
  have c := c_X6_height (l := l) (M := M) (f := f) (i := i) (p := p) hI h.1.1 h.1.2.1 (fun f hf s hs => (hg.1.2.1 f hf).2.2 s hs)
  exact hq_CR h c
theorem sR_height {l : Launch} {E : Ev} {M : Mm} {S : As} (hI : ∀ k, k < 108 → k ∈ E.2.1) (h : RA M S) (hg : GA S) {f i p : Int32} : Cm l E yX7_height cX7_height 7 (some .long) 7 [.ref (E.2.2.1 65), .int f, .int i, .int p] M (hp (.long (A_height S.1.1 S.1.2.2.1 S.1.2.2.2 f i p)) (hR S M)) := by
  have c := c_X7_height (l := l) (M := M) (f := f) (i := i) (p := p) hI h.1.1 h.1.2.1 (fun f hf s hs => (hg.1.2.1 f hf).2.2 s hs)
  exact hq_RR h c
theorem sC_wall {l : Launch} {E : Ev} {M : Mm} {S : As} (hI : ∀ k, k < 108 → k ∈ E.2.1) (h : CA M S) (hg : GA S) {f s t : Int32} : Cm l E yX6_wall cX6_wall 4 (some .int) 3 [.ref (E.2.2.1 0), .int f, .int s, .int t] M (hp (.int (A_wall (nI (wallC (S.1.2.2.2 (tn f)) S.1.1 (tn s) (tn t))) S.1.1 S.1.2.2.1 f s t)) (hC S M)) := by
  have c := c_X6_wall (l := l) (M := M) (f := f) (s := s) (t := t) hI h.1.1 h.1.2.1
  exact hq_CI h c
theorem sR_wall {l : Launch} {E : Ev} {M : Mm} {S : As} (hI : ∀ k, k < 108 → k ∈ E.2.1) (h : RA M S) (hg : GA S) {f s t : Int32} : Cm l E yX7_wall cX7_wall 4 (some .int) 3 [.ref (E.2.2.1 65), .int f, .int s, .int t] M (hp (.int (A_wall (nI (wallC (S.1.2.2.2 (tn f)) S.1.1 (tn s) (tn t))) S.1.1 S.1.2.2.1 f s t)) (hR S M)) := by
  have c := c_X7_wall (l := l) (M := M) (f := f) (s := s) (t := t) hI h.1.1 h.1.2.1
  rw [A_wall_eq] at c
  exact hq_RI h c
theorem sC_wallValue {l : Launch} {E : Ev} {M : Mm} {S : As} (hI : ∀ k, k < 108 → k ∈ E.2.1) (h : CA M S) (hg : GA S) {f s t : Int32} : Cm l E yX6_wallValue cX6_wallValue 4 (some .long) 3 [.ref (E.2.2.1 0), .int f, .int s, .int t] M (hp (.long (A_wallValue (((S.1.2.2.2 (tn f)) (wallC (S.1.2.2.2 (tn f)) S.1.1 (tn s) (tn t))).toInt64) S.1.1 S.1.2.2.1 f s t)) (hC S M)) := by
  have c := c_X6_wallValue (l := l) (M := M) (f := f) (s := s) (t := t) hI h.1.1 h.1.2.1
  exact hq_CL h c
theorem sR_wallValue {l : Launch} {E : Ev} {M : Mm} {S : As} (hI : ∀ k, k < 108 → k ∈ E.2.1) (h : RA M S) (hg : GA S) {f s t : Int32} : Cm l E yX7_wallValue cX7_wallValue 4 (some .long) 3 [.ref (E.2.2.1 65), .int f, .int s, .int t] M (hp (.long (A_wallValue (((S.1.2.2.2 (tn f)) (wallC (S.1.2.2.2 (tn f)) S.1.1 (tn s) (tn t))).toInt64) S.1.1 S.1.2.2.1 f s t)) (hR S M)) := by
  have c := c_X7_wallValue (l := l) (M := M) (f := f) (s := s) (t := t) hI h.1.1 h.1.2.1
  exact hq_RL h c
theorem sC_most {l : Launch} {E : Ev} {M : Mm} {S : As} (hI : ∀ k, k < 108 → k ∈ E.2.1) (h : CA M S) (hg : GA S) {f m w : Int32} : Cm l E yX6_most cX6_most 5 (some .int) 3 [.ref (E.2.2.1 0), .int f, .int m, .int w] M (hp (.int (A_most (nI (greedyS (S.1.2.2.2 (tn f)) S.1.1 (tn m))) (nI (bestC (S.1.2.2.2 (tn f)) S.1.1 (tn m))) S.1.1 S.1.2.2.1 f m w)) (hC S M)) := by
  have c := c_X6_most (l := l) (M := M) (f := f) (m := m) (w := w) hI h.1.1 h.1.2.1
  exact hq_CI h c
theorem sR_most {l : Launch} {E : Ev} {M : Mm} {S : As} (hI : ∀ k, k < 108 → k ∈ E.2.1) (h : RA M S) (hg : GA S) {f m w : Int32} : Cm l E yX7_most cX7_most 4 (some .int) 3 [.ref (E.2.2.1 65), .int f, .int m, .int w] M (hp (.int (A_most (nI (greedyS (S.1.2.2.2 (tn f)) S.1.1 (tn m))) (nI (bestC (S.1.2.2.2 (tn f)) S.1.1 (tn m))) S.1.1 S.1.2.2.1 f m w)) (hR S M)) := by
  have c := c_X7_most (l := l) (M := M) (f := f) (m := m) (w := w) hI h.1.1 h.1.2.1
  rw [A_most_eq h.1.1.2.2] at c
  exact hq_RI h c
theorem sC_paper {l : Launch} {E : Ev} {M : Mm} {S : As} (hI : ∀ k, k < 108 → k ∈ E.2.1) (h : CA M S) (hg : GA S) {i : Int32} : Cm l E yX6_paper cX6_paper 2 (some .int) 0 [.ref (E.2.2.1 0), .int i] M (hp (.int (A_paper S.2.2.2.2.1 S.2.2.2.2.2 i)) (hC S M)) := by
  have c := c_X6_paper (l := l) (M := M) (i := i) hI hg.2.2.2 h.2.2.2.2.1
  rw [A_paper_cg h.2.2.2.2.2] at c
  exact hq_CI h c
theorem sR_paper {l : Launch} {E : Ev} {M : Mm} {S : As} (hI : ∀ k, k < 108 → k ∈ E.2.1) (h : RA M S) (hg : GA S) {i : Int32} : Cm l E yX7_paper cX7_paper 2 (some .int) 1 [.ref (E.2.2.1 65), .int i] M (hp (.int (A_paper S.2.2.2.2.1 S.2.2.2.2.2 i)) (hR S M)) := by
  have c := c_X7_paper (l := l) (M := M) (i := i) hI hg.2.2.2 h.2.2.2.2.1
  rw [A_paper_cg h.2.2.2.2.2] at c
  exact hq_RI h c
theorem sC_get {l : Launch} {E : Ev} {M : Mm} {S : As} (hI : ∀ k, k < 108 → k ∈ E.2.1) (h : CA M S) (hg : GA S) {a i : Int32} : Cm l E yX6_get cX6_get 3 (some .long) 1 [.ref (E.2.2.1 0), .int a, .int i] M (hp (.long (A_get S.2.2.1.1 S.2.2.1.2 a i)) (hC S M)) := by
  have c := c_X6_get (l := l) (M := M) (a := a) (i := i) hI h.2.2.1
  exact hq_CL h c
theorem sR_get {l : Launch} {E : Ev} {M : Mm} {S : As} (hI : ∀ k, k < 108 → k ∈ E.2.1) (h : RA M S) (hg : GA S) {a i : Int32} : Cm l E yX7_get cX7_get 3 (some .long) 2 [.ref (E.2.2.1 65), .int a, .int i] M (hp (.long (A_get S.2.2.1.1 S.2.2.1.2 a i)) (hR S M)) := by
  have c := c_X7_get (l := l) (M := M) (a := a) (i := i) hI h.2.2.1
  exact hq_RL h c
theorem sC_judge {l : Launch} {E : Ev} {M : Mm} {S : As} (hI : ∀ k, k < 108 → k ∈ E.2.1) (h : CA M S) (hg : GA S) {a f : Int32} : Cm l E yX6_judge cX6_judge 5 (some .int) 1 [.ref (E.2.2.1 0), .int a, .int f] M (hp (.int (A_judge S.1.1 S.1.2.2.1 S.1.2.2.2 S.2.2.1.1 S.2.2.1.2 a f)) (hC S M)) := by
  have c := c_X6_judge (l := l) (M := M) (a := a) (f := f) hI h.1.1 h.1.2.1 h.2.2.1
  exact hq_CI h c
theorem sR_judge {l : Launch} {E : Ev} {M : Mm} {S : As} (hI : ∀ k, k < 108 → k ∈ E.2.1) (h : RA M S) (hg : GA S) {a f : Int32} : Cm l E yX7_judge cX7_judge 4 (some .int) 3 [.ref (E.2.2.1 65), .int a, .int f] M (hp (.int (A_judge S.1.1 S.1.2.2.1 S.1.2.2.2 S.2.2.1.1 S.2.2.1.2 a f)) (hR S M)) := by
  have c := c_X7_judge (l := l) (M := M) (a := a) (f := f) hI h.1.1 h.1.2.1 h.2.2.1
  exact hq_RI h c
theorem sC_count {l : Launch} {E : Ev} {M : Mm} {S : As} (hI : ∀ k, k < 108 → k ∈ E.2.1) (h : CA M S) (hg : GA S) {w : Int32} : Cm l E yX6_count cX6_count 2 (some .int) 2 [.ref (E.2.2.1 0), .int w] M (hp (.int (A_count S.1.1 S.1.2.2.1 (S.1.2.1 0) (S.1.2.1 1) (nI S.2.2.2.1.1) (nI S.2.2.2.2.1) w)) (hC S M)) := by
  have c := c_X6_count (l := l) (M := M) (w := w) hI h.1.1 h.1.2.1
  rw [show M 2 = S.1.2.1 0 from h.1.2.2 0 (by omega)] at c
  rw [show M 3 = S.1.2.1 1 from h.1.2.2 1 (by omega)] at c
  rw [h.2.2.2.1.1, h.2.2.2.2.1] at c
  exact hq_CI h c
theorem sR_count {l : Launch} {E : Ev} {M : Mm} {S : As} (hI : ∀ k, k < 108 → k ∈ E.2.1) (h : RA M S) (hg : GA S) {w : Int32} : Cm l E yX7_count cX7_count 2 (some .int) 2 [.ref (E.2.2.1 65), .int w] M (hp (.int (A_count S.1.1 S.1.2.2.1 (S.1.2.1 0) (S.1.2.1 1) (nI S.2.2.2.1.1) (nI S.2.2.2.2.1) w)) (hR S M)) := by
  have c := c_X7_count (l := l) (M := M) (w := w) hI h.1.1 h.1.2.1
  rw [show M 66 = S.1.2.1 0 from h.1.2.2 0 (by omega)] at c
  rw [show M 67 = S.1.2.1 1 from h.1.2.2 1 (by omega)] at c
  rw [h.2.2.2.1.1, h.2.2.2.2.1] at c
  exact hq_RI h c
