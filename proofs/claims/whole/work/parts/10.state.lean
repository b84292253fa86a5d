noncomputable def ifc {α : Type} (P : Prop) (a b : α) : α := @ite α P (Classical.propDecidable P) a b
theorem ifc_t {α : Type} {P : Prop} {a b : α} (h : P) : ifc P a b = a := if_pos h
theorem ifc_f {α : Type} {P : Prop} {a b : α} (h : ¬ P) : ifc P a b = b := if_neg h
theorem ifc_T {α : Type} {a b : α} : ifc True a b = a := if_pos trivial
theorem ifc_F {α : Type} {a b : α} : ifc False a b = b := if_neg id
theorem for_al (F : Nat → Prop) (A : Nat → Prop) (N i0 : Nat) (hs : ∀ i, i0 ≤ i → i < N → (∀ j, i0 ≤ j → j < i → A j) → (A i → F (i + 1)) → F i) (he : (∀ j, i0 ≤ j → j < N → A j) → F N) : ∀ (k i : Nat), i + k = N → i0 ≤ i → (∀ j, i0 ≤ j → j < i → A j) → F i := by
  intro k
  induction k with
  | zero => intro i h h0 hB; have e : i = N := by omega
            subst e; exact he hB
  | succ k ih => intro i h h0 hB; exact hs i h0 (by omega) hB (fun hb => ih (i + 1) (by omega) (by omega) (fun j h1 hj => by
      rcases Nat.lt_or_ge j i with h2 | h2
      · exact hB j h1 h2
      · rw [show j = i by omega]; exact hb))
/-! scratch: what no later call looks at -/
def scr (k j : Nat) : Prop := k = 9 ∨ k = 30 ∨ (58 ≤ k ∧ k ≤ 64) ∨ (80 ≤ k ∧ k ≤ 82) ∨ (k = 65 ∧ j = 12)
def Same (M M' : Mm) : Prop := ∀ k j, ¬ scr k j → M' k j = M k j
theorem Same.rf {M : Mm} : Same M M := fun _ _ _ => rfl
theorem Same.tr {M M1 M2 : Mm} (h1 : Same M M1) (h2 : Same M1 M2) : Same M M2 := fun k j h => (h2 k j h).trans (h1 k j h)
theorem Same.r1 {M M1 : Mm} {k : Nat} {r : Nat → Int32} (h : Same M M1) (hk : ∀ j, scr k j) : Same M (rset M1 k r) := fun k' j hs => by
  by_cases e : k' = k
  · subst e; exact absurd (hk j) hs
  · rw [rset_ne _ _ e]; exact h k' j hs
theorem Same.m1 {M M1 : Mm} {k j0 : Nat} {x : Int32} (h : Same M M1) (hk : scr k j0) : Same M (mw M1 k j0 x) := fun k' j hs => by
  by_cases e : k' = k
  · subst e
    by_cases e2 : j = j0
    · subst e2; exact absurd hk hs
    · rw [mw_nj _ _ _ e2]; exact h k' j hs
  · rw [mw_nk _ _ _ e]; exact h k' j hs
theorem Same.r1' {M M1 : Mm} {k : Nat} {r r' : Nat → Int32} (h : Same M M1) (hr : r = r') : Same (rset M k r) (rset M1 k r') := fun k' j hs => by
  subst hr
  by_cases e : k' = k
  · subst e; rw [rset_eq, rset_eq]
  · rw [rset_ne _ _ e, rset_ne _ _ e]; exact h k' j hs
theorem Same.m1' {M M1 : Mm} {k j0 : Nat} {x x' : Int32} (h : Same M M1) (hx : x = x') : Same (mw M k j0 x) (mw M1 k j0 x') := fun k' j hs => by
  subst hx
  by_cases e : k' = k
  · subst e
    by_cases e2 : j = j0
    · subst e2; rw [mw_eq, mw_eq]
    · rw [mw_nj _ _ _ e2, mw_nj _ _ _ e2]; exact h k' j hs
  · rw [mw_nk _ _ _ e, mw_nk _ _ _ e]; exact h k' j hs
/-- an answer, and a memory up to scratch -/
def pR (v : Value) (U : Mm) : Option Value → Mm → Prop := fun r M' => r = some v ∧ Same U M'
def pRv (U : Mm) : Option Value → Mm → Prop := fun r M' => r = none ∧ Same U M'
theorem ppR {l : Launch} {E : Ev} {K : Kt} {pc : Nat} {lv : List (Nat × Value)} {st : List Value} {v : Value} {U : Mm} (h : ∀ M', Same U M' → G l E K pc lv (v :: st) M') : ∀ r M', pR v U r M' → G l E K pc lv (r.toList ++ st) M' := fun r M' hp => by
  obtain ⟨rfl, hs⟩ := hp
  exact h M' hs
/-- -1 where A fails, -11 where B, else 0 -/
def pE (A B : Prop) (M1 : Mm) : Option Value → Mm → Prop := fun r M' => ((¬ A ∧ r = some (.int (-1))) ∨ (A ∧ B ∧ r = some (.int (-11))) ∨ (A ∧ ¬ B ∧ r = some (.int 0))) ∧ M' = M1
theorem ppE {l : Launch} {E : Ev} {K : Kt} {pc : Nat} {lv : List (Nat × Value)} {st : List Value} {A B : Prop} {M1 : Mm} (h1 : ¬ A → G l E K pc lv (.int (-1) :: st) M1) (h2 : A → B → G l E K pc lv (.int (-11) :: st) M1) (h3 : A → ¬ B → G l E K pc lv (.int 0 :: st) M1) : ∀ r M', pE A B M1 r M' → G l E K pc lv (r.toList ++ st) M' := fun r M' hp => by
  obtain ⟨h, rfl⟩ := hp
  rcases h with ⟨a, rfl⟩ | ⟨a, b, rfl⟩ | ⟨a, b, rfl⟩
  · exact h1 a
  · exact h2 a b
  · exact h3 a b
theorem pE1 {A B : Prop} {M : Mm} (h : ¬ A) : pE A B M (some (.int (-1))) M := ⟨Or.inl ⟨h, rfl⟩, rfl⟩
theorem pE2 {A B : Prop} {M : Mm} (h : A) (h2 : B) : pE A B M (some (.int (-11))) M := ⟨Or.inr (Or.inl ⟨h, h2, rfl⟩), rfl⟩
theorem pE3 {A B : Prop} {M : Mm} (h : A) (h2 : ¬ B) : pE A B M (some (.int 0)) M := ⟨Or.inr (Or.inr ⟨h, h2, rfl⟩), rfl⟩
/-! the functions: kinds kd, values V below 2 ^ n -/
def CFn (M : Mm) (n : Nat) (kd : Nat → Int32) (V : Nat → Nat → Int32) : Prop := ∀ f, f < 6 → M (10 + 2 * f) 0 = kd f ∧ (kd f < 0 → kd f = -1) ∧ ∀ s, s < 2 ^ n → M (11 + 2 * f) s = V f s
def RFn (M : Mm) (n : Nat) (kd : Nat → Int32) (V : Nat → Nat → Int32) : Prop := ∀ f, f < 6 → M 72 f = kd f ∧ (kd f < 0 → kd f = -1) ∧ (¬ kd f < 0 → ∀ s, s < 2 ^ n → M (74 + f) s = V f s)
theorem CFn_rs {M : Mm} {k n : Nat} {kd : Nat → Int32} {V : Nat → Nat → Int32} {r : Nat → Int32} (h : k < 10 ∨ 21 < k) (e : CFn M n kd V) : CFn (rset M k r) n kd V := fun f hf => by
  obtain ⟨h1, h2, h3⟩ := e f hf
  exact ⟨rdr (by omega) h1, h2, fun s hs => rdr (by omega) (h3 s hs)⟩
theorem CFn_mw {M : Mm} {k j n : Nat} {kd : Nat → Int32} {V : Nat → Nat → Int32} {x : Int32} (h : k < 10 ∨ 21 < k) (e : CFn M n kd V) : CFn (mw M k j x) n kd V := fun f hf => by
  obtain ⟨h1, h2, h3⟩ := e f hf
  exact ⟨rdn (by omega) h1, h2, fun s hs => rdn (by omega) (h3 s hs)⟩
theorem RFn_rs {M : Mm} {k n : Nat} {kd : Nat → Int32} {V : Nat → Nat → Int32} {r : Nat → Int32} (h : k < 72 ∨ 79 < k) (e : RFn M n kd V) : RFn (rset M k r) n kd V := fun f hf => by
  obtain ⟨h1, h2, h3⟩ := e f hf
  exact ⟨rdr (by omega) h1, h2, fun h0 s hs => rdr (by omega) (h3 h0 s hs)⟩
theorem RFn_mw {M : Mm} {k j n : Nat} {kd : Nat → Int32} {V : Nat → Nat → Int32} {x : Int32} (h : k < 72 ∨ 79 < k) (e : RFn M n kd V) : RFn (mw M k j x) n kd V := fun f hf => by
  obtain ⟨h1, h2, h3⟩ := e f hf
  exact ⟨rdn (by omega) h1, h2, fun h0 s hs => rdn (by omega) (h3 h0 s hs)⟩
def gn (v : Nat → Int32) (S P : Nat) : Int32 := v (S ||| 2 ^ P) - v S
theorem orlt {S P n : Nat} (hS : S < 2 ^ n) (hP : P < n) : S ||| 2 ^ P < 2 ^ n := Nat.or_lt_two_pow hS (Nat.pow_lt_pow_right (by omega) hP)

theorem cf_X3_isMissing : CF yX3_isMissing cX3_isMissing 1 (some .boolean) 0 := ⟨cd_X3_isMissing, iz_X3, by decide, by decide +kernel, by decide +kernel, by decide +kernel⟩
set_option maxRecDepth 100000 in
set_option maxHeartbeats 4000000 in
theorem c_X3_isMissing {l : Launch} {E : Ev} {M : Mm} {n : Nat} {kd : Nat → Int32} {V : Nat → Nat → Int32} (hI : ∀ k, k < 108 → k ∈ E.2.1) (hF : CFn M n kd V) {f : Nat} (hf : f < 6) : Cm l E yX3_isMissing cX3_isMissing 1 (some .boolean) 0 [.ref (E.2.2.1 (10 + 2 * f))] M (pB (kd f < 0) M) := by
  refine Cm.of (by decide) (Nat.le_of_ble_eq_true rfl) (fun K k kt => ?_)
  show G l E K 0 [(0, .ref (E.2.2.1 (10 + 2 * f)))] [] M
  refine gs_aload_n (q := 0) k rfl rfl dX3_isMissing_0 ?_
  refine gs_get (C := RX3) (T := TX3) (N := 2) (ci := 3) (k0 := (10 + 2 * f)) (j := 0) k (hI (10 + 2 * f) (by omega)) (ent_F1 hf _) rfl inX3 (by decide) fl_X3_9 rfl rfl dX3_isMissing_1 ?_
  refine gs_top (y := kd f) ((hF f hf).1) ?_
  refine gs_iconst (v := -1) k (by decide) dX3_isMissing_4 ?_
  refine gs_icmp_ne (tgt := 12) k (by decide) dX3_isMissing_5 (fun c1 => ?_) (fun c1 => ?_)
  · refine gs_iconst (v := 0) k (by decide) dX3_isMissing_12 ?_
    exact gs_zret k kt (by decide) dX3_isMissing_13 (pB0 (fun h => c1 ((hF f hf).2.1 h)))
  · refine gs_iconst (v := 1) k (by decide) dX3_isMissing_8 ?_
    refine gs_goto (tgt := 13) k (by decide) dX3_isMissing_9 ?_
    exact gs_zret k kt (by decide) dX3_isMissing_13 (pB1 (by rw [c1]; decide))

theorem cf_X3_gainAt : CF yX3_gainAt cX3_gainAt 3 (some .int) 2 := ⟨cd_X3_gainAt, iz_X3, by decide, by decide +kernel, by decide +kernel, by decide +kernel⟩
set_option maxRecDepth 100000 in
set_option maxHeartbeats 4000000 in
theorem c_X3_gainAt {l : Launch} {E : Ev} {M : Mm} {n : Nat} {kd : Nat → Int32} {V : Nat → Nat → Int32} (hI : ∀ k, k < 108 → k ∈ E.2.1) (hF : CFn M n kd V) {f : Nat} (hf : f < 6) (hn6 : n ≤ 6) {x y : Int32} {S P : Nat} (hx : x = nI S) (hy : y = nI P) (hS : S < 2 ^ n) (hP : P < n) : Cm l E yX3_gainAt cX3_gainAt 3 (some .int) 0 [.ref (E.2.2.1 (10 + 2 * f)), .int x, .int y] M (pI (gn (V f) S P) M) := by
  refine Cm.of (by decide) (Nat.le_of_ble_eq_true rfl) (fun K k kt => ?_)
  show G l E K 0 [(0, .ref (E.2.2.1 (10 + 2 * f))), (1, .int x), (2, .int y)] [] M
  have hp := p2_le6 hn6
  have ho := orlt hS hP
  refine gs_aload_n (q := 0) k rfl rfl dX3_gainAt_0 ?_
  refine gs_get (C := RX3) (T := TX3) (N := 2) (ci := 3) (k0 := (10 + 2 * f)) (j := 1) k (hI (10 + 2 * f) (by omega)) (ent_F1 hf _) rfl inX3 (by decide) fl_X3_15 rfl rfl dX3_gainAt_1 ?_
  refine gs_iload_n (q := 1) k rfl rfl dX3_gainAt_4 ?_
  refine gs_iconst (v := 1) k (by decide) dX3_gainAt_5 ?_
  refine gs_iload_n (q := 2) k rfl rfl dX3_gainAt_6 ?_
  refine gs_ishlN (b := P) k rfl hy (by omega) dX3_gainAt_7 ?_
  refine gs_iorN (a := S) (b := 2 ^ P) k hx rfl dX3_gainAt_8 ?_
  refine gs_ialdN (k0 := (11 + 2 * f)) (n := 64) (e := S ||| (2 ^ P)) k (hI (11 + 2 * f) (by omega)) (ent_V1 hf) rfl (by omega) (by decide) dX3_gainAt_9 ?_
  refine gs_top (y := V f (S ||| (2 ^ P))) ((hF f hf).2.2 (S ||| (2 ^ P)) (by omega)) ?_
  refine gs_aload_n (q := 0) k rfl rfl dX3_gainAt_10 ?_
  refine gs_get (C := RX3) (T := TX3) (N := 2) (ci := 3) (k0 := (10 + 2 * f)) (j := 1) k (hI (10 + 2 * f) (by omega)) (ent_F1 hf _) rfl inX3 (by decide) fl_X3_15 rfl rfl dX3_gainAt_11 ?_
  refine gs_iload_n (q := 1) k rfl rfl dX3_gainAt_14 ?_
  refine gs_ialdN (k0 := (11 + 2 * f)) (n := 64) (e := S) k (hI (11 + 2 * f) (by omega)) (ent_V1 hf) hx (by omega) (by decide) dX3_gainAt_15 ?_
  refine gs_top (y := V f S) ((hF f hf).2.2 S (by omega)) ?_
  refine gs_isub k dX3_gainAt_16 ?_
  exact gs_iret k kt dX3_gainAt_17 ⟨rfl, rfl⟩

theorem cf_X7_gainOf : CF yX7_gainOf cX7_gainOf 4 (some .int) 3 := ⟨cd_X7_gainOf, iz_X7, by decide, by decide +kernel, by decide +kernel, by decide +kernel⟩
set_option maxRecDepth 100000 in
set_option maxHeartbeats 4000000 in
theorem c_X7_gainOf {l : Launch} {E : Ev} {M : Mm} {n : Nat} {kd : Nat → Int32} {V : Nat → Nat → Int32} (hI : ∀ k, k < 108 → k ∈ E.2.1) (hF : RFn M n kd V) (hn6 : n ≤ 6) {z x y : Int32} {f S P : Nat} (hz : z = nI f) (hf : f < 6) (ht : ¬ kd f < 0) (hx : x = nI S) (hy : y = nI P) (hS : S < 2 ^ n) (hP : P < n) : Cm l E yX7_gainOf cX7_gainOf 4 (some .int) 0 [.ref (E.2.2.1 65), .int z, .int x, .int y] M (pI (gn (V f) S P) M) := by
  refine Cm.of (by decide) (Nat.le_of_ble_eq_true rfl) (fun K k kt => ?_)
  show G l E K 0 [(0, .ref (E.2.2.1 65)), (1, .int z), (2, .int x), (3, .int y)] [] M
  have hp := p2_le6 hn6
  have ho := orlt hS hP
  refine gs_aload_n (q := 0) k rfl rfl dX7_gainOf_0 ?_
  refine gs_get (C := RX7) (T := TX7) (N := 27) (ci := 7) (k0 := 65) (j := 8) k (hI 65 (by omega)) rfl rfl inX7 (by decide) fl_X7_39 rfl rfl dX7_gainOf_1 ?_
  refine gs_iload_n (q := 1) k rfl rfl dX7_gainOf_4 ?_
  refine gs_aaldIN (k0 := 73) (n := 6) (e := f) (a := E.2.2.1 (74 + f)) k (hI 73 (by omega)) (fun _ => rfl) hz (by omega) (by decide) rfl dX7_gainOf_5 ?_
  refine gs_iload_n (q := 2) k rfl rfl dX7_gainOf_6 ?_
  refine gs_iconst (v := 1) k (by decide) dX7_gainOf_7 ?_
  refine gs_iload_n (q := 3) k rfl rfl dX7_gainOf_8 ?_
  refine gs_ishlN (b := P) k rfl hy (by omega) dX7_gainOf_9 ?_
  refine gs_iorN (a := S) (b := 2 ^ P) k hx rfl dX7_gainOf_10 ?_
  refine gs_ialdN (k0 := (74 + f)) (n := 64) (e := S ||| (2 ^ P)) k (hI (74 + f) (by omega)) (ent_RV (by omega)) rfl (by omega) (by decide) dX7_gainOf_11 ?_
  refine gs_top (y := V f (S ||| (2 ^ P))) ((hF f hf).2.2 ht (S ||| (2 ^ P)) (by omega)) ?_
  refine gs_aload_n (q := 0) k rfl rfl dX7_gainOf_12 ?_
  refine gs_get (C := RX7) (T := TX7) (N := 27) (ci := 7) (k0 := 65) (j := 8) k (hI 65 (by omega)) rfl rfl inX7 (by decide) fl_X7_39 rfl rfl dX7_gainOf_13 ?_
  refine gs_iload_n (q := 1) k rfl rfl dX7_gainOf_16 ?_
  refine gs_aaldIN (k0 := 73) (n := 6) (e := f) (a := E.2.2.1 (74 + f)) k (hI 73 (by omega)) (fun _ => rfl) hz (by omega) (by decide) rfl dX7_gainOf_17 ?_
  refine gs_iload_n (q := 2) k rfl rfl dX7_gainOf_18 ?_
  refine gs_ialdN (k0 := (74 + f)) (n := 64) (e := S) k (hI (74 + f) (by omega)) (ent_RV (by omega)) hx (by omega) (by decide) dX7_gainOf_19 ?_
  refine gs_top (y := V f S) ((hF f hf).2.2 ht S (by omega)) ?_
  refine gs_isub k dX7_gainOf_20 ?_
  exact gs_iret k kt dX7_gainOf_21 ⟨rfl, rfl⟩

theorem cf_X6_errorOf : CF yX6_errorOf cX6_errorOf 2 (some .int) 1 := ⟨cd_X6_errorOf, iz_X6, by decide, by decide +kernel, by decide +kernel, by decide +kernel⟩
set_option maxRecDepth 100000 in
set_option maxHeartbeats 4000000 in
theorem c_X6_errorOf {l : Launch} {E : Ev} {M : Mm} {n : Nat} {kd : Nat → Int32} {V : Nat → Nat → Int32} (hI : ∀ k, k < 108 → k ∈ E.2.1) (hF : CFn M n kd V) {x : Int32} : Cm l E yX6_errorOf cX6_errorOf 2 (some .int) 1 [.ref (E.2.2.1 0), .int x] M (pE (inR x 6) (kd (tn x) < 0) M) := by
  refine Cm.of (by decide) (Nat.le_of_ble_eq_true rfl) (fun K k kt => ?_)
  show G l E K 0 [(0, .ref (E.2.2.1 0)), (1, .int x)] [] M
  refine gs_iload_n (q := 1) k rfl rfl dX6_errorOf_0 ?_
  refine gs_callS (As := [.int x]) k c_X6_isFunction cf_X6_isFunction sm_X6_isFunction ml_X6_101 (by decide) rfl rfl (Nat.le_of_ble_eq_true rfl) dX6_errorOf_1 (ppB (fun c1 => ?_) (fun c1 => ?_))
  · have bc1 := inR_lt c1
    refine gs_if_ne (tgt := 9) k (by decide) dX6_errorOf_4 (fun _ => ?_) (fun h => absurd h (by decide))
    refine gs_aload_n (q := 0) k rfl rfl dX6_errorOf_9 ?_
    refine gs_get (C := RX6) (T := TX6) (N := 10) (ci := 6) (k0 := 0) (j := 0) k (hI 0 (by omega)) rfl rfl inX6 (by decide) fl_X6_12 rfl rfl dX6_errorOf_10 ?_
    refine gs_get (C := RX5) (T := TX5) (N := 9) (ci := 5) (k0 := 1) (j := 7) k (hI 1 (by omega)) rfl rfl inX5 (by decide) fl_X6_107 rfl rfl dX6_errorOf_13 ?_
    refine gs_iload_n (q := 1) k rfl rfl dX6_errorOf_16 ?_
    refine gs_aaldSN (k0 := 8) (n := 6) (e := tn x) (a := E.2.2.1 (10 + 2 * (tn x))) k (hI 8 (by omega)) (fun _ => rfl) (inR_eq c1) (by omega) (by decide) rfl dX6_errorOf_17 ?_
    refine gs_callV (As := []) (k0 := (10 + 2 * (tn x))) (ci := 3) (T := TX3) (N := 2) k (c_X3_isMissing hI hF (by omega)) cf_X3_isMissing im_X3_isMissing sl_X3_isMissing ml_X6_127 (hI (10 + 2 * (tn x)) (by omega)) (ent_F1 (by omega) _) rfl (by decide) rfl rfl (Nat.le_of_ble_eq_true rfl) dX6_errorOf_18 (ppB (fun c2 => ?_) (fun c2 => ?_))
    · refine gs_if_eq (tgt := 29) k (by decide) dX6_errorOf_21 (fun h => absurd h (by decide)) (fun _ => ?_)
      refine gs_bipush (v := -11) k (by decide) dX6_errorOf_24 ?_
      refine gs_goto (tgt := 30) k (by decide) dX6_errorOf_26 ?_
      exact gs_iret k kt dX6_errorOf_30 (pE2 c1 c2)
    · refine gs_if_eq (tgt := 29) k (by decide) dX6_errorOf_21 (fun _ => ?_) (fun h => absurd h (by decide))
      refine gs_iconst (v := 0) k (by decide) dX6_errorOf_29 ?_
      exact gs_iret k kt dX6_errorOf_30 (pE3 c1 c2)
  · refine gs_if_ne (tgt := 9) k (by decide) dX6_errorOf_4 (fun h => absurd h (by decide)) (fun _ => ?_)
    refine gs_iconst (v := -1) k (by decide) dX6_errorOf_7 ?_
    exact gs_iret k kt dX6_errorOf_8 (pE1 c1)

theorem cf_X6_errorOfPair : CF yX6_errorOfPair cX6_errorOfPair 3 (some .int) 2 := ⟨cd_X6_errorOfPair, iz_X6, by decide, by decide +kernel, by decide +kernel, by decide +kernel⟩
set_option maxRecDepth 100000 in
set_option maxHeartbeats 4000000 in
theorem c_X6_errorOfPair {l : Launch} {E : Ev} {M : Mm} {n : Nat} {kd : Nat → Int32} {V : Nat → Nat → Int32} (hI : ∀ k, k < 108 → k ∈ E.2.1) (hF : CFn M n kd V) {x y : Int32} : Cm l E yX6_errorOfPair cX6_errorOfPair 3 (some .int) 2 [.ref (E.2.2.1 0), .int x, .int y] M (pE (inR y 6 ∧ inR x 6) (kd (tn x) < 0) M) := by
  refine Cm.of (by decide) (Nat.le_of_ble_eq_true rfl) (fun K k kt => ?_)
  show G l E K 0 [(0, .ref (E.2.2.1 0)), (1, .int x), (2, .int y)] [] M
  refine gs_iload_n (q := 2) k rfl rfl dX6_errorOfPair_0 ?_
  refine gs_callS (As := [.int y]) k c_X6_isFunction cf_X6_isFunction sm_X6_isFunction ml_X6_101 (by decide) rfl rfl (Nat.le_of_ble_eq_true rfl) dX6_errorOfPair_1 (ppB (fun c1 => ?_) (fun c1 => ?_))
  · have bc1 := inR_lt c1
    refine gs_if_eq (tgt := 15) k (by decide) dX6_errorOfPair_4 (fun h => absurd h (by decide)) (fun _ => ?_)
    refine gs_aload_n (q := 0) k rfl rfl dX6_errorOfPair_7 ?_
    refine gs_iload_n (q := 1) k rfl rfl dX6_errorOfPair_8 ?_
    refine gs_callV (As := [.int x]) (k0 := 0) (ci := 6) (T := TX6) (N := 10) k (c_X6_errorOf hI hF) cf_X6_errorOf im_X6_errorOf sl_X6_errorOf ml_X6_154 (hI 0 (by omega)) rfl rfl (by decide) rfl rfl (Nat.le_of_ble_eq_true rfl) dX6_errorOfPair_9 (ppE (fun c2 => ?_) (fun c2 c3 => ?_) (fun c2 c3 => ?_))
    · refine gs_goto (tgt := 16) k (by decide) dX6_errorOfPair_12 ?_
      exact gs_iret k kt dX6_errorOfPair_16 (pE1 (fun h => c2 h.2))
    · have bc2 := inR_lt c2
      refine gs_goto (tgt := 16) k (by decide) dX6_errorOfPair_12 ?_
      exact gs_iret k kt dX6_errorOfPair_16 (pE2 ⟨c1, c2⟩ c3)
    · have bc2 := inR_lt c2
      refine gs_goto (tgt := 16) k (by decide) dX6_errorOfPair_12 ?_
      exact gs_iret k kt dX6_errorOfPair_16 (pE3 ⟨c1, c2⟩ c3)
  · refine gs_if_eq (tgt := 15) k (by decide) dX6_errorOfPair_4 (fun _ => ?_) (fun h => absurd h (by decide))
    refine gs_iconst (v := -1) k (by decide) dX6_errorOfPair_15 ?_
    exact gs_iret k kt dX6_errorOfPair_16 (pE1 (fun h => c1 h.1))

theorem cf_X6_errorOfChoice : CF yX6_errorOfChoice cX6_errorOfChoice 3 (some .int) 2 := ⟨cd_X6_errorOfChoice, iz_X6, by decide, by decide +kernel, by decide +kernel, by decide +kernel⟩
set_option maxRecDepth 100000 in
set_option maxHeartbeats 4000000 in
theorem c_X6_errorOfChoice {l : Launch} {E : Ev} {M : Mm} {n : Nat} {kd : Nat → Int32} {V : Nat → Nat → Int32} (hI : ∀ k, k < 108 → k ∈ E.2.1) (hF : CFn M n kd V) {x y : Int32} : Cm l E yX6_errorOfChoice cX6_errorOfChoice 3 (some .int) 2 [.ref (E.2.2.1 0), .int x, .int y] M (pE (inR y 4 ∧ inR x 6) (kd (tn x) < 0) M) := by
  refine Cm.of (by decide) (Nat.le_of_ble_eq_true rfl) (fun K k kt => ?_)
  show G l E K 0 [(0, .ref (E.2.2.1 0)), (1, .int x), (2, .int y)] [] M
  refine gs_iload_n (q := 2) k rfl rfl dX6_errorOfChoice_0 ?_
  refine gs_if_lt (tgt := 9) k (by decide) dX6_errorOfChoice_1 (fun c1 => ?_) (fun c1 => ?_)
  · refine gs_iconst (v := -1) k (by decide) dX6_errorOfChoice_9 ?_
    refine gs_goto (tgt := 18) k (by decide) dX6_errorOfChoice_10 ?_
    exact gs_iret k kt dX6_errorOfChoice_18 (pE1 (fun h => absurd h.1 (by first | exact inR_n1 (by assumption) | exact inR_n2' (m := 3) rfl (by decide) (by decide) (by assumption) | exact inR_n2' (m := 3) rfl (by decide) (by decide) (Int32.not_le.mp (by assumption)))))
  · refine gs_iload_n (q := 2) k rfl rfl dX6_errorOfChoice_4 ?_
    refine gs_iconst (v := 3) k (by decide) dX6_errorOfChoice_5 ?_
    refine gs_icmp_le (tgt := 13) k (by decide) dX6_errorOfChoice_6 (fun c2 => ?_) (fun c2 => ?_)
    · refine gs_aload_n (q := 0) k rfl rfl dX6_errorOfChoice_13 ?_
      refine gs_iload_n (q := 1) k rfl rfl dX6_errorOfChoice_14 ?_
      refine gs_callV (As := [.int x]) (k0 := 0) (ci := 6) (T := TX6) (N := 10) k (c_X6_errorOf hI hF) cf_X6_errorOf im_X6_errorOf sl_X6_errorOf ml_X6_154 (hI 0 (by omega)) rfl rfl (by decide) rfl rfl (Nat.le_of_ble_eq_true rfl) dX6_errorOfChoice_15 (ppE (fun c3 => ?_) (fun c3 c4 => ?_) (fun c3 c4 => ?_))
      · exact gs_iret k kt dX6_errorOfChoice_18 (pE1 (fun h => c3 h.2))
      · have bc3 := inR_lt c3
        exact gs_iret k kt dX6_errorOfChoice_18 (pE2 ⟨(inR_of' (m := 3) rfl (by decide) (by decide) (by assumption) (Int32.not_lt.mpr (by assumption))), c3⟩ c4)
      · have bc3 := inR_lt c3
        exact gs_iret k kt dX6_errorOfChoice_18 (pE3 ⟨(inR_of' (m := 3) rfl (by decide) (by decide) (by assumption) (Int32.not_lt.mpr (by assumption))), c3⟩ c4)
    · refine gs_iconst (v := -1) k (by decide) dX6_errorOfChoice_9 ?_
      refine gs_goto (tgt := 18) k (by decide) dX6_errorOfChoice_10 ?_
      exact gs_iret k kt dX6_errorOfChoice_18 (pE1 (fun h => absurd h.1 (by first | exact inR_n1 (by assumption) | exact inR_n2' (m := 3) rfl (by decide) (by decide) (by assumption) | exact inR_n2' (m := 3) rfl (by decide) (by decide) (Int32.not_le.mp (by assumption)))))

theorem cf_X7_isThere : CF yX7_isThere cX7_isThere 2 (some .boolean) 1 := ⟨cd_X7_isThere, iz_X7, by decide, by decide +kernel, by decide +kernel, by decide +kernel⟩
set_option maxRecDepth 100000 in
set_option maxHeartbeats 4000000 in
theorem c_X7_isThere {l : Launch} {E : Ev} {M : Mm} {n : Nat} {kd : Nat → Int32} {V : Nat → Nat → Int32} (hI : ∀ k, k < 108 → k ∈ E.2.1) (hF : RFn M n kd V) {x : Int32} : Cm l E yX7_isThere cX7_isThere 2 (some .boolean) 2 [.ref (E.2.2.1 65), .int x] M (pB (inR x 6 ∧ ¬ kd (tn x) < 0) M) := by
  refine Cm.of (by decide) (Nat.le_of_ble_eq_true rfl) (fun K k kt => ?_)
  show G l E K 0 [(0, .ref (E.2.2.1 65)), (1, .int x)] [] M
  refine gs_iload_n (q := 1) k rfl rfl dX7_isThere_0 ?_
  refine gs_callS (As := [.int x]) k c_X7_isFunction cf_X7_isFunction sm_X7_isFunction ml_X7_128 (by decide) rfl rfl (Nat.le_of_ble_eq_true rfl) dX7_isThere_1 (ppB (fun c1 => ?_) (fun c1 => ?_))
  · have bc1 := inR_lt c1
    refine gs_if_eq (tgt := 20) k (by decide) dX7_isThere_4 (fun h => absurd h (by decide)) (fun _ => ?_)
    refine gs_aload_n (q := 0) k rfl rfl dX7_isThere_7 ?_
    refine gs_get (C := RX7) (T := TX7) (N := 27) (ci := 7) (k0 := 65) (j := 7) k (hI 65 (by omega)) rfl rfl inX7 (by decide) fl_X7_34 rfl rfl dX7_isThere_8 ?_
    refine gs_iload_n (q := 1) k rfl rfl dX7_isThere_11 ?_
    refine gs_ialdN (k0 := 72) (n := 6) (e := tn x) k (hI 72 (by omega)) (fun _ => rfl) (inR_eq c1) (by omega) (by decide) dX7_isThere_12 ?_
    refine gs_top (y := kd (tn x)) ((hF (tn x) (by omega)).1) ?_
    refine gs_if_lt (tgt := 20) k (by decide) dX7_isThere_13 (fun c2 => ?_) (fun c2 => ?_)
    · refine gs_iconst (v := 0) k (by decide) dX7_isThere_20 ?_
      exact gs_zret k kt (by decide) dX7_isThere_21 (pB0 (fun h => h.2 c2))
    · refine gs_iconst (v := 1) k (by decide) dX7_isThere_16 ?_
      refine gs_goto (tgt := 21) k (by decide) dX7_isThere_17 ?_
      exact gs_zret k kt (by decide) dX7_isThere_21 (pB1 ⟨c1, c2⟩)
  · refine gs_if_eq (tgt := 20) k (by decide) dX7_isThere_4 (fun _ => ?_) (fun h => absurd h (by decide))
    refine gs_iconst (v := 0) k (by decide) dX7_isThere_20 ?_
    exact gs_zret k kt (by decide) dX7_isThere_21 (pB0 (fun h => c1 h.1))

theorem cf_X6_allInRange : CF yX6_allInRange cX6_allInRange 3 (some .boolean) 2 := ⟨cd_X6_allInRange, iz_X6, by decide, by decide +kernel, by decide +kernel, by decide +kernel⟩
set_option maxRecDepth 100000 in
set_option maxHeartbeats 4000000 in
theorem c_X6_allInRange {l : Launch} {E : Ev} {M : Mm} {k0 N : Nat} {y : Int32} (hk : k0 ∈ E.2.1) (he : ∀ r, ent E.2.2.1 E.2.2.2.1 k0 r = ai E.2.2.2.1 64 r) (hy : y = nI N) (hN : N ≤ 64) : Cm l E yX6_allInRange cX6_allInRange 3 (some .boolean) 1 [.ref (E.2.2.1 k0), .int y] M (pB (∀ j, j < N → isV (M k0 j)) M) := by
  refine Cm.of (by decide) (Nat.le_of_ble_eq_true rfl) (fun K k kt => ?_)
  show G l E K 0 [(0, .ref (E.2.2.1 k0)), (1, .int y)] [] M
  refine gs_iconst (v := 0) k (by decide) dX6_allInRange_0 ?_
  refine gs_istore_n (lv' := [(2, .int 0), (0, .ref (E.2.2.1 k0)), (1, .int y)]) k rfl (by decide) rfl dX6_allInRange_1 ?_
  refine gs_lv (lv' := [(0, .ref (E.2.2.1 k0)), (1, .int y), (2, .int 0)]) [1, 2, 0] rfl ?_
  refine for_al (fun i => G l E K 2 [(0, .ref (E.2.2.1 k0)), (1, .int y), (2, .int (nI i))] [] M) (fun i => isV (M k0 i)) N 0 (fun i his hi hBi hGi => ?_) (fun hEi => ?_) N 0 (by omega) (Nat.le_refl _) (fun j h1 h2 => absurd h2 (by omega))
  · show G l E K 2 [(0, .ref (E.2.2.1 k0)), (1, .int y), (2, .int (nI i))] [] M
    refine gs_iload_n (q := 2) k rfl rfl dX6_allInRange_2 ?_
    refine gs_iload_n (q := 1) k rfl rfl dX6_allInRange_3 ?_
    refine gs_icmpN_ge (a := i) (b := N) (tgt := 30) k rfl hy (by omega) (by omega) (by decide) dX6_allInRange_4 (fun c1 => absurd c1 (by omega)) (fun c1 => ?_)
    refine gs_iload_n (q := 2) k rfl rfl dX6_allInRange_7 ?_
    refine gs_aload_n (q := 0) k rfl rfl dX6_allInRange_8 ?_
    refine gs_alen (k0 := k0) (n := 64) k hk (he) rfl dX6_allInRange_9 ?_
    refine gs_icmpN_ge (a := i) (b := 64) (tgt := 30) k rfl rfl (by omega) (by omega) (by decide) dX6_allInRange_10 (fun c2 => absurd c2 (by omega)) (fun c2 => ?_)
    refine gs_aload_n (q := 0) k rfl rfl dX6_allInRange_13 ?_
    refine gs_iload_n (q := 2) k rfl rfl dX6_allInRange_14 ?_
    refine gs_ialdN (k0 := k0) (n := 64) (e := i) k hk (he) rfl (by omega) (by decide) dX6_allInRange_15 ?_
    refine gs_callS (As := [.int (M k0 i)]) k c_X6_isValue cf_X6_isValue sm_X6_isValue ml_X6_104 (by decide) rfl rfl (Nat.le_of_ble_eq_true rfl) dX6_allInRange_16 (ppB (fun c3 => ?_) (fun c3 => ?_))
    · refine gs_if_ne (tgt := 24) k (by decide) dX6_allInRange_19 (fun _ => ?_) (fun h => absurd h (by decide))
      refine gs_iincN (q := 2) (a := i) (c := 1) (lv' := [(2, .int (nI (i + 1))), (0, .ref (E.2.2.1 k0)), (1, .int y)]) k rfl rfl (by decide) rfl dX6_allInRange_24 ?_
      refine gs_goto (tgt := 2) k (by decide) dX6_allInRange_27 ?_
      refine gs_lv (lv' := [(0, .ref (E.2.2.1 k0)), (1, .int y), (2, .int (nI (i + 1)))]) [1, 2, 0] rfl ?_
      exact hGi c3
    · refine gs_if_ne (tgt := 24) k (by decide) dX6_allInRange_19 (fun h => absurd h (by decide)) (fun _ => ?_)
      refine gs_iconst (v := 0) k (by decide) dX6_allInRange_22 ?_
      exact gs_zret k kt (by decide) dX6_allInRange_23 (pB0 (fun h => c3 (h i hi)))
  · show G l E K 2 [(0, .ref (E.2.2.1 k0)), (1, .int y), (2, .int (nI N))] [] M
    refine gs_iload_n (q := 2) k rfl rfl dX6_allInRange_2 ?_
    refine gs_iload_n (q := 1) k rfl rfl dX6_allInRange_3 ?_
    refine gs_icmpN_ge (a := N) (b := N) (tgt := 30) k rfl hy (by omega) (by omega) (by decide) dX6_allInRange_4 (fun c1 => ?_) (fun c1 => absurd c1 (by omega))
    refine gs_iconst (v := 1) k (by decide) dX6_allInRange_30 ?_
    exact gs_zret k kt (by decide) dX6_allInRange_31 (pB1 (fun j h => hEi j (Nat.zero_le _) h))

theorem cf_X7_areValues : CF yX7_areValues cX7_areValues 2 (some .boolean) 0 := ⟨cd_X7_areValues, iz_X7, by decide, by decide +kernel, by decide +kernel, by decide +kernel⟩
set_option maxRecDepth 100000 in
set_option maxHeartbeats 4000000 in
theorem c_X7_areValues {l : Launch} {E : Ev} {M : Mm} {n : Nat} (hI : ∀ k, k < 108 → k ∈ E.2.1) (hn : Rn M n) : Cm l E yX7_areValues cX7_areValues 2 (some .boolean) 2 [.ref (E.2.2.1 65)] M (pB (∀ j, j < 2 ^ n → isV (M 80 j)) M) := by
  refine Cm.of (by decide) (Nat.le_of_ble_eq_true rfl) (fun K k kt => ?_)
  show G l E K 0 [(0, .ref (E.2.2.1 65))] [] M
  obtain ⟨hn0, hn1, hn6⟩ := id hn
  have hp := p2_le6 hn6
  have hp2 := p2_ge2 hn1
  refine gs_iconst (v := 0) k (by decide) dX7_areValues_0 ?_
  refine gs_istore_n (lv' := [(1, .int 0), (0, .ref (E.2.2.1 65))]) k rfl (by decide) rfl dX7_areValues_1 ?_
  refine gs_lv (lv' := [(0, .ref (E.2.2.1 65)), (1, .int 0)]) [1, 0] rfl ?_
  refine for_al (fun i => G l E K 2 [(0, .ref (E.2.2.1 65)), (1, .int (nI i))] [] M) (fun i => isV (M 80 i)) (2 ^ n) 0 (fun i his hi hBi hGi => ?_) (fun hEi => ?_) (2 ^ n) 0 (by omega) (Nat.le_refl _) (fun j h1 h2 => absurd h2 (by omega))
  · show G l E K 2 [(0, .ref (E.2.2.1 65)), (1, .int (nI i))] [] M
    refine gs_iload_n (q := 1) k rfl rfl dX7_areValues_2 ?_
    refine gs_aload_n (q := 0) k rfl rfl dX7_areValues_3 ?_
    refine gs_callV (As := []) (k0 := 65) (ci := 7) (T := TX7) (N := 27) k (c_X7_sets hI hn) cf_X7_sets im_X7_sets sl_X7_sets ml_X7_83 (hI 65 (by omega)) rfl rfl (by decide) rfl rfl (Nat.le_of_ble_eq_true rfl) dX7_areValues_4 (ppI ?_)
    refine gs_icmpN_ge (a := i) (b := 2 ^ n) (tgt := 31) k rfl rfl (by omega) (by omega) (by decide) dX7_areValues_7 (fun c1 => absurd c1 (by omega)) (fun c1 => ?_)
    refine gs_aload_n (q := 0) k rfl rfl dX7_areValues_10 ?_
    refine gs_get (C := RX7) (T := TX7) (N := 27) (ci := 7) (k0 := 65) (j := 9) k (hI 65 (by omega)) rfl rfl inX7 (by decide) fl_X7_42 rfl rfl dX7_areValues_11 ?_
    refine gs_iload_n (q := 1) k rfl rfl dX7_areValues_14 ?_
    refine gs_ialdN (k0 := 80) (n := 64) (e := i) k (hI 80 (by omega)) (fun _ => rfl) rfl (by omega) (by decide) dX7_areValues_15 ?_
    refine gs_i2l k dX7_areValues_16 ?_
    refine gs_callS (As := [.long ((M 80 i).toInt64)]) k (Cm.iff (isBL (a := -999999) (b := 999999) (by decide) (by decide)) c_X7_isValue) cf_X7_isValue sm_X7_isValue ml_X7_135 (by decide) rfl rfl (Nat.le_of_ble_eq_true rfl) dX7_areValues_17 (ppB (fun c2 => ?_) (fun c2 => ?_))
    · refine gs_if_ne (tgt := 25) k (by decide) dX7_areValues_20 (fun _ => ?_) (fun h => absurd h (by decide))
      refine gs_iincN (q := 1) (a := i) (c := 1) (lv' := [(1, .int (nI (i + 1))), (0, .ref (E.2.2.1 65))]) k rfl rfl (by decide) rfl dX7_areValues_25 ?_
      refine gs_goto (tgt := 2) k (by decide) dX7_areValues_28 ?_
      refine gs_lv (lv' := [(0, .ref (E.2.2.1 65)), (1, .int (nI (i + 1)))]) [1, 0] rfl ?_
      exact hGi c2
    · refine gs_if_ne (tgt := 25) k (by decide) dX7_areValues_20 (fun h => absurd h (by decide)) (fun _ => ?_)
      refine gs_iconst (v := 0) k (by decide) dX7_areValues_23 ?_
      exact gs_zret k kt (by decide) dX7_areValues_24 (pB0 (fun h => c2 (h i hi)))
  · show G l E K 2 [(0, .ref (E.2.2.1 65)), (1, .int (nI (2 ^ n)))] [] M
    refine gs_iload_n (q := 1) k rfl rfl dX7_areValues_2 ?_
    refine gs_aload_n (q := 0) k rfl rfl dX7_areValues_3 ?_
    refine gs_callV (As := []) (k0 := 65) (ci := 7) (T := TX7) (N := 27) k (c_X7_sets hI hn) cf_X7_sets im_X7_sets sl_X7_sets ml_X7_83 (hI 65 (by omega)) rfl rfl (by decide) rfl rfl (Nat.le_of_ble_eq_true rfl) dX7_areValues_4 (ppI ?_)
    refine gs_icmpN_ge (a := 2 ^ n) (b := 2 ^ n) (tgt := 31) k rfl rfl (by omega) (by omega) (by decide) dX7_areValues_7 (fun c1 => ?_) (fun c1 => absurd c1 (by omega))
    refine gs_iconst (v := 1) k (by decide) dX7_areValues_31 ?_
    exact gs_zret k kt (by decide) dX7_areValues_32 (pB1 (fun j h => hEi j (Nat.zero_le _) h))

