def fnd {α : Type} (g : Nat → Option α) : Nat → Nat → Option α
  | 0, _ => none
  | k + 1, i => match g i with
    | some a => some a
    | none => fnd g k (i + 1)
theorem fnd_some {α : Type} {g : Nat → Option α} {k i : Nat} {a : α} (h : g i = some a) : fnd g (k + 1) i = some a := by
  show (match g i with | some a => some a | none => fnd g k (i + 1)) = some a
  rw [h]
theorem fnd_none {α : Type} {g : Nat → Option α} {k i : Nat} (h : g i = none) : fnd g (k + 1) i = fnd g k (i + 1) := by
  show (match g i with | some a => some a | none => fnd g k (i + 1)) = _
  rw [h]
theorem for_fnd {α : Type} (F : Nat → Prop) (g : Nat → Option α) (N : Nat) (R : Option α) (hs : ∀ i, i < N → (∀ a, g i = some a → R = some a) → (g i = none → F (i + 1)) → F i) (he : R = none → F N) : ∀ (k i : Nat), i + k = N → fnd g k i = R → F i := by
  intro k
  induction k with
  | zero => intro i h hR; rw [show i = N by omega]; exact he hR.symm
  | succ k ih =>
    intro i h hR
    refine hs i (by omega) (fun a ha => ?_) (fun hn => ?_)
    · rw [← hR, fnd_some ha]
    · exact ih (i + 1) (by omega) (by rw [← hR, fnd_none hn])
/-- gains grow: a counterexample -/
def bad (v : Nat → Int32) (s i j : Nat) : Prop := ¬ i = j ∧ ¬ s.testBit i = true ∧ ¬ s.testBit j = true ∧ gn v s i < gn v (s ||| 2 ^ j) i
def badO (v : Nat → Int32) (s i j : Nat) : Option (Nat × Nat × Nat) := if ¬ i = j ∧ ¬ s.testBit i = true ∧ ¬ s.testBit j = true ∧ gn v s i < gn v (s ||| 2 ^ j) i then some (s, i, j) else none
theorem badO_t {v : Nat → Int32} {s i j : Nat} (h : bad v s i j) : badO v s i j = some (s, i, j) := if_pos h
theorem badO_f {v : Nat → Int32} {s i j : Nat} (h : ¬ bad v s i j) : badO v s i j = none := if_neg h
def bad2 (v : Nat → Int32) (n s i : Nat) : Option (Nat × Nat × Nat) := fnd (fun j => badO v s i j) n 0
def bad1 (v : Nat → Int32) (n s : Nat) : Option (Nat × Nat × Nat) := fnd (fun i => bad2 v n s i) n 0
def bad0 (v : Nat → Int32) (n : Nat) : Option (Nat × Nat × Nat) := fnd (fun s => bad1 v n s) (2 ^ n) 0
def lst (v : Nat → Int32) (n : Nat) : Int32 := lp (fun s t => imin t (v s)) (2 ^ n - 1) 1 (v 0)
/-- all but s -/
theorem ni_allbut {n s : Nat} (hn : n ≤ 6) (hs : s < 2 ^ n) : nI (2 ^ n - 1) &&& (nI s ^^^ -1) = nI (2 ^ n - 1 - s) := by
  have H : ∀ n, n < 7 → ∀ s, s < 2 ^ n → nI (2 ^ n - 1) &&& (nI s ^^^ -1) = nI (2 ^ n - 1 - s) := by decide +kernel
  exact H n (by omega) s hs

theorem cf_X3_gainGrows : CF yX3_gainGrows cX3_gainGrows 4 (some .boolean) 3 := ⟨cd_X3_gainGrows, iz_X3, by decide, by decide +kernel, by decide +kernel, by decide +kernel⟩
set_option maxRecDepth 100000 in
set_option maxHeartbeats 4000000 in
theorem c_X3_gainGrows {l : Launch} {E : Ev} {M : Mm} {n : Nat} {kd : Nat → Int32} {V : Nat → Nat → Int32} (hI : ∀ k, k < 108 → k ∈ E.2.1) (hF : CFn M n kd V) {f : Nat} (hf : f < 6) (hn1 : 1 ≤ n) (hn6 : n ≤ 6) {a b c : Int32} {s i j : Nat} (ha : a = nI s) (hb : b = nI i) (hc : c = nI j) (hs : s < 2 ^ n) (hi : i < n) (hj : j < n) : Cm l E yX3_gainGrows cX3_gainGrows 4 (some .boolean) 1 [.ref (E.2.2.1 (10 + 2 * f)), .int a, .int b, .int c] M (pB (bad (V f) s i j) M) := by
  refine Cm.of (by decide) (Nat.le_of_ble_eq_true rfl) (fun K k kt => ?_)
  show G l E K 0 [(0, .ref (E.2.2.1 (10 + 2 * f))), (1, .int a), (2, .int b), (3, .int c)] [] M
  have hp := p2_le6 hn6
  have hp2 := p2_ge2 hn1
  have ho := orlt hs hj
  refine gs_iload_n (q := 2) k rfl rfl dX3_gainGrows_0 ?_
  refine gs_iload_n (q := 3) k rfl rfl dX3_gainGrows_1 ?_
  refine gs_icmpN_eq (a := i) (b := j) (tgt := 21) k hb hc (by omega) (by omega) (by decide) dX3_gainGrows_2 (fun c1 => ?_) (fun c1 => ?_)
  · refine gs_iconst (v := 0) k (by decide) dX3_gainGrows_21 ?_
    exact gs_zret k kt (by decide) dX3_gainGrows_22 (pB0 (fun q => q.1 c1))
  · refine gs_iload_n (q := 1) k rfl rfl dX3_gainGrows_5 ?_
    refine gs_iload_n (q := 2) k rfl rfl dX3_gainGrows_6 ?_
    refine gs_callH3 (As := [.int a, .int b]) k (c_X6_holds (S := s) (P := i) ha hb (by omega) (by omega)) cf_X6_holds sm_X6_holds (by decide) rfl rfl (Nat.le_of_ble_eq_true rfl) dX3_gainGrows_7 (ppB (fun c2 => ?_) (fun c2 => ?_))
    · refine gs_if_ne (tgt := 21) k (by decide) dX3_gainGrows_10 (fun _ => ?_) (fun h => absurd h (by decide))
      refine gs_iconst (v := 0) k (by decide) dX3_gainGrows_21 ?_
      exact gs_zret k kt (by decide) dX3_gainGrows_22 (pB0 (fun q => q.2.1 c2))
    · refine gs_if_ne (tgt := 21) k (by decide) dX3_gainGrows_10 (fun h => absurd h (by decide)) (fun _ => ?_)
      refine gs_iload_n (q := 1) k rfl rfl dX3_gainGrows_13 ?_
      refine gs_iload_n (q := 3) k rfl rfl dX3_gainGrows_14 ?_
      refine gs_callH3 (As := [.int a, .int c]) k (c_X6_holds (S := s) (P := j) ha hc (by omega) (by omega)) cf_X6_holds sm_X6_holds (by decide) rfl rfl (Nat.le_of_ble_eq_true rfl) dX3_gainGrows_15 (ppB (fun c3 => ?_) (fun c3 => ?_))
      · refine gs_if_eq (tgt := 23) k (by decide) dX3_gainGrows_18 (fun h => absurd h (by decide)) (fun _ => ?_)
        refine gs_iconst (v := 0) k (by decide) dX3_gainGrows_21 ?_
        exact gs_zret k kt (by decide) dX3_gainGrows_22 (pB0 (fun q => q.2.2.1 c3))
      · refine gs_if_eq (tgt := 23) k (by decide) dX3_gainGrows_18 (fun _ => ?_) (fun h => absurd h (by decide))
        refine gs_aload_n (q := 0) k rfl rfl dX3_gainGrows_23 ?_
        refine gs_iload_n (q := 1) k rfl rfl dX3_gainGrows_24 ?_
        refine gs_iload_n (q := 2) k rfl rfl dX3_gainGrows_25 ?_
        refine gs_callV (As := [.int a, .int b]) (k0 := (10 + 2 * f)) (ci := 3) (T := TX3) (N := 2) k (c_X3_gainAt (S := s) (P := i) hI hF hf hn6 ha hb (by omega) (by omega)) cf_X3_gainAt im_X3_gainAt sl_X3_gainAt ml_X3_39 (hI (10 + 2 * f) (by omega)) (ent_F1 hf _) rfl (by decide) rfl rfl (Nat.le_of_ble_eq_true rfl) dX3_gainGrows_26 (ppI ?_)
        refine gs_aload_n (q := 0) k rfl rfl dX3_gainGrows_29 ?_
        refine gs_iload_n (q := 1) k rfl rfl dX3_gainGrows_30 ?_
        refine gs_iconst (v := 1) k (by decide) dX3_gainGrows_31 ?_
        refine gs_iload_n (q := 3) k rfl rfl dX3_gainGrows_32 ?_
        refine gs_ishlN (b := j) k rfl hc (by omega) dX3_gainGrows_33 ?_
        refine gs_iorN (a := s) (b := 2 ^ j) k ha rfl dX3_gainGrows_34 ?_
        refine gs_iload_n (q := 2) k rfl rfl dX3_gainGrows_35 ?_
        refine gs_callV (As := [.int (nI (s ||| (2 ^ j))), .int b]) (k0 := (10 + 2 * f)) (ci := 3) (T := TX3) (N := 2) k (c_X3_gainAt (S := s ||| (2 ^ j)) (P := i) hI hF hf hn6 rfl hb (by omega) (by omega)) cf_X3_gainAt im_X3_gainAt sl_X3_gainAt ml_X3_39 (hI (10 + 2 * f) (by omega)) (ent_F1 hf _) rfl (by decide) rfl rfl (Nat.le_of_ble_eq_true rfl) dX3_gainGrows_36 (ppI ?_)
        refine gs_icmp_ge (tgt := 46) k (by decide) dX3_gainGrows_39 (fun c4 => ?_) (fun c4 => ?_)
        · refine gs_iconst (v := 0) k (by decide) dX3_gainGrows_46 ?_
          exact gs_zret k kt (by decide) dX3_gainGrows_47 (pB0 (fun q => Int32.not_le.mpr q.2.2.2 c4))
        · refine gs_iconst (v := 1) k (by decide) dX3_gainGrows_42 ?_
          refine gs_goto (tgt := 47) k (by decide) dX3_gainGrows_43 ?_
          exact gs_zret k kt (by decide) dX3_gainGrows_47 (pB1 ⟨c1, c2, c3, Int32.not_le.mp c4⟩)

theorem cf_X7_lessens : CF yX7_lessens cX7_lessens 5 (some .boolean) 4 := ⟨cd_X7_lessens, iz_X7, by decide, by decide +kernel, by decide +kernel, by decide +kernel⟩
set_option maxRecDepth 100000 in
set_option maxHeartbeats 4000000 in
theorem c_X7_lessens {l : Launch} {E : Ev} {M : Mm} {n : Nat} {kd : Nat → Int32} {V : Nat → Nat → Int32} (hI : ∀ k, k < 108 → k ∈ E.2.1) (hn : Rn M n) (hF : RFn M n kd V) {z : Int32} {f : Nat} (hz : z = nI f) (hf : f < 6) (ht : ¬ kd f < 0) {a b c : Int32} {s i j : Nat} (ha : a = nI s) (hb : b = nI i) (hc : c = nI j) (hs : s < 2 ^ n) (hi : i < n) (hj : j < n) : Cm l E yX7_lessens cX7_lessens 5 (some .boolean) 1 [.ref (E.2.2.1 65), .int z, .int a, .int b, .int c] M (pB (¬ bad (V f) s i j) M) := by
  refine Cm.of (by decide) (Nat.le_of_ble_eq_true rfl) (fun K k kt => ?_)
  show G l E K 0 [(0, .ref (E.2.2.1 65)), (1, .int z), (2, .int a), (3, .int b), (4, .int c)] [] M
  obtain ⟨hn0, hn1, hn6⟩ := id hn
  have hp := p2_le6 hn6
  have hp2 := p2_ge2 hn1
  have ho := orlt hs hj
  refine gs_iload_n (q := 2) k rfl rfl dX7_lessens_0 ?_
  refine gs_iload_n (q := 3) k rfl rfl dX7_lessens_1 ?_
  refine gs_callS (As := [.int a, .int b]) k (c_X7_has (S := s) (P := i) ha hb (by omega) (by omega)) cf_X7_has sm_X7_has ml_X7_118 (by decide) rfl rfl (Nat.le_of_ble_eq_true rfl) dX7_lessens_2 (ppB (fun c1 => ?_) (fun c1 => ?_))
  · refine gs_if_ne (tgt := 45) k (by decide) dX7_lessens_5 (fun _ => ?_) (fun h => absurd h (by decide))
    refine gs_iconst (v := 1) k (by decide) dX7_lessens_45 ?_
    refine gs_goto (tgt := 50) k (by decide) dX7_lessens_46 ?_
    exact gs_zret k kt (by decide) dX7_lessens_50 (pB1 (fun q => q.2.1 c1))
  · refine gs_if_ne (tgt := 45) k (by decide) dX7_lessens_5 (fun h => absurd h (by decide)) (fun _ => ?_)
    refine gs_iload_n (q := 2) k rfl rfl dX7_lessens_8 ?_
    refine gs_iload (q := 4) k rfl dX7_lessens_9 ?_
    refine gs_callS (As := [.int a, .int c]) k (c_X7_has (S := s) (P := j) ha hc (by omega) (by omega)) cf_X7_has sm_X7_has ml_X7_118 (by decide) rfl rfl (Nat.le_of_ble_eq_true rfl) dX7_lessens_11 (ppB (fun c2 => ?_) (fun c2 => ?_))
    · refine gs_if_ne (tgt := 45) k (by decide) dX7_lessens_14 (fun _ => ?_) (fun h => absurd h (by decide))
      refine gs_iconst (v := 1) k (by decide) dX7_lessens_45 ?_
      refine gs_goto (tgt := 50) k (by decide) dX7_lessens_46 ?_
      exact gs_zret k kt (by decide) dX7_lessens_50 (pB1 (fun q => q.2.2.1 c2))
    · refine gs_if_ne (tgt := 45) k (by decide) dX7_lessens_14 (fun h => absurd h (by decide)) (fun _ => ?_)
      refine gs_iload_n (q := 3) k rfl rfl dX7_lessens_17 ?_
      refine gs_iload (q := 4) k rfl dX7_lessens_18 ?_
      refine gs_icmpN_eq (a := i) (b := j) (tgt := 45) k hb hc (by omega) (by omega) (by decide) dX7_lessens_20 (fun c3 => ?_) (fun c3 => ?_)
      · refine gs_iconst (v := 1) k (by decide) dX7_lessens_45 ?_
        refine gs_goto (tgt := 50) k (by decide) dX7_lessens_46 ?_
        exact gs_zret k kt (by decide) dX7_lessens_50 (pB1 (fun q => q.1 c3))
      · refine gs_aload_n (q := 0) k rfl rfl dX7_lessens_23 ?_
        refine gs_iload_n (q := 1) k rfl rfl dX7_lessens_24 ?_
        refine gs_iload_n (q := 2) k rfl rfl dX7_lessens_25 ?_
        refine gs_iload_n (q := 3) k rfl rfl dX7_lessens_26 ?_
        refine gs_callV (As := [.int z, .int a, .int b]) (k0 := 65) (ci := 7) (T := TX7) (N := 27) k (c_X7_gainOf (f := f) (S := s) (P := i) hI hF hn6 hz (by omega) ht ha hb (by omega) (by omega)) cf_X7_gainOf im_X7_gainOf sl_X7_gainOf ml_X7_169 (hI 65 (by omega)) rfl rfl (by decide) rfl rfl (Nat.le_of_ble_eq_true rfl) dX7_lessens_27 (ppI ?_)
        refine gs_aload_n (q := 0) k rfl rfl dX7_lessens_30 ?_
        refine gs_iload_n (q := 1) k rfl rfl dX7_lessens_31 ?_
        refine gs_iload_n (q := 2) k rfl rfl dX7_lessens_32 ?_
        refine gs_iconst (v := 1) k (by decide) dX7_lessens_33 ?_
        refine gs_iload (q := 4) k rfl dX7_lessens_34 ?_
        refine gs_ishlN (b := j) k rfl hc (by omega) dX7_lessens_36 ?_
        refine gs_iorN (a := s) (b := 2 ^ j) k ha rfl dX7_lessens_37 ?_
        refine gs_iload_n (q := 3) k rfl rfl dX7_lessens_38 ?_
        refine gs_callV (As := [.int z, .int (nI (s ||| (2 ^ j))), .int b]) (k0 := 65) (ci := 7) (T := TX7) (N := 27) k (c_X7_gainOf (f := f) (S := s ||| (2 ^ j)) (P := i) hI hF hn6 hz (by omega) ht rfl hb (by omega) (by omega)) cf_X7_gainOf im_X7_gainOf sl_X7_gainOf ml_X7_169 (hI 65 (by omega)) rfl rfl (by decide) rfl rfl (Nat.le_of_ble_eq_true rfl) dX7_lessens_39 (ppI ?_)
        refine gs_icmp_lt (tgt := 49) k (by decide) dX7_lessens_42 (fun c4 => ?_) (fun c4 => ?_)
        · refine gs_iconst (v := 0) k (by decide) dX7_lessens_49 ?_
          exact gs_zret k kt (by decide) dX7_lessens_50 (pB0 (fun q => q ⟨c3, c1, c2, c4⟩))
        · refine gs_iconst (v := 1) k (by decide) dX7_lessens_45 ?_
          refine gs_goto (tgt := 50) k (by decide) dX7_lessens_46 ?_
          exact gs_zret k kt (by decide) dX7_lessens_50 (pB1 (fun q => c4 q.2.2.2))

def ffC (r : Option (Nat × Nat × Nat)) : Int32 := match r with
  | none => -5
  | some (s, i, j) => nI s ||| nI i <<< ((8 : Int32) &&& 31) ||| nI j <<< ((16 : Int32) &&& 31)
def ffR (r : Option (Nat × Nat × Nat)) : Int32 := match r with
  | none => -5
  | some (s, i, j) => nI (100 * s + 10 * i + j)
theorem cf_X3_firstFailure : CF yX3_firstFailure cX3_firstFailure 5 (some .int) 1 := ⟨cd_X3_firstFailure, iz_X3, by decide, by decide +kernel, by decide +kernel, by decide +kernel⟩
set_option maxRecDepth 100000 in
set_option maxHeartbeats 4000000 in
theorem c_X3_firstFailure {l : Launch} {E : Ev} {M : Mm} {n : Nat} {kd : Nat → Int32} {V : Nat → Nat → Int32} (hI : ∀ k, k < 108 → k ∈ E.2.1) (hF : CFn M n kd V) {f : Nat} (hf : f < 6) (hn1 : 1 ≤ n) (hn6 : n ≤ 6) {y : Int32} (hy : y = nI n) : Cm l E yX3_firstFailure cX3_firstFailure 5 (some .int) 2 [.ref (E.2.2.1 (10 + 2 * f)), .int y] M (pI (ffC (bad0 (V f) n)) M) := by
  refine Cm.of (by decide) (Nat.le_of_ble_eq_true rfl) (fun K k kt => ?_)
  show G l E K 0 [(0, .ref (E.2.2.1 (10 + 2 * f))), (1, .int y)] [] M
  have hp := p2_le6 hn6
  have hp2 := p2_ge2 hn1
  refine gs_iconst (v := 0) k (by decide) dX3_firstFailure_0 ?_
  refine gs_istore_n (lv' := [(2, .int 0), (0, .ref (E.2.2.1 (10 + 2 * f))), (1, .int y)]) k rfl (by decide) rfl dX3_firstFailure_1 ?_
  refine gs_lv (lv' := [(0, .ref (E.2.2.1 (10 + 2 * f))), (1, .int y), (2, .int 0)]) [1, 2, 0] rfl ?_
  refine for_fnd (fun s => G l E K 2 [(0, .ref (E.2.2.1 (10 + 2 * f))), (1, .int y), (2, .int (nI s))] [] M) (fun s => bad1 (V f) n s) (2 ^ n) (bad0 (V f) n) (fun s hs hXs hNs => ?_) (fun hEs => ?_) (2 ^ n) 0 (by omega) rfl
  · show G l E K 2 [(0, .ref (E.2.2.1 (10 + 2 * f))), (1, .int y), (2, .int (nI s))] [] M
    refine gs_iload_n (q := 2) k rfl rfl dX3_firstFailure_2 ?_
    refine gs_iconst (v := 1) k (by decide) dX3_firstFailure_3 ?_
    refine gs_iload_n (q := 1) k rfl rfl dX3_firstFailure_4 ?_
    refine gs_ishlN (b := n) k rfl hy (by omega) dX3_firstFailure_5 ?_
    refine gs_icmpN_ge (a := s) (b := 2 ^ n) (tgt := 67) k rfl rfl (by omega) (by omega) (by decide) dX3_firstFailure_6 (fun c1 => absurd c1 (by omega)) (fun c1 => ?_)
    refine gs_iconst (v := 0) k (by decide) dX3_firstFailure_9 ?_
    refine gs_istore_n (lv' := [(3, .int 0), (0, .ref (E.2.2.1 (10 + 2 * f))), (1, .int y), (2, .int (nI s))]) k rfl (by decide) rfl dX3_firstFailure_10 ?_
    refine gs_lv (lv' := [(0, .ref (E.2.2.1 (10 + 2 * f))), (1, .int y), (2, .int (nI s)), (3, .int 0)]) [1, 2, 3, 0] rfl ?_
    refine for_fnd (fun i => G l E K 11 [(0, .ref (E.2.2.1 (10 + 2 * f))), (1, .int y), (2, .int (nI s)), (3, .int (nI i))] [] M) (fun i => bad2 (V f) n s i) n (bad1 (V f) n s) (fun i hi hXi hNi => ?_) (fun hEi => ?_) n 0 (by omega) rfl
    · show G l E K 11 [(0, .ref (E.2.2.1 (10 + 2 * f))), (1, .int y), (2, .int (nI s)), (3, .int (nI i))] [] M
      refine gs_iload_n (q := 3) k rfl rfl dX3_firstFailure_11 ?_
      refine gs_iload_n (q := 1) k rfl rfl dX3_firstFailure_12 ?_
      refine gs_icmpN_ge (a := i) (b := n) (tgt := 61) k rfl hy (by omega) (by omega) (by decide) dX3_firstFailure_13 (fun c2 => absurd c2 (by omega)) (fun c2 => ?_)
      refine gs_iconst (v := 0) k (by decide) dX3_firstFailure_16 ?_
      refine gs_istore (lv' := [(4, .int 0), (0, .ref (E.2.2.1 (10 + 2 * f))), (1, .int y), (2, .int (nI s)), (3, .int (nI i))]) k (by decide) rfl dX3_firstFailure_17 ?_
      refine gs_lv (lv' := [(0, .ref (E.2.2.1 (10 + 2 * f))), (1, .int y), (2, .int (nI s)), (3, .int (nI i)), (4, .int 0)]) [1, 2, 3, 4, 0] rfl ?_
      refine for_fnd (fun j => G l E K 19 [(0, .ref (E.2.2.1 (10 + 2 * f))), (1, .int y), (2, .int (nI s)), (3, .int (nI i)), (4, .int (nI j))] [] M) (fun j => badO (V f) s i j) n (bad2 (V f) n s i) (fun j hj hXj hNj => ?_) (fun hEj => ?_) n 0 (by omega) rfl
      · show G l E K 19 [(0, .ref (E.2.2.1 (10 + 2 * f))), (1, .int y), (2, .int (nI s)), (3, .int (nI i)), (4, .int (nI j))] [] M
        refine gs_iload (q := 4) k rfl dX3_firstFailure_19 ?_
        refine gs_iload_n (q := 1) k rfl rfl dX3_firstFailure_21 ?_
        refine gs_icmpN_ge (a := j) (b := n) (tgt := 55) k rfl hy (by omega) (by omega) (by decide) dX3_firstFailure_22 (fun c3 => absurd c3 (by omega)) (fun c3 => ?_)
        refine gs_aload_n (q := 0) k rfl rfl dX3_firstFailure_25 ?_
        refine gs_iload_n (q := 2) k rfl rfl dX3_firstFailure_26 ?_
        refine gs_iload_n (q := 3) k rfl rfl dX3_firstFailure_27 ?_
        refine gs_iload (q := 4) k rfl dX3_firstFailure_28 ?_
        refine gs_callV (As := [.int (nI s), .int (nI i), .int (nI j)]) (k0 := (10 + 2 * f)) (ci := 3) (T := TX3) (N := 2) k (c_X3_gainGrows (s := s) (i := i) (j := j) hI hF hf hn1 hn6 rfl rfl rfl (by omega) (by omega) (by omega)) cf_X3_gainGrows im_X3_gainGrows sl_X3_gainGrows ml_X3_31 (hI (10 + 2 * f) (by omega)) (ent_F1 hf _) rfl (by decide) rfl rfl (Nat.le_of_ble_eq_true rfl) dX3_firstFailure_30 (ppB (fun c4 => ?_) (fun c4 => ?_))
        · refine gs_if_eq (tgt := 49) k (by decide) dX3_firstFailure_33 (fun h => absurd h (by decide)) (fun _ => ?_)
          refine gs_iload_n (q := 2) k rfl rfl dX3_firstFailure_36 ?_
          refine gs_iload_n (q := 3) k rfl rfl dX3_firstFailure_37 ?_
          refine gs_bipush (v := 8) k (by decide) dX3_firstFailure_38 ?_
          refine gs_ishl k dX3_firstFailure_40 ?_
          refine gs_ior k dX3_firstFailure_41 ?_
          refine gs_iload (q := 4) k rfl dX3_firstFailure_42 ?_
          refine gs_bipush (v := 16) k (by decide) dX3_firstFailure_44 ?_
          refine gs_ishl k dX3_firstFailure_46 ?_
          refine gs_ior k dX3_firstFailure_47 ?_
          exact gs_iret k kt dX3_firstFailure_48 ⟨(by rw [hXs _ (hXi _ (hXj _ (badO_t c4)))]; rfl), rfl⟩
        · refine gs_if_eq (tgt := 49) k (by decide) dX3_firstFailure_33 (fun _ => ?_) (fun h => absurd h (by decide))
          refine gs_iincN (q := 4) (a := j) (c := 1) (lv' := [(4, .int (nI (j + 1))), (0, .ref (E.2.2.1 (10 + 2 * f))), (1, .int y), (2, .int (nI s)), (3, .int (nI i))]) k rfl rfl (by decide) rfl dX3_firstFailure_49 ?_
          refine gs_goto (tgt := 19) k (by decide) dX3_firstFailure_52 ?_
          refine gs_lv (lv' := [(0, .ref (E.2.2.1 (10 + 2 * f))), (1, .int y), (2, .int (nI s)), (3, .int (nI i)), (4, .int (nI (j + 1)))]) [1, 2, 3, 4, 0] rfl ?_
          exact hNj (badO_f c4)
      · show G l E K 19 [(0, .ref (E.2.2.1 (10 + 2 * f))), (1, .int y), (2, .int (nI s)), (3, .int (nI i)), (4, .int (nI n))] [] M
        refine gs_iload (q := 4) k rfl dX3_firstFailure_19 ?_
        refine gs_iload_n (q := 1) k rfl rfl dX3_firstFailure_21 ?_
        refine gs_icmpN_ge (a := n) (b := n) (tgt := 55) k rfl hy (by omega) (by omega) (by decide) dX3_firstFailure_22 (fun c3 => ?_) (fun c3 => absurd c3 (by omega))
        refine gs_iincN (q := 3) (a := i) (c := 1) (lv' := [(3, .int (nI (i + 1))), (0, .ref (E.2.2.1 (10 + 2 * f))), (1, .int y), (2, .int (nI s)), (4, .int (nI n))]) k rfl rfl (by decide) rfl dX3_firstFailure_55 ?_
        refine gs_goto (tgt := 11) k (by decide) dX3_firstFailure_58 ?_
        refine gs_lv (lv' := [(0, .ref (E.2.2.1 (10 + 2 * f))), (1, .int y), (2, .int (nI s)), (3, .int (nI (i + 1))), (4, .int (nI n))]) [1, 2, 3, 0, 4] rfl ?_
        refine gs_lv (lv' := [(0, .ref (E.2.2.1 (10 + 2 * f))), (1, .int y), (2, .int (nI s)), (3, .int (nI (i + 1)))]) [0, 1, 2, 3] rfl ?_
        exact hNi hEj
    · show G l E K 11 [(0, .ref (E.2.2.1 (10 + 2 * f))), (1, .int y), (2, .int (nI s)), (3, .int (nI n))] [] M
      refine gs_iload_n (q := 3) k rfl rfl dX3_firstFailure_11 ?_
      refine gs_iload_n (q := 1) k rfl rfl dX3_firstFailure_12 ?_
      refine gs_icmpN_ge (a := n) (b := n) (tgt := 61) k rfl hy (by omega) (by omega) (by decide) dX3_firstFailure_13 (fun c2 => ?_) (fun c2 => absurd c2 (by omega))
      refine gs_iincN (q := 2) (a := s) (c := 1) (lv' := [(2, .int (nI (s + 1))), (0, .ref (E.2.2.1 (10 + 2 * f))), (1, .int y), (3, .int (nI n))]) k rfl rfl (by decide) rfl dX3_firstFailure_61 ?_
      refine gs_goto (tgt := 2) k (by decide) dX3_firstFailure_64 ?_
      refine gs_lv (lv' := [(0, .ref (E.2.2.1 (10 + 2 * f))), (1, .int y), (2, .int (nI (s + 1))), (3, .int (nI n))]) [1, 2, 0, 3] rfl ?_
      refine gs_lv (lv' := [(0, .ref (E.2.2.1 (10 + 2 * f))), (1, .int y), (2, .int (nI (s + 1)))]) [0, 1, 2] rfl ?_
      exact hNs hEi
  · show G l E K 2 [(0, .ref (E.2.2.1 (10 + 2 * f))), (1, .int y), (2, .int (nI (2 ^ n)))] [] M
    refine gs_iload_n (q := 2) k rfl rfl dX3_firstFailure_2 ?_
    refine gs_iconst (v := 1) k (by decide) dX3_firstFailure_3 ?_
    refine gs_iload_n (q := 1) k rfl rfl dX3_firstFailure_4 ?_
    refine gs_ishlN (b := n) k rfl hy (by omega) dX3_firstFailure_5 ?_
    refine gs_icmpN_ge (a := 2 ^ n) (b := 2 ^ n) (tgt := 67) k rfl rfl (by omega) (by omega) (by decide) dX3_firstFailure_6 (fun c1 => ?_) (fun c1 => absurd c1 (by omega))
    refine gs_bipush (v := -5) k (by decide) dX3_firstFailure_67 ?_
    exact gs_iret k kt dX3_firstFailure_69 ⟨(by rw [hEs]; rfl), rfl⟩

theorem cf_X7_failing : CF yX7_failing cX7_failing 5 (some .int) 1 := ⟨cd_X7_failing, iz_X7, by decide, by decide +kernel, by decide +kernel, by decide +kernel⟩
set_option maxRecDepth 100000 in
set_option maxHeartbeats 4000000 in
theorem c_X7_failing {l : Launch} {E : Ev} {M : Mm} {n : Nat} {kd : Nat → Int32} {V : Nat → Nat → Int32} (hI : ∀ k, k < 108 → k ∈ E.2.1) (hn : Rn M n) (hF : RFn M n kd V) {z : Int32} {f : Nat} (hz : z = nI f) (hf : f < 6) (ht : ¬ kd f < 0) : Cm l E yX7_failing cX7_failing 5 (some .int) 2 [.ref (E.2.2.1 65), .int z] M (pI (ffR (bad0 (V f) n)) M) := by
  refine Cm.of (by decide) (Nat.le_of_ble_eq_true rfl) (fun K k kt => ?_)
  show G l E K 0 [(0, .ref (E.2.2.1 65)), (1, .int z)] [] M
  obtain ⟨hn0, hn1, hn6⟩ := id hn
  have hp := p2_le6 hn6
  have hp2 := p2_ge2 hn1
  refine gs_iconst (v := 0) k (by decide) dX7_failing_0 ?_
  refine gs_istore_n (lv' := [(2, .int 0), (0, .ref (E.2.2.1 65)), (1, .int z)]) k rfl (by decide) rfl dX7_failing_1 ?_
  refine gs_lv (lv' := [(0, .ref (E.2.2.1 65)), (1, .int z), (2, .int 0)]) [1, 2, 0] rfl ?_
  refine for_fnd (fun s => G l E K 2 [(0, .ref (E.2.2.1 65)), (1, .int z), (2, .int (nI s))] [] M) (fun s => bad1 (V f) n s) (2 ^ n) (bad0 (V f) n) (fun s hs hXs hNs => ?_) (fun hEs => ?_) (2 ^ n) 0 (by omega) rfl
  · show G l E K 2 [(0, .ref (E.2.2.1 65)), (1, .int z), (2, .int (nI s))] [] M
    refine gs_iload_n (q := 2) k rfl rfl dX7_failing_2 ?_
    refine gs_aload_n (q := 0) k rfl rfl dX7_failing_3 ?_
    refine gs_callV (As := []) (k0 := 65) (ci := 7) (T := TX7) (N := 27) k (c_X7_sets hI hn) cf_X7_sets im_X7_sets sl_X7_sets ml_X7_83 (hI 65 (by omega)) rfl rfl (by decide) rfl rfl (Nat.le_of_ble_eq_true rfl) dX7_failing_4 (ppI ?_)
    refine gs_icmpN_ge (a := s) (b := 2 ^ n) (tgt := 75) k rfl rfl (by omega) (by omega) (by decide) dX7_failing_7 (fun c1 => absurd c1 (by omega)) (fun c1 => ?_)
    refine gs_iconst (v := 0) k (by decide) dX7_failing_10 ?_
    refine gs_istore_n (lv' := [(3, .int 0), (0, .ref (E.2.2.1 65)), (1, .int z), (2, .int (nI s))]) k rfl (by decide) rfl dX7_failing_11 ?_
    refine gs_lv (lv' := [(0, .ref (E.2.2.1 65)), (1, .int z), (2, .int (nI s)), (3, .int 0)]) [1, 2, 3, 0] rfl ?_
    refine for_fnd (fun i => G l E K 12 [(0, .ref (E.2.2.1 65)), (1, .int z), (2, .int (nI s)), (3, .int (nI i))] [] M) (fun i => bad2 (V f) n s i) n (bad1 (V f) n s) (fun i hi hXi hNi => ?_) (fun hEi => ?_) n 0 (by omega) rfl
    · show G l E K 12 [(0, .ref (E.2.2.1 65)), (1, .int z), (2, .int (nI s)), (3, .int (nI i))] [] M
      refine gs_iload_n (q := 3) k rfl rfl dX7_failing_12 ?_
      refine gs_aload_n (q := 0) k rfl rfl dX7_failing_13 ?_
      refine gs_get (C := RX7) (T := TX7) (N := 27) (ci := 7) (k0 := 65) (j := 0) k (hI 65 (by omega)) rfl rfl inX7 (by decide) fl_X7_9 rfl rfl dX7_failing_14 ?_
      refine gs_icmpN_ge (a := i) (b := n) (tgt := 69) k rfl hn0 (by omega) (by omega) (by decide) dX7_failing_17 (fun c2 => absurd c2 (by omega)) (fun c2 => ?_)
      refine gs_iconst (v := 0) k (by decide) dX7_failing_20 ?_
      refine gs_istore (lv' := [(4, .int 0), (0, .ref (E.2.2.1 65)), (1, .int z), (2, .int (nI s)), (3, .int (nI i))]) k (by decide) rfl dX7_failing_21 ?_
      refine gs_lv (lv' := [(0, .ref (E.2.2.1 65)), (1, .int z), (2, .int (nI s)), (3, .int (nI i)), (4, .int 0)]) [1, 2, 3, 4, 0] rfl ?_
      refine for_fnd (fun j => G l E K 23 [(0, .ref (E.2.2.1 65)), (1, .int z), (2, .int (nI s)), (3, .int (nI i)), (4, .int (nI j))] [] M) (fun j => badO (V f) s i j) n (bad2 (V f) n s i) (fun j hj hXj hNj => ?_) (fun hEj => ?_) n 0 (by omega) rfl
      · show G l E K 23 [(0, .ref (E.2.2.1 65)), (1, .int z), (2, .int (nI s)), (3, .int (nI i)), (4, .int (nI j))] [] M
        refine gs_iload (q := 4) k rfl dX7_failing_23 ?_
        refine gs_aload_n (q := 0) k rfl rfl dX7_failing_25 ?_
        refine gs_get (C := RX7) (T := TX7) (N := 27) (ci := 7) (k0 := 65) (j := 0) k (hI 65 (by omega)) rfl rfl inX7 (by decide) fl_X7_9 rfl rfl dX7_failing_26 ?_
        refine gs_icmpN_ge (a := j) (b := n) (tgt := 63) k rfl hn0 (by omega) (by omega) (by decide) dX7_failing_29 (fun c3 => absurd c3 (by omega)) (fun c3 => ?_)
        refine gs_aload_n (q := 0) k rfl rfl dX7_failing_32 ?_
        refine gs_iload_n (q := 1) k rfl rfl dX7_failing_33 ?_
        refine gs_iload_n (q := 2) k rfl rfl dX7_failing_34 ?_
        refine gs_iload_n (q := 3) k rfl rfl dX7_failing_35 ?_
        refine gs_iload (q := 4) k rfl dX7_failing_36 ?_
        refine gs_callV (As := [.int z, .int (nI s), .int (nI i), .int (nI j)]) (k0 := 65) (ci := 7) (T := TX7) (N := 27) k (c_X7_lessens (f := f) (s := s) (i := i) (j := j) hI hn hF hz (by omega) ht rfl rfl rfl (by omega) (by omega) (by omega)) cf_X7_lessens im_X7_lessens sl_X7_lessens ml_X7_172 (hI 65 (by omega)) rfl rfl (by decide) rfl rfl (Nat.le_of_ble_eq_true rfl) dX7_failing_38 (ppB (fun c4 => ?_) (fun c4 => ?_))
        · refine gs_if_ne (tgt := 57) k (by decide) dX7_failing_41 (fun _ => ?_) (fun h => absurd h (by decide))
          refine gs_iincN (q := 4) (a := j) (c := 1) (lv' := [(4, .int (nI (j + 1))), (0, .ref (E.2.2.1 65)), (1, .int z), (2, .int (nI s)), (3, .int (nI i))]) k rfl rfl (by decide) rfl dX7_failing_57 ?_
          refine gs_goto (tgt := 23) k (by decide) dX7_failing_60 ?_
          refine gs_lv (lv' := [(0, .ref (E.2.2.1 65)), (1, .int z), (2, .int (nI s)), (3, .int (nI i)), (4, .int (nI (j + 1)))]) [1, 2, 3, 4, 0] rfl ?_
          exact hNj (badO_f c4)
        · refine gs_if_ne (tgt := 57) k (by decide) dX7_failing_41 (fun h => absurd h (by decide)) (fun _ => ?_)
          refine gs_bipush (v := 100) k (by decide) dX7_failing_44 ?_
          refine gs_iload_n (q := 2) k rfl rfl dX7_failing_46 ?_
          refine gs_imulN (a := 100) (b := s) k rfl rfl dX7_failing_47 ?_
          refine gs_bipush (v := 10) k (by decide) dX7_failing_48 ?_
          refine gs_iload_n (q := 3) k rfl rfl dX7_failing_50 ?_
          refine gs_imulN (a := 10) (b := i) k rfl rfl dX7_failing_51 ?_
          refine gs_iaddN (a := 100 * s) (b := 10 * i) k rfl rfl dX7_failing_52 ?_
          refine gs_iload (q := 4) k rfl dX7_failing_53 ?_
          refine gs_iaddN (a := (100 * s) + (10 * i)) (b := j) k rfl rfl dX7_failing_55 ?_
          exact gs_iret k kt dX7_failing_56 ⟨(by rw [hXs _ (hXi _ (hXj _ (badO_t (Classical.not_not.mp c4))))]; rfl), rfl⟩
      · show G l E K 23 [(0, .ref (E.2.2.1 65)), (1, .int z), (2, .int (nI s)), (3, .int (nI i)), (4, .int (nI n))] [] M
        refine gs_iload (q := 4) k rfl dX7_failing_23 ?_
        refine gs_aload_n (q := 0) k rfl rfl dX7_failing_25 ?_
        refine gs_get (C := RX7) (T := TX7) (N := 27) (ci := 7) (k0 := 65) (j := 0) k (hI 65 (by omega)) rfl rfl inX7 (by decide) fl_X7_9 rfl rfl dX7_failing_26 ?_
        refine gs_icmpN_ge (a := n) (b := n) (tgt := 63) k rfl hn0 (by omega) (by omega) (by decide) dX7_failing_29 (fun c3 => ?_) (fun c3 => absurd c3 (by omega))
        refine gs_iincN (q := 3) (a := i) (c := 1) (lv' := [(3, .int (nI (i + 1))), (0, .ref (E.2.2.1 65)), (1, .int z), (2, .int (nI s)), (4, .int (nI n))]) k rfl rfl (by decide) rfl dX7_failing_63 ?_
        refine gs_goto (tgt := 12) k (by decide) dX7_failing_66 ?_
        refine gs_lv (lv' := [(0, .ref (E.2.2.1 65)), (1, .int z), (2, .int (nI s)), (3, .int (nI (i + 1))), (4, .int (nI n))]) [1, 2, 3, 0, 4] rfl ?_
        refine gs_lv (lv' := [(0, .ref (E.2.2.1 65)), (1, .int z), (2, .int (nI s)), (3, .int (nI (i + 1)))]) [0, 1, 2, 3] rfl ?_
        exact hNi hEj
    · show G l E K 12 [(0, .ref (E.2.2.1 65)), (1, .int z), (2, .int (nI s)), (3, .int (nI n))] [] M
      refine gs_iload_n (q := 3) k rfl rfl dX7_failing_12 ?_
      refine gs_aload_n (q := 0) k rfl rfl dX7_failing_13 ?_
      refine gs_get (C := RX7) (T := TX7) (N := 27) (ci := 7) (k0 := 65) (j := 0) k (hI 65 (by omega)) rfl rfl inX7 (by decide) fl_X7_9 rfl rfl dX7_failing_14 ?_
      refine gs_icmpN_ge (a := n) (b := n) (tgt := 69) k rfl hn0 (by omega) (by omega) (by decide) dX7_failing_17 (fun c2 => ?_) (fun c2 => absurd c2 (by omega))
      refine gs_iincN (q := 2) (a := s) (c := 1) (lv' := [(2, .int (nI (s + 1))), (0, .ref (E.2.2.1 65)), (1, .int z), (3, .int (nI n))]) k rfl rfl (by decide) rfl dX7_failing_69 ?_
      refine gs_goto (tgt := 2) k (by decide) dX7_failing_72 ?_
      refine gs_lv (lv' := [(0, .ref (E.2.2.1 65)), (1, .int z), (2, .int (nI (s + 1))), (3, .int (nI n))]) [1, 2, 0, 3] rfl ?_
      refine gs_lv (lv' := [(0, .ref (E.2.2.1 65)), (1, .int z), (2, .int (nI (s + 1)))]) [0, 1, 2] rfl ?_
      exact hNs hEi
  · show G l E K 2 [(0, .ref (E.2.2.1 65)), (1, .int z), (2, .int (nI (2 ^ n)))] [] M
    refine gs_iload_n (q := 2) k rfl rfl dX7_failing_2 ?_
    refine gs_aload_n (q := 0) k rfl rfl dX7_failing_3 ?_
    refine gs_callV (As := []) (k0 := 65) (ci := 7) (T := TX7) (N := 27) k (c_X7_sets hI hn) cf_X7_sets im_X7_sets sl_X7_sets ml_X7_83 (hI 65 (by omega)) rfl rfl (by decide) rfl rfl (Nat.le_of_ble_eq_true rfl) dX7_failing_4 (ppI ?_)
    refine gs_icmpN_ge (a := 2 ^ n) (b := 2 ^ n) (tgt := 75) k rfl rfl (by omega) (by omega) (by decide) dX7_failing_7 (fun c1 => ?_) (fun c1 => absurd c1 (by omega))
    refine gs_bipush (v := -5) k (by decide) dX7_failing_75 ?_
    exact gs_iret k kt dX7_failing_77 ⟨(by rw [hEs]; rfl), rfl⟩

theorem cf_X3_isIncreasing : CF yX3_isIncreasing cX3_isIncreasing 4 (some .boolean) 1 := ⟨cd_X3_isIncreasing, iz_X3, by decide, by decide +kernel, by decide +kernel, by decide +kernel⟩
set_option maxRecDepth 100000 in
set_option maxHeartbeats 4000000 in
theorem c_X3_isIncreasing {l : Launch} {E : Ev} {M : Mm} {n : Nat} {kd : Nat → Int32} {V : Nat → Nat → Int32} (hI : ∀ k, k < 108 → k ∈ E.2.1) (hF : CFn M n kd V) {f : Nat} (hf : f < 6) (hn1 : 1 ≤ n) (hn6 : n ≤ 6) {y : Int32} (hy : y = nI n) : Cm l E yX3_isIncreasing cX3_isIncreasing 4 (some .boolean) 1 [.ref (E.2.2.1 (10 + 2 * f)), .int y] M (pB (∀ s, s < 2 ^ n → ∀ p, p < n → ¬ gn (V f) s p < 0) M) := by
  refine Cm.of (by decide) (Nat.le_of_ble_eq_true rfl) (fun K k kt => ?_)
  show G l E K 0 [(0, .ref (E.2.2.1 (10 + 2 * f))), (1, .int y)] [] M
  have hp := p2_le6 hn6
  have hp2 := p2_ge2 hn1
  refine gs_iconst (v := 0) k (by decide) dX3_isIncreasing_0 ?_
  refine gs_istore_n (lv' := [(2, .int 0), (0, .ref (E.2.2.1 (10 + 2 * f))), (1, .int y)]) k rfl (by decide) rfl dX3_isIncreasing_1 ?_
  refine gs_lv (lv' := [(0, .ref (E.2.2.1 (10 + 2 * f))), (1, .int y), (2, .int 0)]) [1, 2, 0] rfl ?_
  refine for_al (fun s => G l E K 2 [(0, .ref (E.2.2.1 (10 + 2 * f))), (1, .int y), (2, .int (nI s))] [] M) (fun s => ∀ p, 0 ≤ p → p < n → ¬ gn (V f) s p < 0) (2 ^ n) 0 (fun s hss hs hBs hGs => ?_) (fun hEs => ?_) (2 ^ n) 0 (by omega) (Nat.le_refl _) (fun j h1 h2 => absurd h2 (by omega))
  · show G l E K 2 [(0, .ref (E.2.2.1 (10 + 2 * f))), (1, .int y), (2, .int (nI s))] [] M
    refine gs_iload_n (q := 2) k rfl rfl dX3_isIncreasing_2 ?_
    refine gs_iconst (v := 1) k (by decide) dX3_isIncreasing_3 ?_
    refine gs_iload_n (q := 1) k rfl rfl dX3_isIncreasing_4 ?_
    refine gs_ishlN (b := n) k rfl hy (by omega) dX3_isIncreasing_5 ?_
    refine gs_icmpN_ge (a := s) (b := 2 ^ n) (tgt := 39) k rfl rfl (by omega) (by omega) (by decide) dX3_isIncreasing_6 (fun c1 => absurd c1 (by omega)) (fun c1 => ?_)
    refine gs_iconst (v := 0) k (by decide) dX3_isIncreasing_9 ?_
    refine gs_istore_n (lv' := [(3, .int 0), (0, .ref (E.2.2.1 (10 + 2 * f))), (1, .int y), (2, .int (nI s))]) k rfl (by decide) rfl dX3_isIncreasing_10 ?_
    refine gs_lv (lv' := [(0, .ref (E.2.2.1 (10 + 2 * f))), (1, .int y), (2, .int (nI s)), (3, .int 0)]) [1, 2, 3, 0] rfl ?_
    refine for_al (fun p => G l E K 11 [(0, .ref (E.2.2.1 (10 + 2 * f))), (1, .int y), (2, .int (nI s)), (3, .int (nI p))] [] M) (fun p => ¬ gn (V f) s p < 0) n 0 (fun p hps hp hBp hGp => ?_) (fun hEp => ?_) n 0 (by omega) (Nat.le_refl _) (fun j h1 h2 => absurd h2 (by omega))
    · show G l E K 11 [(0, .ref (E.2.2.1 (10 + 2 * f))), (1, .int y), (2, .int (nI s)), (3, .int (nI p))] [] M
      refine gs_iload_n (q := 3) k rfl rfl dX3_isIncreasing_11 ?_
      refine gs_iload_n (q := 1) k rfl rfl dX3_isIncreasing_12 ?_
      refine gs_icmpN_ge (a := p) (b := n) (tgt := 33) k rfl hy (by omega) (by omega) (by decide) dX3_isIncreasing_13 (fun c2 => absurd c2 (by omega)) (fun c2 => ?_)
      refine gs_aload_n (q := 0) k rfl rfl dX3_isIncreasing_16 ?_
      refine gs_iload_n (q := 2) k rfl rfl dX3_isIncreasing_17 ?_
      refine gs_iload_n (q := 3) k rfl rfl dX3_isIncreasing_18 ?_
      refine gs_callV (As := [.int (nI s), .int (nI p)]) (k0 := (10 + 2 * f)) (ci := 3) (T := TX3) (N := 2) k (c_X3_gainAt (S := s) (P := p) hI hF hf hn6 rfl rfl (by omega) (by omega)) cf_X3_gainAt im_X3_gainAt sl_X3_gainAt ml_X3_39 (hI (10 + 2 * f) (by omega)) (ent_F1 hf _) rfl (by decide) rfl rfl (Nat.le_of_ble_eq_true rfl) dX3_isIncreasing_19 (ppI ?_)
      refine gs_if_ge (tgt := 27) k (by decide) dX3_isIncreasing_22 (fun c3 => ?_) (fun c3 => ?_)
      · refine gs_iincN (q := 3) (a := p) (c := 1) (lv' := [(3, .int (nI (p + 1))), (0, .ref (E.2.2.1 (10 + 2 * f))), (1, .int y), (2, .int (nI s))]) k rfl rfl (by decide) rfl dX3_isIncreasing_27 ?_
        refine gs_goto (tgt := 11) k (by decide) dX3_isIncreasing_30 ?_
        refine gs_lv (lv' := [(0, .ref (E.2.2.1 (10 + 2 * f))), (1, .int y), (2, .int (nI s)), (3, .int (nI (p + 1)))]) [1, 2, 3, 0] rfl ?_
        exact hGp (Int32.not_lt.mpr c3)
      · refine gs_iconst (v := 0) k (by decide) dX3_isIncreasing_25 ?_
        exact gs_zret k kt (by decide) dX3_isIncreasing_26 (pB0 (fun q => q s hs p hp (Int32.not_le.mp c3)))
    · show G l E K 11 [(0, .ref (E.2.2.1 (10 + 2 * f))), (1, .int y), (2, .int (nI s)), (3, .int (nI n))] [] M
      refine gs_iload_n (q := 3) k rfl rfl dX3_isIncreasing_11 ?_
      refine gs_iload_n (q := 1) k rfl rfl dX3_isIncreasing_12 ?_
      refine gs_icmpN_ge (a := n) (b := n) (tgt := 33) k rfl hy (by omega) (by omega) (by decide) dX3_isIncreasing_13 (fun c2 => ?_) (fun c2 => absurd c2 (by omega))
      refine gs_iincN (q := 2) (a := s) (c := 1) (lv' := [(2, .int (nI (s + 1))), (0, .ref (E.2.2.1 (10 + 2 * f))), (1, .int y), (3, .int (nI n))]) k rfl rfl (by decide) rfl dX3_isIncreasing_33 ?_
      refine gs_goto (tgt := 2) k (by decide) dX3_isIncreasing_36 ?_
      refine gs_lv (lv' := [(0, .ref (E.2.2.1 (10 + 2 * f))), (1, .int y), (2, .int (nI (s + 1))), (3, .int (nI n))]) [1, 2, 0, 3] rfl ?_
      refine gs_lv (lv' := [(0, .ref (E.2.2.1 (10 + 2 * f))), (1, .int y), (2, .int (nI (s + 1)))]) [0, 1, 2] rfl ?_
      exact hGs hEp
  · show G l E K 2 [(0, .ref (E.2.2.1 (10 + 2 * f))), (1, .int y), (2, .int (nI (2 ^ n)))] [] M
    refine gs_iload_n (q := 2) k rfl rfl dX3_isIncreasing_2 ?_
    refine gs_iconst (v := 1) k (by decide) dX3_isIncreasing_3 ?_
    refine gs_iload_n (q := 1) k rfl rfl dX3_isIncreasing_4 ?_
    refine gs_ishlN (b := n) k rfl hy (by omega) dX3_isIncreasing_5 ?_
    refine gs_icmpN_ge (a := 2 ^ n) (b := 2 ^ n) (tgt := 39) k rfl rfl (by omega) (by omega) (by decide) dX3_isIncreasing_6 (fun c1 => ?_) (fun c1 => absurd c1 (by omega))
    refine gs_iconst (v := 1) k (by decide) dX3_isIncreasing_39 ?_
    exact gs_zret k kt (by decide) dX3_isIncreasing_40 (pB1 (fun s hs p hp => hEs s (Nat.zero_le _) hs p (Nat.zero_le _) hp))

theorem cf_X7_isRising : CF yX7_isRising cX7_isRising 4 (some .boolean) 1 := ⟨cd_X7_isRising, iz_X7, by decide, by decide +kernel, by decide +kernel, by decide +kernel⟩
set_option maxRecDepth 100000 in
set_option maxHeartbeats 4000000 in
theorem c_X7_isRising {l : Launch} {E : Ev} {M : Mm} {n : Nat} {kd : Nat → Int32} {V : Nat → Nat → Int32} (hI : ∀ k, k < 108 → k ∈ E.2.1) (hn : Rn M n) (hF : RFn M n kd V) {z : Int32} {f : Nat} (hz : z = nI f) (hf : f < 6) (ht : ¬ kd f < 0) : Cm l E yX7_isRising cX7_isRising 4 (some .boolean) 1 [.ref (E.2.2.1 65), .int z] M (pB (∀ s, s < 2 ^ n → ∀ p, p < n → (¬ s.testBit p = true → ¬ gn (V f) s p < 0)) M) := by
  refine Cm.of (by decide) (Nat.le_of_ble_eq_true rfl) (fun K k kt => ?_)
  show G l E K 0 [(0, .ref (E.2.2.1 65)), (1, .int z)] [] M
  obtain ⟨hn0, hn1, hn6⟩ := id hn
  have hp := p2_le6 hn6
  have hp2 := p2_ge2 hn1
  refine gs_iconst (v := 0) k (by decide) dX7_isRising_0 ?_
  refine gs_istore_n (lv' := [(2, .int 0), (0, .ref (E.2.2.1 65)), (1, .int z)]) k rfl (by decide) rfl dX7_isRising_1 ?_
  refine gs_lv (lv' := [(0, .ref (E.2.2.1 65)), (1, .int z), (2, .int 0)]) [1, 2, 0] rfl ?_
  refine for_al (fun s => G l E K 2 [(0, .ref (E.2.2.1 65)), (1, .int z), (2, .int (nI s))] [] M) (fun s => ∀ p, 0 ≤ p → p < n → (¬ s.testBit p = true → ¬ gn (V f) s p < 0)) (2 ^ n) 0 (fun s hss hs hBs hGs => ?_) (fun hEs => ?_) (2 ^ n) 0 (by omega) (Nat.le_refl _) (fun j h1 h2 => absurd h2 (by omega))
  · show G l E K 2 [(0, .ref (E.2.2.1 65)), (1, .int z), (2, .int (nI s))] [] M
    refine gs_iload_n (q := 2) k rfl rfl dX7_isRising_2 ?_
    refine gs_aload_n (q := 0) k rfl rfl dX7_isRising_3 ?_
    refine gs_callV (As := []) (k0 := 65) (ci := 7) (T := TX7) (N := 27) k (c_X7_sets hI hn) cf_X7_sets im_X7_sets sl_X7_sets ml_X7_83 (hI 65 (by omega)) rfl rfl (by decide) rfl rfl (Nat.le_of_ble_eq_true rfl) dX7_isRising_4 (ppI ?_)
    refine gs_icmpN_ge (a := s) (b := 2 ^ n) (tgt := 52) k rfl rfl (by omega) (by omega) (by decide) dX7_isRising_7 (fun c1 => absurd c1 (by omega)) (fun c1 => ?_)
    refine gs_iconst (v := 0) k (by decide) dX7_isRising_10 ?_
    refine gs_istore_n (lv' := [(3, .int 0), (0, .ref (E.2.2.1 65)), (1, .int z), (2, .int (nI s))]) k rfl (by decide) rfl dX7_isRising_11 ?_
    refine gs_lv (lv' := [(0, .ref (E.2.2.1 65)), (1, .int z), (2, .int (nI s)), (3, .int 0)]) [1, 2, 3, 0] rfl ?_
    refine for_al (fun p => G l E K 12 [(0, .ref (E.2.2.1 65)), (1, .int z), (2, .int (nI s)), (3, .int (nI p))] [] M) (fun p => (¬ s.testBit p = true → ¬ gn (V f) s p < 0)) n 0 (fun p hps hp hBp hGp => ?_) (fun hEp => ?_) n 0 (by omega) (Nat.le_refl _) (fun j h1 h2 => absurd h2 (by omega))
    · show G l E K 12 [(0, .ref (E.2.2.1 65)), (1, .int z), (2, .int (nI s)), (3, .int (nI p))] [] M
      refine gs_iload_n (q := 3) k rfl rfl dX7_isRising_12 ?_
      refine gs_aload_n (q := 0) k rfl rfl dX7_isRising_13 ?_
      refine gs_get (C := RX7) (T := TX7) (N := 27) (ci := 7) (k0 := 65) (j := 0) k (hI 65 (by omega)) rfl rfl inX7 (by decide) fl_X7_9 rfl rfl dX7_isRising_14 ?_
      refine gs_icmpN_ge (a := p) (b := n) (tgt := 46) k rfl hn0 (by omega) (by omega) (by decide) dX7_isRising_17 (fun c2 => absurd c2 (by omega)) (fun c2 => ?_)
      refine gs_iload_n (q := 2) k rfl rfl dX7_isRising_20 ?_
      refine gs_iload_n (q := 3) k rfl rfl dX7_isRising_21 ?_
      refine gs_callS (As := [.int (nI s), .int (nI p)]) k (c_X7_has (S := s) (P := p) rfl rfl (by omega) (by omega)) cf_X7_has sm_X7_has ml_X7_118 (by decide) rfl rfl (Nat.le_of_ble_eq_true rfl) dX7_isRising_22 (ppB (fun c3 => ?_) (fun c3 => ?_))
      · refine gs_if_ne (tgt := 40) k (by decide) dX7_isRising_25 (fun _ => ?_) (fun h => absurd h (by decide))
        refine gs_iincN (q := 3) (a := p) (c := 1) (lv' := [(3, .int (nI (p + 1))), (0, .ref (E.2.2.1 65)), (1, .int z), (2, .int (nI s))]) k rfl rfl (by decide) rfl dX7_isRising_40 ?_
        refine gs_goto (tgt := 12) k (by decide) dX7_isRising_43 ?_
        refine gs_lv (lv' := [(0, .ref (E.2.2.1 65)), (1, .int z), (2, .int (nI s)), (3, .int (nI (p + 1)))]) [1, 2, 3, 0] rfl ?_
        exact hGp (fun q => absurd c3 q)
      · refine gs_if_ne (tgt := 40) k (by decide) dX7_isRising_25 (fun h => absurd h (by decide)) (fun _ => ?_)
        refine gs_aload_n (q := 0) k rfl rfl dX7_isRising_28 ?_
        refine gs_iload_n (q := 1) k rfl rfl dX7_isRising_29 ?_
        refine gs_iload_n (q := 2) k rfl rfl dX7_isRising_30 ?_
        refine gs_iload_n (q := 3) k rfl rfl dX7_isRising_31 ?_
        refine gs_callV (As := [.int z, .int (nI s), .int (nI p)]) (k0 := 65) (ci := 7) (T := TX7) (N := 27) k (c_X7_gainOf (f := f) (S := s) (P := p) hI hF hn6 hz (by omega) ht rfl rfl (by omega) (by omega)) cf_X7_gainOf im_X7_gainOf sl_X7_gainOf ml_X7_169 (hI 65 (by omega)) rfl rfl (by decide) rfl rfl (Nat.le_of_ble_eq_true rfl) dX7_isRising_32 (ppI ?_)
        refine gs_if_ge (tgt := 40) k (by decide) dX7_isRising_35 (fun c4 => ?_) (fun c4 => ?_)
        · refine gs_iincN (q := 3) (a := p) (c := 1) (lv' := [(3, .int (nI (p + 1))), (0, .ref (E.2.2.1 65)), (1, .int z), (2, .int (nI s))]) k rfl rfl (by decide) rfl dX7_isRising_40 ?_
          refine gs_goto (tgt := 12) k (by decide) dX7_isRising_43 ?_
          refine gs_lv (lv' := [(0, .ref (E.2.2.1 65)), (1, .int z), (2, .int (nI s)), (3, .int (nI (p + 1)))]) [1, 2, 3, 0] rfl ?_
          exact hGp (fun _ => Int32.not_lt.mpr c4)
        · refine gs_iconst (v := 0) k (by decide) dX7_isRising_38 ?_
          exact gs_zret k kt (by decide) dX7_isRising_39 (pB0 (fun q => q s hs p hp c3 (Int32.not_le.mp c4)))
    · show G l E K 12 [(0, .ref (E.2.2.1 65)), (1, .int z), (2, .int (nI s)), (3, .int (nI n))] [] M
      refine gs_iload_n (q := 3) k rfl rfl dX7_isRising_12 ?_
      refine gs_aload_n (q := 0) k rfl rfl dX7_isRising_13 ?_
      refine gs_get (C := RX7) (T := TX7) (N := 27) (ci := 7) (k0 := 65) (j := 0) k (hI 65 (by omega)) rfl rfl inX7 (by decide) fl_X7_9 rfl rfl dX7_isRising_14 ?_
      refine gs_icmpN_ge (a := n) (b := n) (tgt := 46) k rfl hn0 (by omega) (by omega) (by decide) dX7_isRising_17 (fun c2 => ?_) (fun c2 => absurd c2 (by omega))
      refine gs_iincN (q := 2) (a := s) (c := 1) (lv' := [(2, .int (nI (s + 1))), (0, .ref (E.2.2.1 65)), (1, .int z), (3, .int (nI n))]) k rfl rfl (by decide) rfl dX7_isRising_46 ?_
      refine gs_goto (tgt := 2) k (by decide) dX7_isRising_49 ?_
      refine gs_lv (lv' := [(0, .ref (E.2.2.1 65)), (1, .int z), (2, .int (nI (s + 1))), (3, .int (nI n))]) [1, 2, 0, 3] rfl ?_
      refine gs_lv (lv' := [(0, .ref (E.2.2.1 65)), (1, .int z), (2, .int (nI (s + 1)))]) [0, 1, 2] rfl ?_
      exact hGs hEp
  · show G l E K 2 [(0, .ref (E.2.2.1 65)), (1, .int z), (2, .int (nI (2 ^ n)))] [] M
    refine gs_iload_n (q := 2) k rfl rfl dX7_isRising_2 ?_
    refine gs_aload_n (q := 0) k rfl rfl dX7_isRising_3 ?_
    refine gs_callV (As := []) (k0 := 65) (ci := 7) (T := TX7) (N := 27) k (c_X7_sets hI hn) cf_X7_sets im_X7_sets sl_X7_sets ml_X7_83 (hI 65 (by omega)) rfl rfl (by decide) rfl rfl (Nat.le_of_ble_eq_true rfl) dX7_isRising_4 (ppI ?_)
    refine gs_icmpN_ge (a := 2 ^ n) (b := 2 ^ n) (tgt := 52) k rfl rfl (by omega) (by omega) (by decide) dX7_isRising_7 (fun c1 => ?_) (fun c1 => absurd c1 (by omega))
    refine gs_iconst (v := 1) k (by decide) dX7_isRising_52 ?_
    exact gs_zret k kt (by decide) dX7_isRising_53 (pB1 (fun s hs p hp => hEs s (Nat.zero_le _) hs p (Nat.zero_le _) hp))

theorem cf_X3_isModular : CF yX3_isModular cX3_isModular 4 (some .boolean) 1 := ⟨cd_X3_isModular, iz_X3, by decide, by decide +kernel, by decide +kernel, by decide +kernel⟩
set_option maxRecDepth 100000 in
set_option maxHeartbeats 4000000 in
theorem c_X3_isModular {l : Launch} {E : Ev} {M : Mm} {n : Nat} {kd : Nat → Int32} {V : Nat → Nat → Int32} (hI : ∀ k, k < 108 → k ∈ E.2.1) (hF : CFn M n kd V) {f : Nat} (hf : f < 6) (hn1 : 1 ≤ n) (hn6 : n ≤ 6) {y : Int32} (hy : y = nI n) : Cm l E yX3_isModular cX3_isModular 4 (some .boolean) 1 [.ref (E.2.2.1 (10 + 2 * f)), .int y] M (pB (∀ s, s < 2 ^ n → ∀ p, p < n → (¬ s.testBit p = true → gn (V f) s p = gn (V f) 0 p)) M) := by
  refine Cm.of (by decide) (Nat.le_of_ble_eq_true rfl) (fun K k kt => ?_)
  show G l E K 0 [(0, .ref (E.2.2.1 (10 + 2 * f))), (1, .int y)] [] M
  have hp := p2_le6 hn6
  have hp2 := p2_ge2 hn1
  refine gs_iconst (v := 0) k (by decide) dX3_isModular_0 ?_
  refine gs_istore_n (lv' := [(2, .int 0), (0, .ref (E.2.2.1 (10 + 2 * f))), (1, .int y)]) k rfl (by decide) rfl dX3_isModular_1 ?_
  refine gs_lv (lv' := [(0, .ref (E.2.2.1 (10 + 2 * f))), (1, .int y), (2, .int 0)]) [1, 2, 0] rfl ?_
  refine for_al (fun s => G l E K 2 [(0, .ref (E.2.2.1 (10 + 2 * f))), (1, .int y), (2, .int (nI s))] [] M) (fun s => ∀ p, 0 ≤ p → p < n → (¬ s.testBit p = true → gn (V f) s p = gn (V f) 0 p)) (2 ^ n) 0 (fun s hss hs hBs hGs => ?_) (fun hEs => ?_) (2 ^ n) 0 (by omega) (Nat.le_refl _) (fun j h1 h2 => absurd h2 (by omega))
  · show G l E K 2 [(0, .ref (E.2.2.1 (10 + 2 * f))), (1, .int y), (2, .int (nI s))] [] M
    refine gs_iload_n (q := 2) k rfl rfl dX3_isModular_2 ?_
    refine gs_iconst (v := 1) k (by decide) dX3_isModular_3 ?_
    refine gs_iload_n (q := 1) k rfl rfl dX3_isModular_4 ?_
    refine gs_ishlN (b := n) k rfl hy (by omega) dX3_isModular_5 ?_
    refine gs_icmpN_ge (a := s) (b := 2 ^ n) (tgt := 53) k rfl rfl (by omega) (by omega) (by decide) dX3_isModular_6 (fun c1 => absurd c1 (by omega)) (fun c1 => ?_)
    refine gs_iconst (v := 0) k (by decide) dX3_isModular_9 ?_
    refine gs_istore_n (lv' := [(3, .int 0), (0, .ref (E.2.2.1 (10 + 2 * f))), (1, .int y), (2, .int (nI s))]) k rfl (by decide) rfl dX3_isModular_10 ?_
    refine gs_lv (lv' := [(0, .ref (E.2.2.1 (10 + 2 * f))), (1, .int y), (2, .int (nI s)), (3, .int 0)]) [1, 2, 3, 0] rfl ?_
    refine for_al (fun p => G l E K 11 [(0, .ref (E.2.2.1 (10 + 2 * f))), (1, .int y), (2, .int (nI s)), (3, .int (nI p))] [] M) (fun p => (¬ s.testBit p = true → gn (V f) s p = gn (V f) 0 p)) n 0 (fun p hps hp hBp hGp => ?_) (fun hEp => ?_) n 0 (by omega) (Nat.le_refl _) (fun j h1 h2 => absurd h2 (by omega))
    · show G l E K 11 [(0, .ref (E.2.2.1 (10 + 2 * f))), (1, .int y), (2, .int (nI s)), (3, .int (nI p))] [] M
      refine gs_iload_n (q := 3) k rfl rfl dX3_isModular_11 ?_
      refine gs_iload_n (q := 1) k rfl rfl dX3_isModular_12 ?_
      refine gs_icmpN_ge (a := p) (b := n) (tgt := 47) k rfl hy (by omega) (by omega) (by decide) dX3_isModular_13 (fun c2 => absurd c2 (by omega)) (fun c2 => ?_)
      refine gs_iload_n (q := 2) k rfl rfl dX3_isModular_16 ?_
      refine gs_iload_n (q := 3) k rfl rfl dX3_isModular_17 ?_
      refine gs_callH3 (As := [.int (nI s), .int (nI p)]) k (c_X6_holds (S := s) (P := p) rfl rfl (by omega) (by omega)) cf_X6_holds sm_X6_holds (by decide) rfl rfl (Nat.le_of_ble_eq_true rfl) dX3_isModular_18 (ppB (fun c3 => ?_) (fun c3 => ?_))
      · refine gs_if_ne (tgt := 41) k (by decide) dX3_isModular_21 (fun _ => ?_) (fun h => absurd h (by decide))
        refine gs_iincN (q := 3) (a := p) (c := 1) (lv' := [(3, .int (nI (p + 1))), (0, .ref (E.2.2.1 (10 + 2 * f))), (1, .int y), (2, .int (nI s))]) k rfl rfl (by decide) rfl dX3_isModular_41 ?_
        refine gs_goto (tgt := 11) k (by decide) dX3_isModular_44 ?_
        refine gs_lv (lv' := [(0, .ref (E.2.2.1 (10 + 2 * f))), (1, .int y), (2, .int (nI s)), (3, .int (nI (p + 1)))]) [1, 2, 3, 0] rfl ?_
        exact hGp (fun q => absurd c3 q)
      · refine gs_if_ne (tgt := 41) k (by decide) dX3_isModular_21 (fun h => absurd h (by decide)) (fun _ => ?_)
        refine gs_aload_n (q := 0) k rfl rfl dX3_isModular_24 ?_
        refine gs_iload_n (q := 2) k rfl rfl dX3_isModular_25 ?_
        refine gs_iload_n (q := 3) k rfl rfl dX3_isModular_26 ?_
        refine gs_callV (As := [.int (nI s), .int (nI p)]) (k0 := (10 + 2 * f)) (ci := 3) (T := TX3) (N := 2) k (c_X3_gainAt (S := s) (P := p) hI hF hf hn6 rfl rfl (by omega) (by omega)) cf_X3_gainAt im_X3_gainAt sl_X3_gainAt ml_X3_39 (hI (10 + 2 * f) (by omega)) (ent_F1 hf _) rfl (by decide) rfl rfl (Nat.le_of_ble_eq_true rfl) dX3_isModular_27 (ppI ?_)
        refine gs_aload_n (q := 0) k rfl rfl dX3_isModular_30 ?_
        refine gs_iconst (v := 0) k (by decide) dX3_isModular_31 ?_
        refine gs_iload_n (q := 3) k rfl rfl dX3_isModular_32 ?_
        refine gs_callV (As := [.int 0, .int (nI p)]) (k0 := (10 + 2 * f)) (ci := 3) (T := TX3) (N := 2) k (c_X3_gainAt (S := 0) (P := p) hI hF hf hn6 rfl rfl (by omega) (by omega)) cf_X3_gainAt im_X3_gainAt sl_X3_gainAt ml_X3_39 (hI (10 + 2 * f) (by omega)) (ent_F1 hf _) rfl (by decide) rfl rfl (Nat.le_of_ble_eq_true rfl) dX3_isModular_33 (ppI ?_)
        refine gs_icmp_eq (tgt := 41) k (by decide) dX3_isModular_36 (fun c4 => ?_) (fun c4 => ?_)
        · refine gs_iincN (q := 3) (a := p) (c := 1) (lv' := [(3, .int (nI (p + 1))), (0, .ref (E.2.2.1 (10 + 2 * f))), (1, .int y), (2, .int (nI s))]) k rfl rfl (by decide) rfl dX3_isModular_41 ?_
          refine gs_goto (tgt := 11) k (by decide) dX3_isModular_44 ?_
          refine gs_lv (lv' := [(0, .ref (E.2.2.1 (10 + 2 * f))), (1, .int y), (2, .int (nI s)), (3, .int (nI (p + 1)))]) [1, 2, 3, 0] rfl ?_
          exact hGp (fun _ => c4)
        · refine gs_iconst (v := 0) k (by decide) dX3_isModular_39 ?_
          exact gs_zret k kt (by decide) dX3_isModular_40 (pB0 (fun q => c4 (q s hs p hp c3)))
    · show G l E K 11 [(0, .ref (E.2.2.1 (10 + 2 * f))), (1, .int y), (2, .int (nI s)), (3, .int (nI n))] [] M
      refine gs_iload_n (q := 3) k rfl rfl dX3_isModular_11 ?_
      refine gs_iload_n (q := 1) k rfl rfl dX3_isModular_12 ?_
      refine gs_icmpN_ge (a := n) (b := n) (tgt := 47) k rfl hy (by omega) (by omega) (by decide) dX3_isModular_13 (fun c2 => ?_) (fun c2 => absurd c2 (by omega))
      refine gs_iincN (q := 2) (a := s) (c := 1) (lv' := [(2, .int (nI (s + 1))), (0, .ref (E.2.2.1 (10 + 2 * f))), (1, .int y), (3, .int (nI n))]) k rfl rfl (by decide) rfl dX3_isModular_47 ?_
      refine gs_goto (tgt := 2) k (by decide) dX3_isModular_50 ?_
      refine gs_lv (lv' := [(0, .ref (E.2.2.1 (10 + 2 * f))), (1, .int y), (2, .int (nI (s + 1))), (3, .int (nI n))]) [1, 2, 0, 3] rfl ?_
      refine gs_lv (lv' := [(0, .ref (E.2.2.1 (10 + 2 * f))), (1, .int y), (2, .int (nI (s + 1)))]) [0, 1, 2] rfl ?_
      exact hGs hEp
  · show G l E K 2 [(0, .ref (E.2.2.1 (10 + 2 * f))), (1, .int y), (2, .int (nI (2 ^ n)))] [] M
    refine gs_iload_n (q := 2) k rfl rfl dX3_isModular_2 ?_
    refine gs_iconst (v := 1) k (by decide) dX3_isModular_3 ?_
    refine gs_iload_n (q := 1) k rfl rfl dX3_isModular_4 ?_
    refine gs_ishlN (b := n) k rfl hy (by omega) dX3_isModular_5 ?_
    refine gs_icmpN_ge (a := 2 ^ n) (b := 2 ^ n) (tgt := 53) k rfl rfl (by omega) (by omega) (by decide) dX3_isModular_6 (fun c1 => ?_) (fun c1 => absurd c1 (by omega))
    refine gs_iconst (v := 1) k (by decide) dX3_isModular_53 ?_
    exact gs_zret k kt (by decide) dX3_isModular_54 (pB1 (fun s hs p hp => hEs s (Nat.zero_le _) hs p (Nat.zero_le _) hp))

theorem cf_X7_isPlain : CF yX7_isPlain cX7_isPlain 4 (some .boolean) 1 := ⟨cd_X7_isPlain, iz_X7, by decide, by decide +kernel, by decide +kernel, by decide +kernel⟩
set_option maxRecDepth 100000 in
set_option maxHeartbeats 4000000 in
theorem c_X7_isPlain {l : Launch} {E : Ev} {M : Mm} {n : Nat} {kd : Nat → Int32} {V : Nat → Nat → Int32} (hI : ∀ k, k < 108 → k ∈ E.2.1) (hn : Rn M n) (hF : RFn M n kd V) {z : Int32} {f : Nat} (hz : z = nI f) (hf : f < 6) (ht : ¬ kd f < 0) : Cm l E yX7_isPlain cX7_isPlain 4 (some .boolean) 1 [.ref (E.2.2.1 65), .int z] M (pB (∀ s, s < 2 ^ n → ∀ p, p < n → (¬ s.testBit p = true → gn (V f) s p = gn (V f) 0 p)) M) := by
  refine Cm.of (by decide) (Nat.le_of_ble_eq_true rfl) (fun K k kt => ?_)
  show G l E K 0 [(0, .ref (E.2.2.1 65)), (1, .int z)] [] M
  obtain ⟨hn0, hn1, hn6⟩ := id hn
  have hp := p2_le6 hn6
  have hp2 := p2_ge2 hn1
  refine gs_iconst (v := 0) k (by decide) dX7_isPlain_0 ?_
  refine gs_istore_n (lv' := [(2, .int 0), (0, .ref (E.2.2.1 65)), (1, .int z)]) k rfl (by decide) rfl dX7_isPlain_1 ?_
  refine gs_lv (lv' := [(0, .ref (E.2.2.1 65)), (1, .int z), (2, .int 0)]) [1, 2, 0] rfl ?_
  refine for_al (fun s => G l E K 2 [(0, .ref (E.2.2.1 65)), (1, .int z), (2, .int (nI s))] [] M) (fun s => ∀ p, 0 ≤ p → p < n → (¬ s.testBit p = true → gn (V f) s p = gn (V f) 0 p)) (2 ^ n) 0 (fun s hss hs hBs hGs => ?_) (fun hEs => ?_) (2 ^ n) 0 (by omega) (Nat.le_refl _) (fun j h1 h2 => absurd h2 (by omega))
  · show G l E K 2 [(0, .ref (E.2.2.1 65)), (1, .int z), (2, .int (nI s))] [] M
    refine gs_iload_n (q := 2) k rfl rfl dX7_isPlain_2 ?_
    refine gs_aload_n (q := 0) k rfl rfl dX7_isPlain_3 ?_
    refine gs_callV (As := []) (k0 := 65) (ci := 7) (T := TX7) (N := 27) k (c_X7_sets hI hn) cf_X7_sets im_X7_sets sl_X7_sets ml_X7_83 (hI 65 (by omega)) rfl rfl (by decide) rfl rfl (Nat.le_of_ble_eq_true rfl) dX7_isPlain_4 (ppI ?_)
    refine gs_icmpN_ge (a := s) (b := 2 ^ n) (tgt := 59) k rfl rfl (by omega) (by omega) (by decide) dX7_isPlain_7 (fun c1 => absurd c1 (by omega)) (fun c1 => ?_)
    refine gs_iconst (v := 0) k (by decide) dX7_isPlain_10 ?_
    refine gs_istore_n (lv' := [(3, .int 0), (0, .ref (E.2.2.1 65)), (1, .int z), (2, .int (nI s))]) k rfl (by decide) rfl dX7_isPlain_11 ?_
    refine gs_lv (lv' := [(0, .ref (E.2.2.1 65)), (1, .int z), (2, .int (nI s)), (3, .int 0)]) [1, 2, 3, 0] rfl ?_
    refine for_al (fun p => G l E K 12 [(0, .ref (E.2.2.1 65)), (1, .int z), (2, .int (nI s)), (3, .int (nI p))] [] M) (fun p => (¬ s.testBit p = true → gn (V f) s p = gn (V f) 0 p)) n 0 (fun p hps hp hBp hGp => ?_) (fun hEp => ?_) n 0 (by omega) (Nat.le_refl _) (fun j h1 h2 => absurd h2 (by omega))
    · show G l E K 12 [(0, .ref (E.2.2.1 65)), (1, .int z), (2, .int (nI s)), (3, .int (nI p))] [] M
      refine gs_iload_n (q := 3) k rfl rfl dX7_isPlain_12 ?_
      refine gs_aload_n (q := 0) k rfl rfl dX7_isPlain_13 ?_
      refine gs_get (C := RX7) (T := TX7) (N := 27) (ci := 7) (k0 := 65) (j := 0) k (hI 65 (by omega)) rfl rfl inX7 (by decide) fl_X7_9 rfl rfl dX7_isPlain_14 ?_
      refine gs_icmpN_ge (a := p) (b := n) (tgt := 53) k rfl hn0 (by omega) (by omega) (by decide) dX7_isPlain_17 (fun c2 => absurd c2 (by omega)) (fun c2 => ?_)
      refine gs_iload_n (q := 2) k rfl rfl dX7_isPlain_20 ?_
      refine gs_iload_n (q := 3) k rfl rfl dX7_isPlain_21 ?_
      refine gs_callS (As := [.int (nI s), .int (nI p)]) k (c_X7_has (S := s) (P := p) rfl rfl (by omega) (by omega)) cf_X7_has sm_X7_has ml_X7_118 (by decide) rfl rfl (Nat.le_of_ble_eq_true rfl) dX7_isPlain_22 (ppB (fun c3 => ?_) (fun c3 => ?_))
      · refine gs_if_ne (tgt := 47) k (by decide) dX7_isPlain_25 (fun _ => ?_) (fun h => absurd h (by decide))
        refine gs_iincN (q := 3) (a := p) (c := 1) (lv' := [(3, .int (nI (p + 1))), (0, .ref (E.2.2.1 65)), (1, .int z), (2, .int (nI s))]) k rfl rfl (by decide) rfl dX7_isPlain_47 ?_
        refine gs_goto (tgt := 12) k (by decide) dX7_isPlain_50 ?_
        refine gs_lv (lv' := [(0, .ref (E.2.2.1 65)), (1, .int z), (2, .int (nI s)), (3, .int (nI (p + 1)))]) [1, 2, 3, 0] rfl ?_
        exact hGp (fun q => absurd c3 q)
      · refine gs_if_ne (tgt := 47) k (by decide) dX7_isPlain_25 (fun h => absurd h (by decide)) (fun _ => ?_)
        refine gs_aload_n (q := 0) k rfl rfl dX7_isPlain_28 ?_
        refine gs_iload_n (q := 1) k rfl rfl dX7_isPlain_29 ?_
        refine gs_iload_n (q := 2) k rfl rfl dX7_isPlain_30 ?_
        refine gs_iload_n (q := 3) k rfl rfl dX7_isPlain_31 ?_
        refine gs_callV (As := [.int z, .int (nI s), .int (nI p)]) (k0 := 65) (ci := 7) (T := TX7) (N := 27) k (c_X7_gainOf (f := f) (S := s) (P := p) hI hF hn6 hz (by omega) ht rfl rfl (by omega) (by omega)) cf_X7_gainOf im_X7_gainOf sl_X7_gainOf ml_X7_169 (hI 65 (by omega)) rfl rfl (by decide) rfl rfl (Nat.le_of_ble_eq_true rfl) dX7_isPlain_32 (ppI ?_)
        refine gs_aload_n (q := 0) k rfl rfl dX7_isPlain_35 ?_
        refine gs_iload_n (q := 1) k rfl rfl dX7_isPlain_36 ?_
        refine gs_iconst (v := 0) k (by decide) dX7_isPlain_37 ?_
        refine gs_iload_n (q := 3) k rfl rfl dX7_isPlain_38 ?_
        refine gs_callV (As := [.int z, .int 0, .int (nI p)]) (k0 := 65) (ci := 7) (T := TX7) (N := 27) k (c_X7_gainOf (f := f) (S := 0) (P := p) hI hF hn6 hz (by omega) ht rfl rfl (by omega) (by omega)) cf_X7_gainOf im_X7_gainOf sl_X7_gainOf ml_X7_169 (hI 65 (by omega)) rfl rfl (by decide) rfl rfl (Nat.le_of_ble_eq_true rfl) dX7_isPlain_39 (ppI ?_)
        refine gs_icmp_eq (tgt := 47) k (by decide) dX7_isPlain_42 (fun c4 => ?_) (fun c4 => ?_)
        · refine gs_iincN (q := 3) (a := p) (c := 1) (lv' := [(3, .int (nI (p + 1))), (0, .ref (E.2.2.1 65)), (1, .int z), (2, .int (nI s))]) k rfl rfl (by decide) rfl dX7_isPlain_47 ?_
          refine gs_goto (tgt := 12) k (by decide) dX7_isPlain_50 ?_
          refine gs_lv (lv' := [(0, .ref (E.2.2.1 65)), (1, .int z), (2, .int (nI s)), (3, .int (nI (p + 1)))]) [1, 2, 3, 0] rfl ?_
          exact hGp (fun _ => c4)
        · refine gs_iconst (v := 0) k (by decide) dX7_isPlain_45 ?_
          exact gs_zret k kt (by decide) dX7_isPlain_46 (pB0 (fun q => c4 (q s hs p hp c3)))
    · show G l E K 12 [(0, .ref (E.2.2.1 65)), (1, .int z), (2, .int (nI s)), (3, .int (nI n))] [] M
      refine gs_iload_n (q := 3) k rfl rfl dX7_isPlain_12 ?_
      refine gs_aload_n (q := 0) k rfl rfl dX7_isPlain_13 ?_
      refine gs_get (C := RX7) (T := TX7) (N := 27) (ci := 7) (k0 := 65) (j := 0) k (hI 65 (by omega)) rfl rfl inX7 (by decide) fl_X7_9 rfl rfl dX7_isPlain_14 ?_
      refine gs_icmpN_ge (a := n) (b := n) (tgt := 53) k rfl hn0 (by omega) (by omega) (by decide) dX7_isPlain_17 (fun c2 => ?_) (fun c2 => absurd c2 (by omega))
      refine gs_iincN (q := 2) (a := s) (c := 1) (lv' := [(2, .int (nI (s + 1))), (0, .ref (E.2.2.1 65)), (1, .int z), (3, .int (nI n))]) k rfl rfl (by decide) rfl dX7_isPlain_53 ?_
      refine gs_goto (tgt := 2) k (by decide) dX7_isPlain_56 ?_
      refine gs_lv (lv' := [(0, .ref (E.2.2.1 65)), (1, .int z), (2, .int (nI (s + 1))), (3, .int (nI n))]) [1, 2, 0, 3] rfl ?_
      refine gs_lv (lv' := [(0, .ref (E.2.2.1 65)), (1, .int z), (2, .int (nI (s + 1)))]) [0, 1, 2] rfl ?_
      exact hGs hEp
  · show G l E K 2 [(0, .ref (E.2.2.1 65)), (1, .int z), (2, .int (nI (2 ^ n)))] [] M
    refine gs_iload_n (q := 2) k rfl rfl dX7_isPlain_2 ?_
    refine gs_aload_n (q := 0) k rfl rfl dX7_isPlain_3 ?_
    refine gs_callV (As := []) (k0 := 65) (ci := 7) (T := TX7) (N := 27) k (c_X7_sets hI hn) cf_X7_sets im_X7_sets sl_X7_sets ml_X7_83 (hI 65 (by omega)) rfl rfl (by decide) rfl rfl (Nat.le_of_ble_eq_true rfl) dX7_isPlain_4 (ppI ?_)
    refine gs_icmpN_ge (a := 2 ^ n) (b := 2 ^ n) (tgt := 59) k rfl rfl (by omega) (by omega) (by decide) dX7_isPlain_7 (fun c1 => ?_) (fun c1 => absurd c1 (by omega))
    refine gs_iconst (v := 1) k (by decide) dX7_isPlain_59 ?_
    exact gs_zret k kt (by decide) dX7_isPlain_60 (pB1 (fun s hs p hp => hEs s (Nat.zero_le _) hs p (Nat.zero_le _) hp))

theorem cf_X3_isSymmetric : CF yX3_isSymmetric cX3_isSymmetric 4 (some .boolean) 1 := ⟨cd_X3_isSymmetric, iz_X3, by decide, by decide +kernel, by decide +kernel, by decide +kernel⟩
set_option maxRecDepth 100000 in
set_option maxHeartbeats 4000000 in
theorem c_X3_isSymmetric {l : Launch} {E : Ev} {M : Mm} {n : Nat} {kd : Nat → Int32} {V : Nat → Nat → Int32} (hI : ∀ k, k < 108 → k ∈ E.2.1) (hF : CFn M n kd V) {f : Nat} (hf : f < 6) (hn1 : 1 ≤ n) (hn6 : n ≤ 6) {y : Int32} (hy : y = nI n) : Cm l E yX3_isSymmetric cX3_isSymmetric 4 (some .boolean) 0 [.ref (E.2.2.1 (10 + 2 * f)), .int y] M (pB (∀ s, s < 2 ^ n → V f s = V f (2 ^ n - 1 - s)) M) := by
  refine Cm.of (by decide) (Nat.le_of_ble_eq_true rfl) (fun K k kt => ?_)
  show G l E K 0 [(0, .ref (E.2.2.1 (10 + 2 * f))), (1, .int y)] [] M
  have hp := p2_le6 hn6
  have hp2 := p2_ge2 hn1
  refine gs_iconst (v := 1) k (by decide) dX3_isSymmetric_0 ?_
  refine gs_iload_n (q := 1) k rfl rfl dX3_isSymmetric_1 ?_
  refine gs_ishlN (b := n) k rfl hy (by omega) dX3_isSymmetric_2 ?_
  refine gs_iconst (v := 1) k (by decide) dX3_isSymmetric_3 ?_
  refine gs_isubN (a := 2 ^ n) (b := 1) k rfl rfl (by omega) dX3_isSymmetric_4 ?_
  refine gs_istore_n (lv' := [(2, .int (nI ((2 ^ n) - 1))), (0, .ref (E.2.2.1 (10 + 2 * f))), (1, .int y)]) k rfl (by decide) rfl dX3_isSymmetric_5 ?_
  refine gs_iconst (v := 0) k (by decide) dX3_isSymmetric_6 ?_
  refine gs_istore_n (lv' := [(3, .int 0), (2, .int (nI ((2 ^ n) - 1))), (0, .ref (E.2.2.1 (10 + 2 * f))), (1, .int y)]) k rfl (by decide) rfl dX3_isSymmetric_7 ?_
  refine gs_lv (lv' := [(0, .ref (E.2.2.1 (10 + 2 * f))), (1, .int y), (2, .int (nI ((2 ^ n) - 1))), (3, .int 0)]) [2, 3, 1, 0] rfl ?_
  refine for_al (fun s => G l E K 8 [(0, .ref (E.2.2.1 (10 + 2 * f))), (1, .int y), (2, .int (nI ((2 ^ n) - 1))), (3, .int (nI s))] [] M) (fun s => V f s = V f (2 ^ n - 1 - s)) (2 ^ n) 0 (fun s hss hs hBs hGs => ?_) (fun hEs => ?_) (2 ^ n) 0 (by omega) (Nat.le_refl _) (fun j h1 h2 => absurd h2 (by omega))
  · show G l E K 8 [(0, .ref (E.2.2.1 (10 + 2 * f))), (1, .int y), (2, .int (nI ((2 ^ n) - 1))), (3, .int (nI s))] [] M
    refine gs_iload_n (q := 3) k rfl rfl dX3_isSymmetric_8 ?_
    refine gs_iload_n (q := 2) k rfl rfl dX3_isSymmetric_9 ?_
    refine gs_icmpN_gt (a := s) (b := (2 ^ n) - 1) (tgt := 40) k rfl rfl (by omega) (by omega) (by decide) dX3_isSymmetric_10 (fun c1 => absurd c1 (by omega)) (fun c1 => ?_)
    refine gs_aload_n (q := 0) k rfl rfl dX3_isSymmetric_13 ?_
    refine gs_get (C := RX3) (T := TX3) (N := 2) (ci := 3) (k0 := (10 + 2 * f)) (j := 1) k (hI (10 + 2 * f) (by omega)) (ent_F1 hf _) rfl inX3 (by decide) fl_X3_15 rfl rfl dX3_isSymmetric_14 ?_
    refine gs_iload_n (q := 3) k rfl rfl dX3_isSymmetric_17 ?_
    refine gs_ialdN (k0 := (11 + 2 * f)) (n := 64) (e := s) k (hI (11 + 2 * f) (by omega)) (ent_V1 hf) rfl (by omega) (by decide) dX3_isSymmetric_18 ?_
    refine gs_top (y := V f s) ((hF f hf).2.2 s (by omega)) ?_
    refine gs_aload_n (q := 0) k rfl rfl dX3_isSymmetric_19 ?_
    refine gs_get (C := RX3) (T := TX3) (N := 2) (ci := 3) (k0 := (10 + 2 * f)) (j := 1) k (hI (10 + 2 * f) (by omega)) (ent_F1 hf _) rfl inX3 (by decide) fl_X3_15 rfl rfl dX3_isSymmetric_20 ?_
    refine gs_iload_n (q := 2) k rfl rfl dX3_isSymmetric_23 ?_
    refine gs_iload_n (q := 3) k rfl rfl dX3_isSymmetric_24 ?_
    refine gs_iconst (v := -1) k (by decide) dX3_isSymmetric_25 ?_
    refine gs_ixor k dX3_isSymmetric_26 ?_
    refine gs_iand k dX3_isSymmetric_27 ?_
    refine gs_top (y := nI (2 ^ n - 1 - s)) (ni_allbut hn6 hs) ?_
    refine gs_ialdN (k0 := (11 + 2 * f)) (n := 64) (e := 2 ^ n - 1 - s) k (hI (11 + 2 * f) (by omega)) (ent_V1 hf) rfl (by omega) (by decide) dX3_isSymmetric_28 ?_
    refine gs_top (y := V f (2 ^ n - 1 - s)) ((hF f hf).2.2 (2 ^ n - 1 - s) (by omega)) ?_
    refine gs_icmp_eq (tgt := 34) k (by decide) dX3_isSymmetric_29 (fun c2 => ?_) (fun c2 => ?_)
    · refine gs_iincN (q := 3) (a := s) (c := 1) (lv' := [(3, .int (nI (s + 1))), (0, .ref (E.2.2.1 (10 + 2 * f))), (1, .int y), (2, .int (nI ((2 ^ n) - 1)))]) k rfl rfl (by decide) rfl dX3_isSymmetric_34 ?_
      refine gs_goto (tgt := 8) k (by decide) dX3_isSymmetric_37 ?_
      refine gs_lv (lv' := [(0, .ref (E.2.2.1 (10 + 2 * f))), (1, .int y), (2, .int (nI ((2 ^ n) - 1))), (3, .int (nI (s + 1)))]) [1, 2, 3, 0] rfl ?_
      exact hGs c2
    · refine gs_iconst (v := 0) k (by decide) dX3_isSymmetric_32 ?_
      exact gs_zret k kt (by decide) dX3_isSymmetric_33 (pB0 (fun q => c2 (q s hs)))
  · show G l E K 8 [(0, .ref (E.2.2.1 (10 + 2 * f))), (1, .int y), (2, .int (nI ((2 ^ n) - 1))), (3, .int (nI (2 ^ n)))] [] M
    refine gs_iload_n (q := 3) k rfl rfl dX3_isSymmetric_8 ?_
    refine gs_iload_n (q := 2) k rfl rfl dX3_isSymmetric_9 ?_
    refine gs_icmpN_gt (a := 2 ^ n) (b := (2 ^ n) - 1) (tgt := 40) k rfl rfl (by omega) (by omega) (by decide) dX3_isSymmetric_10 (fun c1 => ?_) (fun c1 => absurd c1 (by omega))
    refine gs_iconst (v := 1) k (by decide) dX3_isSymmetric_40 ?_
    exact gs_zret k kt (by decide) dX3_isSymmetric_41 (pB1 (fun s hs => hEs s (Nat.zero_le _) hs))

theorem cf_X7_isEven : CF yX7_isEven cX7_isEven 3 (some .boolean) 1 := ⟨cd_X7_isEven, iz_X7, by decide, by decide +kernel, by decide +kernel, by decide +kernel⟩
set_option maxRecDepth 100000 in
set_option maxHeartbeats 4000000 in
theorem c_X7_isEven {l : Launch} {E : Ev} {M : Mm} {n : Nat} {kd : Nat → Int32} {V : Nat → Nat → Int32} (hI : ∀ k, k < 108 → k ∈ E.2.1) (hn : Rn M n) (hF : RFn M n kd V) {z : Int32} {f : Nat} (hz : z = nI f) (hf : f < 6) (ht : ¬ kd f < 0) : Cm l E yX7_isEven cX7_isEven 3 (some .boolean) 2 [.ref (E.2.2.1 65), .int z] M (pB (∀ s, s < 2 ^ n → V f s = V f (2 ^ n - 1 - s)) M) := by
  refine Cm.of (by decide) (Nat.le_of_ble_eq_true rfl) (fun K k kt => ?_)
  show G l E K 0 [(0, .ref (E.2.2.1 65)), (1, .int z)] [] M
  obtain ⟨hn0, hn1, hn6⟩ := id hn
  have hp := p2_le6 hn6
  have hp2 := p2_ge2 hn1
  refine gs_iconst (v := 0) k (by decide) dX7_isEven_0 ?_
  refine gs_istore_n (lv' := [(2, .int 0), (0, .ref (E.2.2.1 65)), (1, .int z)]) k rfl (by decide) rfl dX7_isEven_1 ?_
  refine gs_lv (lv' := [(0, .ref (E.2.2.1 65)), (1, .int z), (2, .int 0)]) [1, 2, 0] rfl ?_
  refine for_al (fun s => G l E K 2 [(0, .ref (E.2.2.1 65)), (1, .int z), (2, .int (nI s))] [] M) (fun s => V f s = V f (2 ^ n - 1 - s)) (2 ^ n) 0 (fun s hss hs hBs hGs => ?_) (fun hEs => ?_) (2 ^ n) 0 (by omega) (Nat.le_refl _) (fun j h1 h2 => absurd h2 (by omega))
  · show G l E K 2 [(0, .ref (E.2.2.1 65)), (1, .int z), (2, .int (nI s))] [] M
    refine gs_iload_n (q := 2) k rfl rfl dX7_isEven_2 ?_
    refine gs_aload_n (q := 0) k rfl rfl dX7_isEven_3 ?_
    refine gs_callV (As := []) (k0 := 65) (ci := 7) (T := TX7) (N := 27) k (c_X7_sets hI hn) cf_X7_sets im_X7_sets sl_X7_sets ml_X7_83 (hI 65 (by omega)) rfl rfl (by decide) rfl rfl (Nat.le_of_ble_eq_true rfl) dX7_isEven_4 (ppI ?_)
    refine gs_icmpN_ge (a := s) (b := 2 ^ n) (tgt := 42) k rfl rfl (by omega) (by omega) (by decide) dX7_isEven_7 (fun c1 => absurd c1 (by omega)) (fun c1 => ?_)
    refine gs_aload_n (q := 0) k rfl rfl dX7_isEven_10 ?_
    refine gs_get (C := RX7) (T := TX7) (N := 27) (ci := 7) (k0 := 65) (j := 8) k (hI 65 (by omega)) rfl rfl inX7 (by decide) fl_X7_39 rfl rfl dX7_isEven_11 ?_
    refine gs_iload_n (q := 1) k rfl rfl dX7_isEven_14 ?_
    refine gs_aaldIN (k0 := 73) (n := 6) (e := f) (a := E.2.2.1 (74 + f)) k (hI 73 (by omega)) (fun _ => rfl) hz (by omega) (by decide) rfl dX7_isEven_15 ?_
    refine gs_iload_n (q := 2) k rfl rfl dX7_isEven_16 ?_
    refine gs_ialdN (k0 := (74 + f)) (n := 64) (e := s) k (hI (74 + f) (by omega)) (ent_RV (by omega)) rfl (by omega) (by decide) dX7_isEven_17 ?_
    refine gs_top (y := V f s) ((hF f hf).2.2 ht s (by omega)) ?_
    refine gs_aload_n (q := 0) k rfl rfl dX7_isEven_18 ?_
    refine gs_get (C := RX7) (T := TX7) (N := 27) (ci := 7) (k0 := 65) (j := 8) k (hI 65 (by omega)) rfl rfl inX7 (by decide) fl_X7_39 rfl rfl dX7_isEven_19 ?_
    refine gs_iload_n (q := 1) k rfl rfl dX7_isEven_22 ?_
    refine gs_aaldIN (k0 := 73) (n := 6) (e := f) (a := E.2.2.1 (74 + f)) k (hI 73 (by omega)) (fun _ => rfl) hz (by omega) (by decide) rfl dX7_isEven_23 ?_
    refine gs_aload_n (q := 0) k rfl rfl dX7_isEven_24 ?_
    refine gs_callV (As := []) (k0 := 65) (ci := 7) (T := TX7) (N := 27) k (c_X7_all hI hn) cf_X7_all im_X7_all sl_X7_all ml_X7_87 (hI 65 (by omega)) rfl rfl (by decide) rfl rfl (Nat.le_of_ble_eq_true rfl) dX7_isEven_25 (ppI ?_)
    refine gs_iload_n (q := 2) k rfl rfl dX7_isEven_28 ?_
    refine gs_isubN (a := 2 ^ n - 1) (b := s) k rfl rfl (by omega) dX7_isEven_29 ?_
    refine gs_ialdN (k0 := (74 + f)) (n := 64) (e := (2 ^ n - 1) - s) k (hI (74 + f) (by omega)) (ent_RV (by omega)) rfl (by omega) (by decide) dX7_isEven_30 ?_
    refine gs_top (y := V f ((2 ^ n - 1) - s)) ((hF f hf).2.2 ht ((2 ^ n - 1) - s) (by omega)) ?_
    refine gs_icmp_eq (tgt := 36) k (by decide) dX7_isEven_31 (fun c2 => ?_) (fun c2 => ?_)
    · refine gs_iincN (q := 2) (a := s) (c := 1) (lv' := [(2, .int (nI (s + 1))), (0, .ref (E.2.2.1 65)), (1, .int z)]) k rfl rfl (by decide) rfl dX7_isEven_36 ?_
      refine gs_goto (tgt := 2) k (by decide) dX7_isEven_39 ?_
      refine gs_lv (lv' := [(0, .ref (E.2.2.1 65)), (1, .int z), (2, .int (nI (s + 1)))]) [1, 2, 0] rfl ?_
      exact hGs c2
    · refine gs_iconst (v := 0) k (by decide) dX7_isEven_34 ?_
      exact gs_zret k kt (by decide) dX7_isEven_35 (pB0 (fun q => c2 (q s hs)))
  · show G l E K 2 [(0, .ref (E.2.2.1 65)), (1, .int z), (2, .int (nI (2 ^ n)))] [] M
    refine gs_iload_n (q := 2) k rfl rfl dX7_isEven_2 ?_
    refine gs_aload_n (q := 0) k rfl rfl dX7_isEven_3 ?_
    refine gs_callV (As := []) (k0 := 65) (ci := 7) (T := TX7) (N := 27) k (c_X7_sets hI hn) cf_X7_sets im_X7_sets sl_X7_sets ml_X7_83 (hI 65 (by omega)) rfl rfl (by decide) rfl rfl (Nat.le_of_ble_eq_true rfl) dX7_isEven_4 (ppI ?_)
    refine gs_icmpN_ge (a := 2 ^ n) (b := 2 ^ n) (tgt := 42) k rfl rfl (by omega) (by omega) (by decide) dX7_isEven_7 (fun c1 => ?_) (fun c1 => absurd c1 (by omega))
    refine gs_iconst (v := 1) k (by decide) dX7_isEven_42 ?_
    exact gs_zret k kt (by decide) dX7_isEven_43 (pB1 (fun s hs => hEs s (Nat.zero_le _) hs))

theorem cf_X3_leastValue : CF yX3_leastValue cX3_leastValue 4 (some .int) 1 := ⟨cd_X3_leastValue, iz_X3, by decide, by decide +kernel, by decide +kernel, by decide +kernel⟩
set_option maxRecDepth 100000 in
set_option maxHeartbeats 4000000 in
theorem c_X3_leastValue {l : Launch} {E : Ev} {M : Mm} {n : Nat} {kd : Nat → Int32} {V : Nat → Nat → Int32} (hI : ∀ k, k < 108 → k ∈ E.2.1) (hF : CFn M n kd V) {f : Nat} (hf : f < 6) (hn1 : 1 ≤ n) (hn6 : n ≤ 6) {y : Int32} (hy : y = nI n) : Cm l E yX3_leastValue cX3_leastValue 4 (some .int) 1 [.ref (E.2.2.1 (10 + 2 * f)), .int y] M (pI (lst (V f) n) M) := by
  refine Cm.of (by decide) (Nat.le_of_ble_eq_true rfl) (fun K k kt => ?_)
  show G l E K 0 [(0, .ref (E.2.2.1 (10 + 2 * f))), (1, .int y)] [] M
  have hp := p2_le6 hn6
  have hp2 := p2_ge2 hn1
  refine gs_aload_n (q := 0) k rfl rfl dX3_leastValue_0 ?_
  refine gs_get (C := RX3) (T := TX3) (N := 2) (ci := 3) (k0 := (10 + 2 * f)) (j := 1) k (hI (10 + 2 * f) (by omega)) (ent_F1 hf _) rfl inX3 (by decide) fl_X3_15 rfl rfl dX3_leastValue_1 ?_
  refine gs_iconst (v := 0) k (by decide) dX3_leastValue_4 ?_
  refine gs_ialdN (k0 := (11 + 2 * f)) (n := 64) (e := 0) k (hI (11 + 2 * f) (by omega)) (ent_V1 hf) rfl (by omega) (by decide) dX3_leastValue_5 ?_
  refine gs_top (y := V f 0) ((hF f hf).2.2 0 (by omega)) ?_
  refine gs_istore_n (lv' := [(2, .int (V f 0)), (0, .ref (E.2.2.1 (10 + 2 * f))), (1, .int y)]) k rfl (by decide) rfl dX3_leastValue_6 ?_
  refine gs_iconst (v := 1) k (by decide) dX3_leastValue_7 ?_
  refine gs_istore_n (lv' := [(3, .int 1), (2, .int (V f 0)), (0, .ref (E.2.2.1 (10 + 2 * f))), (1, .int y)]) k rfl (by decide) rfl dX3_leastValue_8 ?_
  refine gs_lv (lv' := [(0, .ref (E.2.2.1 (10 + 2 * f))), (1, .int y), (2, .int (V f 0)), (3, .int 1)]) [2, 3, 1, 0] rfl ?_
  refine for_up (σ := Int32) (fun s t => G l E K 9 [(0, .ref (E.2.2.1 (10 + 2 * f))), (1, .int y), (2, .int t), (3, .int (nI s))] [] M) (fun s t => imin t (V f s)) (2 ^ n) (fun s t hs hGs => ?_) (2 ^ n - 1) 1 (V f 0) (by omega) ?_
  · show G l E K 9 [(0, .ref (E.2.2.1 (10 + 2 * f))), (1, .int y), (2, .int t), (3, .int (nI s))] [] M
    refine gs_iload_n (q := 3) k rfl rfl dX3_leastValue_9 ?_
    refine gs_iconst (v := 1) k (by decide) dX3_leastValue_10 ?_
    refine gs_iload_n (q := 1) k rfl rfl dX3_leastValue_11 ?_
    refine gs_ishlN (b := n) k rfl hy (by omega) dX3_leastValue_12 ?_
    refine gs_icmpN_ge (a := s) (b := 2 ^ n) (tgt := 33) k rfl rfl (by omega) (by omega) (by decide) dX3_leastValue_13 (fun c1 => absurd c1 (by omega)) (fun c1 => ?_)
    refine gs_iload_n (q := 2) k rfl rfl dX3_leastValue_16 ?_
    refine gs_aload_n (q := 0) k rfl rfl dX3_leastValue_17 ?_
    refine gs_get (C := RX3) (T := TX3) (N := 2) (ci := 3) (k0 := (10 + 2 * f)) (j := 1) k (hI (10 + 2 * f) (by omega)) (ent_F1 hf _) rfl inX3 (by decide) fl_X3_15 rfl rfl dX3_leastValue_18 ?_
    refine gs_iload_n (q := 3) k rfl rfl dX3_leastValue_21 ?_
    refine gs_ialdN (k0 := (11 + 2 * f)) (n := 64) (e := s) k (hI (11 + 2 * f) (by omega)) (ent_V1 hf) rfl (by omega) (by decide) dX3_leastValue_22 ?_
    refine gs_top (y := V f s) ((hF f hf).2.2 s (by omega)) ?_
    refine gs_min k ml_X3_43 (by decide) (Nat.le_of_ble_eq_true rfl) dX3_leastValue_23 ?_
    refine gs_istore_n (lv' := [(2, .int (imin t (V f s))), (0, .ref (E.2.2.1 (10 + 2 * f))), (1, .int y), (3, .int (nI s))]) k rfl (by decide) rfl dX3_leastValue_26 ?_
    refine gs_iincN (q := 3) (a := s) (c := 1) (lv' := [(3, .int (nI (s + 1))), (2, .int (imin t (V f s))), (0, .ref (E.2.2.1 (10 + 2 * f))), (1, .int y)]) k rfl rfl (by decide) rfl dX3_leastValue_27 ?_
    refine gs_goto (tgt := 9) k (by decide) dX3_leastValue_30 ?_
    refine gs_lv (lv' := [(0, .ref (E.2.2.1 (10 + 2 * f))), (1, .int y), (2, .int (imin t (V f s))), (3, .int (nI (s + 1)))]) [2, 3, 1, 0] rfl ?_
    exact hGs _ rfl
  · show G l E K 9 [(0, .ref (E.2.2.1 (10 + 2 * f))), (1, .int y), (2, .int (lst (V f) n)), (3, .int (nI (2 ^ n)))] [] M
    refine gs_iload_n (q := 3) k rfl rfl dX3_leastValue_9 ?_
    refine gs_iconst (v := 1) k (by decide) dX3_leastValue_10 ?_
    refine gs_iload_n (q := 1) k rfl rfl dX3_leastValue_11 ?_
    refine gs_ishlN (b := n) k rfl hy (by omega) dX3_leastValue_12 ?_
    refine gs_icmpN_ge (a := 2 ^ n) (b := 2 ^ n) (tgt := 33) k rfl rfl (by omega) (by omega) (by decide) dX3_leastValue_13 (fun c1 => ?_) (fun c1 => absurd c1 (by omega))
    refine gs_iload_n (q := 2) k rfl rfl dX3_leastValue_33 ?_
    exact gs_iret k kt dX3_leastValue_34 ⟨rfl, rfl⟩

theorem cf_X7_leastOf : CF yX7_leastOf cX7_leastOf 4 (some .int) 1 := ⟨cd_X7_leastOf, iz_X7, by decide, by decide +kernel, by decide +kernel, by decide +kernel⟩
set_option maxRecDepth 100000 in
set_option maxHeartbeats 4000000 in
theorem c_X7_leastOf {l : Launch} {E : Ev} {M : Mm} {n : Nat} {kd : Nat → Int32} {V : Nat → Nat → Int32} (hI : ∀ k, k < 108 → k ∈ E.2.1) (hn : Rn M n) (hF : RFn M n kd V) {z : Int32} {f : Nat} (hz : z = nI f) (hf : f < 6) (ht : ¬ kd f < 0) : Cm l E yX7_leastOf cX7_leastOf 4 (some .int) 1 [.ref (E.2.2.1 65), .int z] M (pI (lst (V f) n) M) := by
  refine Cm.of (by decide) (Nat.le_of_ble_eq_true rfl) (fun K k kt => ?_)
  show G l E K 0 [(0, .ref (E.2.2.1 65)), (1, .int z)] [] M
  obtain ⟨hn0, hn1, hn6⟩ := id hn
  have hp := p2_le6 hn6
  have hp2 := p2_ge2 hn1
  refine gs_aload_n (q := 0) k rfl rfl dX7_leastOf_0 ?_
  refine gs_get (C := RX7) (T := TX7) (N := 27) (ci := 7) (k0 := 65) (j := 8) k (hI 65 (by omega)) rfl rfl inX7 (by decide) fl_X7_39 rfl rfl dX7_leastOf_1 ?_
  refine gs_iload_n (q := 1) k rfl rfl dX7_leastOf_4 ?_
  refine gs_aaldIN (k0 := 73) (n := 6) (e := f) (a := E.2.2.1 (74 + f)) k (hI 73 (by omega)) (fun _ => rfl) hz (by omega) (by decide) rfl dX7_leastOf_5 ?_
  refine gs_iconst (v := 0) k (by decide) dX7_leastOf_6 ?_
  refine gs_ialdN (k0 := (74 + f)) (n := 64) (e := 0) k (hI (74 + f) (by omega)) (ent_RV (by omega)) rfl (by omega) (by decide) dX7_leastOf_7 ?_
  refine gs_top (y := V f 0) ((hF f hf).2.2 ht 0 (by omega)) ?_
  refine gs_istore_n (lv' := [(2, .int (V f 0)), (0, .ref (E.2.2.1 65)), (1, .int z)]) k rfl (by decide) rfl dX7_leastOf_8 ?_
  refine gs_iconst (v := 1) k (by decide) dX7_leastOf_9 ?_
  refine gs_istore_n (lv' := [(3, .int 1), (2, .int (V f 0)), (0, .ref (E.2.2.1 65)), (1, .int z)]) k rfl (by decide) rfl dX7_leastOf_10 ?_
  refine gs_lv (lv' := [(0, .ref (E.2.2.1 65)), (1, .int z), (2, .int (V f 0)), (3, .int 1)]) [2, 3, 1, 0] rfl ?_
  refine for_up (σ := Int32) (fun s t => G l E K 11 [(0, .ref (E.2.2.1 65)), (1, .int z), (2, .int t), (3, .int (nI s))] [] M) (fun s t => imin t (V f s)) (2 ^ n) (fun s t hs hGs => ?_) (2 ^ n - 1) 1 (V f 0) (by omega) ?_
  · show G l E K 11 [(0, .ref (E.2.2.1 65)), (1, .int z), (2, .int t), (3, .int (nI s))] [] M
    refine gs_iload_n (q := 3) k rfl rfl dX7_leastOf_11 ?_
    refine gs_aload_n (q := 0) k rfl rfl dX7_leastOf_12 ?_
    refine gs_callV (As := []) (k0 := 65) (ci := 7) (T := TX7) (N := 27) k (c_X7_sets hI hn) cf_X7_sets im_X7_sets sl_X7_sets ml_X7_83 (hI 65 (by omega)) rfl rfl (by decide) rfl rfl (Nat.le_of_ble_eq_true rfl) dX7_leastOf_13 (ppI ?_)
    refine gs_icmpN_ge (a := s) (b := 2 ^ n) (tgt := 38) k rfl rfl (by omega) (by omega) (by decide) dX7_leastOf_16 (fun c1 => absurd c1 (by omega)) (fun c1 => ?_)
    refine gs_iload_n (q := 2) k rfl rfl dX7_leastOf_19 ?_
    refine gs_aload_n (q := 0) k rfl rfl dX7_leastOf_20 ?_
    refine gs_get (C := RX7) (T := TX7) (N := 27) (ci := 7) (k0 := 65) (j := 8) k (hI 65 (by omega)) rfl rfl inX7 (by decide) fl_X7_39 rfl rfl dX7_leastOf_21 ?_
    refine gs_iload_n (q := 1) k rfl rfl dX7_leastOf_24 ?_
    refine gs_aaldIN (k0 := 73) (n := 6) (e := f) (a := E.2.2.1 (74 + f)) k (hI 73 (by omega)) (fun _ => rfl) hz (by omega) (by decide) rfl dX7_leastOf_25 ?_
    refine gs_iload_n (q := 3) k rfl rfl dX7_leastOf_26 ?_
    refine gs_ialdN (k0 := (74 + f)) (n := 64) (e := s) k (hI (74 + f) (by omega)) (ent_RV (by omega)) rfl (by omega) (by decide) dX7_leastOf_27 ?_
    refine gs_top (y := V f s) ((hF f hf).2.2 ht s (by omega)) ?_
    refine gs_min k ml_X7_122 (by decide) (Nat.le_of_ble_eq_true rfl) dX7_leastOf_28 ?_
    refine gs_istore_n (lv' := [(2, .int (imin t (V f s))), (0, .ref (E.2.2.1 65)), (1, .int z), (3, .int (nI s))]) k rfl (by decide) rfl dX7_leastOf_31 ?_
    refine gs_iincN (q := 3) (a := s) (c := 1) (lv' := [(3, .int (nI (s + 1))), (2, .int (imin t (V f s))), (0, .ref (E.2.2.1 65)), (1, .int z)]) k rfl rfl (by decide) rfl dX7_leastOf_32 ?_
    refine gs_goto (tgt := 11) k (by decide) dX7_leastOf_35 ?_
    refine gs_lv (lv' := [(0, .ref (E.2.2.1 65)), (1, .int z), (2, .int (imin t (V f s))), (3, .int (nI (s + 1)))]) [2, 3, 1, 0] rfl ?_
    exact hGs _ rfl
  · show G l E K 11 [(0, .ref (E.2.2.1 65)), (1, .int z), (2, .int (lst (V f) n)), (3, .int (nI (2 ^ n)))] [] M
    refine gs_iload_n (q := 3) k rfl rfl dX7_leastOf_11 ?_
    refine gs_aload_n (q := 0) k rfl rfl dX7_leastOf_12 ?_
    refine gs_callV (As := []) (k0 := 65) (ci := 7) (T := TX7) (N := 27) k (c_X7_sets hI hn) cf_X7_sets im_X7_sets sl_X7_sets ml_X7_83 (hI 65 (by omega)) rfl rfl (by decide) rfl rfl (Nat.le_of_ble_eq_true rfl) dX7_leastOf_13 (ppI ?_)
    refine gs_icmpN_ge (a := 2 ^ n) (b := 2 ^ n) (tgt := 38) k rfl rfl (by omega) (by omega) (by decide) dX7_leastOf_16 (fun c1 => ?_) (fun c1 => absurd c1 (by omega))
    refine gs_iload_n (q := 2) k rfl rfl dX7_leastOf_38 ?_
    exact gs_iret k kt dX7_leastOf_39 ⟨rfl, rfl⟩

