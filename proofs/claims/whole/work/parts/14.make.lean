theorem cpy_setr (f g : Nat → Int32) (n : Nat) : va_cpy f g 0 0 n = setr n f g := by
  funext j
  by_cases h : j < n
  · rw [setr_in h, pk_cpy_in (Nat.zero_le _) (by omega), Nat.zero_add, Nat.sub_zero]
  · rw [setr_out h, pk_cpy_out (by omega)]
theorem setr_congr {n : Nat} {g g' r : Nat → Int32} (h : ∀ j, j < n → g j = g' j) : setr n g r = setr n g' r := by
  funext j
  by_cases c : j < n
  · rw [setr_in c, setr_in c, h j c]
  · rw [setr_out c, setr_out c]
theorem Same.of {U X M' : Mm} (h : U = X) (s : Same X M') : Same U M' := by rw [h]; exact s
def allV (N : Nat) (g : Nat → Int32) : Prop := ∀ j, j < N → isV (g j)
theorem allV_iff {N : Nat} {g h : Nat → Int32} (e : ∀ j, j < N → g j = h j) : (∀ j, j < N → isV (g j)) ↔ allV N h := ⟨fun q j hj => by rw [← e j hj]; exact q j hj, fun q j hj => by rw [e j hj]; exact q j hj⟩
/-- v1 and M1 where P, else v0 and M0 -/
def pC (P : Prop) (v1 : Int32) (M1 : Mm) (v0 : Int32) (M0 : Mm) : Option Value → Mm → Prop := fun r M' => (P ∧ r = some (.int v1) ∧ M' = M1) ∨ (¬ P ∧ r = some (.int v0) ∧ M' = M0)
theorem ppC {l : Launch} {E : Ev} {K : Kt} {pc : Nat} {lv : List (Nat × Value)} {st : List Value} {P : Prop} {v1 v0 : Int32} {M1 M0 : Mm} (h1 : P → G l E K pc lv (.int v1 :: st) M1) (h0 : ¬ P → G l E K pc lv (.int v0 :: st) M0) : ∀ r M', pC P v1 M1 v0 M0 r M' → G l E K pc lv (r.toList ++ st) M' := fun r M' hp => by
  rcases hp with ⟨h, rfl, rfl⟩ | ⟨h, rfl, rfl⟩
  · exact h1 h
  · exact h0 h
/-- the class: what is drafted becomes a function; a function with given values -/
def stlC (n t : Nat) (k : Int32) (M : Mm) : Mm := mw (rset M (11 + 2 * t) (setr (2 ^ n) (M 62) (M (11 + 2 * t)))) (10 + 2 * t) 0 k
def fsetC (n t : Nat) (k : Int32) (g : Nat → Int32) (M : Mm) : Mm := mw (rset M (11 + 2 * t) (setr (2 ^ n) g (M (11 + 2 * t)))) (10 + 2 * t) 0 k
theorem stl_same {n t : Nat} {k : Int32} {g : Nat → Int32} {M M' : Mm} (ht : t < 6) (hs : Same M M') (hg : ∀ j, j < 2 ^ n → M' 62 j = g j) : Same (fsetC n t k g M) (stlC n t k M') := by
  unfold fsetC stlC
  refine Same.m1' (Same.r1' hs ?_) rfl
  have e : M' (11 + 2 * t) = M (11 + 2 * t) := funext fun j => hs _ j (by unfold scr; omega)
  rw [e]
  exact (setr_congr hg).symm
/-- the reference -/
def becR (n t : Nat) (k : Int32) (g : Nat → Int32) (M : Mm) : Mm := rset (mw M 72 t k) (74 + t) (setr 64 (fun s => if s < 2 ^ n then g s else 0) (M (74 + t)))
theorem bec_same {n t : Nat} {k : Int32} {g g' : Nat → Int32} {M M' : Mm} (ht : t < 6) (hs : Same M M') (hg : ∀ j, j < 2 ^ n → g' j = g j) : Same (becR n t k g M) (becR n t k g' M') := by
  unfold becR
  refine Same.r1' (Same.m1' hs rfl) ?_
  have e : M' (74 + t) = M (74 + t) := funext fun j => hs _ j (by unfold scr; omega)
  rw [e]
  refine setr_congr (fun j _ => ?_)
  by_cases c : j < 2 ^ n
  · rw [if_pos c, if_pos c, hg j c]
  · rw [if_neg c, if_neg c]
theorem rdraft {M : Mm} {k N : Nat} {g r : Nat → Int32} : ∀ j, j < N → rset M k (setr N g r) k j = g j := fun j h => by rw [rset_eq]; exact setr_in h
theorem andlt {a b N : Nat} (h : a < N) : a &&& b < N := Nat.lt_of_le_of_lt Nat.and_le_left h
theorem andlt' {a b N : Nat} (h : b < N) : a &&& b < N := Nat.lt_of_le_of_lt Nat.and_le_right h
theorem orlt2 {a b n : Nat} (h : a < 2 ^ n) (h2 : b < 2 ^ n) : a ||| b < 2 ^ n := Nat.or_lt_two_pow h h2

theorem cf_X6_settle : CF yX6_settle cX6_settle 4 none 2 := ⟨cd_X6_settle, iz_X6, by decide, by decide +kernel, by decide +kernel, by decide +kernel⟩
set_option maxRecDepth 100000 in
set_option maxHeartbeats 4000000 in
theorem c_X6_settle {l : Launch} {E : Ev} {M : Mm} {n : Nat} (hI : ∀ k, k < 108 → k ∈ E.2.1) (hn : Cn M n) {x : Int32} {t : Nat} (hx : x = nI t) (ht : t < 6) {y : Int32} : Cm l E yX6_settle cX6_settle 4 none 1 [.ref (E.2.2.1 0), .int x, .int y] M (pV (stlC n t y M)) := by
  refine Cm.of (by decide) (Nat.le_of_ble_eq_true rfl) (fun K k kt => ?_)
  show G l E K 0 [(0, .ref (E.2.2.1 0)), (1, .int x), (2, .int y)] [] M
  obtain ⟨hn0, hn1, hn6⟩ := id hn
  have hp := p2_le6 hn6
  have hp2 := p2_ge2 hn1
  refine gs_aload_n (q := 0) k rfl rfl dX6_settle_0 ?_
  refine gs_get (C := RX6) (T := TX6) (N := 10) (ci := 6) (k0 := 0) (j := 0) k (hI 0 (by omega)) rfl rfl inX6 (by decide) fl_X6_12 rfl rfl dX6_settle_1 ?_
  refine gs_get (C := RX5) (T := TX5) (N := 9) (ci := 5) (k0 := 1) (j := 7) k (hI 1 (by omega)) rfl rfl inX5 (by decide) fl_X6_107 rfl rfl dX6_settle_4 ?_
  refine gs_iload_n (q := 1) k rfl rfl dX6_settle_7 ?_
  refine gs_aaldSN (k0 := 8) (n := 6) (e := t) (a := E.2.2.1 (10 + 2 * t)) k (hI 8 (by omega)) (fun _ => rfl) hx (by omega) (by decide) rfl dX6_settle_8 ?_
  refine gs_astore_n (lv' := [(3, .ref (E.2.2.1 (10 + 2 * t))), (0, .ref (E.2.2.1 0)), (1, .int x), (2, .int y)]) k rfl (by decide) rfl dX6_settle_9 ?_
  refine gs_aload_n (q := 1) k rfl rfl dX6_settle_10 ?_
  refine gs_get (C := RX6) (T := TX6) (N := 10) (ci := 6) (k0 := 0) (j := 7) k (hI 0 (by omega)) rfl rfl inX6 (by decide) fl_X6_53 rfl rfl dX6_settle_11 ?_
  refine gs_iconst (v := 0) k (by decide) dX6_settle_14 ?_
  refine gs_aload_n (q := 0) k rfl rfl dX6_settle_15 ?_
  refine gs_get (C := RX3) (T := TX3) (N := 2) (ci := 3) (k0 := (10 + 2 * t)) (j := 1) k (hI (10 + 2 * t) (by omega)) (ent_F1 (by omega) _) rfl inX3 (by decide) fl_X6_111 rfl rfl dX6_settle_16 ?_
  refine gs_iconst (v := 0) k (by decide) dX6_settle_19 ?_
  refine gs_aload_n (q := 1) k rfl rfl dX6_settle_20 ?_
  refine gs_get (C := RX6) (T := TX6) (N := 10) (ci := 6) (k0 := 0) (j := 0) k (hI 0 (by omega)) rfl rfl inX6 (by decide) fl_X6_12 rfl rfl dX6_settle_21 ?_
  refine gs_callV (As := []) (k0 := 1) (ci := 5) (T := TX5) (N := 9) k (c_X5_sets hI hn) cf_X5_sets im_X5_sets sl_X5_sets ml_X6_131 (hI 1 (by omega)) rfl rfl (by decide) rfl rfl (Nat.le_of_ble_eq_true rfl) dX6_settle_24 (ppI ?_)
  refine gs_copy (k0 := 62) (k1 := (11 + 2 * t)) (n0 := 64) (n1 := 64) (n := 2 ^ n) k ml_X6_309 (hI 62 (by omega)) (fun _ => rfl) (hI (11 + 2 * t) (by omega)) (ent_V1 (by omega)) (by decide) (by omega) (by omega) (by omega) (Nat.le_of_ble_eq_true rfl) dX6_settle_27 ?_
  refine gs_M (M' := (rset M (11 + 2 * t) (setr (2 ^ n) (M 62) (M (11 + 2 * t))))) (by rw [cpy_setr]) ?_
  refine gs_aload_n (q := 0) k rfl rfl dX6_settle_30 ?_
  refine gs_iload_n (q := 3) k rfl rfl dX6_settle_31 ?_
  refine gs_put (C := RX3) (T := TX3) (N := 2) (ci := 3) (k0 := (10 + 2 * t)) (j := 0) (ty := .int) k (hI (10 + 2 * t) (by omega)) (ent_F1 (by omega) _) (ent_F1 (by omega) _) rfl inX3 tyX3 tyX3_ok nmX3 (by decide) fl_X6_116 rfl rfl (tyX3_ok 0 (by decide)) rfl rfl (Nat.le_of_ble_eq_true rfl) dX6_settle_32 ?_
  exact gs_vret k kt dX6_settle_35 ⟨rfl, rfl⟩

theorem cf_X6_settleIfInRange : CF yX6_settleIfInRange cX6_settleIfInRange 2 (some .int) 1 := ⟨cd_X6_settleIfInRange, iz_X6, by decide, by decide +kernel, by decide +kernel, by decide +kernel⟩
set_option maxRecDepth 100000 in
set_option maxHeartbeats 4000000 in
theorem c_X6_settleIfInRange {l : Launch} {E : Ev} {M : Mm} {n : Nat} (hI : ∀ k, k < 108 → k ∈ E.2.1) (hn : Cn M n) {x : Int32} {t : Nat} (hx : x = nI t) (ht : t < 6) {g : Nat → Int32} (hg : ∀ j, j < 2 ^ n → M 62 j = g j) : Cm l E yX6_settleIfInRange cX6_settleIfInRange 2 (some .int) 2 [.ref (E.2.2.1 0), .int x] M (pC (allV (2 ^ n) g) 1 (stlC n t 5 M) (-3) M) := by
  refine Cm.of (by decide) (Nat.le_of_ble_eq_true rfl) (fun K k kt => ?_)
  show G l E K 0 [(0, .ref (E.2.2.1 0)), (1, .int x)] [] M
  obtain ⟨hn0, hn1, hn6⟩ := id hn
  have hp := p2_le6 hn6
  have hp2 := p2_ge2 hn1
  refine gs_aload_n (q := 0) k rfl rfl dX6_settleIfInRange_0 ?_
  refine gs_get (C := RX6) (T := TX6) (N := 10) (ci := 6) (k0 := 0) (j := 7) k (hI 0 (by omega)) rfl rfl inX6 (by decide) fl_X6_53 rfl rfl dX6_settleIfInRange_1 ?_
  refine gs_aload_n (q := 0) k rfl rfl dX6_settleIfInRange_4 ?_
  refine gs_get (C := RX6) (T := TX6) (N := 10) (ci := 6) (k0 := 0) (j := 0) k (hI 0 (by omega)) rfl rfl inX6 (by decide) fl_X6_12 rfl rfl dX6_settleIfInRange_5 ?_
  refine gs_callV (As := []) (k0 := 1) (ci := 5) (T := TX5) (N := 9) k (c_X5_sets hI hn) cf_X5_sets im_X5_sets sl_X5_sets ml_X6_131 (hI 1 (by omega)) rfl rfl (by decide) rfl rfl (Nat.le_of_ble_eq_true rfl) dX6_settleIfInRange_8 (ppI ?_)
  refine gs_callS (As := [.ref (E.2.2.1 62), .int (nI (2 ^ n))]) k (Cm.iff (allV_iff hg) (c_X6_allInRange (k0 := 62) (N := 2 ^ n) (hI 62 (by omega)) (fun _ => rfl) rfl (by omega))) cf_X6_allInRange sm_X6_allInRange ml_X6_282 (by decide) rfl rfl (Nat.le_of_ble_eq_true rfl) dX6_settleIfInRange_11 (ppB (fun c1 => ?_) (fun c1 => ?_))
  · refine gs_if_ne (tgt := 20) k (by decide) dX6_settleIfInRange_14 (fun _ => ?_) (fun h => absurd h (by decide))
    refine gs_aload_n (q := 0) k rfl rfl dX6_settleIfInRange_20 ?_
    refine gs_iload_n (q := 1) k rfl rfl dX6_settleIfInRange_21 ?_
    refine gs_iconst (v := 5) k (by decide) dX6_settleIfInRange_22 ?_
    refine gs_callV (As := [.int x, .int 5]) (k0 := 0) (ci := 6) (T := TX6) (N := 10) k (c_X6_settle hI hn (t := t) hx (by omega)) cf_X6_settle im_X6_settle sl_X6_settle ml_X6_286 (hI 0 (by omega)) rfl rfl (by decide) rfl rfl (Nat.le_of_ble_eq_true rfl) dX6_settleIfInRange_23 (ppV ?_)
    refine gs_iconst (v := 1) k (by decide) dX6_settleIfInRange_26 ?_
    exact gs_iret k kt dX6_settleIfInRange_27 (Or.inl ⟨c1, rfl, rfl⟩)
  · refine gs_if_ne (tgt := 20) k (by decide) dX6_settleIfInRange_14 (fun h => absurd h (by decide)) (fun _ => ?_)
    refine gs_bipush (v := -3) k (by decide) dX6_settleIfInRange_17 ?_
    exact gs_iret k kt dX6_settleIfInRange_19 (Or.inr ⟨c1, rfl, rfl⟩)

theorem cf_X7_becomes : CF yX7_becomes cX7_becomes 4 none 2 := ⟨cd_X7_becomes, iz_X7, by decide, by decide +kernel, by decide +kernel, by decide +kernel⟩
set_option maxRecDepth 100000 in
set_option maxHeartbeats 4000000 in
theorem c_X7_becomes {l : Launch} {E : Ev} {M : Mm} {n : Nat} (hI : ∀ k, k < 108 → k ∈ E.2.1) (hn : Rn M n) {x : Int32} {t : Nat} (hx : x = nI t) (ht : t < 6) {y : Int32} : Cm l E yX7_becomes cX7_becomes 4 none 1 [.ref (E.2.2.1 65), .int x, .int y] M (pV (becR n t y (M 80) M)) := by
  refine Cm.of (by decide) (Nat.le_of_ble_eq_true rfl) (fun K k kt => ?_)
  show G l E K 0 [(0, .ref (E.2.2.1 65)), (1, .int x), (2, .int y)] [] M
  obtain ⟨hn0, hn1, hn6⟩ := id hn
  have hp := p2_le6 hn6
  have hp2 := p2_ge2 hn1
  refine gs_aload_n (q := 0) k rfl rfl dX7_becomes_0 ?_
  refine gs_get (C := RX7) (T := TX7) (N := 27) (ci := 7) (k0 := 65) (j := 7) k (hI 65 (by omega)) rfl rfl inX7 (by decide) fl_X7_34 rfl rfl dX7_becomes_1 ?_
  refine gs_iload_n (q := 1) k rfl rfl dX7_becomes_4 ?_
  refine gs_iload_n (q := 2) k rfl rfl dX7_becomes_5 ?_
  refine gs_iastN (k0 := 72) (n := 6) (e := t) k (hI 72 (by omega)) (fun _ => rfl) hx (by omega) (by decide) dX7_becomes_6 ?_
  refine gs_iconst (v := 0) k (by decide) dX7_becomes_7 ?_
  refine gs_istore_n (lv' := [(3, .int 0), (0, .ref (E.2.2.1 65)), (1, .int x), (2, .int y)]) k rfl (by decide) rfl dX7_becomes_8 ?_
  refine gs_lv (lv' := [(0, .ref (E.2.2.1 65)), (1, .int x), (2, .int y), (3, .int 0)]) [1, 2, 3, 0] rfl ?_
  refine gs_M (rset_same (mw M 72 t (y)) (74 + t)).symm ?_
  refine for_up (σ := (Nat → Int32)) (fun s r => G l E K 9 [(0, .ref (E.2.2.1 65)), (1, .int x), (2, .int y), (3, .int (nI s))] [] (rset (mw M 72 t (y)) (74 + t) r)) (fun s r => upd r s (if s < 2 ^ n then M 80 s else 0)) 64 (fun s r hs hGs => ?_) 64 0 ((mw M 72 t (y)) (74 + t)) (by omega) ?_
  · show G l E K 9 [(0, .ref (E.2.2.1 65)), (1, .int x), (2, .int y), (3, .int (nI s))] [] (rset (mw M 72 t (y)) (74 + t) r)
    refine gs_iload_n (q := 3) k rfl rfl dX7_becomes_9 ?_
    refine gs_bipush (v := 64) k (by decide) dX7_becomes_10 ?_
    refine gs_icmpN_ge (a := s) (b := 64) (tgt := 47) k rfl rfl (by omega) (by omega) (by decide) dX7_becomes_12 (fun c1 => absurd c1 (by omega)) (fun c1 => ?_)
    refine gs_aload_n (q := 0) k rfl rfl dX7_becomes_15 ?_
    refine gs_get (C := RX7) (T := TX7) (N := 27) (ci := 7) (k0 := 65) (j := 8) k (hI 65 (by omega)) rfl rfl inX7 (by decide) fl_X7_39 rfl rfl dX7_becomes_16 ?_
    refine gs_iload_n (q := 1) k rfl rfl dX7_becomes_19 ?_
    refine gs_aaldIN (k0 := 73) (n := 6) (e := t) (a := E.2.2.1 (74 + t)) k (hI 73 (by omega)) (fun _ => rfl) hx (by omega) (by decide) rfl dX7_becomes_20 ?_
    refine gs_iload_n (q := 3) k rfl rfl dX7_becomes_21 ?_
    refine gs_iload_n (q := 3) k rfl rfl dX7_becomes_22 ?_
    refine gs_aload_n (q := 0) k rfl rfl dX7_becomes_23 ?_
    refine gs_callV (As := []) (k0 := 65) (ci := 7) (T := TX7) (N := 27) k (c_X7_sets hI (Rn_rs (by omega) (Rn_mw (by omega) hn))) cf_X7_sets im_X7_sets sl_X7_sets ml_X7_83 (hI 65 (by omega)) rfl rfl (by decide) rfl rfl (Nat.le_of_ble_eq_true rfl) dX7_becomes_24 (ppI ?_)
    refine gs_icmpN_ge (a := s) (b := 2 ^ n) (tgt := 39) k rfl rfl (by omega) (by omega) (by decide) dX7_becomes_27 (fun c2 => ?_) (fun c2 => ?_)
    · refine gs_iconst (v := 0) k (by decide) dX7_becomes_39 ?_
      refine gs_iastN (k0 := (74 + t)) (n := 64) (e := s) k (hI (74 + t) (by omega)) (ent_RV (by omega)) rfl (by omega) (by decide) dX7_becomes_40 ?_
      refine gs_M (mw_rset _ _ _ _ _) ?_
      refine gs_iincN (q := 3) (a := s) (c := 1) (lv' := [(3, .int (nI (s + 1))), (0, .ref (E.2.2.1 65)), (1, .int x), (2, .int y)]) k rfl rfl (by decide) rfl dX7_becomes_41 ?_
      refine gs_goto (tgt := 9) k (by decide) dX7_becomes_44 ?_
      refine gs_lv (lv' := [(0, .ref (E.2.2.1 65)), (1, .int x), (2, .int y), (3, .int (nI (s + 1)))]) [1, 2, 3, 0] rfl ?_
      exact hGs _ (by rw [if_neg (by omega)])
    · refine gs_aload_n (q := 0) k rfl rfl dX7_becomes_30 ?_
      refine gs_get (C := RX7) (T := TX7) (N := 27) (ci := 7) (k0 := 65) (j := 9) k (hI 65 (by omega)) rfl rfl inX7 (by decide) fl_X7_42 rfl rfl dX7_becomes_31 ?_
      refine gs_iload_n (q := 3) k rfl rfl dX7_becomes_34 ?_
      refine gs_ialdN (k0 := 80) (n := 64) (e := s) k (hI 80 (by omega)) (fun _ => rfl) rfl (by omega) (by decide) dX7_becomes_35 ?_
      refine gs_top (y := M 80 s) (rdr (by omega) (rdn (by omega) (rfl))) ?_
      refine gs_goto (tgt := 40) k (by decide) dX7_becomes_36 ?_
      refine gs_iastN (k0 := (74 + t)) (n := 64) (e := s) k (hI (74 + t) (by omega)) (ent_RV (by omega)) rfl (by omega) (by decide) dX7_becomes_40 ?_
      refine gs_M (mw_rset _ _ _ _ _) ?_
      refine gs_iincN (q := 3) (a := s) (c := 1) (lv' := [(3, .int (nI (s + 1))), (0, .ref (E.2.2.1 65)), (1, .int x), (2, .int y)]) k rfl rfl (by decide) rfl dX7_becomes_41 ?_
      refine gs_goto (tgt := 9) k (by decide) dX7_becomes_44 ?_
      refine gs_lv (lv' := [(0, .ref (E.2.2.1 65)), (1, .int x), (2, .int y), (3, .int (nI (s + 1)))]) [1, 2, 3, 0] rfl ?_
      exact hGs _ (by rw [if_pos c2])
  · show G l E K 9 [(0, .ref (E.2.2.1 65)), (1, .int x), (2, .int y), (3, .int (nI 64))] [] (rset (mw M 72 t (y)) (74 + t) (lp (fun s r => upd r s (if s < 2 ^ n then M 80 s else 0)) 64 0 ((mw M 72 t (y)) (74 + t))))
    rw [lp_setr, mw_nk _ _ _ (show 74 + t ≠ 72 by omega)]
    show G l E K 9 [(0, .ref (E.2.2.1 65)), (1, .int x), (2, .int y), (3, .int (nI 64))] [] (rset (mw M 72 t (y)) (74 + t) (setr 64 (fun s => if s < 2 ^ n then M 80 s else 0) (M (74 + t))))
    refine gs_iload_n (q := 3) k rfl rfl dX7_becomes_9 ?_
    refine gs_bipush (v := 64) k (by decide) dX7_becomes_10 ?_
    refine gs_icmpN_ge (a := 64) (b := 64) (tgt := 47) k rfl rfl (by omega) (by omega) (by decide) dX7_becomes_12 (fun c1 => ?_) (fun c1 => absurd c1 (by omega))
    exact gs_vret k kt dX7_becomes_47 ⟨rfl, rfl⟩

theorem cf_X7_comes : CF yX7_comes cX7_comes 2 (some .int) 1 := ⟨cd_X7_comes, iz_X7, by decide, by decide +kernel, by decide +kernel, by decide +kernel⟩
set_option maxRecDepth 100000 in
set_option maxHeartbeats 4000000 in
theorem c_X7_comes {l : Launch} {E : Ev} {M : Mm} {n : Nat} (hI : ∀ k, k < 108 → k ∈ E.2.1) (hn : Rn M n) {x : Int32} {t : Nat} (hx : x = nI t) (ht : t < 6) {g : Nat → Int32} (hg : ∀ j, j < 2 ^ n → M 80 j = g j) : Cm l E yX7_comes cX7_comes 2 (some .int) 3 [.ref (E.2.2.1 65), .int x] M (pC (allV (2 ^ n) g) 1 (becR n t 5 (M 80) M) (-3) M) := by
  refine Cm.of (by decide) (Nat.le_of_ble_eq_true rfl) (fun K k kt => ?_)
  show G l E K 0 [(0, .ref (E.2.2.1 65)), (1, .int x)] [] M
  obtain ⟨hn0, hn1, hn6⟩ := id hn
  have hp := p2_le6 hn6
  have hp2 := p2_ge2 hn1
  refine gs_aload_n (q := 0) k rfl rfl dX7_comes_0 ?_
  refine gs_callV (As := []) (k0 := 65) (ci := 7) (T := TX7) (N := 27) k (Cm.iff (allV_iff hg) (c_X7_areValues hI hn)) cf_X7_areValues im_X7_areValues sl_X7_areValues ml_X7_139 (hI 65 (by omega)) rfl rfl (by decide) rfl rfl (Nat.le_of_ble_eq_true rfl) dX7_comes_1 (ppB (fun c1 => ?_) (fun c1 => ?_))
  · refine gs_if_ne (tgt := 10) k (by decide) dX7_comes_4 (fun _ => ?_) (fun h => absurd h (by decide))
    refine gs_aload_n (q := 0) k rfl rfl dX7_comes_10 ?_
    refine gs_iload_n (q := 1) k rfl rfl dX7_comes_11 ?_
    refine gs_iconst (v := 5) k (by decide) dX7_comes_12 ?_
    refine gs_callV (As := [.int x, .int 5]) (k0 := 65) (ci := 7) (T := TX7) (N := 27) k (c_X7_becomes hI hn (t := t) hx (by omega)) cf_X7_becomes im_X7_becomes sl_X7_becomes ml_X7_143 (hI 65 (by omega)) rfl rfl (by decide) rfl rfl (Nat.le_of_ble_eq_true rfl) dX7_comes_13 (ppV ?_)
    refine gs_iconst (v := 1) k (by decide) dX7_comes_16 ?_
    exact gs_iret k kt dX7_comes_17 (Or.inl ⟨c1, rfl, rfl⟩)
  · refine gs_if_ne (tgt := 10) k (by decide) dX7_comes_4 (fun h => absurd h (by decide)) (fun _ => ?_)
    refine gs_bipush (v := -3) k (by decide) dX7_comes_7 ?_
    exact gs_iret k kt dX7_comes_9 (Or.inr ⟨c1, rfl, rfl⟩)

