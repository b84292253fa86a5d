theorem lp_upd (g : Nat → Int32) : ∀ (n i : Nat) (r : Nat → Int32), lp (fun j r => upd r j (g j)) n i r = fun j => if i ≤ j ∧ j < i + n then g j else r j := by
  intro n
  induction n with
  | zero => intro i r; funext j; rw [if_neg (by omega)]; rfl
  | succ n ih =>
    intro i r
    show lp (fun j r => upd r j (g j)) n (i + 1) (upd r i (g i)) = _
    rw [ih (i + 1)]
    funext j
    by_cases h : i + 1 ≤ j ∧ j < i + 1 + n
    · rw [if_pos h, if_pos (by omega)]
    · rw [if_neg h]
      by_cases e : j = i
      · subst e; rw [pk_us, if_pos (by omega)]
      · rw [pk_un e, if_neg (by omega)]
/-- the first n places become g -/
def setr (n : Nat) (g : Nat → Int32) (r : Nat → Int32) : Nat → Int32 := fun j => if j < n then g j else r j
theorem lp_setr (n : Nat) (g r : Nat → Int32) : lp (fun j r => upd r j (g j)) n 0 r = setr n g r := by
  rw [lp_upd]
  funext j
  unfold setr
  by_cases h : j < n
  · rw [if_pos h, if_pos (by omega)]
  · rw [if_neg h, if_neg (by omega)]
theorem setr_in {n j : Nat} {g r : Nat → Int32} (h : j < n) : setr n g r j = g j := if_pos h
theorem setr_out {n j : Nat} {g r : Nat → Int32} (h : ¬ j < n) : setr n g r j = r j := if_neg h
def wsum (w : Nat → Int32) (n S : Nat) : Int32 := lp (fun i t => if S.testBit i = true then t + w i else t) n 0 0
def csum (ld : Nat → Int32) (n S : Nat) : Int32 := lp (fun i t => lp (fun j u => if S.testBit i = true ∧ ¬ S.testBit j = true then u + ld (i * 6 + j) else u) n 0 t) n 0 0
def vsum (is ws : Nat → Int32) (x : Int32) : Int32 := lp (fun i t => if is i &&& x = 0 then t else t + ws i) 8 0 0
def bcnt (bl : Nat → Int32) (n S b : Nat) : Nat := lp (fun j c => if S.testBit j = true ∧ bl j = nI b then c + 1 else c) n 0 0
def ksum (bl cp : Nat → Int32) (n S : Nat) : Int32 := lp (fun b t => t + imin (nI (bcnt bl n S b)) (cp b)) 6 0 0

theorem cf_J7_fill_53178 : CF yJ7_fill_53178 cJ7_fill_53178 4 none 2 := ⟨cd_J7_fill_53178, iz_J7, by decide, by decide +kernel, by decide +kernel, by decide +kernel⟩
set_option maxRecDepth 100000 in
set_option maxHeartbeats 4000000 in
theorem c_J7_fill_53178 {l : Launch} {E : Ev} {M : Mm} {k0 n : Nat} {x : Int32} (hk : k0 ∈ E.2.1) (he : ∀ r, ent E.2.2.1 E.2.2.2.1 k0 r = ai E.2.2.2.1 n r) (hn : n < 2 ^ 31) : Cm l E yJ7_fill_53178 cJ7_fill_53178 4 none 0 [.ref (E.2.2.1 k0), .int x] M (pV (rset M k0 (setr n (fun _ => x) (M k0)))) := by
  refine Cm.of (by decide) (Nat.le_of_ble_eq_true rfl) (fun K k kt => ?_)
  show G l E K 0 [(0, .ref (E.2.2.1 k0)), (1, .int x)] [] M
  refine gs_iconst (v := 0) k (by decide) dJ7_fill_53178_0 ?_
  refine gs_istore_n (lv' := [(2, .int 0), (0, .ref (E.2.2.1 k0)), (1, .int x)]) k rfl (by decide) rfl dJ7_fill_53178_1 ?_
  refine gs_aload_n (q := 1) k rfl rfl dJ7_fill_53178_2 ?_
  refine gs_alen (k0 := k0) (n := n) k hk (he) rfl dJ7_fill_53178_3 ?_
  refine gs_istore_n (lv' := [(3, .int (nI n)), (2, .int 0), (0, .ref (E.2.2.1 k0)), (1, .int x)]) k rfl (by decide) rfl dJ7_fill_53178_4 ?_
  refine gs_lv (lv' := [(0, .ref (E.2.2.1 k0)), (1, .int x), (2, .int 0), (3, .int (nI n))]) [2, 3, 1, 0] rfl ?_
  refine gs_M (rset_same M k0).symm ?_
  refine for_up (σ := (Nat → Int32)) (fun i r => G l E K 5 [(0, .ref (E.2.2.1 k0)), (1, .int x), (2, .int (nI i)), (3, .int (nI n))] [] (rset M k0 r)) (fun i r => upd r i x) n (fun i r hi hGi => ?_) n 0 (M k0) (by omega) ?_
  · show G l E K 5 [(0, .ref (E.2.2.1 k0)), (1, .int x), (2, .int (nI i)), (3, .int (nI n))] [] (rset M k0 r)
    refine gs_iload_n (q := 2) k rfl rfl dJ7_fill_53178_5 ?_
    refine gs_iload_n (q := 3) k rfl rfl dJ7_fill_53178_6 ?_
    refine gs_icmpN_ge (a := i) (b := n) (tgt := 20) k rfl rfl (by omega) (by omega) (by decide) dJ7_fill_53178_7 (fun c1 => absurd c1 (by omega)) (fun c1 => ?_)
    refine gs_aload_n (q := 0) k rfl rfl dJ7_fill_53178_10 ?_
    refine gs_iload_n (q := 2) k rfl rfl dJ7_fill_53178_11 ?_
    refine gs_iload_n (q := 1) k rfl rfl dJ7_fill_53178_12 ?_
    refine gs_iastN (k0 := k0) (n := n) (e := i) k hk (he) rfl (by omega) hn dJ7_fill_53178_13 ?_
    refine gs_M (mw_rset _ _ _ _ _) ?_
    refine gs_iincN (q := 2) (a := i) (c := 1) (lv' := [(2, .int (nI (i + 1))), (0, .ref (E.2.2.1 k0)), (1, .int x), (3, .int (nI n))]) k rfl rfl (by decide) rfl dJ7_fill_53178_14 ?_
    refine gs_goto (tgt := 5) k (by decide) dJ7_fill_53178_17 ?_
    refine gs_lv (lv' := [(0, .ref (E.2.2.1 k0)), (1, .int x), (2, .int (nI (i + 1))), (3, .int (nI n))]) [1, 2, 0, 3] rfl ?_
    exact hGi _ rfl
  · show G l E K 5 [(0, .ref (E.2.2.1 k0)), (1, .int x), (2, .int (nI n)), (3, .int (nI n))] [] (rset M k0 (lp (fun i r => upd r i x) n 0 (M k0)))
    refine gs_iload_n (q := 2) k rfl rfl dJ7_fill_53178_5 ?_
    refine gs_iload_n (q := 3) k rfl rfl dJ7_fill_53178_6 ?_
    refine gs_icmpN_ge (a := n) (b := n) (tgt := 20) k rfl rfl (by omega) (by omega) (by decide) dJ7_fill_53178_7 (fun c1 => ?_) (fun c1 => absurd c1 (by omega))
    exact gs_vret k kt dJ7_fill_53178_20 ⟨rfl, (by rw [lp_setr])⟩

theorem cf_X5_totalWeight : CF yX5_totalWeight cX5_totalWeight 4 (some .int) 1 := ⟨cd_X5_totalWeight, iz_X5, by decide, by decide +kernel, by decide +kernel, by decide +kernel⟩
set_option maxRecDepth 100000 in
set_option maxHeartbeats 4000000 in
theorem c_X5_totalWeight {l : Launch} {E : Ev} {M : Mm} {n : Nat} (hI : ∀ k, k < 108 → k ∈ E.2.1) (hn : Cn M n) {x : Int32} {S : Nat} (hx : x = nI S) (hS : S < 2 ^ n) : Cm l E yX5_totalWeight cX5_totalWeight 4 (some .int) 1 [.ref (E.2.2.1 1), .int x] M (pI (wsum (M 7) n S) M) := by
  refine Cm.of (by decide) (Nat.le_of_ble_eq_true rfl) (fun K k kt => ?_)
  show G l E K 0 [(0, .ref (E.2.2.1 1)), (1, .int x)] [] M
  obtain ⟨hn0, hn1, hn6⟩ := id hn
  have hp := p2_le6 hn6
  have hp2 := p2_ge2 hn1
  refine gs_iconst (v := 0) k (by decide) dX5_totalWeight_0 ?_
  refine gs_istore_n (lv' := [(2, .int 0), (0, .ref (E.2.2.1 1)), (1, .int x)]) k rfl (by decide) rfl dX5_totalWeight_1 ?_
  refine gs_iconst (v := 0) k (by decide) dX5_totalWeight_2 ?_
  refine gs_istore_n (lv' := [(3, .int 0), (2, .int 0), (0, .ref (E.2.2.1 1)), (1, .int x)]) k rfl (by decide) rfl dX5_totalWeight_3 ?_
  refine gs_lv (lv' := [(0, .ref (E.2.2.1 1)), (1, .int x), (2, .int 0), (3, .int 0)]) [2, 3, 1, 0] rfl ?_
  refine for_up (σ := Int32) (fun i t => G l E K 4 [(0, .ref (E.2.2.1 1)), (1, .int x), (2, .int t), (3, .int (nI i))] [] M) (fun i t => if S.testBit i = true then t + M 7 i else t) n (fun i t hi hGi => ?_) n 0 0 (by omega) ?_
  · show G l E K 4 [(0, .ref (E.2.2.1 1)), (1, .int x), (2, .int t), (3, .int (nI i))] [] M
    refine gs_iload_n (q := 3) k rfl rfl dX5_totalWeight_4 ?_
    refine gs_aload_n (q := 0) k rfl rfl dX5_totalWeight_5 ?_
    refine gs_get (C := RX5) (T := TX5) (N := 9) (ci := 5) (k0 := 1) (j := 0) k (hI 1 (by omega)) rfl rfl inX5 (by decide) fl_X5_44 rfl rfl dX5_totalWeight_6 ?_
    refine gs_icmpN_ge (a := i) (b := n) (tgt := 35) k rfl hn0 (by omega) (by omega) (by decide) dX5_totalWeight_9 (fun c1 => absurd c1 (by omega)) (fun c1 => ?_)
    refine gs_iload_n (q := 1) k rfl rfl dX5_totalWeight_12 ?_
    refine gs_iload_n (q := 3) k rfl rfl dX5_totalWeight_13 ?_
    refine gs_callH5 (As := [.int x, .int (nI i)]) k (c_X6_holds (S := S) (P := i) hx rfl (by omega) (by omega)) cf_X6_holds sm_X6_holds (by decide) rfl rfl (Nat.le_of_ble_eq_true rfl) dX5_totalWeight_14 (ppB (fun c2 => ?_) (fun c2 => ?_))
    · refine gs_if_eq (tgt := 29) k (by decide) dX5_totalWeight_17 (fun h => absurd h (by decide)) (fun _ => ?_)
      refine gs_iload_n (q := 2) k rfl rfl dX5_totalWeight_20 ?_
      refine gs_aload_n (q := 0) k rfl rfl dX5_totalWeight_21 ?_
      refine gs_get (C := RX5) (T := TX5) (N := 9) (ci := 5) (k0 := 1) (j := 6) k (hI 1 (by omega)) rfl rfl inX5 (by decide) fl_X5_27 rfl rfl dX5_totalWeight_22 ?_
      refine gs_iload_n (q := 3) k rfl rfl dX5_totalWeight_25 ?_
      refine gs_ialdN (k0 := 7) (n := 6) (e := i) k (hI 7 (by omega)) (fun _ => rfl) rfl (by omega) (by decide) dX5_totalWeight_26 ?_
      refine gs_iadd k dX5_totalWeight_27 ?_
      refine gs_istore_n (lv' := [(2, .int (t + (M 7 i))), (0, .ref (E.2.2.1 1)), (1, .int x), (3, .int (nI i))]) k rfl (by decide) rfl dX5_totalWeight_28 ?_
      refine gs_iincN (q := 3) (a := i) (c := 1) (lv' := [(3, .int (nI (i + 1))), (2, .int (t + (M 7 i))), (0, .ref (E.2.2.1 1)), (1, .int x)]) k rfl rfl (by decide) rfl dX5_totalWeight_29 ?_
      refine gs_goto (tgt := 4) k (by decide) dX5_totalWeight_32 ?_
      refine gs_lv (lv' := [(0, .ref (E.2.2.1 1)), (1, .int x), (2, .int (t + (M 7 i))), (3, .int (nI (i + 1)))]) [2, 3, 1, 0] rfl ?_
      exact hGi _ (by simp [c2])
    · refine gs_if_eq (tgt := 29) k (by decide) dX5_totalWeight_17 (fun _ => ?_) (fun h => absurd h (by decide))
      refine gs_iincN (q := 3) (a := i) (c := 1) (lv' := [(3, .int (nI (i + 1))), (0, .ref (E.2.2.1 1)), (1, .int x), (2, .int t)]) k rfl rfl (by decide) rfl dX5_totalWeight_29 ?_
      refine gs_goto (tgt := 4) k (by decide) dX5_totalWeight_32 ?_
      refine gs_lv (lv' := [(0, .ref (E.2.2.1 1)), (1, .int x), (2, .int t), (3, .int (nI (i + 1)))]) [1, 2, 3, 0] rfl ?_
      exact hGi _ (by simp [c2])
  · show G l E K 4 [(0, .ref (E.2.2.1 1)), (1, .int x), (2, .int (wsum (M 7) n S)), (3, .int (nI n))] [] M
    refine gs_iload_n (q := 3) k rfl rfl dX5_totalWeight_4 ?_
    refine gs_aload_n (q := 0) k rfl rfl dX5_totalWeight_5 ?_
    refine gs_get (C := RX5) (T := TX5) (N := 9) (ci := 5) (k0 := 1) (j := 0) k (hI 1 (by omega)) rfl rfl inX5 (by decide) fl_X5_44 rfl rfl dX5_totalWeight_6 ?_
    refine gs_icmpN_ge (a := n) (b := n) (tgt := 35) k rfl hn0 (by omega) (by omega) (by decide) dX5_totalWeight_9 (fun c1 => ?_) (fun c1 => absurd c1 (by omega))
    refine gs_iload_n (q := 2) k rfl rfl dX5_totalWeight_35 ?_
    exact gs_iret k kt dX5_totalWeight_36 ⟨rfl, rfl⟩

theorem cf_X7_weightOf : CF yX7_weightOf cX7_weightOf 4 (some .int) 1 := ⟨cd_X7_weightOf, iz_X7, by decide, by decide +kernel, by decide +kernel, by decide +kernel⟩
set_option maxRecDepth 100000 in
set_option maxHeartbeats 4000000 in
theorem c_X7_weightOf {l : Launch} {E : Ev} {M : Mm} {n : Nat} (hI : ∀ k, k < 108 → k ∈ E.2.1) (hn : Rn M n) {x : Int32} {S : Nat} (hx : x = nI S) (hS : S < 2 ^ n) : Cm l E yX7_weightOf cX7_weightOf 4 (some .int) 1 [.ref (E.2.2.1 65), .int x] M (pI (wsum (M 71) n S) M) := by
  refine Cm.of (by decide) (Nat.le_of_ble_eq_true rfl) (fun K k kt => ?_)
  show G l E K 0 [(0, .ref (E.2.2.1 65)), (1, .int x)] [] M
  obtain ⟨hn0, hn1, hn6⟩ := id hn
  have hp := p2_le6 hn6
  have hp2 := p2_ge2 hn1
  refine gs_iconst (v := 0) k (by decide) dX7_weightOf_0 ?_
  refine gs_istore_n (lv' := [(2, .int 0), (0, .ref (E.2.2.1 65)), (1, .int x)]) k rfl (by decide) rfl dX7_weightOf_1 ?_
  refine gs_iconst (v := 0) k (by decide) dX7_weightOf_2 ?_
  refine gs_istore_n (lv' := [(3, .int 0), (2, .int 0), (0, .ref (E.2.2.1 65)), (1, .int x)]) k rfl (by decide) rfl dX7_weightOf_3 ?_
  refine gs_lv (lv' := [(0, .ref (E.2.2.1 65)), (1, .int x), (2, .int 0), (3, .int 0)]) [2, 3, 1, 0] rfl ?_
  refine for_up (σ := Int32) (fun i t => G l E K 4 [(0, .ref (E.2.2.1 65)), (1, .int x), (2, .int t), (3, .int (nI i))] [] M) (fun i t => if S.testBit i = true then t + M 71 i else t) n (fun i t hi hGi => ?_) n 0 0 (by omega) ?_
  · show G l E K 4 [(0, .ref (E.2.2.1 65)), (1, .int x), (2, .int t), (3, .int (nI i))] [] M
    refine gs_iload_n (q := 3) k rfl rfl dX7_weightOf_4 ?_
    refine gs_aload_n (q := 0) k rfl rfl dX7_weightOf_5 ?_
    refine gs_get (C := RX7) (T := TX7) (N := 27) (ci := 7) (k0 := 65) (j := 0) k (hI 65 (by omega)) rfl rfl inX7 (by decide) fl_X7_9 rfl rfl dX7_weightOf_6 ?_
    refine gs_icmpN_ge (a := i) (b := n) (tgt := 35) k rfl hn0 (by omega) (by omega) (by decide) dX7_weightOf_9 (fun c1 => absurd c1 (by omega)) (fun c1 => ?_)
    refine gs_iload_n (q := 1) k rfl rfl dX7_weightOf_12 ?_
    refine gs_iload_n (q := 3) k rfl rfl dX7_weightOf_13 ?_
    refine gs_callS (As := [.int x, .int (nI i)]) k (c_X7_has (S := S) (P := i) hx rfl (by omega) (by omega)) cf_X7_has sm_X7_has ml_X7_118 (by decide) rfl rfl (Nat.le_of_ble_eq_true rfl) dX7_weightOf_14 (ppB (fun c2 => ?_) (fun c2 => ?_))
    · refine gs_if_eq (tgt := 29) k (by decide) dX7_weightOf_17 (fun h => absurd h (by decide)) (fun _ => ?_)
      refine gs_iload_n (q := 2) k rfl rfl dX7_weightOf_20 ?_
      refine gs_aload_n (q := 0) k rfl rfl dX7_weightOf_21 ?_
      refine gs_get (C := RX7) (T := TX7) (N := 27) (ci := 7) (k0 := 65) (j := 6) k (hI 65 (by omega)) rfl rfl inX7 (by decide) fl_X7_31 rfl rfl dX7_weightOf_22 ?_
      refine gs_iload_n (q := 3) k rfl rfl dX7_weightOf_25 ?_
      refine gs_ialdN (k0 := 71) (n := 6) (e := i) k (hI 71 (by omega)) (fun _ => rfl) rfl (by omega) (by decide) dX7_weightOf_26 ?_
      refine gs_iadd k dX7_weightOf_27 ?_
      refine gs_istore_n (lv' := [(2, .int (t + (M 71 i))), (0, .ref (E.2.2.1 65)), (1, .int x), (3, .int (nI i))]) k rfl (by decide) rfl dX7_weightOf_28 ?_
      refine gs_iincN (q := 3) (a := i) (c := 1) (lv' := [(3, .int (nI (i + 1))), (2, .int (t + (M 71 i))), (0, .ref (E.2.2.1 65)), (1, .int x)]) k rfl rfl (by decide) rfl dX7_weightOf_29 ?_
      refine gs_goto (tgt := 4) k (by decide) dX7_weightOf_32 ?_
      refine gs_lv (lv' := [(0, .ref (E.2.2.1 65)), (1, .int x), (2, .int (t + (M 71 i))), (3, .int (nI (i + 1)))]) [2, 3, 1, 0] rfl ?_
      exact hGi _ (by simp [c2])
    · refine gs_if_eq (tgt := 29) k (by decide) dX7_weightOf_17 (fun _ => ?_) (fun h => absurd h (by decide))
      refine gs_iincN (q := 3) (a := i) (c := 1) (lv' := [(3, .int (nI (i + 1))), (0, .ref (E.2.2.1 65)), (1, .int x), (2, .int t)]) k rfl rfl (by decide) rfl dX7_weightOf_29 ?_
      refine gs_goto (tgt := 4) k (by decide) dX7_weightOf_32 ?_
      refine gs_lv (lv' := [(0, .ref (E.2.2.1 65)), (1, .int x), (2, .int t), (3, .int (nI (i + 1)))]) [1, 2, 3, 0] rfl ?_
      exact hGi _ (by simp [c2])
  · show G l E K 4 [(0, .ref (E.2.2.1 65)), (1, .int x), (2, .int (wsum (M 71) n S)), (3, .int (nI n))] [] M
    refine gs_iload_n (q := 3) k rfl rfl dX7_weightOf_4 ?_
    refine gs_aload_n (q := 0) k rfl rfl dX7_weightOf_5 ?_
    refine gs_get (C := RX7) (T := TX7) (N := 27) (ci := 7) (k0 := 65) (j := 0) k (hI 65 (by omega)) rfl rfl inX7 (by decide) fl_X7_9 rfl rfl dX7_weightOf_6 ?_
    refine gs_icmpN_ge (a := n) (b := n) (tgt := 35) k rfl hn0 (by omega) (by omega) (by decide) dX7_weightOf_9 (fun c1 => ?_) (fun c1 => absurd c1 (by omega))
    refine gs_iload_n (q := 2) k rfl rfl dX7_weightOf_35 ?_
    exact gs_iret k kt dX7_weightOf_36 ⟨rfl, rfl⟩

theorem cf_X5_loadOut : CF yX5_loadOut cX5_loadOut 5 (some .int) 1 := ⟨cd_X5_loadOut, iz_X5, by decide, by decide +kernel, by decide +kernel, by decide +kernel⟩
set_option maxRecDepth 100000 in
set_option maxHeartbeats 4000000 in
theorem c_X5_loadOut {l : Launch} {E : Ev} {M : Mm} {n : Nat} (hI : ∀ k, k < 108 → k ∈ E.2.1) (hn : Cn M n) {x : Int32} {S : Nat} (hx : x = nI S) (hS : S < 2 ^ n) : Cm l E yX5_loadOut cX5_loadOut 5 (some .int) 1 [.ref (E.2.2.1 1), .int x] M (pI (csum (M 2) n S) M) := by
  refine Cm.of (by decide) (Nat.le_of_ble_eq_true rfl) (fun K k kt => ?_)
  show G l E K 0 [(0, .ref (E.2.2.1 1)), (1, .int x)] [] M
  obtain ⟨hn0, hn1, hn6⟩ := id hn
  have hp := p2_le6 hn6
  have hp2 := p2_ge2 hn1
  refine gs_iconst (v := 0) k (by decide) dX5_loadOut_0 ?_
  refine gs_istore_n (lv' := [(2, .int 0), (0, .ref (E.2.2.1 1)), (1, .int x)]) k rfl (by decide) rfl dX5_loadOut_1 ?_
  refine gs_iconst (v := 0) k (by decide) dX5_loadOut_2 ?_
  refine gs_istore_n (lv' := [(3, .int 0), (2, .int 0), (0, .ref (E.2.2.1 1)), (1, .int x)]) k rfl (by decide) rfl dX5_loadOut_3 ?_
  refine gs_lv (lv' := [(0, .ref (E.2.2.1 1)), (1, .int x), (2, .int 0), (3, .int 0)]) [2, 3, 1, 0] rfl ?_
  refine for_up (σ := Int32) (fun i t => G l E K 4 [(0, .ref (E.2.2.1 1)), (1, .int x), (2, .int t), (3, .int (nI i))] [] M) (fun i t => lp (fun j u => if S.testBit i = true ∧ ¬ S.testBit j = true then u + M 2 (i * 6 + j) else u) n 0 t) n (fun i t hi hGi => ?_) n 0 0 (by omega) ?_
  · show G l E K 4 [(0, .ref (E.2.2.1 1)), (1, .int x), (2, .int t), (3, .int (nI i))] [] M
    refine gs_iload_n (q := 3) k rfl rfl dX5_loadOut_4 ?_
    refine gs_aload_n (q := 0) k rfl rfl dX5_loadOut_5 ?_
    refine gs_get (C := RX5) (T := TX5) (N := 9) (ci := 5) (k0 := 1) (j := 0) k (hI 1 (by omega)) rfl rfl inX5 (by decide) fl_X5_44 rfl rfl dX5_loadOut_6 ?_
    refine gs_icmpN_ge (a := i) (b := n) (tgt := 68) k rfl hn0 (by omega) (by omega) (by decide) dX5_loadOut_9 (fun c1 => absurd c1 (by omega)) (fun c1 => ?_)
    refine gs_iconst (v := 0) k (by decide) dX5_loadOut_12 ?_
    refine gs_istore (lv' := [(4, .int 0), (0, .ref (E.2.2.1 1)), (1, .int x), (2, .int t), (3, .int (nI i))]) k (by decide) rfl dX5_loadOut_13 ?_
    refine gs_lv (lv' := [(0, .ref (E.2.2.1 1)), (1, .int x), (2, .int t), (3, .int (nI i)), (4, .int 0)]) [1, 2, 3, 4, 0] rfl ?_
    refine for_up (σ := Int32) (fun j u => G l E K 15 [(0, .ref (E.2.2.1 1)), (1, .int x), (2, .int u), (3, .int (nI i)), (4, .int (nI j))] [] M) (fun j u => if S.testBit i = true ∧ ¬ S.testBit j = true then u + M 2 (i * 6 + j) else u) n (fun j u hj hGj => ?_) n 0 t (by omega) ?_
    · show G l E K 15 [(0, .ref (E.2.2.1 1)), (1, .int x), (2, .int u), (3, .int (nI i)), (4, .int (nI j))] [] M
      refine gs_iload (q := 4) k rfl dX5_loadOut_15 ?_
      refine gs_aload_n (q := 0) k rfl rfl dX5_loadOut_17 ?_
      refine gs_get (C := RX5) (T := TX5) (N := 9) (ci := 5) (k0 := 1) (j := 0) k (hI 1 (by omega)) rfl rfl inX5 (by decide) fl_X5_44 rfl rfl dX5_loadOut_18 ?_
      refine gs_icmpN_ge (a := j) (b := n) (tgt := 62) k rfl hn0 (by omega) (by omega) (by decide) dX5_loadOut_21 (fun c2 => absurd c2 (by omega)) (fun c2 => ?_)
      refine gs_iload_n (q := 1) k rfl rfl dX5_loadOut_24 ?_
      refine gs_iload_n (q := 3) k rfl rfl dX5_loadOut_25 ?_
      refine gs_callH5 (As := [.int x, .int (nI i)]) k (c_X6_holds (S := S) (P := i) hx rfl (by omega) (by omega)) cf_X6_holds sm_X6_holds (by decide) rfl rfl (Nat.le_of_ble_eq_true rfl) dX5_loadOut_26 (ppB (fun c3 => ?_) (fun c3 => ?_))
      · refine gs_if_eq (tgt := 56) k (by decide) dX5_loadOut_29 (fun h => absurd h (by decide)) (fun _ => ?_)
        refine gs_iload_n (q := 1) k rfl rfl dX5_loadOut_32 ?_
        refine gs_iload (q := 4) k rfl dX5_loadOut_33 ?_
        refine gs_callH5 (As := [.int x, .int (nI j)]) k (c_X6_holds (S := S) (P := j) hx rfl (by omega) (by omega)) cf_X6_holds sm_X6_holds (by decide) rfl rfl (Nat.le_of_ble_eq_true rfl) dX5_loadOut_35 (ppB (fun c4 => ?_) (fun c4 => ?_))
        · refine gs_if_ne (tgt := 56) k (by decide) dX5_loadOut_38 (fun _ => ?_) (fun h => absurd h (by decide))
          refine gs_iincN (q := 4) (a := j) (c := 1) (lv' := [(4, .int (nI (j + 1))), (0, .ref (E.2.2.1 1)), (1, .int x), (2, .int u), (3, .int (nI i))]) k rfl rfl (by decide) rfl dX5_loadOut_56 ?_
          refine gs_goto (tgt := 15) k (by decide) dX5_loadOut_59 ?_
          refine gs_lv (lv' := [(0, .ref (E.2.2.1 1)), (1, .int x), (2, .int u), (3, .int (nI i)), (4, .int (nI (j + 1)))]) [1, 2, 3, 4, 0] rfl ?_
          exact hGj _ (by simp [c3, c4])
        · refine gs_if_ne (tgt := 56) k (by decide) dX5_loadOut_38 (fun h => absurd h (by decide)) (fun _ => ?_)
          refine gs_iload_n (q := 2) k rfl rfl dX5_loadOut_41 ?_
          refine gs_aload_n (q := 0) k rfl rfl dX5_loadOut_42 ?_
          refine gs_get (C := RX5) (T := TX5) (N := 9) (ci := 5) (k0 := 1) (j := 1) k (hI 1 (by omega)) rfl rfl inX5 (by decide) fl_X5_9 rfl rfl dX5_loadOut_43 ?_
          refine gs_iload_n (q := 3) k rfl rfl dX5_loadOut_46 ?_
          refine gs_bipush (v := 6) k (by decide) dX5_loadOut_47 ?_
          refine gs_imulN (a := i) (b := 6) k rfl rfl dX5_loadOut_49 ?_
          refine gs_iload (q := 4) k rfl dX5_loadOut_50 ?_
          refine gs_iaddN (a := i * 6) (b := j) k rfl rfl dX5_loadOut_52 ?_
          refine gs_ialdN (k0 := 2) (n := 36) (e := (i * 6) + j) k (hI 2 (by omega)) (fun _ => rfl) rfl (by omega) (by decide) dX5_loadOut_53 ?_
          refine gs_iadd k dX5_loadOut_54 ?_
          refine gs_istore_n (lv' := [(2, .int (u + (M 2 ((i * 6) + j)))), (0, .ref (E.2.2.1 1)), (1, .int x), (3, .int (nI i)), (4, .int (nI j))]) k rfl (by decide) rfl dX5_loadOut_55 ?_
          refine gs_iincN (q := 4) (a := j) (c := 1) (lv' := [(4, .int (nI (j + 1))), (2, .int (u + (M 2 ((i * 6) + j)))), (0, .ref (E.2.2.1 1)), (1, .int x), (3, .int (nI i))]) k rfl rfl (by decide) rfl dX5_loadOut_56 ?_
          refine gs_goto (tgt := 15) k (by decide) dX5_loadOut_59 ?_
          refine gs_lv (lv' := [(0, .ref (E.2.2.1 1)), (1, .int x), (2, .int (u + (M 2 ((i * 6) + j)))), (3, .int (nI i)), (4, .int (nI (j + 1)))]) [2, 3, 1, 4, 0] rfl ?_
          exact hGj _ (by simp [c3, c4])
      · refine gs_if_eq (tgt := 56) k (by decide) dX5_loadOut_29 (fun _ => ?_) (fun h => absurd h (by decide))
        refine gs_iincN (q := 4) (a := j) (c := 1) (lv' := [(4, .int (nI (j + 1))), (0, .ref (E.2.2.1 1)), (1, .int x), (2, .int u), (3, .int (nI i))]) k rfl rfl (by decide) rfl dX5_loadOut_56 ?_
        refine gs_goto (tgt := 15) k (by decide) dX5_loadOut_59 ?_
        refine gs_lv (lv' := [(0, .ref (E.2.2.1 1)), (1, .int x), (2, .int u), (3, .int (nI i)), (4, .int (nI (j + 1)))]) [1, 2, 3, 4, 0] rfl ?_
        exact hGj _ (by simp [c3])
    · show G l E K 15 [(0, .ref (E.2.2.1 1)), (1, .int x), (2, .int (lp (fun j u => if S.testBit i = true ∧ ¬ S.testBit j = true then u + M 2 (i * 6 + j) else u) n 0 t)), (3, .int (nI i)), (4, .int (nI n))] [] M
      refine gs_iload (q := 4) k rfl dX5_loadOut_15 ?_
      refine gs_aload_n (q := 0) k rfl rfl dX5_loadOut_17 ?_
      refine gs_get (C := RX5) (T := TX5) (N := 9) (ci := 5) (k0 := 1) (j := 0) k (hI 1 (by omega)) rfl rfl inX5 (by decide) fl_X5_44 rfl rfl dX5_loadOut_18 ?_
      refine gs_icmpN_ge (a := n) (b := n) (tgt := 62) k rfl hn0 (by omega) (by omega) (by decide) dX5_loadOut_21 (fun c2 => ?_) (fun c2 => absurd c2 (by omega))
      refine gs_iincN (q := 3) (a := i) (c := 1) (lv' := [(3, .int (nI (i + 1))), (0, .ref (E.2.2.1 1)), (1, .int x), (2, .int (lp (fun j u => if S.testBit i = true ∧ ¬ S.testBit j = true then u + M 2 (i * 6 + j) else u) n 0 t)), (4, .int (nI n))]) k rfl rfl (by decide) rfl dX5_loadOut_62 ?_
      refine gs_goto (tgt := 4) k (by decide) dX5_loadOut_65 ?_
      refine gs_lv (lv' := [(0, .ref (E.2.2.1 1)), (1, .int x), (2, .int (lp (fun j u => if S.testBit i = true ∧ ¬ S.testBit j = true then u + M 2 (i * 6 + j) else u) n 0 t)), (3, .int (nI (i + 1))), (4, .int (nI n))]) [1, 2, 3, 0, 4] rfl ?_
      refine gs_lv (lv' := [(0, .ref (E.2.2.1 1)), (1, .int x), (2, .int (lp (fun j u => if S.testBit i = true ∧ ¬ S.testBit j = true then u + M 2 (i * 6 + j) else u) n 0 t)), (3, .int (nI (i + 1)))]) [0, 1, 2, 3] rfl ?_
      exact hGi _ rfl
  · show G l E K 4 [(0, .ref (E.2.2.1 1)), (1, .int x), (2, .int (csum (M 2) n S)), (3, .int (nI n))] [] M
    refine gs_iload_n (q := 3) k rfl rfl dX5_loadOut_4 ?_
    refine gs_aload_n (q := 0) k rfl rfl dX5_loadOut_5 ?_
    refine gs_get (C := RX5) (T := TX5) (N := 9) (ci := 5) (k0 := 1) (j := 0) k (hI 1 (by omega)) rfl rfl inX5 (by decide) fl_X5_44 rfl rfl dX5_loadOut_6 ?_
    refine gs_icmpN_ge (a := n) (b := n) (tgt := 68) k rfl hn0 (by omega) (by omega) (by decide) dX5_loadOut_9 (fun c1 => ?_) (fun c1 => absurd c1 (by omega))
    refine gs_iload_n (q := 2) k rfl rfl dX5_loadOut_68 ?_
    exact gs_iret k kt dX5_loadOut_69 ⟨rfl, rfl⟩

theorem cf_X7_cutOf : CF yX7_cutOf cX7_cutOf 5 (some .int) 1 := ⟨cd_X7_cutOf, iz_X7, by decide, by decide +kernel, by decide +kernel, by decide +kernel⟩
set_option maxRecDepth 100000 in
set_option maxHeartbeats 4000000 in
theorem c_X7_cutOf {l : Launch} {E : Ev} {M : Mm} {n : Nat} (hI : ∀ k, k < 108 → k ∈ E.2.1) (hn : Rn M n) {x : Int32} {S : Nat} (hx : x = nI S) (hS : S < 2 ^ n) : Cm l E yX7_cutOf cX7_cutOf 5 (some .int) 1 [.ref (E.2.2.1 65), .int x] M (pI (csum (M 66) n S) M) := by
  refine Cm.of (by decide) (Nat.le_of_ble_eq_true rfl) (fun K k kt => ?_)
  show G l E K 0 [(0, .ref (E.2.2.1 65)), (1, .int x)] [] M
  obtain ⟨hn0, hn1, hn6⟩ := id hn
  have hp := p2_le6 hn6
  have hp2 := p2_ge2 hn1
  refine gs_iconst (v := 0) k (by decide) dX7_cutOf_0 ?_
  refine gs_istore_n (lv' := [(2, .int 0), (0, .ref (E.2.2.1 65)), (1, .int x)]) k rfl (by decide) rfl dX7_cutOf_1 ?_
  refine gs_iconst (v := 0) k (by decide) dX7_cutOf_2 ?_
  refine gs_istore_n (lv' := [(3, .int 0), (2, .int 0), (0, .ref (E.2.2.1 65)), (1, .int x)]) k rfl (by decide) rfl dX7_cutOf_3 ?_
  refine gs_lv (lv' := [(0, .ref (E.2.2.1 65)), (1, .int x), (2, .int 0), (3, .int 0)]) [2, 3, 1, 0] rfl ?_
  refine for_up (σ := Int32) (fun i t => G l E K 4 [(0, .ref (E.2.2.1 65)), (1, .int x), (2, .int t), (3, .int (nI i))] [] M) (fun i t => lp (fun j u => if S.testBit i = true ∧ ¬ S.testBit j = true then u + M 66 (i * 6 + j) else u) n 0 t) n (fun i t hi hGi => ?_) n 0 0 (by omega) ?_
  · show G l E K 4 [(0, .ref (E.2.2.1 65)), (1, .int x), (2, .int t), (3, .int (nI i))] [] M
    refine gs_iload_n (q := 3) k rfl rfl dX7_cutOf_4 ?_
    refine gs_aload_n (q := 0) k rfl rfl dX7_cutOf_5 ?_
    refine gs_get (C := RX7) (T := TX7) (N := 27) (ci := 7) (k0 := 65) (j := 0) k (hI 65 (by omega)) rfl rfl inX7 (by decide) fl_X7_9 rfl rfl dX7_cutOf_6 ?_
    refine gs_icmpN_ge (a := i) (b := n) (tgt := 68) k rfl hn0 (by omega) (by omega) (by decide) dX7_cutOf_9 (fun c1 => absurd c1 (by omega)) (fun c1 => ?_)
    refine gs_iconst (v := 0) k (by decide) dX7_cutOf_12 ?_
    refine gs_istore (lv' := [(4, .int 0), (0, .ref (E.2.2.1 65)), (1, .int x), (2, .int t), (3, .int (nI i))]) k (by decide) rfl dX7_cutOf_13 ?_
    refine gs_lv (lv' := [(0, .ref (E.2.2.1 65)), (1, .int x), (2, .int t), (3, .int (nI i)), (4, .int 0)]) [1, 2, 3, 4, 0] rfl ?_
    refine for_up (σ := Int32) (fun j u => G l E K 15 [(0, .ref (E.2.2.1 65)), (1, .int x), (2, .int u), (3, .int (nI i)), (4, .int (nI j))] [] M) (fun j u => if S.testBit i = true ∧ ¬ S.testBit j = true then u + M 66 (i * 6 + j) else u) n (fun j u hj hGj => ?_) n 0 t (by omega) ?_
    · show G l E K 15 [(0, .ref (E.2.2.1 65)), (1, .int x), (2, .int u), (3, .int (nI i)), (4, .int (nI j))] [] M
      refine gs_iload (q := 4) k rfl dX7_cutOf_15 ?_
      refine gs_aload_n (q := 0) k rfl rfl dX7_cutOf_17 ?_
      refine gs_get (C := RX7) (T := TX7) (N := 27) (ci := 7) (k0 := 65) (j := 0) k (hI 65 (by omega)) rfl rfl inX7 (by decide) fl_X7_9 rfl rfl dX7_cutOf_18 ?_
      refine gs_icmpN_ge (a := j) (b := n) (tgt := 62) k rfl hn0 (by omega) (by omega) (by decide) dX7_cutOf_21 (fun c2 => absurd c2 (by omega)) (fun c2 => ?_)
      refine gs_iload_n (q := 1) k rfl rfl dX7_cutOf_24 ?_
      refine gs_iload_n (q := 3) k rfl rfl dX7_cutOf_25 ?_
      refine gs_callS (As := [.int x, .int (nI i)]) k (c_X7_has (S := S) (P := i) hx rfl (by omega) (by omega)) cf_X7_has sm_X7_has ml_X7_118 (by decide) rfl rfl (Nat.le_of_ble_eq_true rfl) dX7_cutOf_26 (ppB (fun c3 => ?_) (fun c3 => ?_))
      · refine gs_if_eq (tgt := 56) k (by decide) dX7_cutOf_29 (fun h => absurd h (by decide)) (fun _ => ?_)
        refine gs_iload_n (q := 1) k rfl rfl dX7_cutOf_32 ?_
        refine gs_iload (q := 4) k rfl dX7_cutOf_33 ?_
        refine gs_callS (As := [.int x, .int (nI j)]) k (c_X7_has (S := S) (P := j) hx rfl (by omega) (by omega)) cf_X7_has sm_X7_has ml_X7_118 (by decide) rfl rfl (Nat.le_of_ble_eq_true rfl) dX7_cutOf_35 (ppB (fun c4 => ?_) (fun c4 => ?_))
        · refine gs_if_ne (tgt := 56) k (by decide) dX7_cutOf_38 (fun _ => ?_) (fun h => absurd h (by decide))
          refine gs_iincN (q := 4) (a := j) (c := 1) (lv' := [(4, .int (nI (j + 1))), (0, .ref (E.2.2.1 65)), (1, .int x), (2, .int u), (3, .int (nI i))]) k rfl rfl (by decide) rfl dX7_cutOf_56 ?_
          refine gs_goto (tgt := 15) k (by decide) dX7_cutOf_59 ?_
          refine gs_lv (lv' := [(0, .ref (E.2.2.1 65)), (1, .int x), (2, .int u), (3, .int (nI i)), (4, .int (nI (j + 1)))]) [1, 2, 3, 4, 0] rfl ?_
          exact hGj _ (by simp [c3, c4, Nat.mul_comm])
        · refine gs_if_ne (tgt := 56) k (by decide) dX7_cutOf_38 (fun h => absurd h (by decide)) (fun _ => ?_)
          refine gs_iload_n (q := 2) k rfl rfl dX7_cutOf_41 ?_
          refine gs_aload_n (q := 0) k rfl rfl dX7_cutOf_42 ?_
          refine gs_get (C := RX7) (T := TX7) (N := 27) (ci := 7) (k0 := 65) (j := 1) k (hI 65 (by omega)) rfl rfl inX7 (by decide) fl_X7_15 rfl rfl dX7_cutOf_43 ?_
          refine gs_bipush (v := 6) k (by decide) dX7_cutOf_46 ?_
          refine gs_iload_n (q := 3) k rfl rfl dX7_cutOf_48 ?_
          refine gs_imulN (a := 6) (b := i) k rfl rfl dX7_cutOf_49 ?_
          refine gs_iload (q := 4) k rfl dX7_cutOf_50 ?_
          refine gs_iaddN (a := 6 * i) (b := j) k rfl rfl dX7_cutOf_52 ?_
          refine gs_ialdN (k0 := 66) (n := 36) (e := (6 * i) + j) k (hI 66 (by omega)) (fun _ => rfl) rfl (by omega) (by decide) dX7_cutOf_53 ?_
          refine gs_iadd k dX7_cutOf_54 ?_
          refine gs_istore_n (lv' := [(2, .int (u + (M 66 ((6 * i) + j)))), (0, .ref (E.2.2.1 65)), (1, .int x), (3, .int (nI i)), (4, .int (nI j))]) k rfl (by decide) rfl dX7_cutOf_55 ?_
          refine gs_iincN (q := 4) (a := j) (c := 1) (lv' := [(4, .int (nI (j + 1))), (2, .int (u + (M 66 ((6 * i) + j)))), (0, .ref (E.2.2.1 65)), (1, .int x), (3, .int (nI i))]) k rfl rfl (by decide) rfl dX7_cutOf_56 ?_
          refine gs_goto (tgt := 15) k (by decide) dX7_cutOf_59 ?_
          refine gs_lv (lv' := [(0, .ref (E.2.2.1 65)), (1, .int x), (2, .int (u + (M 66 ((6 * i) + j)))), (3, .int (nI i)), (4, .int (nI (j + 1)))]) [2, 3, 1, 4, 0] rfl ?_
          exact hGj _ (by simp [c3, c4, Nat.mul_comm])
      · refine gs_if_eq (tgt := 56) k (by decide) dX7_cutOf_29 (fun _ => ?_) (fun h => absurd h (by decide))
        refine gs_iincN (q := 4) (a := j) (c := 1) (lv' := [(4, .int (nI (j + 1))), (0, .ref (E.2.2.1 65)), (1, .int x), (2, .int u), (3, .int (nI i))]) k rfl rfl (by decide) rfl dX7_cutOf_56 ?_
        refine gs_goto (tgt := 15) k (by decide) dX7_cutOf_59 ?_
        refine gs_lv (lv' := [(0, .ref (E.2.2.1 65)), (1, .int x), (2, .int u), (3, .int (nI i)), (4, .int (nI (j + 1)))]) [1, 2, 3, 4, 0] rfl ?_
        exact hGj _ (by simp [c3, Nat.mul_comm])
    · show G l E K 15 [(0, .ref (E.2.2.1 65)), (1, .int x), (2, .int (lp (fun j u => if S.testBit i = true ∧ ¬ S.testBit j = true then u + M 66 (i * 6 + j) else u) n 0 t)), (3, .int (nI i)), (4, .int (nI n))] [] M
      refine gs_iload (q := 4) k rfl dX7_cutOf_15 ?_
      refine gs_aload_n (q := 0) k rfl rfl dX7_cutOf_17 ?_
      refine gs_get (C := RX7) (T := TX7) (N := 27) (ci := 7) (k0 := 65) (j := 0) k (hI 65 (by omega)) rfl rfl inX7 (by decide) fl_X7_9 rfl rfl dX7_cutOf_18 ?_
      refine gs_icmpN_ge (a := n) (b := n) (tgt := 62) k rfl hn0 (by omega) (by omega) (by decide) dX7_cutOf_21 (fun c2 => ?_) (fun c2 => absurd c2 (by omega))
      refine gs_iincN (q := 3) (a := i) (c := 1) (lv' := [(3, .int (nI (i + 1))), (0, .ref (E.2.2.1 65)), (1, .int x), (2, .int (lp (fun j u => if S.testBit i = true ∧ ¬ S.testBit j = true then u + M 66 (i * 6 + j) else u) n 0 t)), (4, .int (nI n))]) k rfl rfl (by decide) rfl dX7_cutOf_62 ?_
      refine gs_goto (tgt := 4) k (by decide) dX7_cutOf_65 ?_
      refine gs_lv (lv' := [(0, .ref (E.2.2.1 65)), (1, .int x), (2, .int (lp (fun j u => if S.testBit i = true ∧ ¬ S.testBit j = true then u + M 66 (i * 6 + j) else u) n 0 t)), (3, .int (nI (i + 1))), (4, .int (nI n))]) [1, 2, 3, 0, 4] rfl ?_
      refine gs_lv (lv' := [(0, .ref (E.2.2.1 65)), (1, .int x), (2, .int (lp (fun j u => if S.testBit i = true ∧ ¬ S.testBit j = true then u + M 66 (i * 6 + j) else u) n 0 t)), (3, .int (nI (i + 1)))]) [0, 1, 2, 3] rfl ?_
      exact hGi _ rfl
  · show G l E K 4 [(0, .ref (E.2.2.1 65)), (1, .int x), (2, .int (csum (M 66) n S)), (3, .int (nI n))] [] M
    refine gs_iload_n (q := 3) k rfl rfl dX7_cutOf_4 ?_
    refine gs_aload_n (q := 0) k rfl rfl dX7_cutOf_5 ?_
    refine gs_get (C := RX7) (T := TX7) (N := 27) (ci := 7) (k0 := 65) (j := 0) k (hI 65 (by omega)) rfl rfl inX7 (by decide) fl_X7_9 rfl rfl dX7_cutOf_6 ?_
    refine gs_icmpN_ge (a := n) (b := n) (tgt := 68) k rfl hn0 (by omega) (by omega) (by decide) dX7_cutOf_9 (fun c1 => ?_) (fun c1 => absurd c1 (by omega))
    refine gs_iload_n (q := 2) k rfl rfl dX7_cutOf_68 ?_
    exact gs_iret k kt dX7_cutOf_69 ⟨rfl, rfl⟩

theorem cf_X5_worthMet : CF yX5_worthMet cX5_worthMet 4 (some .int) 1 := ⟨cd_X5_worthMet, iz_X5, by decide, by decide +kernel, by decide +kernel, by decide +kernel⟩
set_option maxRecDepth 100000 in
set_option maxHeartbeats 4000000 in
theorem c_X5_worthMet {l : Launch} {E : Ev} {M : Mm} (hI : ∀ k, k < 108 → k ∈ E.2.1) {x : Int32} : Cm l E yX5_worthMet cX5_worthMet 4 (some .int) 0 [.ref (E.2.2.1 1), .int x] M (pI (vsum (M 4) (M 3) x) M) := by
  refine Cm.of (by decide) (Nat.le_of_ble_eq_true rfl) (fun K k kt => ?_)
  show G l E K 0 [(0, .ref (E.2.2.1 1)), (1, .int x)] [] M
  refine gs_iconst (v := 0) k (by decide) dX5_worthMet_0 ?_
  refine gs_istore_n (lv' := [(2, .int 0), (0, .ref (E.2.2.1 1)), (1, .int x)]) k rfl (by decide) rfl dX5_worthMet_1 ?_
  refine gs_iconst (v := 0) k (by decide) dX5_worthMet_2 ?_
  refine gs_istore_n (lv' := [(3, .int 0), (2, .int 0), (0, .ref (E.2.2.1 1)), (1, .int x)]) k rfl (by decide) rfl dX5_worthMet_3 ?_
  refine gs_lv (lv' := [(0, .ref (E.2.2.1 1)), (1, .int x), (2, .int 0), (3, .int 0)]) [2, 3, 1, 0] rfl ?_
  refine for_up (σ := Int32) (fun i t => G l E K 4 [(0, .ref (E.2.2.1 1)), (1, .int x), (2, .int t), (3, .int (nI i))] [] M) (fun i t => if M 4 i &&& x = 0 then t else t + M 3 i) 8 (fun i t hi hGi => ?_) 8 0 0 (by omega) ?_
  · show G l E K 4 [(0, .ref (E.2.2.1 1)), (1, .int x), (2, .int t), (3, .int (nI i))] [] M
    refine gs_iload_n (q := 3) k rfl rfl dX5_worthMet_4 ?_
    refine gs_bipush (v := 8) k (by decide) dX5_worthMet_5 ?_
    refine gs_icmpN_ge (a := i) (b := 8) (tgt := 36) k rfl rfl (by omega) (by omega) (by decide) dX5_worthMet_7 (fun c1 => absurd c1 (by omega)) (fun c1 => ?_)
    refine gs_aload_n (q := 0) k rfl rfl dX5_worthMet_10 ?_
    refine gs_get (C := RX5) (T := TX5) (N := 9) (ci := 5) (k0 := 1) (j := 3) k (hI 1 (by omega)) rfl rfl inX5 (by decide) fl_X5_18 rfl rfl dX5_worthMet_11 ?_
    refine gs_iload_n (q := 3) k rfl rfl dX5_worthMet_14 ?_
    refine gs_ialdN (k0 := 4) (n := 8) (e := i) k (hI 4 (by omega)) (fun _ => rfl) rfl (by omega) (by decide) dX5_worthMet_15 ?_
    refine gs_iload_n (q := 1) k rfl rfl dX5_worthMet_16 ?_
    refine gs_iand k dX5_worthMet_17 ?_
    refine gs_if_eq (tgt := 30) k (by decide) dX5_worthMet_18 (fun c2 => ?_) (fun c2 => ?_)
    · refine gs_iincN (q := 3) (a := i) (c := 1) (lv' := [(3, .int (nI (i + 1))), (0, .ref (E.2.2.1 1)), (1, .int x), (2, .int t)]) k rfl rfl (by decide) rfl dX5_worthMet_30 ?_
      refine gs_goto (tgt := 4) k (by decide) dX5_worthMet_33 ?_
      refine gs_lv (lv' := [(0, .ref (E.2.2.1 1)), (1, .int x), (2, .int t), (3, .int (nI (i + 1)))]) [1, 2, 3, 0] rfl ?_
      exact hGi _ (by simp [c2])
    · refine gs_iload_n (q := 2) k rfl rfl dX5_worthMet_21 ?_
      refine gs_aload_n (q := 0) k rfl rfl dX5_worthMet_22 ?_
      refine gs_get (C := RX5) (T := TX5) (N := 9) (ci := 5) (k0 := 1) (j := 2) k (hI 1 (by omega)) rfl rfl inX5 (by decide) fl_X5_15 rfl rfl dX5_worthMet_23 ?_
      refine gs_iload_n (q := 3) k rfl rfl dX5_worthMet_26 ?_
      refine gs_ialdN (k0 := 3) (n := 8) (e := i) k (hI 3 (by omega)) (fun _ => rfl) rfl (by omega) (by decide) dX5_worthMet_27 ?_
      refine gs_iadd k dX5_worthMet_28 ?_
      refine gs_istore_n (lv' := [(2, .int (t + (M 3 i))), (0, .ref (E.2.2.1 1)), (1, .int x), (3, .int (nI i))]) k rfl (by decide) rfl dX5_worthMet_29 ?_
      refine gs_iincN (q := 3) (a := i) (c := 1) (lv' := [(3, .int (nI (i + 1))), (2, .int (t + (M 3 i))), (0, .ref (E.2.2.1 1)), (1, .int x)]) k rfl rfl (by decide) rfl dX5_worthMet_30 ?_
      refine gs_goto (tgt := 4) k (by decide) dX5_worthMet_33 ?_
      refine gs_lv (lv' := [(0, .ref (E.2.2.1 1)), (1, .int x), (2, .int (t + (M 3 i))), (3, .int (nI (i + 1)))]) [2, 3, 1, 0] rfl ?_
      exact hGi _ (by simp [c2])
  · show G l E K 4 [(0, .ref (E.2.2.1 1)), (1, .int x), (2, .int (vsum (M 4) (M 3) x)), (3, .int (nI 8))] [] M
    refine gs_iload_n (q := 3) k rfl rfl dX5_worthMet_4 ?_
    refine gs_bipush (v := 8) k (by decide) dX5_worthMet_5 ?_
    refine gs_icmpN_ge (a := 8) (b := 8) (tgt := 36) k rfl rfl (by omega) (by omega) (by decide) dX5_worthMet_7 (fun c1 => ?_) (fun c1 => absurd c1 (by omega))
    refine gs_iload_n (q := 2) k rfl rfl dX5_worthMet_36 ?_
    exact gs_iret k kt dX5_worthMet_37 ⟨rfl, rfl⟩

theorem cf_X7_coverOf : CF yX7_coverOf cX7_coverOf 4 (some .int) 1 := ⟨cd_X7_coverOf, iz_X7, by decide, by decide +kernel, by decide +kernel, by decide +kernel⟩
set_option maxRecDepth 100000 in
set_option maxHeartbeats 4000000 in
theorem c_X7_coverOf {l : Launch} {E : Ev} {M : Mm} (hI : ∀ k, k < 108 → k ∈ E.2.1) {x : Int32} : Cm l E yX7_coverOf cX7_coverOf 4 (some .int) 0 [.ref (E.2.2.1 65), .int x] M (pI (vsum (M 68) (M 67) x) M) := by
  refine Cm.of (by decide) (Nat.le_of_ble_eq_true rfl) (fun K k kt => ?_)
  show G l E K 0 [(0, .ref (E.2.2.1 65)), (1, .int x)] [] M
  refine gs_iconst (v := 0) k (by decide) dX7_coverOf_0 ?_
  refine gs_istore_n (lv' := [(2, .int 0), (0, .ref (E.2.2.1 65)), (1, .int x)]) k rfl (by decide) rfl dX7_coverOf_1 ?_
  refine gs_iconst (v := 0) k (by decide) dX7_coverOf_2 ?_
  refine gs_istore_n (lv' := [(3, .int 0), (2, .int 0), (0, .ref (E.2.2.1 65)), (1, .int x)]) k rfl (by decide) rfl dX7_coverOf_3 ?_
  refine gs_lv (lv' := [(0, .ref (E.2.2.1 65)), (1, .int x), (2, .int 0), (3, .int 0)]) [2, 3, 1, 0] rfl ?_
  refine for_up (σ := Int32) (fun i t => G l E K 4 [(0, .ref (E.2.2.1 65)), (1, .int x), (2, .int t), (3, .int (nI i))] [] M) (fun i t => if M 68 i &&& x = 0 then t else t + M 67 i) 8 (fun i t hi hGi => ?_) 8 0 0 (by omega) ?_
  · show G l E K 4 [(0, .ref (E.2.2.1 65)), (1, .int x), (2, .int t), (3, .int (nI i))] [] M
    refine gs_iload_n (q := 3) k rfl rfl dX7_coverOf_4 ?_
    refine gs_bipush (v := 8) k (by decide) dX7_coverOf_5 ?_
    refine gs_icmpN_ge (a := i) (b := 8) (tgt := 36) k rfl rfl (by omega) (by omega) (by decide) dX7_coverOf_7 (fun c1 => absurd c1 (by omega)) (fun c1 => ?_)
    refine gs_aload_n (q := 0) k rfl rfl dX7_coverOf_10 ?_
    refine gs_get (C := RX7) (T := TX7) (N := 27) (ci := 7) (k0 := 65) (j := 3) k (hI 65 (by omega)) rfl rfl inX7 (by decide) fl_X7_22 rfl rfl dX7_coverOf_11 ?_
    refine gs_iload_n (q := 3) k rfl rfl dX7_coverOf_14 ?_
    refine gs_ialdN (k0 := 68) (n := 8) (e := i) k (hI 68 (by omega)) (fun _ => rfl) rfl (by omega) (by decide) dX7_coverOf_15 ?_
    refine gs_iload_n (q := 1) k rfl rfl dX7_coverOf_16 ?_
    refine gs_iand k dX7_coverOf_17 ?_
    refine gs_if_eq (tgt := 30) k (by decide) dX7_coverOf_18 (fun c2 => ?_) (fun c2 => ?_)
    · refine gs_iincN (q := 3) (a := i) (c := 1) (lv' := [(3, .int (nI (i + 1))), (0, .ref (E.2.2.1 65)), (1, .int x), (2, .int t)]) k rfl rfl (by decide) rfl dX7_coverOf_30 ?_
      refine gs_goto (tgt := 4) k (by decide) dX7_coverOf_33 ?_
      refine gs_lv (lv' := [(0, .ref (E.2.2.1 65)), (1, .int x), (2, .int t), (3, .int (nI (i + 1)))]) [1, 2, 3, 0] rfl ?_
      exact hGi _ (by simp [c2])
    · refine gs_iload_n (q := 2) k rfl rfl dX7_coverOf_21 ?_
      refine gs_aload_n (q := 0) k rfl rfl dX7_coverOf_22 ?_
      refine gs_get (C := RX7) (T := TX7) (N := 27) (ci := 7) (k0 := 65) (j := 2) k (hI 65 (by omega)) rfl rfl inX7 (by decide) fl_X7_19 rfl rfl dX7_coverOf_23 ?_
      refine gs_iload_n (q := 3) k rfl rfl dX7_coverOf_26 ?_
      refine gs_ialdN (k0 := 67) (n := 8) (e := i) k (hI 67 (by omega)) (fun _ => rfl) rfl (by omega) (by decide) dX7_coverOf_27 ?_
      refine gs_iadd k dX7_coverOf_28 ?_
      refine gs_istore_n (lv' := [(2, .int (t + (M 67 i))), (0, .ref (E.2.2.1 65)), (1, .int x), (3, .int (nI i))]) k rfl (by decide) rfl dX7_coverOf_29 ?_
      refine gs_iincN (q := 3) (a := i) (c := 1) (lv' := [(3, .int (nI (i + 1))), (2, .int (t + (M 67 i))), (0, .ref (E.2.2.1 65)), (1, .int x)]) k rfl rfl (by decide) rfl dX7_coverOf_30 ?_
      refine gs_goto (tgt := 4) k (by decide) dX7_coverOf_33 ?_
      refine gs_lv (lv' := [(0, .ref (E.2.2.1 65)), (1, .int x), (2, .int (t + (M 67 i))), (3, .int (nI (i + 1)))]) [2, 3, 1, 0] rfl ?_
      exact hGi _ (by simp [c2])
  · show G l E K 4 [(0, .ref (E.2.2.1 65)), (1, .int x), (2, .int (vsum (M 68) (M 67) x)), (3, .int (nI 8))] [] M
    refine gs_iload_n (q := 3) k rfl rfl dX7_coverOf_4 ?_
    refine gs_bipush (v := 8) k (by decide) dX7_coverOf_5 ?_
    refine gs_icmpN_ge (a := 8) (b := 8) (tgt := 36) k rfl rfl (by omega) (by omega) (by decide) dX7_coverOf_7 (fun c1 => ?_) (fun c1 => absurd c1 (by omega))
    refine gs_iload_n (q := 2) k rfl rfl dX7_coverOf_36 ?_
    exact gs_iret k kt dX7_coverOf_37 ⟨rfl, rfl⟩

theorem cf_X7_cappedOf : CF yX7_cappedOf cX7_cappedOf 6 (some .int) 1 := ⟨cd_X7_cappedOf, iz_X7, by decide, by decide +kernel, by decide +kernel, by decide +kernel⟩
set_option maxRecDepth 100000 in
set_option maxHeartbeats 4000000 in
theorem c_X7_cappedOf {l : Launch} {E : Ev} {M : Mm} {n : Nat} (hI : ∀ k, k < 108 → k ∈ E.2.1) (hn : Rn M n) {x : Int32} {S : Nat} (hx : x = nI S) (hS : S < 2 ^ n) : Cm l E yX7_cappedOf cX7_cappedOf 6 (some .int) 1 [.ref (E.2.2.1 65), .int x] M (pI (ksum (M 69) (M 70) n S) M) := by
  refine Cm.of (by decide) (Nat.le_of_ble_eq_true rfl) (fun K k kt => ?_)
  show G l E K 0 [(0, .ref (E.2.2.1 65)), (1, .int x)] [] M
  obtain ⟨hn0, hn1, hn6⟩ := id hn
  have hp := p2_le6 hn6
  have hp2 := p2_ge2 hn1
  refine gs_iconst (v := 0) k (by decide) dX7_cappedOf_0 ?_
  refine gs_istore_n (lv' := [(2, .int 0), (0, .ref (E.2.2.1 65)), (1, .int x)]) k rfl (by decide) rfl dX7_cappedOf_1 ?_
  refine gs_iconst (v := 0) k (by decide) dX7_cappedOf_2 ?_
  refine gs_istore_n (lv' := [(3, .int 0), (2, .int 0), (0, .ref (E.2.2.1 65)), (1, .int x)]) k rfl (by decide) rfl dX7_cappedOf_3 ?_
  refine gs_lv (lv' := [(0, .ref (E.2.2.1 65)), (1, .int x), (2, .int 0), (3, .int 0)]) [2, 3, 1, 0] rfl ?_
  refine for_up (σ := Int32) (fun b t => G l E K 4 [(0, .ref (E.2.2.1 65)), (1, .int x), (2, .int t), (3, .int (nI b))] [] M) (fun b t => t + imin (nI (bcnt (M 69) n S b)) (M 70 b)) 6 (fun b t hb hGb => ?_) 6 0 0 (by omega) ?_
  · show G l E K 4 [(0, .ref (E.2.2.1 65)), (1, .int x), (2, .int t), (3, .int (nI b))] [] M
    refine gs_iload_n (q := 3) k rfl rfl dX7_cappedOf_4 ?_
    refine gs_bipush (v := 6) k (by decide) dX7_cappedOf_5 ?_
    refine gs_icmpN_ge (a := b) (b := 6) (tgt := 74) k rfl rfl (by omega) (by omega) (by decide) dX7_cappedOf_7 (fun c1 => absurd c1 (by omega)) (fun c1 => ?_)
    refine gs_iconst (v := 0) k (by decide) dX7_cappedOf_10 ?_
    refine gs_istore (lv' := [(4, .int 0), (0, .ref (E.2.2.1 65)), (1, .int x), (2, .int t), (3, .int (nI b))]) k (by decide) rfl dX7_cappedOf_11 ?_
    refine gs_iconst (v := 0) k (by decide) dX7_cappedOf_13 ?_
    refine gs_istore (lv' := [(5, .int 0), (4, .int 0), (0, .ref (E.2.2.1 65)), (1, .int x), (2, .int t), (3, .int (nI b))]) k (by decide) rfl dX7_cappedOf_14 ?_
    refine gs_lv (lv' := [(0, .ref (E.2.2.1 65)), (1, .int x), (2, .int t), (3, .int (nI b)), (4, .int 0), (5, .int 0)]) [2, 3, 4, 5, 1, 0] rfl ?_
    refine for_up (σ := Nat) (fun j c => G l E K 16 [(0, .ref (E.2.2.1 65)), (1, .int x), (2, .int t), (3, .int (nI b)), (4, .int (nI c)), (5, .int (nI j))] [] M) (fun j c => if S.testBit j = true ∧ M 69 j = nI b then c + 1 else c) n (fun j c hj hGj => ?_) n 0 0 (by omega) ?_
    · show G l E K 16 [(0, .ref (E.2.2.1 65)), (1, .int x), (2, .int t), (3, .int (nI b)), (4, .int (nI c)), (5, .int (nI j))] [] M
      refine gs_iload (q := 5) k rfl dX7_cappedOf_16 ?_
      refine gs_aload_n (q := 0) k rfl rfl dX7_cappedOf_18 ?_
      refine gs_get (C := RX7) (T := TX7) (N := 27) (ci := 7) (k0 := 65) (j := 0) k (hI 65 (by omega)) rfl rfl inX7 (by decide) fl_X7_9 rfl rfl dX7_cappedOf_19 ?_
      refine gs_icmpN_ge (a := j) (b := n) (tgt := 54) k rfl hn0 (by omega) (by omega) (by decide) dX7_cappedOf_22 (fun c2 => absurd c2 (by omega)) (fun c2 => ?_)
      refine gs_iload_n (q := 1) k rfl rfl dX7_cappedOf_25 ?_
      refine gs_iload (q := 5) k rfl dX7_cappedOf_26 ?_
      refine gs_callS (As := [.int x, .int (nI j)]) k (c_X7_has (S := S) (P := j) hx rfl (by omega) (by omega)) cf_X7_has sm_X7_has ml_X7_118 (by decide) rfl rfl (Nat.le_of_ble_eq_true rfl) dX7_cappedOf_28 (ppB (fun c3 => ?_) (fun c3 => ?_))
      · refine gs_if_eq (tgt := 48) k (by decide) dX7_cappedOf_31 (fun h => absurd h (by decide)) (fun _ => ?_)
        refine gs_aload_n (q := 0) k rfl rfl dX7_cappedOf_34 ?_
        refine gs_get (C := RX7) (T := TX7) (N := 27) (ci := 7) (k0 := 65) (j := 4) k (hI 65 (by omega)) rfl rfl inX7 (by decide) fl_X7_25 rfl rfl dX7_cappedOf_35 ?_
        refine gs_iload (q := 5) k rfl dX7_cappedOf_38 ?_
        refine gs_ialdN (k0 := 69) (n := 6) (e := j) k (hI 69 (by omega)) (fun _ => rfl) rfl (by omega) (by decide) dX7_cappedOf_40 ?_
        refine gs_iload_n (q := 3) k rfl rfl dX7_cappedOf_41 ?_
        refine gs_icmp_ne (tgt := 48) k (by decide) dX7_cappedOf_42 (fun c4 => ?_) (fun c4 => ?_)
        · refine gs_iincN (q := 5) (a := j) (c := 1) (lv' := [(5, .int (nI (j + 1))), (0, .ref (E.2.2.1 65)), (1, .int x), (2, .int t), (3, .int (nI b)), (4, .int (nI c))]) k rfl rfl (by decide) rfl dX7_cappedOf_48 ?_
          refine gs_goto (tgt := 16) k (by decide) dX7_cappedOf_51 ?_
          refine gs_lv (lv' := [(0, .ref (E.2.2.1 65)), (1, .int x), (2, .int t), (3, .int (nI b)), (4, .int (nI c)), (5, .int (nI (j + 1)))]) [1, 2, 3, 4, 5, 0] rfl ?_
          exact hGj _ (by simp [c3, c4])
        · refine gs_iincN (q := 4) (a := c) (c := 1) (lv' := [(4, .int (nI (c + 1))), (0, .ref (E.2.2.1 65)), (1, .int x), (2, .int t), (3, .int (nI b)), (5, .int (nI j))]) k rfl rfl (by decide) rfl dX7_cappedOf_45 ?_
          refine gs_iincN (q := 5) (a := j) (c := 1) (lv' := [(5, .int (nI (j + 1))), (4, .int (nI (c + 1))), (0, .ref (E.2.2.1 65)), (1, .int x), (2, .int t), (3, .int (nI b))]) k rfl rfl (by decide) rfl dX7_cappedOf_48 ?_
          refine gs_goto (tgt := 16) k (by decide) dX7_cappedOf_51 ?_
          refine gs_lv (lv' := [(0, .ref (E.2.2.1 65)), (1, .int x), (2, .int t), (3, .int (nI b)), (4, .int (nI (c + 1))), (5, .int (nI (j + 1)))]) [2, 3, 4, 5, 1, 0] rfl ?_
          exact hGj _ (by simp [c3, c4])
      · refine gs_if_eq (tgt := 48) k (by decide) dX7_cappedOf_31 (fun _ => ?_) (fun h => absurd h (by decide))
        refine gs_iincN (q := 5) (a := j) (c := 1) (lv' := [(5, .int (nI (j + 1))), (0, .ref (E.2.2.1 65)), (1, .int x), (2, .int t), (3, .int (nI b)), (4, .int (nI c))]) k rfl rfl (by decide) rfl dX7_cappedOf_48 ?_
        refine gs_goto (tgt := 16) k (by decide) dX7_cappedOf_51 ?_
        refine gs_lv (lv' := [(0, .ref (E.2.2.1 65)), (1, .int x), (2, .int t), (3, .int (nI b)), (4, .int (nI c)), (5, .int (nI (j + 1)))]) [1, 2, 3, 4, 5, 0] rfl ?_
        exact hGj _ (by simp [c3])
    · show G l E K 16 [(0, .ref (E.2.2.1 65)), (1, .int x), (2, .int t), (3, .int (nI b)), (4, .int (nI (bcnt (M 69) n S b))), (5, .int (nI n))] [] M
      refine gs_iload (q := 5) k rfl dX7_cappedOf_16 ?_
      refine gs_aload_n (q := 0) k rfl rfl dX7_cappedOf_18 ?_
      refine gs_get (C := RX7) (T := TX7) (N := 27) (ci := 7) (k0 := 65) (j := 0) k (hI 65 (by omega)) rfl rfl inX7 (by decide) fl_X7_9 rfl rfl dX7_cappedOf_19 ?_
      refine gs_icmpN_ge (a := n) (b := n) (tgt := 54) k rfl hn0 (by omega) (by omega) (by decide) dX7_cappedOf_22 (fun c2 => ?_) (fun c2 => absurd c2 (by omega))
      refine gs_iload_n (q := 2) k rfl rfl dX7_cappedOf_54 ?_
      refine gs_iload (q := 4) k rfl dX7_cappedOf_55 ?_
      refine gs_aload_n (q := 0) k rfl rfl dX7_cappedOf_57 ?_
      refine gs_get (C := RX7) (T := TX7) (N := 27) (ci := 7) (k0 := 65) (j := 5) k (hI 65 (by omega)) rfl rfl inX7 (by decide) fl_X7_28 rfl rfl dX7_cappedOf_58 ?_
      refine gs_iload_n (q := 3) k rfl rfl dX7_cappedOf_61 ?_
      refine gs_ialdN (k0 := 70) (n := 6) (e := b) k (hI 70 (by omega)) (fun _ => rfl) rfl (by omega) (by decide) dX7_cappedOf_62 ?_
      refine gs_min k ml_X7_122 (by decide) (Nat.le_of_ble_eq_true rfl) dX7_cappedOf_63 ?_
      refine gs_iadd k dX7_cappedOf_66 ?_
      refine gs_istore_n (lv' := [(2, .int (t + (imin (nI (bcnt (M 69) n S b)) (M 70 b)))), (0, .ref (E.2.2.1 65)), (1, .int x), (3, .int (nI b)), (4, .int (nI (bcnt (M 69) n S b))), (5, .int (nI n))]) k rfl (by decide) rfl dX7_cappedOf_67 ?_
      refine gs_iincN (q := 3) (a := b) (c := 1) (lv' := [(3, .int (nI (b + 1))), (2, .int (t + (imin (nI (bcnt (M 69) n S b)) (M 70 b)))), (0, .ref (E.2.2.1 65)), (1, .int x), (4, .int (nI (bcnt (M 69) n S b))), (5, .int (nI n))]) k rfl rfl (by decide) rfl dX7_cappedOf_68 ?_
      refine gs_goto (tgt := 4) k (by decide) dX7_cappedOf_71 ?_
      refine gs_lv (lv' := [(0, .ref (E.2.2.1 65)), (1, .int x), (2, .int (t + (imin (nI (bcnt (M 69) n S b)) (M 70 b)))), (3, .int (nI (b + 1))), (4, .int (nI (bcnt (M 69) n S b))), (5, .int (nI n))]) [2, 3, 1, 0, 4, 5] rfl ?_
      refine gs_lv (lv' := [(0, .ref (E.2.2.1 65)), (1, .int x), (2, .int (t + (imin (nI (bcnt (M 69) n S b)) (M 70 b)))), (3, .int (nI (b + 1)))]) [0, 1, 2, 3] rfl ?_
      exact hGb _ rfl
  · show G l E K 4 [(0, .ref (E.2.2.1 65)), (1, .int x), (2, .int (ksum (M 69) (M 70) n S)), (3, .int (nI 6))] [] M
    refine gs_iload_n (q := 3) k rfl rfl dX7_cappedOf_4 ?_
    refine gs_bipush (v := 6) k (by decide) dX7_cappedOf_5 ?_
    refine gs_icmpN_ge (a := 6) (b := 6) (tgt := 74) k rfl rfl (by omega) (by omega) (by decide) dX7_cappedOf_7 (fun c1 => ?_) (fun c1 => absurd c1 (by omega))
    refine gs_iload_n (q := 2) k rfl rfl dX7_cappedOf_74 ?_
    exact gs_iret k kt dX7_cappedOf_75 ⟨rfl, rfl⟩

