noncomputable def cmdW (W : Wd) (i : Nat) (x : Nat → Int32) : Wd := match i with
  | 0 => sArc W (x 0) (x 1) (x 2)
  | 1 => sItem W (x 0) (x 1) (x 2)
  | 2 => sBlock W (x 0) (x 1)
  | 3 => sCap W (x 0) (x 1)
  | 4 => sWeight W (x 0) (x 1)
  | 5 => sKind W 1 (fun s => csum (W.2.1 0) W.1 s) (x 0)
  | 6 => sKind W 2 (fun s => vsum (W.2.1 2) (W.2.1 1) (nI s)) (x 0)
  | 7 => sKind W 3 (fun s => ksum (W.2.1 3) (W.2.1 4) W.1 s) (x 0)
  | 8 => sKind W 4 (fun s => wsum (W.2.1 5) W.1 s) (x 0)
  | 9 => sSum W (x 0) (x 1) (x 2)
  | _ => sTurn W (x 0) (x 1)
def cmdA (W : Wd) (i : Nat) (x : Nat → Int32) : Prop := match i with
  | 0 => 0 ≤ A_arc W.1 (W.2.1 0) (x 0) (x 1) (x 2)
  | 1 => 0 ≤ A_item W.1 (W.2.1 1) (x 0) (x 1) (x 2)
  | 2 => 0 ≤ A_block W.1 (W.2.1 3) (x 0) (x 1)
  | 3 => 0 ≤ A_cap (W.2.1 4) (x 0) (x 1)
  | 4 => -999999 ≤ A_weight W.1 (W.2.1 5) (x 0) (x 1)
  | 5 => 0 ≤ A_kind (csum (W.2.1 0) W.1 (2 ^ W.1 - 2)) (x 0)
  | 6 => 0 ≤ A_kind (vsum (W.2.1 2) (W.2.1 1) (nI (2 ^ W.1 - 1))) (x 0)
  | 7 => 0 ≤ A_kind (ksum (W.2.1 3) (W.2.1 4) W.1 (2 ^ W.1 - 1)) (x 0)
  | 8 => 0 ≤ A_kind (wsum (W.2.1 5) W.1 (2 ^ W.1 - 1) + 1000) (x 0)
  | 9 => 0 ≤ A_sum W.1 W.2.2.1 W.2.2.2 (x 0) (x 1) (x 2)
  | _ => 0 ≤ A_turn W.1 W.2.2.1 W.2.2.2 (x 0) (x 1)
theorem gCmd {W : Wd} {x : Nat → Int32} (h : GW W) : ∀ i, i < 11 → GW (cmdW W i x)
  | 0, _ => gArc h
  | 1, _ => gItem h
  | 2, _ => gBlock h
  | 3, _ => gCap h
  | 4, _ => gWeight h
  | 5, _ => gKind h (by unfold inR; decide) (fun s _ => csum_V h.1.2 h.2.2.1)
  | 6, _ => gKind h (by unfold inR; decide) (fun s _ => vsum_V h.2.2.2.1)
  | 7, _ => gKind h (by unfold inR; decide) (fun s _ => ksum_V h.1.2 h.2.2.2.2.2.1)
  | 8, _ => gKind h (by unfold inR; decide) (fun s _ => wsum_V h.1.2 h.2.2.2.2.2.2)
  | 9, _ => gSum h
  | 10, _ => gTurn h
  | i + 11, h => absurd h (by omega)
theorem ppH {l : Launch} {E : Ev} {K : Kt} {pc : Nat} {lv : List (Nat × Value)} {st : List Value} {a : Value} {P : Mm → Prop} (h : ∀ m, P m → G l E K pc lv (a :: st) m) : ∀ r M', hp a P r M' → G l E K pc lv (r.toList ++ st) M' := fun r M' q => by
  obtain ⟨rfl, q⟩ := q
  exact h M' q
theorem gs_lvE {l : Launch} {E : Ev} {K : Kt} {pc : Nat} {lv : List (Nat × Value)} {st : List Value} {M : Mm} {lv' : List (Nat × Value)} (e : lv = lv') (h : G l E K pc lv' st M) : G l E K pc lv st M := by rw [e]; exact h
theorem low_iff {a : Int32} : ¬ a ≤ -1000000 ↔ -999999 ≤ a := by
  rw [Int32.le_iff_toInt_le, Int32.le_iff_toInt_le, show (-1000000 : Int32).toInt = -1000000 by decide, show (-999999 : Int32).toInt = -999999 by decide]
  omega
/-- a command: the truth that it tells, the world behind it -/
def obP (S : As) (O : Mm → Mm → Wd → Prop) (i : Nat) (x : Nat → Int32) (M : Mm) : Int32 → Mm → Prop := fun r m => O M m (cmdW S.1 i x) ∧ ((r = 1 ∧ cmdA S.1 i x) ∨ (r = 0 ∧ ¬ cmdA S.1 i x))
theorem cf_X4_number : CF yX4_number cX4_number 3 (some .int) 2 := ⟨cd_X4_number, iz_X4, by decide, by decide +kernel, by decide +kernel, by decide +kernel⟩
set_option maxRecDepth 100000 in
set_option maxHeartbeats 4000000 in
theorem c_X4_number {l : Launch} {E : Ev} {M : Mm} {y z : Int32} {c j : Nat} (hI : ∀ k, k < 108 → k ∈ E.2.1) (hy : y = nI c) (hz : z = nI j) (hc : c < 20) (hj : j < 3) : Cm l E yX4_number cX4_number 3 (some .int) 0 [.ref (E.2.2.1 52), .int y, .int z] M (pI (M 54 (c * 3 + j)) M) := by
  refine Cm.of (by decide) (Nat.le_of_ble_eq_true rfl) (fun K k kt => ?_)
  show G l E K 0 [(0, .ref (E.2.2.1 52)), (1, .int y), (2, .int z)] [] M
  refine gs_aload_n (q := 0) k rfl rfl dX4_number_0 ?_
  refine gs_get (C := RX4) (T := TX4) (N := 6) (ci := 4) (k0 := 52) (j := 3) k (hI 52 (by omega)) rfl rfl inX4 (by decide) fl_X4_13 rfl rfl dX4_number_1 ?_
  refine gs_iload_n (q := 1) k rfl rfl dX4_number_4 ?_
  refine gs_iconst (v := 3) k (by decide) dX4_number_5 ?_
  refine gs_imulN (a := c) (b := 3) k hy rfl dX4_number_6 ?_
  refine gs_iload_n (q := 2) k rfl rfl dX4_number_7 ?_
  refine gs_iaddN (a := c * 3) (b := j) k rfl hz dX4_number_8 ?_
  refine gs_ialdN (k0 := 54) (n := 60) (e := (c * 3) + j) k (hI 54 (by omega)) (fun _ => rfl) rfl (by omega) (by decide) dX4_number_9 ?_
  exact gs_iret k kt dX4_number_10 ⟨rfl, rfl⟩

theorem cf_X6_obey : CF yX6_obey cX6_obey 5 (some .boolean) 1 := ⟨cd_X6_obey, iz_X6, by decide, by decide +kernel, by decide +kernel, by decide +kernel⟩
theorem cf_X7_isDone : CF yX7_isDone cX7_isDone 5 (some .boolean) 1 := ⟨cd_X7_isDone, iz_X7, by decide, by decide +kernel, by decide +kernel, by decide +kernel⟩
set_option maxRecDepth 100000 in
set_option maxHeartbeats 4000000 in
theorem c_X6_obey_0 {l : Launch} {E : Ev} {M : Mm} {S : As} {c : Nat} {x : Nat → Int32} (hI : ∀ k, k < 108 → k ∈ E.2.1) (h : CA M S) (hg : GA S) (hc : c < 20) (hw : M 53 c = 0) (hx : ∀ j, j < 3 → M 54 (3 * c + j) = x j) : Cm l E yX6_obey cX6_obey 5 (some .boolean) 5 [.ref (E.2.2.1 0), .int (nI c)] M (pZ (obP S CO 0 x M)) := by
  refine Cm.of (by decide) (Nat.le_of_ble_eq_true rfl) (fun K k kt => ?_)
  show G l E K 0 [(0, .ref (E.2.2.1 0)), (1, .int (nI c))] [] M
  refine gs_aload_n (q := 0) k rfl rfl dX6_obey_0 ?_
  refine gs_get (C := RX6) (T := TX6) (N := 10) (ci := 6) (k0 := 0) (j := 4) k (hI 0 (by omega)) rfl rfl inX6 (by decide) fl_X6_35 rfl rfl dX6_obey_1 ?_
  refine gs_iload_n (q := 1) k rfl rfl dX6_obey_4 ?_
  refine gs_iconst (v := 0) k (by decide) dX6_obey_5 ?_
  refine gs_callV (As := [.int (nI c), .int 0]) (k0 := 52) (ci := 4) (T := TX4) (N := 6) k (c_X4_number (c := c) (j := 0) hI rfl rfl (by omega) (by omega)) cf_X4_number im_X4_number sl_X4_number ml_X6_318 (hI 52 (by omega)) rfl rfl (by decide) rfl rfl (Nat.le_of_ble_eq_true rfl) dX6_obey_6 (ppI ?_)
  refine gs_top (y := x 0) (by rw [Nat.mul_comm c 3]; exact hx 0 (by decide)) ?_
  refine gs_istore_n (lv' := [(2, .int (x 0)), (0, .ref (E.2.2.1 0)), (1, .int (nI c))]) k rfl (by decide) rfl dX6_obey_9 ?_
  refine gs_aload_n (q := 1) k rfl rfl dX6_obey_10 ?_
  refine gs_get (C := RX6) (T := TX6) (N := 10) (ci := 6) (k0 := 0) (j := 4) k (hI 0 (by omega)) rfl rfl inX6 (by decide) fl_X6_35 rfl rfl dX6_obey_11 ?_
  refine gs_iload_n (q := 2) k rfl rfl dX6_obey_14 ?_
  refine gs_iconst (v := 1) k (by decide) dX6_obey_15 ?_
  refine gs_callV (As := [.int (nI c), .int 1]) (k0 := 52) (ci := 4) (T := TX4) (N := 6) k (c_X4_number (c := c) (j := 1) hI rfl rfl (by omega) (by omega)) cf_X4_number im_X4_number sl_X4_number ml_X6_318 (hI 52 (by omega)) rfl rfl (by decide) rfl rfl (Nat.le_of_ble_eq_true rfl) dX6_obey_16 (ppI ?_)
  refine gs_top (y := x 1) (by rw [Nat.mul_comm c 3]; exact hx 1 (by decide)) ?_
  refine gs_istore_n (lv' := [(3, .int (x 1)), (2, .int (x 0)), (0, .ref (E.2.2.1 0)), (1, .int (nI c))]) k rfl (by decide) rfl dX6_obey_19 ?_
  refine gs_aload_n (q := 2) k rfl rfl dX6_obey_20 ?_
  refine gs_get (C := RX6) (T := TX6) (N := 10) (ci := 6) (k0 := 0) (j := 4) k (hI 0 (by omega)) rfl rfl inX6 (by decide) fl_X6_35 rfl rfl dX6_obey_21 ?_
  refine gs_iload_n (q := 3) k rfl rfl dX6_obey_24 ?_
  refine gs_iconst (v := 2) k (by decide) dX6_obey_25 ?_
  refine gs_callV (As := [.int (nI c), .int 2]) (k0 := 52) (ci := 4) (T := TX4) (N := 6) k (c_X4_number (c := c) (j := 2) hI rfl rfl (by omega) (by omega)) cf_X4_number im_X4_number sl_X4_number ml_X6_318 (hI 52 (by omega)) rfl rfl (by decide) rfl rfl (Nat.le_of_ble_eq_true rfl) dX6_obey_26 (ppI ?_)
  refine gs_top (y := x 2) (by rw [Nat.mul_comm c 3]; exact hx 2 (by decide)) ?_
  refine gs_istore (lv' := [(4, .int (x 2)), (3, .int (x 1)), (2, .int (x 0)), (0, .ref (E.2.2.1 0)), (1, .int (nI c))]) k (by decide) rfl dX6_obey_29 ?_
  refine gs_aload_n (q := 3) k rfl rfl dX6_obey_31 ?_
  refine gs_get (C := RX6) (T := TX6) (N := 10) (ci := 6) (k0 := 0) (j := 4) k (hI 0 (by omega)) rfl rfl inX6 (by decide) fl_X6_35 rfl rfl dX6_obey_32 ?_
  refine gs_get (C := RX4) (T := TX4) (N := 6) (ci := 4) (k0 := 52) (j := 2) k (hI 52 (by omega)) rfl rfl inX4 (by decide) fl_X6_321 rfl rfl dX6_obey_35 ?_
  refine gs_iload_n (q := 4) k rfl rfl dX6_obey_38 ?_
  refine gs_ialdN (k0 := 53) (n := 20) (e := c) k (hI 53 (by omega)) (fun _ => rfl) rfl (by omega) (by decide) dX6_obey_39 ?_
  refine gs_top (y := 0) hw ?_
  refine gs_tableIn (off := 60) (tgt := 100) k (by decide) (by decide) (by decide) (by decide) dX6_obey_40 ?_
  refine gs_aload_n (q := 3) k rfl rfl dX6_obey_100 ?_
  refine gs_iload_n (q := 2) k rfl rfl dX6_obey_101 ?_
  refine gs_iload_n (q := 1) k rfl rfl dX6_obey_102 ?_
  refine gs_iload (q := 0) k rfl dX6_obey_103 ?_
  refine gs_callV (As := [.int (x 0), .int (x 1), .int (x 2)]) (k0 := 0) (ci := 6) (T := TX6) (N := 10) k (oC_arc hI h) cf_X6_arc im_X6_arc sl_X6_arc ml_X6_324 (hI 0 (by omega)) rfl rfl (by decide) rfl rfl (Nat.le_of_ble_eq_true rfl) dX6_obey_105 (ppH (fun m hm => ?_))
  show G l E K 108 [(4, .int (x 2)), (3, .int (x 1)), (2, .int (x 0)), (0, .ref (E.2.2.1 0)), (1, .int (nI c))] [.int (A_arc S.1.1 (S.1.2.1 0) (x 0) (x 1) (x 2))] m
  refine gs_if_lt (tgt := 115) k (by decide) dX6_obey_108 (fun c1 => ?_) (fun c1 => ?_)
  · refine gs_iconst (v := 0) k (by decide) dX6_obey_115 ?_
    exact gs_zret k kt (by decide) dX6_obey_116 ⟨_, rfl, hm, Or.inr ⟨rfl, Int32.not_le.mpr c1⟩⟩
  · refine gs_iconst (v := 1) k (by decide) dX6_obey_111 ?_
    refine gs_goto (tgt := 116) k (by decide) dX6_obey_112 ?_
    exact gs_zret k kt (by decide) dX6_obey_116 ⟨_, rfl, hm, Or.inl ⟨rfl, Int32.not_lt.mp c1⟩⟩

set_option maxRecDepth 100000 in
set_option maxHeartbeats 4000000 in
theorem c_X6_obey_1 {l : Launch} {E : Ev} {M : Mm} {S : As} {c : Nat} {x : Nat → Int32} (hI : ∀ k, k < 108 → k ∈ E.2.1) (h : CA M S) (hg : GA S) (hc : c < 20) (hw : M 53 c = 1) (hx : ∀ j, j < 3 → M 54 (3 * c + j) = x j) : Cm l E yX6_obey cX6_obey 5 (some .boolean) 5 [.ref (E.2.2.1 0), .int (nI c)] M (pZ (obP S CO 1 x M)) := by
  refine Cm.of (by decide) (Nat.le_of_ble_eq_true rfl) (fun K k kt => ?_)
  show G l E K 0 [(0, .ref (E.2.2.1 0)), (1, .int (nI c))] [] M
  refine gs_aload_n (q := 0) k rfl rfl dX6_obey_0 ?_
  refine gs_get (C := RX6) (T := TX6) (N := 10) (ci := 6) (k0 := 0) (j := 4) k (hI 0 (by omega)) rfl rfl inX6 (by decide) fl_X6_35 rfl rfl dX6_obey_1 ?_
  refine gs_iload_n (q := 1) k rfl rfl dX6_obey_4 ?_
  refine gs_iconst (v := 0) k (by decide) dX6_obey_5 ?_
  refine gs_callV (As := [.int (nI c), .int 0]) (k0 := 52) (ci := 4) (T := TX4) (N := 6) k (c_X4_number (c := c) (j := 0) hI rfl rfl (by omega) (by omega)) cf_X4_number im_X4_number sl_X4_number ml_X6_318 (hI 52 (by omega)) rfl rfl (by decide) rfl rfl (Nat.le_of_ble_eq_true rfl) dX6_obey_6 (ppI ?_)
  refine gs_top (y := x 0) (by rw [Nat.mul_comm c 3]; exact hx 0 (by decide)) ?_
  refine gs_istore_n (lv' := [(2, .int (x 0)), (0, .ref (E.2.2.1 0)), (1, .int (nI c))]) k rfl (by decide) rfl dX6_obey_9 ?_
  refine gs_aload_n (q := 1) k rfl rfl dX6_obey_10 ?_
  refine gs_get (C := RX6) (T := TX6) (N := 10) (ci := 6) (k0 := 0) (j := 4) k (hI 0 (by omega)) rfl rfl inX6 (by decide) fl_X6_35 rfl rfl dX6_obey_11 ?_
  refine gs_iload_n (q := 2) k rfl rfl dX6_obey_14 ?_
  refine gs_iconst (v := 1) k (by decide) dX6_obey_15 ?_
  refine gs_callV (As := [.int (nI c), .int 1]) (k0 := 52) (ci := 4) (T := TX4) (N := 6) k (c_X4_number (c := c) (j := 1) hI rfl rfl (by omega) (by omega)) cf_X4_number im_X4_number sl_X4_number ml_X6_318 (hI 52 (by omega)) rfl rfl (by decide) rfl rfl (Nat.le_of_ble_eq_true rfl) dX6_obey_16 (ppI ?_)
  refine gs_top (y := x 1) (by rw [Nat.mul_comm c 3]; exact hx 1 (by decide)) ?_
  refine gs_istore_n (lv' := [(3, .int (x 1)), (2, .int (x 0)), (0, .ref (E.2.2.1 0)), (1, .int (nI c))]) k rfl (by decide) rfl dX6_obey_19 ?_
  refine gs_aload_n (q := 2) k rfl rfl dX6_obey_20 ?_
  refine gs_get (C := RX6) (T := TX6) (N := 10) (ci := 6) (k0 := 0) (j := 4) k (hI 0 (by omega)) rfl rfl inX6 (by decide) fl_X6_35 rfl rfl dX6_obey_21 ?_
  refine gs_iload_n (q := 3) k rfl rfl dX6_obey_24 ?_
  refine gs_iconst (v := 2) k (by decide) dX6_obey_25 ?_
  refine gs_callV (As := [.int (nI c), .int 2]) (k0 := 52) (ci := 4) (T := TX4) (N := 6) k (c_X4_number (c := c) (j := 2) hI rfl rfl (by omega) (by omega)) cf_X4_number im_X4_number sl_X4_number ml_X6_318 (hI 52 (by omega)) rfl rfl (by decide) rfl rfl (Nat.le_of_ble_eq_true rfl) dX6_obey_26 (ppI ?_)
  refine gs_top (y := x 2) (by rw [Nat.mul_comm c 3]; exact hx 2 (by decide)) ?_
  refine gs_istore (lv' := [(4, .int (x 2)), (3, .int (x 1)), (2, .int (x 0)), (0, .ref (E.2.2.1 0)), (1, .int (nI c))]) k (by decide) rfl dX6_obey_29 ?_
  refine gs_aload_n (q := 3) k rfl rfl dX6_obey_31 ?_
  refine gs_get (C := RX6) (T := TX6) (N := 10) (ci := 6) (k0 := 0) (j := 4) k (hI 0 (by omega)) rfl rfl inX6 (by decide) fl_X6_35 rfl rfl dX6_obey_32 ?_
  refine gs_get (C := RX4) (T := TX4) (N := 6) (ci := 4) (k0 := 52) (j := 2) k (hI 52 (by omega)) rfl rfl inX4 (by decide) fl_X6_321 rfl rfl dX6_obey_35 ?_
  refine gs_iload_n (q := 4) k rfl rfl dX6_obey_38 ?_
  refine gs_ialdN (k0 := 53) (n := 20) (e := c) k (hI 53 (by omega)) (fun _ => rfl) rfl (by omega) (by decide) dX6_obey_39 ?_
  refine gs_top (y := 1) hw ?_
  refine gs_tableIn (off := 77) (tgt := 117) k (by decide) (by decide) (by decide) (by decide) dX6_obey_40 ?_
  refine gs_aload_n (q := 3) k rfl rfl dX6_obey_117 ?_
  refine gs_iload_n (q := 2) k rfl rfl dX6_obey_118 ?_
  refine gs_iload_n (q := 1) k rfl rfl dX6_obey_119 ?_
  refine gs_iload (q := 0) k rfl dX6_obey_120 ?_
  refine gs_callV (As := [.int (x 0), .int (x 1), .int (x 2)]) (k0 := 0) (ci := 6) (T := TX6) (N := 10) k (oC_item hI h) cf_X6_item im_X6_item sl_X6_item ml_X6_327 (hI 0 (by omega)) rfl rfl (by decide) rfl rfl (Nat.le_of_ble_eq_true rfl) dX6_obey_122 (ppH (fun m hm => ?_))
  show G l E K 125 [(4, .int (x 2)), (3, .int (x 1)), (2, .int (x 0)), (0, .ref (E.2.2.1 0)), (1, .int (nI c))] [.int (A_item S.1.1 (S.1.2.1 1) (x 0) (x 1) (x 2))] m
  refine gs_if_lt (tgt := 132) k (by decide) dX6_obey_125 (fun c1 => ?_) (fun c1 => ?_)
  · refine gs_iconst (v := 0) k (by decide) dX6_obey_132 ?_
    exact gs_zret k kt (by decide) dX6_obey_133 ⟨_, rfl, hm, Or.inr ⟨rfl, Int32.not_le.mpr c1⟩⟩
  · refine gs_iconst (v := 1) k (by decide) dX6_obey_128 ?_
    refine gs_goto (tgt := 133) k (by decide) dX6_obey_129 ?_
    exact gs_zret k kt (by decide) dX6_obey_133 ⟨_, rfl, hm, Or.inl ⟨rfl, Int32.not_lt.mp c1⟩⟩

set_option maxRecDepth 100000 in
set_option maxHeartbeats 4000000 in
theorem c_X6_obey_2 {l : Launch} {E : Ev} {M : Mm} {S : As} {c : Nat} {x : Nat → Int32} (hI : ∀ k, k < 108 → k ∈ E.2.1) (h : CA M S) (hg : GA S) (hc : c < 20) (hw : M 53 c = 2) (hx : ∀ j, j < 2 → M 54 (3 * c + j) = x j) : Cm l E yX6_obey cX6_obey 5 (some .boolean) 5 [.ref (E.2.2.1 0), .int (nI c)] M (pZ (obP S CO 2 x M)) := by
  refine Cm.of (by decide) (Nat.le_of_ble_eq_true rfl) (fun K k kt => ?_)
  show G l E K 0 [(0, .ref (E.2.2.1 0)), (1, .int (nI c))] [] M
  refine gs_aload_n (q := 0) k rfl rfl dX6_obey_0 ?_
  refine gs_get (C := RX6) (T := TX6) (N := 10) (ci := 6) (k0 := 0) (j := 4) k (hI 0 (by omega)) rfl rfl inX6 (by decide) fl_X6_35 rfl rfl dX6_obey_1 ?_
  refine gs_iload_n (q := 1) k rfl rfl dX6_obey_4 ?_
  refine gs_iconst (v := 0) k (by decide) dX6_obey_5 ?_
  refine gs_callV (As := [.int (nI c), .int 0]) (k0 := 52) (ci := 4) (T := TX4) (N := 6) k (c_X4_number (c := c) (j := 0) hI rfl rfl (by omega) (by omega)) cf_X4_number im_X4_number sl_X4_number ml_X6_318 (hI 52 (by omega)) rfl rfl (by decide) rfl rfl (Nat.le_of_ble_eq_true rfl) dX6_obey_6 (ppI ?_)
  refine gs_top (y := x 0) (by rw [Nat.mul_comm c 3]; exact hx 0 (by decide)) ?_
  refine gs_istore_n (lv' := [(2, .int (x 0)), (0, .ref (E.2.2.1 0)), (1, .int (nI c))]) k rfl (by decide) rfl dX6_obey_9 ?_
  refine gs_aload_n (q := 1) k rfl rfl dX6_obey_10 ?_
  refine gs_get (C := RX6) (T := TX6) (N := 10) (ci := 6) (k0 := 0) (j := 4) k (hI 0 (by omega)) rfl rfl inX6 (by decide) fl_X6_35 rfl rfl dX6_obey_11 ?_
  refine gs_iload_n (q := 2) k rfl rfl dX6_obey_14 ?_
  refine gs_iconst (v := 1) k (by decide) dX6_obey_15 ?_
  refine gs_callV (As := [.int (nI c), .int 1]) (k0 := 52) (ci := 4) (T := TX4) (N := 6) k (c_X4_number (c := c) (j := 1) hI rfl rfl (by omega) (by omega)) cf_X4_number im_X4_number sl_X4_number ml_X6_318 (hI 52 (by omega)) rfl rfl (by decide) rfl rfl (Nat.le_of_ble_eq_true rfl) dX6_obey_16 (ppI ?_)
  refine gs_top (y := x 1) (by rw [Nat.mul_comm c 3]; exact hx 1 (by decide)) ?_
  refine gs_istore_n (lv' := [(3, .int (x 1)), (2, .int (x 0)), (0, .ref (E.2.2.1 0)), (1, .int (nI c))]) k rfl (by decide) rfl dX6_obey_19 ?_
  refine gs_aload_n (q := 2) k rfl rfl dX6_obey_20 ?_
  refine gs_get (C := RX6) (T := TX6) (N := 10) (ci := 6) (k0 := 0) (j := 4) k (hI 0 (by omega)) rfl rfl inX6 (by decide) fl_X6_35 rfl rfl dX6_obey_21 ?_
  refine gs_iload_n (q := 3) k rfl rfl dX6_obey_24 ?_
  refine gs_iconst (v := 2) k (by decide) dX6_obey_25 ?_
  refine gs_callV (As := [.int (nI c), .int 2]) (k0 := 52) (ci := 4) (T := TX4) (N := 6) k (c_X4_number (c := c) (j := 2) hI rfl rfl (by omega) (by omega)) cf_X4_number im_X4_number sl_X4_number ml_X6_318 (hI 52 (by omega)) rfl rfl (by decide) rfl rfl (Nat.le_of_ble_eq_true rfl) dX6_obey_26 (ppI ?_)
  refine gs_istore (lv' := [(4, .int (M 54 (c * 3 + 2))), (3, .int (x 1)), (2, .int (x 0)), (0, .ref (E.2.2.1 0)), (1, .int (nI c))]) k (by decide) rfl dX6_obey_29 ?_
  refine gs_aload_n (q := 3) k rfl rfl dX6_obey_31 ?_
  refine gs_get (C := RX6) (T := TX6) (N := 10) (ci := 6) (k0 := 0) (j := 4) k (hI 0 (by omega)) rfl rfl inX6 (by decide) fl_X6_35 rfl rfl dX6_obey_32 ?_
  refine gs_get (C := RX4) (T := TX4) (N := 6) (ci := 4) (k0 := 52) (j := 2) k (hI 52 (by omega)) rfl rfl inX4 (by decide) fl_X6_321 rfl rfl dX6_obey_35 ?_
  refine gs_iload_n (q := 4) k rfl rfl dX6_obey_38 ?_
  refine gs_ialdN (k0 := 53) (n := 20) (e := c) k (hI 53 (by omega)) (fun _ => rfl) rfl (by omega) (by decide) dX6_obey_39 ?_
  refine gs_top (y := 2) hw ?_
  refine gs_tableIn (off := 94) (tgt := 134) k (by decide) (by decide) (by decide) (by decide) dX6_obey_40 ?_
  refine gs_aload_n (q := 3) k rfl rfl dX6_obey_134 ?_
  refine gs_iload_n (q := 2) k rfl rfl dX6_obey_135 ?_
  refine gs_iload_n (q := 1) k rfl rfl dX6_obey_136 ?_
  refine gs_callV (As := [.int (x 0), .int (x 1)]) (k0 := 0) (ci := 6) (T := TX6) (N := 10) k (oC_block hI h) cf_X6_block im_X6_block sl_X6_block ml_X6_330 (hI 0 (by omega)) rfl rfl (by decide) rfl rfl (Nat.le_of_ble_eq_true rfl) dX6_obey_137 (ppH (fun m hm => ?_))
  show G l E K 140 [(4, .int (M 54 (c * 3 + 2))), (3, .int (x 1)), (2, .int (x 0)), (0, .ref (E.2.2.1 0)), (1, .int (nI c))] [.int (A_block S.1.1 (S.1.2.1 3) (x 0) (x 1))] m
  refine gs_if_lt (tgt := 147) k (by decide) dX6_obey_140 (fun c1 => ?_) (fun c1 => ?_)
  · refine gs_iconst (v := 0) k (by decide) dX6_obey_147 ?_
    exact gs_zret k kt (by decide) dX6_obey_148 ⟨_, rfl, hm, Or.inr ⟨rfl, Int32.not_le.mpr c1⟩⟩
  · refine gs_iconst (v := 1) k (by decide) dX6_obey_143 ?_
    refine gs_goto (tgt := 148) k (by decide) dX6_obey_144 ?_
    exact gs_zret k kt (by decide) dX6_obey_148 ⟨_, rfl, hm, Or.inl ⟨rfl, Int32.not_lt.mp c1⟩⟩

set_option maxRecDepth 100000 in
set_option maxHeartbeats 4000000 in
theorem c_X6_obey_3 {l : Launch} {E : Ev} {M : Mm} {S : As} {c : Nat} {x : Nat → Int32} (hI : ∀ k, k < 108 → k ∈ E.2.1) (h : CA M S) (hg : GA S) (hc : c < 20) (hw : M 53 c = 3) (hx : ∀ j, j < 2 → M 54 (3 * c + j) = x j) : Cm l E yX6_obey cX6_obey 5 (some .boolean) 5 [.ref (E.2.2.1 0), .int (nI c)] M (pZ (obP S CO 3 x M)) := by
  refine Cm.of (by decide) (Nat.le_of_ble_eq_true rfl) (fun K k kt => ?_)
  show G l E K 0 [(0, .ref (E.2.2.1 0)), (1, .int (nI c))] [] M
  refine gs_aload_n (q := 0) k rfl rfl dX6_obey_0 ?_
  refine gs_get (C := RX6) (T := TX6) (N := 10) (ci := 6) (k0 := 0) (j := 4) k (hI 0 (by omega)) rfl rfl inX6 (by decide) fl_X6_35 rfl rfl dX6_obey_1 ?_
  refine gs_iload_n (q := 1) k rfl rfl dX6_obey_4 ?_
  refine gs_iconst (v := 0) k (by decide) dX6_obey_5 ?_
  refine gs_callV (As := [.int (nI c), .int 0]) (k0 := 52) (ci := 4) (T := TX4) (N := 6) k (c_X4_number (c := c) (j := 0) hI rfl rfl (by omega) (by omega)) cf_X4_number im_X4_number sl_X4_number ml_X6_318 (hI 52 (by omega)) rfl rfl (by decide) rfl rfl (Nat.le_of_ble_eq_true rfl) dX6_obey_6 (ppI ?_)
  refine gs_top (y := x 0) (by rw [Nat.mul_comm c 3]; exact hx 0 (by decide)) ?_
  refine gs_istore_n (lv' := [(2, .int (x 0)), (0, .ref (E.2.2.1 0)), (1, .int (nI c))]) k rfl (by decide) rfl dX6_obey_9 ?_
  refine gs_aload_n (q := 1) k rfl rfl dX6_obey_10 ?_
  refine gs_get (C := RX6) (T := TX6) (N := 10) (ci := 6) (k0 := 0) (j := 4) k (hI 0 (by omega)) rfl rfl inX6 (by decide) fl_X6_35 rfl rfl dX6_obey_11 ?_
  refine gs_iload_n (q := 2) k rfl rfl dX6_obey_14 ?_
  refine gs_iconst (v := 1) k (by decide) dX6_obey_15 ?_
  refine gs_callV (As := [.int (nI c), .int 1]) (k0 := 52) (ci := 4) (T := TX4) (N := 6) k (c_X4_number (c := c) (j := 1) hI rfl rfl (by omega) (by omega)) cf_X4_number im_X4_number sl_X4_number ml_X6_318 (hI 52 (by omega)) rfl rfl (by decide) rfl rfl (Nat.le_of_ble_eq_true rfl) dX6_obey_16 (ppI ?_)
  refine gs_top (y := x 1) (by rw [Nat.mul_comm c 3]; exact hx 1 (by decide)) ?_
  refine gs_istore_n (lv' := [(3, .int (x 1)), (2, .int (x 0)), (0, .ref (E.2.2.1 0)), (1, .int (nI c))]) k rfl (by decide) rfl dX6_obey_19 ?_
  refine gs_aload_n (q := 2) k rfl rfl dX6_obey_20 ?_
  refine gs_get (C := RX6) (T := TX6) (N := 10) (ci := 6) (k0 := 0) (j := 4) k (hI 0 (by omega)) rfl rfl inX6 (by decide) fl_X6_35 rfl rfl dX6_obey_21 ?_
  refine gs_iload_n (q := 3) k rfl rfl dX6_obey_24 ?_
  refine gs_iconst (v := 2) k (by decide) dX6_obey_25 ?_
  refine gs_callV (As := [.int (nI c), .int 2]) (k0 := 52) (ci := 4) (T := TX4) (N := 6) k (c_X4_number (c := c) (j := 2) hI rfl rfl (by omega) (by omega)) cf_X4_number im_X4_number sl_X4_number ml_X6_318 (hI 52 (by omega)) rfl rfl (by decide) rfl rfl (Nat.le_of_ble_eq_true rfl) dX6_obey_26 (ppI ?_)
  refine gs_istore (lv' := [(4, .int (M 54 (c * 3 + 2))), (3, .int (x 1)), (2, .int (x 0)), (0, .ref (E.2.2.1 0)), (1, .int (nI c))]) k (by decide) rfl dX6_obey_29 ?_
  refine gs_aload_n (q := 3) k rfl rfl dX6_obey_31 ?_
  refine gs_get (C := RX6) (T := TX6) (N := 10) (ci := 6) (k0 := 0) (j := 4) k (hI 0 (by omega)) rfl rfl inX6 (by decide) fl_X6_35 rfl rfl dX6_obey_32 ?_
  refine gs_get (C := RX4) (T := TX4) (N := 6) (ci := 4) (k0 := 52) (j := 2) k (hI 52 (by omega)) rfl rfl inX4 (by decide) fl_X6_321 rfl rfl dX6_obey_35 ?_
  refine gs_iload_n (q := 4) k rfl rfl dX6_obey_38 ?_
  refine gs_ialdN (k0 := 53) (n := 20) (e := c) k (hI 53 (by omega)) (fun _ => rfl) rfl (by omega) (by decide) dX6_obey_39 ?_
  refine gs_top (y := 3) hw ?_
  refine gs_tableIn (off := 109) (tgt := 149) k (by decide) (by decide) (by decide) (by decide) dX6_obey_40 ?_
  refine gs_aload_n (q := 3) k rfl rfl dX6_obey_149 ?_
  refine gs_iload_n (q := 2) k rfl rfl dX6_obey_150 ?_
  refine gs_iload_n (q := 1) k rfl rfl dX6_obey_151 ?_
  refine gs_callV (As := [.int (x 0), .int (x 1)]) (k0 := 0) (ci := 6) (T := TX6) (N := 10) k (oC_cap hI h) cf_X6_cap im_X6_cap sl_X6_cap ml_X6_333 (hI 0 (by omega)) rfl rfl (by decide) rfl rfl (Nat.le_of_ble_eq_true rfl) dX6_obey_152 (ppH (fun m hm => ?_))
  show G l E K 155 [(4, .int (M 54 (c * 3 + 2))), (3, .int (x 1)), (2, .int (x 0)), (0, .ref (E.2.2.1 0)), (1, .int (nI c))] [.int (A_cap (S.1.2.1 4) (x 0) (x 1))] m
  refine gs_if_lt (tgt := 162) k (by decide) dX6_obey_155 (fun c1 => ?_) (fun c1 => ?_)
  · refine gs_iconst (v := 0) k (by decide) dX6_obey_162 ?_
    exact gs_zret k kt (by decide) dX6_obey_163 ⟨_, rfl, hm, Or.inr ⟨rfl, Int32.not_le.mpr c1⟩⟩
  · refine gs_iconst (v := 1) k (by decide) dX6_obey_158 ?_
    refine gs_goto (tgt := 163) k (by decide) dX6_obey_159 ?_
    exact gs_zret k kt (by decide) dX6_obey_163 ⟨_, rfl, hm, Or.inl ⟨rfl, Int32.not_lt.mp c1⟩⟩

set_option maxRecDepth 100000 in
set_option maxHeartbeats 4000000 in
theorem c_X6_obey_4 {l : Launch} {E : Ev} {M : Mm} {S : As} {c : Nat} {x : Nat → Int32} (hI : ∀ k, k < 108 → k ∈ E.2.1) (h : CA M S) (hg : GA S) (hc : c < 20) (hw : M 53 c = 4) (hx : ∀ j, j < 2 → M 54 (3 * c + j) = x j) : Cm l E yX6_obey cX6_obey 5 (some .boolean) 5 [.ref (E.2.2.1 0), .int (nI c)] M (pZ (obP S CO 4 x M)) := by
  refine Cm.of (by decide) (Nat.le_of_ble_eq_true rfl) (fun K k kt => ?_)
  show G l E K 0 [(0, .ref (E.2.2.1 0)), (1, .int (nI c))] [] M
  refine gs_aload_n (q := 0) k rfl rfl dX6_obey_0 ?_
  refine gs_get (C := RX6) (T := TX6) (N := 10) (ci := 6) (k0 := 0) (j := 4) k (hI 0 (by omega)) rfl rfl inX6 (by decide) fl_X6_35 rfl rfl dX6_obey_1 ?_
  refine gs_iload_n (q := 1) k rfl rfl dX6_obey_4 ?_
  refine gs_iconst (v := 0) k (by decide) dX6_obey_5 ?_
  refine gs_callV (As := [.int (nI c), .int 0]) (k0 := 52) (ci := 4) (T := TX4) (N := 6) k (c_X4_number (c := c) (j := 0) hI rfl rfl (by omega) (by omega)) cf_X4_number im_X4_number sl_X4_number ml_X6_318 (hI 52 (by omega)) rfl rfl (by decide) rfl rfl (Nat.le_of_ble_eq_true rfl) dX6_obey_6 (ppI ?_)
  refine gs_top (y := x 0) (by rw [Nat.mul_comm c 3]; exact hx 0 (by decide)) ?_
  refine gs_istore_n (lv' := [(2, .int (x 0)), (0, .ref (E.2.2.1 0)), (1, .int (nI c))]) k rfl (by decide) rfl dX6_obey_9 ?_
  refine gs_aload_n (q := 1) k rfl rfl dX6_obey_10 ?_
  refine gs_get (C := RX6) (T := TX6) (N := 10) (ci := 6) (k0 := 0) (j := 4) k (hI 0 (by omega)) rfl rfl inX6 (by decide) fl_X6_35 rfl rfl dX6_obey_11 ?_
  refine gs_iload_n (q := 2) k rfl rfl dX6_obey_14 ?_
  refine gs_iconst (v := 1) k (by decide) dX6_obey_15 ?_
  refine gs_callV (As := [.int (nI c), .int 1]) (k0 := 52) (ci := 4) (T := TX4) (N := 6) k (c_X4_number (c := c) (j := 1) hI rfl rfl (by omega) (by omega)) cf_X4_number im_X4_number sl_X4_number ml_X6_318 (hI 52 (by omega)) rfl rfl (by decide) rfl rfl (Nat.le_of_ble_eq_true rfl) dX6_obey_16 (ppI ?_)
  refine gs_top (y := x 1) (by rw [Nat.mul_comm c 3]; exact hx 1 (by decide)) ?_
  refine gs_istore_n (lv' := [(3, .int (x 1)), (2, .int (x 0)), (0, .ref (E.2.2.1 0)), (1, .int (nI c))]) k rfl (by decide) rfl dX6_obey_19 ?_
  refine gs_aload_n (q := 2) k rfl rfl dX6_obey_20 ?_
  refine gs_get (C := RX6) (T := TX6) (N := 10) (ci := 6) (k0 := 0) (j := 4) k (hI 0 (by omega)) rfl rfl inX6 (by decide) fl_X6_35 rfl rfl dX6_obey_21 ?_
  refine gs_iload_n (q := 3) k rfl rfl dX6_obey_24 ?_
  refine gs_iconst (v := 2) k (by decide) dX6_obey_25 ?_
  refine gs_callV (As := [.int (nI c), .int 2]) (k0 := 52) (ci := 4) (T := TX4) (N := 6) k (c_X4_number (c := c) (j := 2) hI rfl rfl (by omega) (by omega)) cf_X4_number im_X4_number sl_X4_number ml_X6_318 (hI 52 (by omega)) rfl rfl (by decide) rfl rfl (Nat.le_of_ble_eq_true rfl) dX6_obey_26 (ppI ?_)
  refine gs_istore (lv' := [(4, .int (M 54 (c * 3 + 2))), (3, .int (x 1)), (2, .int (x 0)), (0, .ref (E.2.2.1 0)), (1, .int (nI c))]) k (by decide) rfl dX6_obey_29 ?_
  refine gs_aload_n (q := 3) k rfl rfl dX6_obey_31 ?_
  refine gs_get (C := RX6) (T := TX6) (N := 10) (ci := 6) (k0 := 0) (j := 4) k (hI 0 (by omega)) rfl rfl inX6 (by decide) fl_X6_35 rfl rfl dX6_obey_32 ?_
  refine gs_get (C := RX4) (T := TX4) (N := 6) (ci := 4) (k0 := 52) (j := 2) k (hI 52 (by omega)) rfl rfl inX4 (by decide) fl_X6_321 rfl rfl dX6_obey_35 ?_
  refine gs_iload_n (q := 4) k rfl rfl dX6_obey_38 ?_
  refine gs_ialdN (k0 := 53) (n := 20) (e := c) k (hI 53 (by omega)) (fun _ => rfl) rfl (by omega) (by decide) dX6_obey_39 ?_
  refine gs_top (y := 4) hw ?_
  refine gs_tableIn (off := 124) (tgt := 164) k (by decide) (by decide) (by decide) (by decide) dX6_obey_40 ?_
  refine gs_aload_n (q := 3) k rfl rfl dX6_obey_164 ?_
  refine gs_iload_n (q := 2) k rfl rfl dX6_obey_165 ?_
  refine gs_iload_n (q := 1) k rfl rfl dX6_obey_166 ?_
  refine gs_callV (As := [.int (x 0), .int (x 1)]) (k0 := 0) (ci := 6) (T := TX6) (N := 10) k (oC_weight hI h) cf_X6_weight im_X6_weight sl_X6_weight ml_X6_336 (hI 0 (by omega)) rfl rfl (by decide) rfl rfl (Nat.le_of_ble_eq_true rfl) dX6_obey_167 (ppH (fun m hm => ?_))
  show G l E K 170 [(4, .int (M 54 (c * 3 + 2))), (3, .int (x 1)), (2, .int (x 0)), (0, .ref (E.2.2.1 0)), (1, .int (nI c))] [.int (A_weight S.1.1 (S.1.2.1 5) (x 0) (x 1))] m
  refine gs_ldcw (v := -999999) k cn_X6_301 dX6_obey_170 ?_
  refine gs_icmp_lt (tgt := 180) k (by decide) dX6_obey_173 (fun c1 => ?_) (fun c1 => ?_)
  · refine gs_iconst (v := 0) k (by decide) dX6_obey_180 ?_
    exact gs_zret k kt (by decide) dX6_obey_181 ⟨_, rfl, hm, Or.inr ⟨rfl, Int32.not_le.mpr c1⟩⟩
  · refine gs_iconst (v := 1) k (by decide) dX6_obey_176 ?_
    refine gs_goto (tgt := 181) k (by decide) dX6_obey_177 ?_
    exact gs_zret k kt (by decide) dX6_obey_181 ⟨_, rfl, hm, Or.inl ⟨rfl, Int32.not_lt.mp c1⟩⟩

set_option maxRecDepth 100000 in
set_option maxHeartbeats 4000000 in
theorem c_X6_obey_5 {l : Launch} {E : Ev} {M : Mm} {S : As} {c : Nat} {x : Nat → Int32} (hI : ∀ k, k < 108 → k ∈ E.2.1) (h : CA M S) (hg : GA S) (hc : c < 20) (hw : M 53 c = 5) (hx : ∀ j, j < 1 → M 54 (3 * c + j) = x j) : Cm l E yX6_obey cX6_obey 5 (some .boolean) 5 [.ref (E.2.2.1 0), .int (nI c)] M (pZ (obP S CO 5 x M)) := by
  refine Cm.of (by decide) (Nat.le_of_ble_eq_true rfl) (fun K k kt => ?_)
  show G l E K 0 [(0, .ref (E.2.2.1 0)), (1, .int (nI c))] [] M
  refine gs_aload_n (q := 0) k rfl rfl dX6_obey_0 ?_
  refine gs_get (C := RX6) (T := TX6) (N := 10) (ci := 6) (k0 := 0) (j := 4) k (hI 0 (by omega)) rfl rfl inX6 (by decide) fl_X6_35 rfl rfl dX6_obey_1 ?_
  refine gs_iload_n (q := 1) k rfl rfl dX6_obey_4 ?_
  refine gs_iconst (v := 0) k (by decide) dX6_obey_5 ?_
  refine gs_callV (As := [.int (nI c), .int 0]) (k0 := 52) (ci := 4) (T := TX4) (N := 6) k (c_X4_number (c := c) (j := 0) hI rfl rfl (by omega) (by omega)) cf_X4_number im_X4_number sl_X4_number ml_X6_318 (hI 52 (by omega)) rfl rfl (by decide) rfl rfl (Nat.le_of_ble_eq_true rfl) dX6_obey_6 (ppI ?_)
  refine gs_top (y := x 0) (by rw [Nat.mul_comm c 3]; exact hx 0 (by decide)) ?_
  refine gs_istore_n (lv' := [(2, .int (x 0)), (0, .ref (E.2.2.1 0)), (1, .int (nI c))]) k rfl (by decide) rfl dX6_obey_9 ?_
  refine gs_aload_n (q := 1) k rfl rfl dX6_obey_10 ?_
  refine gs_get (C := RX6) (T := TX6) (N := 10) (ci := 6) (k0 := 0) (j := 4) k (hI 0 (by omega)) rfl rfl inX6 (by decide) fl_X6_35 rfl rfl dX6_obey_11 ?_
  refine gs_iload_n (q := 2) k rfl rfl dX6_obey_14 ?_
  refine gs_iconst (v := 1) k (by decide) dX6_obey_15 ?_
  refine gs_callV (As := [.int (nI c), .int 1]) (k0 := 52) (ci := 4) (T := TX4) (N := 6) k (c_X4_number (c := c) (j := 1) hI rfl rfl (by omega) (by omega)) cf_X4_number im_X4_number sl_X4_number ml_X6_318 (hI 52 (by omega)) rfl rfl (by decide) rfl rfl (Nat.le_of_ble_eq_true rfl) dX6_obey_16 (ppI ?_)
  refine gs_istore_n (lv' := [(3, .int (M 54 (c * 3 + 1))), (2, .int (x 0)), (0, .ref (E.2.2.1 0)), (1, .int (nI c))]) k rfl (by decide) rfl dX6_obey_19 ?_
  refine gs_aload_n (q := 2) k rfl rfl dX6_obey_20 ?_
  refine gs_get (C := RX6) (T := TX6) (N := 10) (ci := 6) (k0 := 0) (j := 4) k (hI 0 (by omega)) rfl rfl inX6 (by decide) fl_X6_35 rfl rfl dX6_obey_21 ?_
  refine gs_iload_n (q := 3) k rfl rfl dX6_obey_24 ?_
  refine gs_iconst (v := 2) k (by decide) dX6_obey_25 ?_
  refine gs_callV (As := [.int (nI c), .int 2]) (k0 := 52) (ci := 4) (T := TX4) (N := 6) k (c_X4_number (c := c) (j := 2) hI rfl rfl (by omega) (by omega)) cf_X4_number im_X4_number sl_X4_number ml_X6_318 (hI 52 (by omega)) rfl rfl (by decide) rfl rfl (Nat.le_of_ble_eq_true rfl) dX6_obey_26 (ppI ?_)
  refine gs_istore (lv' := [(4, .int (M 54 (c * 3 + 2))), (3, .int (M 54 (c * 3 + 1))), (2, .int (x 0)), (0, .ref (E.2.2.1 0)), (1, .int (nI c))]) k (by decide) rfl dX6_obey_29 ?_
  refine gs_aload_n (q := 3) k rfl rfl dX6_obey_31 ?_
  refine gs_get (C := RX6) (T := TX6) (N := 10) (ci := 6) (k0 := 0) (j := 4) k (hI 0 (by omega)) rfl rfl inX6 (by decide) fl_X6_35 rfl rfl dX6_obey_32 ?_
  refine gs_get (C := RX4) (T := TX4) (N := 6) (ci := 4) (k0 := 52) (j := 2) k (hI 52 (by omega)) rfl rfl inX4 (by decide) fl_X6_321 rfl rfl dX6_obey_35 ?_
  refine gs_iload_n (q := 4) k rfl rfl dX6_obey_38 ?_
  refine gs_ialdN (k0 := 53) (n := 20) (e := c) k (hI 53 (by omega)) (fun _ => rfl) rfl (by omega) (by decide) dX6_obey_39 ?_
  refine gs_top (y := 5) hw ?_
  refine gs_tableIn (off := 142) (tgt := 182) k (by decide) (by decide) (by decide) (by decide) dX6_obey_40 ?_
  refine gs_aload_n (q := 3) k rfl rfl dX6_obey_182 ?_
  refine gs_iload_n (q := 2) k rfl rfl dX6_obey_183 ?_
  refine gs_callV (As := [.int (x 0)]) (k0 := 0) (ci := 6) (T := TX6) (N := 10) k (oC_cut hI h) cf_X6_cut im_X6_cut sl_X6_cut ml_X6_339 (hI 0 (by omega)) rfl rfl (by decide) rfl rfl (Nat.le_of_ble_eq_true rfl) dX6_obey_184 (ppH (fun m hm => ?_))
  show G l E K 187 [(4, .int (M 54 (c * 3 + 2))), (3, .int (M 54 (c * 3 + 1))), (2, .int (x 0)), (0, .ref (E.2.2.1 0)), (1, .int (nI c))] [.int (A_kind (csum (S.1.2.1 0) S.1.1 (2 ^ S.1.1 - 2)) (x 0))] m
  refine gs_if_lt (tgt := 194) k (by decide) dX6_obey_187 (fun c1 => ?_) (fun c1 => ?_)
  · refine gs_iconst (v := 0) k (by decide) dX6_obey_194 ?_
    exact gs_zret k kt (by decide) dX6_obey_195 ⟨_, rfl, hm, Or.inr ⟨rfl, Int32.not_le.mpr c1⟩⟩
  · refine gs_iconst (v := 1) k (by decide) dX6_obey_190 ?_
    refine gs_goto (tgt := 195) k (by decide) dX6_obey_191 ?_
    exact gs_zret k kt (by decide) dX6_obey_195 ⟨_, rfl, hm, Or.inl ⟨rfl, Int32.not_lt.mp c1⟩⟩

set_option maxRecDepth 100000 in
set_option maxHeartbeats 4000000 in
theorem c_X6_obey_6 {l : Launch} {E : Ev} {M : Mm} {S : As} {c : Nat} {x : Nat → Int32} (hI : ∀ k, k < 108 → k ∈ E.2.1) (h : CA M S) (hg : GA S) (hc : c < 20) (hw : M 53 c = 6) (hx : ∀ j, j < 1 → M 54 (3 * c + j) = x j) : Cm l E yX6_obey cX6_obey 5 (some .boolean) 5 [.ref (E.2.2.1 0), .int (nI c)] M (pZ (obP S CO 6 x M)) := by
  refine Cm.of (by decide) (Nat.le_of_ble_eq_true rfl) (fun K k kt => ?_)
  show G l E K 0 [(0, .ref (E.2.2.1 0)), (1, .int (nI c))] [] M
  refine gs_aload_n (q := 0) k rfl rfl dX6_obey_0 ?_
  refine gs_get (C := RX6) (T := TX6) (N := 10) (ci := 6) (k0 := 0) (j := 4) k (hI 0 (by omega)) rfl rfl inX6 (by decide) fl_X6_35 rfl rfl dX6_obey_1 ?_
  refine gs_iload_n (q := 1) k rfl rfl dX6_obey_4 ?_
  refine gs_iconst (v := 0) k (by decide) dX6_obey_5 ?_
  refine gs_callV (As := [.int (nI c), .int 0]) (k0 := 52) (ci := 4) (T := TX4) (N := 6) k (c_X4_number (c := c) (j := 0) hI rfl rfl (by omega) (by omega)) cf_X4_number im_X4_number sl_X4_number ml_X6_318 (hI 52 (by omega)) rfl rfl (by decide) rfl rfl (Nat.le_of_ble_eq_true rfl) dX6_obey_6 (ppI ?_)
  refine gs_top (y := x 0) (by rw [Nat.mul_comm c 3]; exact hx 0 (by decide)) ?_
  refine gs_istore_n (lv' := [(2, .int (x 0)), (0, .ref (E.2.2.1 0)), (1, .int (nI c))]) k rfl (by decide) rfl dX6_obey_9 ?_
  refine gs_aload_n (q := 1) k rfl rfl dX6_obey_10 ?_
  refine gs_get (C := RX6) (T := TX6) (N := 10) (ci := 6) (k0 := 0) (j := 4) k (hI 0 (by omega)) rfl rfl inX6 (by decide) fl_X6_35 rfl rfl dX6_obey_11 ?_
  refine gs_iload_n (q := 2) k rfl rfl dX6_obey_14 ?_
  refine gs_iconst (v := 1) k (by decide) dX6_obey_15 ?_
  refine gs_callV (As := [.int (nI c), .int 1]) (k0 := 52) (ci := 4) (T := TX4) (N := 6) k (c_X4_number (c := c) (j := 1) hI rfl rfl (by omega) (by omega)) cf_X4_number im_X4_number sl_X4_number ml_X6_318 (hI 52 (by omega)) rfl rfl (by decide) rfl rfl (Nat.le_of_ble_eq_true rfl) dX6_obey_16 (ppI ?_)
  refine gs_istore_n (lv' := [(3, .int (M 54 (c * 3 + 1))), (2, .int (x 0)), (0, .ref (E.2.2.1 0)), (1, .int (nI c))]) k rfl (by decide) rfl dX6_obey_19 ?_
  refine gs_aload_n (q := 2) k rfl rfl dX6_obey_20 ?_
  refine gs_get (C := RX6) (T := TX6) (N := 10) (ci := 6) (k0 := 0) (j := 4) k (hI 0 (by omega)) rfl rfl inX6 (by decide) fl_X6_35 rfl rfl dX6_obey_21 ?_
  refine gs_iload_n (q := 3) k rfl rfl dX6_obey_24 ?_
  refine gs_iconst (v := 2) k (by decide) dX6_obey_25 ?_
  refine gs_callV (As := [.int (nI c), .int 2]) (k0 := 52) (ci := 4) (T := TX4) (N := 6) k (c_X4_number (c := c) (j := 2) hI rfl rfl (by omega) (by omega)) cf_X4_number im_X4_number sl_X4_number ml_X6_318 (hI 52 (by omega)) rfl rfl (by decide) rfl rfl (Nat.le_of_ble_eq_true rfl) dX6_obey_26 (ppI ?_)
  refine gs_istore (lv' := [(4, .int (M 54 (c * 3 + 2))), (3, .int (M 54 (c * 3 + 1))), (2, .int (x 0)), (0, .ref (E.2.2.1 0)), (1, .int (nI c))]) k (by decide) rfl dX6_obey_29 ?_
  refine gs_aload_n (q := 3) k rfl rfl dX6_obey_31 ?_
  refine gs_get (C := RX6) (T := TX6) (N := 10) (ci := 6) (k0 := 0) (j := 4) k (hI 0 (by omega)) rfl rfl inX6 (by decide) fl_X6_35 rfl rfl dX6_obey_32 ?_
  refine gs_get (C := RX4) (T := TX4) (N := 6) (ci := 4) (k0 := 52) (j := 2) k (hI 52 (by omega)) rfl rfl inX4 (by decide) fl_X6_321 rfl rfl dX6_obey_35 ?_
  refine gs_iload_n (q := 4) k rfl rfl dX6_obey_38 ?_
  refine gs_ialdN (k0 := 53) (n := 20) (e := c) k (hI 53 (by omega)) (fun _ => rfl) rfl (by omega) (by decide) dX6_obey_39 ?_
  refine gs_top (y := 6) hw ?_
  refine gs_tableIn (off := 156) (tgt := 196) k (by decide) (by decide) (by decide) (by decide) dX6_obey_40 ?_
  refine gs_aload_n (q := 3) k rfl rfl dX6_obey_196 ?_
  refine gs_iload_n (q := 2) k rfl rfl dX6_obey_197 ?_
  refine gs_callV (As := [.int (x 0)]) (k0 := 0) (ci := 6) (T := TX6) (N := 10) k (oC_cover hI h) cf_X6_cover im_X6_cover sl_X6_cover ml_X6_342 (hI 0 (by omega)) rfl rfl (by decide) rfl rfl (Nat.le_of_ble_eq_true rfl) dX6_obey_198 (ppH (fun m hm => ?_))
  show G l E K 201 [(4, .int (M 54 (c * 3 + 2))), (3, .int (M 54 (c * 3 + 1))), (2, .int (x 0)), (0, .ref (E.2.2.1 0)), (1, .int (nI c))] [.int (A_kind (vsum (S.1.2.1 2) (S.1.2.1 1) (nI (2 ^ S.1.1 - 1))) (x 0))] m
  refine gs_if_lt (tgt := 208) k (by decide) dX6_obey_201 (fun c1 => ?_) (fun c1 => ?_)
  · refine gs_iconst (v := 0) k (by decide) dX6_obey_208 ?_
    exact gs_zret k kt (by decide) dX6_obey_209 ⟨_, rfl, hm, Or.inr ⟨rfl, Int32.not_le.mpr c1⟩⟩
  · refine gs_iconst (v := 1) k (by decide) dX6_obey_204 ?_
    refine gs_goto (tgt := 209) k (by decide) dX6_obey_205 ?_
    exact gs_zret k kt (by decide) dX6_obey_209 ⟨_, rfl, hm, Or.inl ⟨rfl, Int32.not_lt.mp c1⟩⟩

set_option maxRecDepth 100000 in
set_option maxHeartbeats 4000000 in
theorem c_X6_obey_7 {l : Launch} {E : Ev} {M : Mm} {S : As} {c : Nat} {x : Nat → Int32} (hI : ∀ k, k < 108 → k ∈ E.2.1) (h : CA M S) (hg : GA S) (hc : c < 20) (hw : M 53 c = 7) (hx : ∀ j, j < 1 → M 54 (3 * c + j) = x j) : Cm l E yX6_obey cX6_obey 5 (some .boolean) 5 [.ref (E.2.2.1 0), .int (nI c)] M (pZ (obP S CO 7 x M)) := by
  refine Cm.of (by decide) (Nat.le_of_ble_eq_true rfl) (fun K k kt => ?_)
  show G l E K 0 [(0, .ref (E.2.2.1 0)), (1, .int (nI c))] [] M
  refine gs_aload_n (q := 0) k rfl rfl dX6_obey_0 ?_
  refine gs_get (C := RX6) (T := TX6) (N := 10) (ci := 6) (k0 := 0) (j := 4) k (hI 0 (by omega)) rfl rfl inX6 (by decide) fl_X6_35 rfl rfl dX6_obey_1 ?_
  refine gs_iload_n (q := 1) k rfl rfl dX6_obey_4 ?_
  refine gs_iconst (v := 0) k (by decide) dX6_obey_5 ?_
  refine gs_callV (As := [.int (nI c), .int 0]) (k0 := 52) (ci := 4) (T := TX4) (N := 6) k (c_X4_number (c := c) (j := 0) hI rfl rfl (by omega) (by omega)) cf_X4_number im_X4_number sl_X4_number ml_X6_318 (hI 52 (by omega)) rfl rfl (by decide) rfl rfl (Nat.le_of_ble_eq_true rfl) dX6_obey_6 (ppI ?_)
  refine gs_top (y := x 0) (by rw [Nat.mul_comm c 3]; exact hx 0 (by decide)) ?_
  refine gs_istore_n (lv' := [(2, .int (x 0)), (0, .ref (E.2.2.1 0)), (1, .int (nI c))]) k rfl (by decide) rfl dX6_obey_9 ?_
  refine gs_aload_n (q := 1) k rfl rfl dX6_obey_10 ?_
  refine gs_get (C := RX6) (T := TX6) (N := 10) (ci := 6) (k0 := 0) (j := 4) k (hI 0 (by omega)) rfl rfl inX6 (by decide) fl_X6_35 rfl rfl dX6_obey_11 ?_
  refine gs_iload_n (q := 2) k rfl rfl dX6_obey_14 ?_
  refine gs_iconst (v := 1) k (by decide) dX6_obey_15 ?_
  refine gs_callV (As := [.int (nI c), .int 1]) (k0 := 52) (ci := 4) (T := TX4) (N := 6) k (c_X4_number (c := c) (j := 1) hI rfl rfl (by omega) (by omega)) cf_X4_number im_X4_number sl_X4_number ml_X6_318 (hI 52 (by omega)) rfl rfl (by decide) rfl rfl (Nat.le_of_ble_eq_true rfl) dX6_obey_16 (ppI ?_)
  refine gs_istore_n (lv' := [(3, .int (M 54 (c * 3 + 1))), (2, .int (x 0)), (0, .ref (E.2.2.1 0)), (1, .int (nI c))]) k rfl (by decide) rfl dX6_obey_19 ?_
  refine gs_aload_n (q := 2) k rfl rfl dX6_obey_20 ?_
  refine gs_get (C := RX6) (T := TX6) (N := 10) (ci := 6) (k0 := 0) (j := 4) k (hI 0 (by omega)) rfl rfl inX6 (by decide) fl_X6_35 rfl rfl dX6_obey_21 ?_
  refine gs_iload_n (q := 3) k rfl rfl dX6_obey_24 ?_
  refine gs_iconst (v := 2) k (by decide) dX6_obey_25 ?_
  refine gs_callV (As := [.int (nI c), .int 2]) (k0 := 52) (ci := 4) (T := TX4) (N := 6) k (c_X4_number (c := c) (j := 2) hI rfl rfl (by omega) (by omega)) cf_X4_number im_X4_number sl_X4_number ml_X6_318 (hI 52 (by omega)) rfl rfl (by decide) rfl rfl (Nat.le_of_ble_eq_true rfl) dX6_obey_26 (ppI ?_)
  refine gs_istore (lv' := [(4, .int (M 54 (c * 3 + 2))), (3, .int (M 54 (c * 3 + 1))), (2, .int (x 0)), (0, .ref (E.2.2.1 0)), (1, .int (nI c))]) k (by decide) rfl dX6_obey_29 ?_
  refine gs_aload_n (q := 3) k rfl rfl dX6_obey_31 ?_
  refine gs_get (C := RX6) (T := TX6) (N := 10) (ci := 6) (k0 := 0) (j := 4) k (hI 0 (by omega)) rfl rfl inX6 (by decide) fl_X6_35 rfl rfl dX6_obey_32 ?_
  refine gs_get (C := RX4) (T := TX4) (N := 6) (ci := 4) (k0 := 52) (j := 2) k (hI 52 (by omega)) rfl rfl inX4 (by decide) fl_X6_321 rfl rfl dX6_obey_35 ?_
  refine gs_iload_n (q := 4) k rfl rfl dX6_obey_38 ?_
  refine gs_ialdN (k0 := 53) (n := 20) (e := c) k (hI 53 (by omega)) (fun _ => rfl) rfl (by omega) (by decide) dX6_obey_39 ?_
  refine gs_top (y := 7) hw ?_
  refine gs_tableIn (off := 170) (tgt := 210) k (by decide) (by decide) (by decide) (by decide) dX6_obey_40 ?_
  refine gs_aload_n (q := 3) k rfl rfl dX6_obey_210 ?_
  refine gs_iload_n (q := 2) k rfl rfl dX6_obey_211 ?_
  refine gs_callV (As := [.int (x 0)]) (k0 := 0) (ci := 6) (T := TX6) (N := 10) k (oC_capped hI h hg.1) cf_X6_capped im_X6_capped sl_X6_capped ml_X6_345 (hI 0 (by omega)) rfl rfl (by decide) rfl rfl (Nat.le_of_ble_eq_true rfl) dX6_obey_212 (ppH (fun m hm => ?_))
  show G l E K 215 [(4, .int (M 54 (c * 3 + 2))), (3, .int (M 54 (c * 3 + 1))), (2, .int (x 0)), (0, .ref (E.2.2.1 0)), (1, .int (nI c))] [.int (A_kind (ksum (S.1.2.1 3) (S.1.2.1 4) S.1.1 (2 ^ S.1.1 - 1)) (x 0))] m
  refine gs_if_lt (tgt := 222) k (by decide) dX6_obey_215 (fun c1 => ?_) (fun c1 => ?_)
  · refine gs_iconst (v := 0) k (by decide) dX6_obey_222 ?_
    exact gs_zret k kt (by decide) dX6_obey_223 ⟨_, rfl, hm, Or.inr ⟨rfl, Int32.not_le.mpr c1⟩⟩
  · refine gs_iconst (v := 1) k (by decide) dX6_obey_218 ?_
    refine gs_goto (tgt := 223) k (by decide) dX6_obey_219 ?_
    exact gs_zret k kt (by decide) dX6_obey_223 ⟨_, rfl, hm, Or.inl ⟨rfl, Int32.not_lt.mp c1⟩⟩

set_option maxRecDepth 100000 in
set_option maxHeartbeats 4000000 in
theorem c_X6_obey_8 {l : Launch} {E : Ev} {M : Mm} {S : As} {c : Nat} {x : Nat → Int32} (hI : ∀ k, k < 108 → k ∈ E.2.1) (h : CA M S) (hg : GA S) (hc : c < 20) (hw : M 53 c = 8) (hx : ∀ j, j < 1 → M 54 (3 * c + j) = x j) : Cm l E yX6_obey cX6_obey 5 (some .boolean) 5 [.ref (E.2.2.1 0), .int (nI c)] M (pZ (obP S CO 8 x M)) := by
  refine Cm.of (by decide) (Nat.le_of_ble_eq_true rfl) (fun K k kt => ?_)
  show G l E K 0 [(0, .ref (E.2.2.1 0)), (1, .int (nI c))] [] M
  refine gs_aload_n (q := 0) k rfl rfl dX6_obey_0 ?_
  refine gs_get (C := RX6) (T := TX6) (N := 10) (ci := 6) (k0 := 0) (j := 4) k (hI 0 (by omega)) rfl rfl inX6 (by decide) fl_X6_35 rfl rfl dX6_obey_1 ?_
  refine gs_iload_n (q := 1) k rfl rfl dX6_obey_4 ?_
  refine gs_iconst (v := 0) k (by decide) dX6_obey_5 ?_
  refine gs_callV (As := [.int (nI c), .int 0]) (k0 := 52) (ci := 4) (T := TX4) (N := 6) k (c_X4_number (c := c) (j := 0) hI rfl rfl (by omega) (by omega)) cf_X4_number im_X4_number sl_X4_number ml_X6_318 (hI 52 (by omega)) rfl rfl (by decide) rfl rfl (Nat.le_of_ble_eq_true rfl) dX6_obey_6 (ppI ?_)
  refine gs_top (y := x 0) (by rw [Nat.mul_comm c 3]; exact hx 0 (by decide)) ?_
  refine gs_istore_n (lv' := [(2, .int (x 0)), (0, .ref (E.2.2.1 0)), (1, .int (nI c))]) k rfl (by decide) rfl dX6_obey_9 ?_
  refine gs_aload_n (q := 1) k rfl rfl dX6_obey_10 ?_
  refine gs_get (C := RX6) (T := TX6) (N := 10) (ci := 6) (k0 := 0) (j := 4) k (hI 0 (by omega)) rfl rfl inX6 (by decide) fl_X6_35 rfl rfl dX6_obey_11 ?_
  refine gs_iload_n (q := 2) k rfl rfl dX6_obey_14 ?_
  refine gs_iconst (v := 1) k (by decide) dX6_obey_15 ?_
  refine gs_callV (As := [.int (nI c), .int 1]) (k0 := 52) (ci := 4) (T := TX4) (N := 6) k (c_X4_number (c := c) (j := 1) hI rfl rfl (by omega) (by omega)) cf_X4_number im_X4_number sl_X4_number ml_X6_318 (hI 52 (by omega)) rfl rfl (by decide) rfl rfl (Nat.le_of_ble_eq_true rfl) dX6_obey_16 (ppI ?_)
  refine gs_istore_n (lv' := [(3, .int (M 54 (c * 3 + 1))), (2, .int (x 0)), (0, .ref (E.2.2.1 0)), (1, .int (nI c))]) k rfl (by decide) rfl dX6_obey_19 ?_
  refine gs_aload_n (q := 2) k rfl rfl dX6_obey_20 ?_
  refine gs_get (C := RX6) (T := TX6) (N := 10) (ci := 6) (k0 := 0) (j := 4) k (hI 0 (by omega)) rfl rfl inX6 (by decide) fl_X6_35 rfl rfl dX6_obey_21 ?_
  refine gs_iload_n (q := 3) k rfl rfl dX6_obey_24 ?_
  refine gs_iconst (v := 2) k (by decide) dX6_obey_25 ?_
  refine gs_callV (As := [.int (nI c), .int 2]) (k0 := 52) (ci := 4) (T := TX4) (N := 6) k (c_X4_number (c := c) (j := 2) hI rfl rfl (by omega) (by omega)) cf_X4_number im_X4_number sl_X4_number ml_X6_318 (hI 52 (by omega)) rfl rfl (by decide) rfl rfl (Nat.le_of_ble_eq_true rfl) dX6_obey_26 (ppI ?_)
  refine gs_istore (lv' := [(4, .int (M 54 (c * 3 + 2))), (3, .int (M 54 (c * 3 + 1))), (2, .int (x 0)), (0, .ref (E.2.2.1 0)), (1, .int (nI c))]) k (by decide) rfl dX6_obey_29 ?_
  refine gs_aload_n (q := 3) k rfl rfl dX6_obey_31 ?_
  refine gs_get (C := RX6) (T := TX6) (N := 10) (ci := 6) (k0 := 0) (j := 4) k (hI 0 (by omega)) rfl rfl inX6 (by decide) fl_X6_35 rfl rfl dX6_obey_32 ?_
  refine gs_get (C := RX4) (T := TX4) (N := 6) (ci := 4) (k0 := 52) (j := 2) k (hI 52 (by omega)) rfl rfl inX4 (by decide) fl_X6_321 rfl rfl dX6_obey_35 ?_
  refine gs_iload_n (q := 4) k rfl rfl dX6_obey_38 ?_
  refine gs_ialdN (k0 := 53) (n := 20) (e := c) k (hI 53 (by omega)) (fun _ => rfl) rfl (by omega) (by decide) dX6_obey_39 ?_
  refine gs_top (y := 8) hw ?_
  refine gs_tableIn (off := 184) (tgt := 224) k (by decide) (by decide) (by decide) (by decide) dX6_obey_40 ?_
  refine gs_aload_n (q := 3) k rfl rfl dX6_obey_224 ?_
  refine gs_iload_n (q := 2) k rfl rfl dX6_obey_225 ?_
  refine gs_callV (As := [.int (x 0)]) (k0 := 0) (ci := 6) (T := TX6) (N := 10) k (oC_weighed hI h) cf_X6_weighed im_X6_weighed sl_X6_weighed ml_X6_348 (hI 0 (by omega)) rfl rfl (by decide) rfl rfl (Nat.le_of_ble_eq_true rfl) dX6_obey_226 (ppH (fun m hm => ?_))
  show G l E K 229 [(4, .int (M 54 (c * 3 + 2))), (3, .int (M 54 (c * 3 + 1))), (2, .int (x 0)), (0, .ref (E.2.2.1 0)), (1, .int (nI c))] [.int (A_kind (wsum (S.1.2.1 5) S.1.1 (2 ^ S.1.1 - 1) + 1000) (x 0))] m
  refine gs_if_lt (tgt := 236) k (by decide) dX6_obey_229 (fun c1 => ?_) (fun c1 => ?_)
  · refine gs_iconst (v := 0) k (by decide) dX6_obey_236 ?_
    exact gs_zret k kt (by decide) dX6_obey_237 ⟨_, rfl, hm, Or.inr ⟨rfl, Int32.not_le.mpr c1⟩⟩
  · refine gs_iconst (v := 1) k (by decide) dX6_obey_232 ?_
    refine gs_goto (tgt := 237) k (by decide) dX6_obey_233 ?_
    exact gs_zret k kt (by decide) dX6_obey_237 ⟨_, rfl, hm, Or.inl ⟨rfl, Int32.not_lt.mp c1⟩⟩

set_option maxRecDepth 100000 in
set_option maxHeartbeats 4000000 in
theorem c_X6_obey_9 {l : Launch} {E : Ev} {M : Mm} {S : As} {c : Nat} {x : Nat → Int32} (hI : ∀ k, k < 108 → k ∈ E.2.1) (h : CA M S) (hg : GA S) (hc : c < 20) (hw : M 53 c = 9) (hx : ∀ j, j < 3 → M 54 (3 * c + j) = x j) : Cm l E yX6_obey cX6_obey 5 (some .boolean) 5 [.ref (E.2.2.1 0), .int (nI c)] M (pZ (obP S CO 9 x M)) := by
  refine Cm.of (by decide) (Nat.le_of_ble_eq_true rfl) (fun K k kt => ?_)
  show G l E K 0 [(0, .ref (E.2.2.1 0)), (1, .int (nI c))] [] M
  refine gs_aload_n (q := 0) k rfl rfl dX6_obey_0 ?_
  refine gs_get (C := RX6) (T := TX6) (N := 10) (ci := 6) (k0 := 0) (j := 4) k (hI 0 (by omega)) rfl rfl inX6 (by decide) fl_X6_35 rfl rfl dX6_obey_1 ?_
  refine gs_iload_n (q := 1) k rfl rfl dX6_obey_4 ?_
  refine gs_iconst (v := 0) k (by decide) dX6_obey_5 ?_
  refine gs_callV (As := [.int (nI c), .int 0]) (k0 := 52) (ci := 4) (T := TX4) (N := 6) k (c_X4_number (c := c) (j := 0) hI rfl rfl (by omega) (by omega)) cf_X4_number im_X4_number sl_X4_number ml_X6_318 (hI 52 (by omega)) rfl rfl (by decide) rfl rfl (Nat.le_of_ble_eq_true rfl) dX6_obey_6 (ppI ?_)
  refine gs_top (y := x 0) (by rw [Nat.mul_comm c 3]; exact hx 0 (by decide)) ?_
  refine gs_istore_n (lv' := [(2, .int (x 0)), (0, .ref (E.2.2.1 0)), (1, .int (nI c))]) k rfl (by decide) rfl dX6_obey_9 ?_
  refine gs_aload_n (q := 1) k rfl rfl dX6_obey_10 ?_
  refine gs_get (C := RX6) (T := TX6) (N := 10) (ci := 6) (k0 := 0) (j := 4) k (hI 0 (by omega)) rfl rfl inX6 (by decide) fl_X6_35 rfl rfl dX6_obey_11 ?_
  refine gs_iload_n (q := 2) k rfl rfl dX6_obey_14 ?_
  refine gs_iconst (v := 1) k (by decide) dX6_obey_15 ?_
  refine gs_callV (As := [.int (nI c), .int 1]) (k0 := 52) (ci := 4) (T := TX4) (N := 6) k (c_X4_number (c := c) (j := 1) hI rfl rfl (by omega) (by omega)) cf_X4_number im_X4_number sl_X4_number ml_X6_318 (hI 52 (by omega)) rfl rfl (by decide) rfl rfl (Nat.le_of_ble_eq_true rfl) dX6_obey_16 (ppI ?_)
  refine gs_top (y := x 1) (by rw [Nat.mul_comm c 3]; exact hx 1 (by decide)) ?_
  refine gs_istore_n (lv' := [(3, .int (x 1)), (2, .int (x 0)), (0, .ref (E.2.2.1 0)), (1, .int (nI c))]) k rfl (by decide) rfl dX6_obey_19 ?_
  refine gs_aload_n (q := 2) k rfl rfl dX6_obey_20 ?_
  refine gs_get (C := RX6) (T := TX6) (N := 10) (ci := 6) (k0 := 0) (j := 4) k (hI 0 (by omega)) rfl rfl inX6 (by decide) fl_X6_35 rfl rfl dX6_obey_21 ?_
  refine gs_iload_n (q := 3) k rfl rfl dX6_obey_24 ?_
  refine gs_iconst (v := 2) k (by decide) dX6_obey_25 ?_
  refine gs_callV (As := [.int (nI c), .int 2]) (k0 := 52) (ci := 4) (T := TX4) (N := 6) k (c_X4_number (c := c) (j := 2) hI rfl rfl (by omega) (by omega)) cf_X4_number im_X4_number sl_X4_number ml_X6_318 (hI 52 (by omega)) rfl rfl (by decide) rfl rfl (Nat.le_of_ble_eq_true rfl) dX6_obey_26 (ppI ?_)
  refine gs_top (y := x 2) (by rw [Nat.mul_comm c 3]; exact hx 2 (by decide)) ?_
  refine gs_istore (lv' := [(4, .int (x 2)), (3, .int (x 1)), (2, .int (x 0)), (0, .ref (E.2.2.1 0)), (1, .int (nI c))]) k (by decide) rfl dX6_obey_29 ?_
  refine gs_aload_n (q := 3) k rfl rfl dX6_obey_31 ?_
  refine gs_get (C := RX6) (T := TX6) (N := 10) (ci := 6) (k0 := 0) (j := 4) k (hI 0 (by omega)) rfl rfl inX6 (by decide) fl_X6_35 rfl rfl dX6_obey_32 ?_
  refine gs_get (C := RX4) (T := TX4) (N := 6) (ci := 4) (k0 := 52) (j := 2) k (hI 52 (by omega)) rfl rfl inX4 (by decide) fl_X6_321 rfl rfl dX6_obey_35 ?_
  refine gs_iload_n (q := 4) k rfl rfl dX6_obey_38 ?_
  refine gs_ialdN (k0 := 53) (n := 20) (e := c) k (hI 53 (by omega)) (fun _ => rfl) rfl (by omega) (by decide) dX6_obey_39 ?_
  refine gs_top (y := 9) hw ?_
  refine gs_tableIn (off := 198) (tgt := 238) k (by decide) (by decide) (by decide) (by decide) dX6_obey_40 ?_
  refine gs_aload_n (q := 3) k rfl rfl dX6_obey_238 ?_
  refine gs_iload_n (q := 2) k rfl rfl dX6_obey_239 ?_
  refine gs_iload_n (q := 1) k rfl rfl dX6_obey_240 ?_
  refine gs_iload (q := 0) k rfl dX6_obey_241 ?_
  refine gs_callV (As := [.int (x 0), .int (x 1), .int (x 2)]) (k0 := 0) (ci := 6) (T := TX6) (N := 10) k (oC_sum hI h) cf_X6_sum im_X6_sum sl_X6_sum ml_X6_351 (hI 0 (by omega)) rfl rfl (by decide) rfl rfl (Nat.le_of_ble_eq_true rfl) dX6_obey_243 (ppH (fun m hm => ?_))
  show G l E K 246 [(4, .int (x 2)), (3, .int (x 1)), (2, .int (x 0)), (0, .ref (E.2.2.1 0)), (1, .int (nI c))] [.int (A_sum S.1.1 S.1.2.2.1 S.1.2.2.2 (x 0) (x 1) (x 2))] m
  refine gs_if_lt (tgt := 253) k (by decide) dX6_obey_246 (fun c1 => ?_) (fun c1 => ?_)
  · refine gs_iconst (v := 0) k (by decide) dX6_obey_253 ?_
    exact gs_zret k kt (by decide) dX6_obey_254 ⟨_, rfl, hm, Or.inr ⟨rfl, Int32.not_le.mpr c1⟩⟩
  · refine gs_iconst (v := 1) k (by decide) dX6_obey_249 ?_
    refine gs_goto (tgt := 254) k (by decide) dX6_obey_250 ?_
    exact gs_zret k kt (by decide) dX6_obey_254 ⟨_, rfl, hm, Or.inl ⟨rfl, Int32.not_lt.mp c1⟩⟩

set_option maxRecDepth 100000 in
set_option maxHeartbeats 4000000 in
theorem c_X6_obey_10 {l : Launch} {E : Ev} {M : Mm} {S : As} {c : Nat} {x : Nat → Int32} (hI : ∀ k, k < 108 → k ∈ E.2.1) (h : CA M S) (hg : GA S) (hc : c < 20) (hw : M 53 c = 10) (hx : ∀ j, j < 2 → M 54 (3 * c + j) = x j) : Cm l E yX6_obey cX6_obey 5 (some .boolean) 5 [.ref (E.2.2.1 0), .int (nI c)] M (pZ (obP S CO 10 x M)) := by
  refine Cm.of (by decide) (Nat.le_of_ble_eq_true rfl) (fun K k kt => ?_)
  show G l E K 0 [(0, .ref (E.2.2.1 0)), (1, .int (nI c))] [] M
  refine gs_aload_n (q := 0) k rfl rfl dX6_obey_0 ?_
  refine gs_get (C := RX6) (T := TX6) (N := 10) (ci := 6) (k0 := 0) (j := 4) k (hI 0 (by omega)) rfl rfl inX6 (by decide) fl_X6_35 rfl rfl dX6_obey_1 ?_
  refine gs_iload_n (q := 1) k rfl rfl dX6_obey_4 ?_
  refine gs_iconst (v := 0) k (by decide) dX6_obey_5 ?_
  refine gs_callV (As := [.int (nI c), .int 0]) (k0 := 52) (ci := 4) (T := TX4) (N := 6) k (c_X4_number (c := c) (j := 0) hI rfl rfl (by omega) (by omega)) cf_X4_number im_X4_number sl_X4_number ml_X6_318 (hI 52 (by omega)) rfl rfl (by decide) rfl rfl (Nat.le_of_ble_eq_true rfl) dX6_obey_6 (ppI ?_)
  refine gs_top (y := x 0) (by rw [Nat.mul_comm c 3]; exact hx 0 (by decide)) ?_
  refine gs_istore_n (lv' := [(2, .int (x 0)), (0, .ref (E.2.2.1 0)), (1, .int (nI c))]) k rfl (by decide) rfl dX6_obey_9 ?_
  refine gs_aload_n (q := 1) k rfl rfl dX6_obey_10 ?_
  refine gs_get (C := RX6) (T := TX6) (N := 10) (ci := 6) (k0 := 0) (j := 4) k (hI 0 (by omega)) rfl rfl inX6 (by decide) fl_X6_35 rfl rfl dX6_obey_11 ?_
  refine gs_iload_n (q := 2) k rfl rfl dX6_obey_14 ?_
  refine gs_iconst (v := 1) k (by decide) dX6_obey_15 ?_
  refine gs_callV (As := [.int (nI c), .int 1]) (k0 := 52) (ci := 4) (T := TX4) (N := 6) k (c_X4_number (c := c) (j := 1) hI rfl rfl (by omega) (by omega)) cf_X4_number im_X4_number sl_X4_number ml_X6_318 (hI 52 (by omega)) rfl rfl (by decide) rfl rfl (Nat.le_of_ble_eq_true rfl) dX6_obey_16 (ppI ?_)
  refine gs_top (y := x 1) (by rw [Nat.mul_comm c 3]; exact hx 1 (by decide)) ?_
  refine gs_istore_n (lv' := [(3, .int (x 1)), (2, .int (x 0)), (0, .ref (E.2.2.1 0)), (1, .int (nI c))]) k rfl (by decide) rfl dX6_obey_19 ?_
  refine gs_aload_n (q := 2) k rfl rfl dX6_obey_20 ?_
  refine gs_get (C := RX6) (T := TX6) (N := 10) (ci := 6) (k0 := 0) (j := 4) k (hI 0 (by omega)) rfl rfl inX6 (by decide) fl_X6_35 rfl rfl dX6_obey_21 ?_
  refine gs_iload_n (q := 3) k rfl rfl dX6_obey_24 ?_
  refine gs_iconst (v := 2) k (by decide) dX6_obey_25 ?_
  refine gs_callV (As := [.int (nI c), .int 2]) (k0 := 52) (ci := 4) (T := TX4) (N := 6) k (c_X4_number (c := c) (j := 2) hI rfl rfl (by omega) (by omega)) cf_X4_number im_X4_number sl_X4_number ml_X6_318 (hI 52 (by omega)) rfl rfl (by decide) rfl rfl (Nat.le_of_ble_eq_true rfl) dX6_obey_26 (ppI ?_)
  refine gs_istore (lv' := [(4, .int (M 54 (c * 3 + 2))), (3, .int (x 1)), (2, .int (x 0)), (0, .ref (E.2.2.1 0)), (1, .int (nI c))]) k (by decide) rfl dX6_obey_29 ?_
  refine gs_aload_n (q := 3) k rfl rfl dX6_obey_31 ?_
  refine gs_get (C := RX6) (T := TX6) (N := 10) (ci := 6) (k0 := 0) (j := 4) k (hI 0 (by omega)) rfl rfl inX6 (by decide) fl_X6_35 rfl rfl dX6_obey_32 ?_
  refine gs_get (C := RX4) (T := TX4) (N := 6) (ci := 4) (k0 := 52) (j := 2) k (hI 52 (by omega)) rfl rfl inX4 (by decide) fl_X6_321 rfl rfl dX6_obey_35 ?_
  refine gs_iload_n (q := 4) k rfl rfl dX6_obey_38 ?_
  refine gs_ialdN (k0 := 53) (n := 20) (e := c) k (hI 53 (by omega)) (fun _ => rfl) rfl (by omega) (by decide) dX6_obey_39 ?_
  refine gs_top (y := 10) hw ?_
  refine gs_tableIn (off := 215) (tgt := 255) k (by decide) (by decide) (by decide) (by decide) dX6_obey_40 ?_
  refine gs_aload_n (q := 3) k rfl rfl dX6_obey_255 ?_
  refine gs_iload_n (q := 2) k rfl rfl dX6_obey_256 ?_
  refine gs_iload_n (q := 1) k rfl rfl dX6_obey_257 ?_
  refine gs_callV (As := [.int (x 0), .int (x 1)]) (k0 := 0) (ci := 6) (T := TX6) (N := 10) k (oC_turn hI h) cf_X6_turn im_X6_turn sl_X6_turn ml_X6_354 (hI 0 (by omega)) rfl rfl (by decide) rfl rfl (Nat.le_of_ble_eq_true rfl) dX6_obey_258 (ppH (fun m hm => ?_))
  show G l E K 261 [(4, .int (M 54 (c * 3 + 2))), (3, .int (x 1)), (2, .int (x 0)), (0, .ref (E.2.2.1 0)), (1, .int (nI c))] [.int (A_turn S.1.1 S.1.2.2.1 S.1.2.2.2 (x 0) (x 1))] m
  refine gs_if_lt (tgt := 268) k (by decide) dX6_obey_261 (fun c1 => ?_) (fun c1 => ?_)
  · refine gs_iconst (v := 0) k (by decide) dX6_obey_268 ?_
    exact gs_zret k kt (by decide) dX6_obey_269 ⟨_, rfl, hm, Or.inr ⟨rfl, Int32.not_le.mpr c1⟩⟩
  · refine gs_iconst (v := 1) k (by decide) dX6_obey_264 ?_
    refine gs_goto (tgt := 269) k (by decide) dX6_obey_265 ?_
    exact gs_zret k kt (by decide) dX6_obey_269 ⟨_, rfl, hm, Or.inl ⟨rfl, Int32.not_lt.mp c1⟩⟩

theorem c_X6_obey {l : Launch} {E : Ev} {M : Mm} {S : As} {c w : Nat} {x : Nat → Int32} (hI : ∀ k, k < 108 → k ∈ E.2.1) (h : CA M S) (hg : GA S) (hc : c < 20) (hww : w < 11) (hw : M 53 c = nI w) (hx : ∀ j, j < ar (w) → M 54 (3 * c + j) = x j) : Cm l E yX6_obey cX6_obey 5 (some .boolean) 5 [.ref (E.2.2.1 0), .int (nI c)] M (pZ (obP S CO (w) x M)) :=
  match w, hww with
  | 0, _ => c_X6_obey_0 hI h hg hc hw hx
  | 1, _ => c_X6_obey_1 hI h hg hc hw hx
  | 2, _ => c_X6_obey_2 hI h hg hc hw hx
  | 3, _ => c_X6_obey_3 hI h hg hc hw hx
  | 4, _ => c_X6_obey_4 hI h hg hc hw hx
  | 5, _ => c_X6_obey_5 hI h hg hc hw hx
  | 6, _ => c_X6_obey_6 hI h hg hc hw hx
  | 7, _ => c_X6_obey_7 hI h hg hc hw hx
  | 8, _ => c_X6_obey_8 hI h hg hc hw hx
  | 9, _ => c_X6_obey_9 hI h hg hc hw hx
  | 10, _ => c_X6_obey_10 hI h hg hc hw hx
  | w + 11, z => absurd z (by omega)
set_option maxRecDepth 100000 in
set_option maxHeartbeats 4000000 in
theorem c_X7_isDone_0 {l : Launch} {E : Ev} {M : Mm} {S : As} {c : Nat} {x : Nat → Int32} (hI : ∀ k, k < 108 → k ∈ E.2.1) (h : RA M S) (hg : GA S) (hc : c < 100) (hw : M 84 c = 0) (hx : ∀ j, j < 3 → M 85 (3 * c + j) = x j) : Cm l E yX7_isDone cX7_isDone 5 (some .boolean) 5 [.ref (E.2.2.1 65), .int (nI c)] M (pZ (obP S RO 0 x M)) := by
  refine Cm.of (by decide) (Nat.le_of_ble_eq_true rfl) (fun K k kt => ?_)
  show G l E K 0 [(0, .ref (E.2.2.1 65)), (1, .int (nI c))] [] M
  refine gs_aload_n (q := 0) k rfl rfl dX7_isDone_0 ?_
  refine gs_get (C := RX7) (T := TX7) (N := 27) (ci := 7) (k0 := 65) (j := 18) k (hI 65 (by omega)) rfl rfl inX7 (by decide) fl_X7_58 rfl rfl dX7_isDone_1 ?_
  refine gs_iconst (v := 3) k (by decide) dX7_isDone_4 ?_
  refine gs_iload_n (q := 1) k rfl rfl dX7_isDone_5 ?_
  refine gs_imulN (a := 3) (b := c) k rfl rfl dX7_isDone_6 ?_
  refine gs_ialdN (k0 := 85) (n := 300) (e := 3 * c) k (hI 85 (by omega)) (fun _ => rfl) rfl (by omega) (by decide) dX7_isDone_7 ?_
  refine gs_top (y := x 0) (hx 0 (by decide)) ?_
  refine gs_istore_n (lv' := [(2, .int (x 0)), (0, .ref (E.2.2.1 65)), (1, .int (nI c))]) k rfl (by decide) rfl dX7_isDone_8 ?_
  refine gs_aload_n (q := 1) k rfl rfl dX7_isDone_9 ?_
  refine gs_get (C := RX7) (T := TX7) (N := 27) (ci := 7) (k0 := 65) (j := 18) k (hI 65 (by omega)) rfl rfl inX7 (by decide) fl_X7_58 rfl rfl dX7_isDone_10 ?_
  refine gs_iconst (v := 3) k (by decide) dX7_isDone_13 ?_
  refine gs_iload_n (q := 2) k rfl rfl dX7_isDone_14 ?_
  refine gs_imulN (a := 3) (b := c) k rfl rfl dX7_isDone_15 ?_
  refine gs_iconst (v := 1) k (by decide) dX7_isDone_16 ?_
  refine gs_iaddN (a := 3 * c) (b := 1) k rfl rfl dX7_isDone_17 ?_
  refine gs_ialdN (k0 := 85) (n := 300) (e := (3 * c) + 1) k (hI 85 (by omega)) (fun _ => rfl) rfl (by omega) (by decide) dX7_isDone_18 ?_
  refine gs_top (y := x 1) (hx 1 (by decide)) ?_
  refine gs_istore_n (lv' := [(3, .int (x 1)), (2, .int (x 0)), (0, .ref (E.2.2.1 65)), (1, .int (nI c))]) k rfl (by decide) rfl dX7_isDone_19 ?_
  refine gs_aload_n (q := 2) k rfl rfl dX7_isDone_20 ?_
  refine gs_get (C := RX7) (T := TX7) (N := 27) (ci := 7) (k0 := 65) (j := 18) k (hI 65 (by omega)) rfl rfl inX7 (by decide) fl_X7_58 rfl rfl dX7_isDone_21 ?_
  refine gs_iconst (v := 3) k (by decide) dX7_isDone_24 ?_
  refine gs_iload_n (q := 3) k rfl rfl dX7_isDone_25 ?_
  refine gs_imulN (a := 3) (b := c) k rfl rfl dX7_isDone_26 ?_
  refine gs_iconst (v := 2) k (by decide) dX7_isDone_27 ?_
  refine gs_iaddN (a := 3 * c) (b := 2) k rfl rfl dX7_isDone_28 ?_
  refine gs_ialdN (k0 := 85) (n := 300) (e := (3 * c) + 2) k (hI 85 (by omega)) (fun _ => rfl) rfl (by omega) (by decide) dX7_isDone_29 ?_
  refine gs_top (y := x 2) (hx 2 (by decide)) ?_
  refine gs_istore (lv' := [(4, .int (x 2)), (3, .int (x 1)), (2, .int (x 0)), (0, .ref (E.2.2.1 65)), (1, .int (nI c))]) k (by decide) rfl dX7_isDone_30 ?_
  refine gs_aload_n (q := 3) k rfl rfl dX7_isDone_32 ?_
  refine gs_get (C := RX7) (T := TX7) (N := 27) (ci := 7) (k0 := 65) (j := 17) k (hI 65 (by omega)) rfl rfl inX7 (by decide) fl_X7_55 rfl rfl dX7_isDone_33 ?_
  refine gs_iload_n (q := 4) k rfl rfl dX7_isDone_36 ?_
  refine gs_ialdN (k0 := 84) (n := 100) (e := c) k (hI 84 (by omega)) (fun _ => rfl) rfl (by omega) (by decide) dX7_isDone_37 ?_
  refine gs_top (y := 0) hw ?_
  refine gs_tableIn (off := 54) (tgt := 92) k (by decide) (by decide) (by decide) (by decide) dX7_isDone_38 ?_
  refine gs_aload_n (q := 3) k rfl rfl dX7_isDone_92 ?_
  refine gs_iload_n (q := 2) k rfl rfl dX7_isDone_93 ?_
  refine gs_iload_n (q := 1) k rfl rfl dX7_isDone_94 ?_
  refine gs_iload (q := 0) k rfl dX7_isDone_95 ?_
  refine gs_callV (As := [.int (x 0), .int (x 1), .int (x 2)]) (k0 := 65) (ci := 7) (T := TX7) (N := 27) k (oR_arc hI h) cf_X7_arc im_X7_arc sl_X7_arc ml_X7_324 (hI 65 (by omega)) rfl rfl (by decide) rfl rfl (Nat.le_of_ble_eq_true rfl) dX7_isDone_97 (ppH (fun m hm => ?_))
  show G l E K 100 [(4, .int (x 2)), (3, .int (x 1)), (2, .int (x 0)), (0, .ref (E.2.2.1 65)), (1, .int (nI c))] [.int (A_arc S.1.1 (S.1.2.1 0) (x 0) (x 1) (x 2))] m
  refine gs_if_lt (tgt := 107) k (by decide) dX7_isDone_100 (fun c1 => ?_) (fun c1 => ?_)
  · refine gs_iconst (v := 0) k (by decide) dX7_isDone_107 ?_
    exact gs_zret k kt (by decide) dX7_isDone_108 ⟨_, rfl, hm, Or.inr ⟨rfl, Int32.not_le.mpr c1⟩⟩
  · refine gs_iconst (v := 1) k (by decide) dX7_isDone_103 ?_
    refine gs_goto (tgt := 108) k (by decide) dX7_isDone_104 ?_
    exact gs_zret k kt (by decide) dX7_isDone_108 ⟨_, rfl, hm, Or.inl ⟨rfl, Int32.not_lt.mp c1⟩⟩

set_option maxRecDepth 100000 in
set_option maxHeartbeats 4000000 in
theorem c_X7_isDone_1 {l : Launch} {E : Ev} {M : Mm} {S : As} {c : Nat} {x : Nat → Int32} (hI : ∀ k, k < 108 → k ∈ E.2.1) (h : RA M S) (hg : GA S) (hc : c < 100) (hw : M 84 c = 1) (hx : ∀ j, j < 3 → M 85 (3 * c + j) = x j) : Cm l E yX7_isDone cX7_isDone 5 (some .boolean) 5 [.ref (E.2.2.1 65), .int (nI c)] M (pZ (obP S RO 1 x M)) := by
  refine Cm.of (by decide) (Nat.le_of_ble_eq_true rfl) (fun K k kt => ?_)
  show G l E K 0 [(0, .ref (E.2.2.1 65)), (1, .int (nI c))] [] M
  refine gs_aload_n (q := 0) k rfl rfl dX7_isDone_0 ?_
  refine gs_get (C := RX7) (T := TX7) (N := 27) (ci := 7) (k0 := 65) (j := 18) k (hI 65 (by omega)) rfl rfl inX7 (by decide) fl_X7_58 rfl rfl dX7_isDone_1 ?_
  refine gs_iconst (v := 3) k (by decide) dX7_isDone_4 ?_
  refine gs_iload_n (q := 1) k rfl rfl dX7_isDone_5 ?_
  refine gs_imulN (a := 3) (b := c) k rfl rfl dX7_isDone_6 ?_
  refine gs_ialdN (k0 := 85) (n := 300) (e := 3 * c) k (hI 85 (by omega)) (fun _ => rfl) rfl (by omega) (by decide) dX7_isDone_7 ?_
  refine gs_top (y := x 0) (hx 0 (by decide)) ?_
  refine gs_istore_n (lv' := [(2, .int (x 0)), (0, .ref (E.2.2.1 65)), (1, .int (nI c))]) k rfl (by decide) rfl dX7_isDone_8 ?_
  refine gs_aload_n (q := 1) k rfl rfl dX7_isDone_9 ?_
  refine gs_get (C := RX7) (T := TX7) (N := 27) (ci := 7) (k0 := 65) (j := 18) k (hI 65 (by omega)) rfl rfl inX7 (by decide) fl_X7_58 rfl rfl dX7_isDone_10 ?_
  refine gs_iconst (v := 3) k (by decide) dX7_isDone_13 ?_
  refine gs_iload_n (q := 2) k rfl rfl dX7_isDone_14 ?_
  refine gs_imulN (a := 3) (b := c) k rfl rfl dX7_isDone_15 ?_
  refine gs_iconst (v := 1) k (by decide) dX7_isDone_16 ?_
  refine gs_iaddN (a := 3 * c) (b := 1) k rfl rfl dX7_isDone_17 ?_
  refine gs_ialdN (k0 := 85) (n := 300) (e := (3 * c) + 1) k (hI 85 (by omega)) (fun _ => rfl) rfl (by omega) (by decide) dX7_isDone_18 ?_
  refine gs_top (y := x 1) (hx 1 (by decide)) ?_
  refine gs_istore_n (lv' := [(3, .int (x 1)), (2, .int (x 0)), (0, .ref (E.2.2.1 65)), (1, .int (nI c))]) k rfl (by decide) rfl dX7_isDone_19 ?_
  refine gs_aload_n (q := 2) k rfl rfl dX7_isDone_20 ?_
  refine gs_get (C := RX7) (T := TX7) (N := 27) (ci := 7) (k0 := 65) (j := 18) k (hI 65 (by omega)) rfl rfl inX7 (by decide) fl_X7_58 rfl rfl dX7_isDone_21 ?_
  refine gs_iconst (v := 3) k (by decide) dX7_isDone_24 ?_
  refine gs_iload_n (q := 3) k rfl rfl dX7_isDone_25 ?_
  refine gs_imulN (a := 3) (b := c) k rfl rfl dX7_isDone_26 ?_
  refine gs_iconst (v := 2) k (by decide) dX7_isDone_27 ?_
  refine gs_iaddN (a := 3 * c) (b := 2) k rfl rfl dX7_isDone_28 ?_
  refine gs_ialdN (k0 := 85) (n := 300) (e := (3 * c) + 2) k (hI 85 (by omega)) (fun _ => rfl) rfl (by omega) (by decide) dX7_isDone_29 ?_
  refine gs_top (y := x 2) (hx 2 (by decide)) ?_
  refine gs_istore (lv' := [(4, .int (x 2)), (3, .int (x 1)), (2, .int (x 0)), (0, .ref (E.2.2.1 65)), (1, .int (nI c))]) k (by decide) rfl dX7_isDone_30 ?_
  refine gs_aload_n (q := 3) k rfl rfl dX7_isDone_32 ?_
  refine gs_get (C := RX7) (T := TX7) (N := 27) (ci := 7) (k0 := 65) (j := 17) k (hI 65 (by omega)) rfl rfl inX7 (by decide) fl_X7_55 rfl rfl dX7_isDone_33 ?_
  refine gs_iload_n (q := 4) k rfl rfl dX7_isDone_36 ?_
  refine gs_ialdN (k0 := 84) (n := 100) (e := c) k (hI 84 (by omega)) (fun _ => rfl) rfl (by omega) (by decide) dX7_isDone_37 ?_
  refine gs_top (y := 1) hw ?_
  refine gs_tableIn (off := 71) (tgt := 109) k (by decide) (by decide) (by decide) (by decide) dX7_isDone_38 ?_
  refine gs_aload_n (q := 3) k rfl rfl dX7_isDone_109 ?_
  refine gs_iload_n (q := 2) k rfl rfl dX7_isDone_110 ?_
  refine gs_iload_n (q := 1) k rfl rfl dX7_isDone_111 ?_
  refine gs_iload (q := 0) k rfl dX7_isDone_112 ?_
  refine gs_callV (As := [.int (x 0), .int (x 1), .int (x 2)]) (k0 := 65) (ci := 7) (T := TX7) (N := 27) k (oR_item hI h) cf_X7_item im_X7_item sl_X7_item ml_X7_326 (hI 65 (by omega)) rfl rfl (by decide) rfl rfl (Nat.le_of_ble_eq_true rfl) dX7_isDone_114 (ppH (fun m hm => ?_))
  show G l E K 117 [(4, .int (x 2)), (3, .int (x 1)), (2, .int (x 0)), (0, .ref (E.2.2.1 65)), (1, .int (nI c))] [.int (A_item S.1.1 (S.1.2.1 1) (x 0) (x 1) (x 2))] m
  refine gs_if_lt (tgt := 124) k (by decide) dX7_isDone_117 (fun c1 => ?_) (fun c1 => ?_)
  · refine gs_iconst (v := 0) k (by decide) dX7_isDone_124 ?_
    exact gs_zret k kt (by decide) dX7_isDone_125 ⟨_, rfl, hm, Or.inr ⟨rfl, Int32.not_le.mpr c1⟩⟩
  · refine gs_iconst (v := 1) k (by decide) dX7_isDone_120 ?_
    refine gs_goto (tgt := 125) k (by decide) dX7_isDone_121 ?_
    exact gs_zret k kt (by decide) dX7_isDone_125 ⟨_, rfl, hm, Or.inl ⟨rfl, Int32.not_lt.mp c1⟩⟩

set_option maxRecDepth 100000 in
set_option maxHeartbeats 4000000 in
theorem c_X7_isDone_2 {l : Launch} {E : Ev} {M : Mm} {S : As} {c : Nat} {x : Nat → Int32} (hI : ∀ k, k < 108 → k ∈ E.2.1) (h : RA M S) (hg : GA S) (hc : c < 100) (hw : M 84 c = 2) (hx : ∀ j, j < 3 → M 85 (3 * c + j) = x j) : Cm l E yX7_isDone cX7_isDone 5 (some .boolean) 5 [.ref (E.2.2.1 65), .int (nI c)] M (pZ (obP S RO 9 x M)) := by
  refine Cm.of (by decide) (Nat.le_of_ble_eq_true rfl) (fun K k kt => ?_)
  show G l E K 0 [(0, .ref (E.2.2.1 65)), (1, .int (nI c))] [] M
  refine gs_aload_n (q := 0) k rfl rfl dX7_isDone_0 ?_
  refine gs_get (C := RX7) (T := TX7) (N := 27) (ci := 7) (k0 := 65) (j := 18) k (hI 65 (by omega)) rfl rfl inX7 (by decide) fl_X7_58 rfl rfl dX7_isDone_1 ?_
  refine gs_iconst (v := 3) k (by decide) dX7_isDone_4 ?_
  refine gs_iload_n (q := 1) k rfl rfl dX7_isDone_5 ?_
  refine gs_imulN (a := 3) (b := c) k rfl rfl dX7_isDone_6 ?_
  refine gs_ialdN (k0 := 85) (n := 300) (e := 3 * c) k (hI 85 (by omega)) (fun _ => rfl) rfl (by omega) (by decide) dX7_isDone_7 ?_
  refine gs_top (y := x 0) (hx 0 (by decide)) ?_
  refine gs_istore_n (lv' := [(2, .int (x 0)), (0, .ref (E.2.2.1 65)), (1, .int (nI c))]) k rfl (by decide) rfl dX7_isDone_8 ?_
  refine gs_aload_n (q := 1) k rfl rfl dX7_isDone_9 ?_
  refine gs_get (C := RX7) (T := TX7) (N := 27) (ci := 7) (k0 := 65) (j := 18) k (hI 65 (by omega)) rfl rfl inX7 (by decide) fl_X7_58 rfl rfl dX7_isDone_10 ?_
  refine gs_iconst (v := 3) k (by decide) dX7_isDone_13 ?_
  refine gs_iload_n (q := 2) k rfl rfl dX7_isDone_14 ?_
  refine gs_imulN (a := 3) (b := c) k rfl rfl dX7_isDone_15 ?_
  refine gs_iconst (v := 1) k (by decide) dX7_isDone_16 ?_
  refine gs_iaddN (a := 3 * c) (b := 1) k rfl rfl dX7_isDone_17 ?_
  refine gs_ialdN (k0 := 85) (n := 300) (e := (3 * c) + 1) k (hI 85 (by omega)) (fun _ => rfl) rfl (by omega) (by decide) dX7_isDone_18 ?_
  refine gs_top (y := x 1) (hx 1 (by decide)) ?_
  refine gs_istore_n (lv' := [(3, .int (x 1)), (2, .int (x 0)), (0, .ref (E.2.2.1 65)), (1, .int (nI c))]) k rfl (by decide) rfl dX7_isDone_19 ?_
  refine gs_aload_n (q := 2) k rfl rfl dX7_isDone_20 ?_
  refine gs_get (C := RX7) (T := TX7) (N := 27) (ci := 7) (k0 := 65) (j := 18) k (hI 65 (by omega)) rfl rfl inX7 (by decide) fl_X7_58 rfl rfl dX7_isDone_21 ?_
  refine gs_iconst (v := 3) k (by decide) dX7_isDone_24 ?_
  refine gs_iload_n (q := 3) k rfl rfl dX7_isDone_25 ?_
  refine gs_imulN (a := 3) (b := c) k rfl rfl dX7_isDone_26 ?_
  refine gs_iconst (v := 2) k (by decide) dX7_isDone_27 ?_
  refine gs_iaddN (a := 3 * c) (b := 2) k rfl rfl dX7_isDone_28 ?_
  refine gs_ialdN (k0 := 85) (n := 300) (e := (3 * c) + 2) k (hI 85 (by omega)) (fun _ => rfl) rfl (by omega) (by decide) dX7_isDone_29 ?_
  refine gs_top (y := x 2) (hx 2 (by decide)) ?_
  refine gs_istore (lv' := [(4, .int (x 2)), (3, .int (x 1)), (2, .int (x 0)), (0, .ref (E.2.2.1 65)), (1, .int (nI c))]) k (by decide) rfl dX7_isDone_30 ?_
  refine gs_aload_n (q := 3) k rfl rfl dX7_isDone_32 ?_
  refine gs_get (C := RX7) (T := TX7) (N := 27) (ci := 7) (k0 := 65) (j := 17) k (hI 65 (by omega)) rfl rfl inX7 (by decide) fl_X7_55 rfl rfl dX7_isDone_33 ?_
  refine gs_iload_n (q := 4) k rfl rfl dX7_isDone_36 ?_
  refine gs_ialdN (k0 := 84) (n := 100) (e := c) k (hI 84 (by omega)) (fun _ => rfl) rfl (by omega) (by decide) dX7_isDone_37 ?_
  refine gs_top (y := 2) hw ?_
  refine gs_tableIn (off := 88) (tgt := 126) k (by decide) (by decide) (by decide) (by decide) dX7_isDone_38 ?_
  refine gs_aload_n (q := 3) k rfl rfl dX7_isDone_126 ?_
  refine gs_iload_n (q := 2) k rfl rfl dX7_isDone_127 ?_
  refine gs_iload_n (q := 1) k rfl rfl dX7_isDone_128 ?_
  refine gs_iload (q := 0) k rfl dX7_isDone_129 ?_
  refine gs_callV (As := [.int (x 0), .int (x 1), .int (x 2)]) (k0 := 65) (ci := 7) (T := TX7) (N := 27) k (oR_sum hI h) cf_X7_sum im_X7_sum sl_X7_sum ml_X7_328 (hI 65 (by omega)) rfl rfl (by decide) rfl rfl (Nat.le_of_ble_eq_true rfl) dX7_isDone_131 (ppH (fun m hm => ?_))
  show G l E K 134 [(4, .int (x 2)), (3, .int (x 1)), (2, .int (x 0)), (0, .ref (E.2.2.1 65)), (1, .int (nI c))] [.int (A_sum S.1.1 S.1.2.2.1 S.1.2.2.2 (x 0) (x 1) (x 2))] m
  refine gs_if_lt (tgt := 141) k (by decide) dX7_isDone_134 (fun c1 => ?_) (fun c1 => ?_)
  · refine gs_iconst (v := 0) k (by decide) dX7_isDone_141 ?_
    exact gs_zret k kt (by decide) dX7_isDone_142 ⟨_, rfl, hm, Or.inr ⟨rfl, Int32.not_le.mpr c1⟩⟩
  · refine gs_iconst (v := 1) k (by decide) dX7_isDone_137 ?_
    refine gs_goto (tgt := 142) k (by decide) dX7_isDone_138 ?_
    exact gs_zret k kt (by decide) dX7_isDone_142 ⟨_, rfl, hm, Or.inl ⟨rfl, Int32.not_lt.mp c1⟩⟩

set_option maxRecDepth 100000 in
set_option maxHeartbeats 4000000 in
theorem c_X7_isDone_3 {l : Launch} {E : Ev} {M : Mm} {S : As} {c : Nat} {x : Nat → Int32} (hI : ∀ k, k < 108 → k ∈ E.2.1) (h : RA M S) (hg : GA S) (hc : c < 100) (hw : M 84 c = 3) (hx : ∀ j, j < 2 → M 85 (3 * c + j) = x j) : Cm l E yX7_isDone cX7_isDone 5 (some .boolean) 5 [.ref (E.2.2.1 65), .int (nI c)] M (pZ (obP S RO 2 x M)) := by
  refine Cm.of (by decide) (Nat.le_of_ble_eq_true rfl) (fun K k kt => ?_)
  show G l E K 0 [(0, .ref (E.2.2.1 65)), (1, .int (nI c))] [] M
  refine gs_aload_n (q := 0) k rfl rfl dX7_isDone_0 ?_
  refine gs_get (C := RX7) (T := TX7) (N := 27) (ci := 7) (k0 := 65) (j := 18) k (hI 65 (by omega)) rfl rfl inX7 (by decide) fl_X7_58 rfl rfl dX7_isDone_1 ?_
  refine gs_iconst (v := 3) k (by decide) dX7_isDone_4 ?_
  refine gs_iload_n (q := 1) k rfl rfl dX7_isDone_5 ?_
  refine gs_imulN (a := 3) (b := c) k rfl rfl dX7_isDone_6 ?_
  refine gs_ialdN (k0 := 85) (n := 300) (e := 3 * c) k (hI 85 (by omega)) (fun _ => rfl) rfl (by omega) (by decide) dX7_isDone_7 ?_
  refine gs_top (y := x 0) (hx 0 (by decide)) ?_
  refine gs_istore_n (lv' := [(2, .int (x 0)), (0, .ref (E.2.2.1 65)), (1, .int (nI c))]) k rfl (by decide) rfl dX7_isDone_8 ?_
  refine gs_aload_n (q := 1) k rfl rfl dX7_isDone_9 ?_
  refine gs_get (C := RX7) (T := TX7) (N := 27) (ci := 7) (k0 := 65) (j := 18) k (hI 65 (by omega)) rfl rfl inX7 (by decide) fl_X7_58 rfl rfl dX7_isDone_10 ?_
  refine gs_iconst (v := 3) k (by decide) dX7_isDone_13 ?_
  refine gs_iload_n (q := 2) k rfl rfl dX7_isDone_14 ?_
  refine gs_imulN (a := 3) (b := c) k rfl rfl dX7_isDone_15 ?_
  refine gs_iconst (v := 1) k (by decide) dX7_isDone_16 ?_
  refine gs_iaddN (a := 3 * c) (b := 1) k rfl rfl dX7_isDone_17 ?_
  refine gs_ialdN (k0 := 85) (n := 300) (e := (3 * c) + 1) k (hI 85 (by omega)) (fun _ => rfl) rfl (by omega) (by decide) dX7_isDone_18 ?_
  refine gs_top (y := x 1) (hx 1 (by decide)) ?_
  refine gs_istore_n (lv' := [(3, .int (x 1)), (2, .int (x 0)), (0, .ref (E.2.2.1 65)), (1, .int (nI c))]) k rfl (by decide) rfl dX7_isDone_19 ?_
  refine gs_aload_n (q := 2) k rfl rfl dX7_isDone_20 ?_
  refine gs_get (C := RX7) (T := TX7) (N := 27) (ci := 7) (k0 := 65) (j := 18) k (hI 65 (by omega)) rfl rfl inX7 (by decide) fl_X7_58 rfl rfl dX7_isDone_21 ?_
  refine gs_iconst (v := 3) k (by decide) dX7_isDone_24 ?_
  refine gs_iload_n (q := 3) k rfl rfl dX7_isDone_25 ?_
  refine gs_imulN (a := 3) (b := c) k rfl rfl dX7_isDone_26 ?_
  refine gs_iconst (v := 2) k (by decide) dX7_isDone_27 ?_
  refine gs_iaddN (a := 3 * c) (b := 2) k rfl rfl dX7_isDone_28 ?_
  refine gs_ialdN (k0 := 85) (n := 300) (e := (3 * c) + 2) k (hI 85 (by omega)) (fun _ => rfl) rfl (by omega) (by decide) dX7_isDone_29 ?_
  refine gs_istore (lv' := [(4, .int (M 85 ((3 * c) + 2))), (3, .int (x 1)), (2, .int (x 0)), (0, .ref (E.2.2.1 65)), (1, .int (nI c))]) k (by decide) rfl dX7_isDone_30 ?_
  refine gs_aload_n (q := 3) k rfl rfl dX7_isDone_32 ?_
  refine gs_get (C := RX7) (T := TX7) (N := 27) (ci := 7) (k0 := 65) (j := 17) k (hI 65 (by omega)) rfl rfl inX7 (by decide) fl_X7_55 rfl rfl dX7_isDone_33 ?_
  refine gs_iload_n (q := 4) k rfl rfl dX7_isDone_36 ?_
  refine gs_ialdN (k0 := 84) (n := 100) (e := c) k (hI 84 (by omega)) (fun _ => rfl) rfl (by omega) (by decide) dX7_isDone_37 ?_
  refine gs_top (y := 3) hw ?_
  refine gs_tableIn (off := 105) (tgt := 143) k (by decide) (by decide) (by decide) (by decide) dX7_isDone_38 ?_
  refine gs_aload_n (q := 3) k rfl rfl dX7_isDone_143 ?_
  refine gs_iload_n (q := 2) k rfl rfl dX7_isDone_144 ?_
  refine gs_iload_n (q := 1) k rfl rfl dX7_isDone_145 ?_
  refine gs_callV (As := [.int (x 0), .int (x 1)]) (k0 := 65) (ci := 7) (T := TX7) (N := 27) k (oR_block hI h) cf_X7_block im_X7_block sl_X7_block ml_X7_330 (hI 65 (by omega)) rfl rfl (by decide) rfl rfl (Nat.le_of_ble_eq_true rfl) dX7_isDone_146 (ppH (fun m hm => ?_))
  show G l E K 149 [(4, .int (M 85 ((3 * c) + 2))), (3, .int (x 1)), (2, .int (x 0)), (0, .ref (E.2.2.1 65)), (1, .int (nI c))] [.int (A_block S.1.1 (S.1.2.1 3) (x 0) (x 1))] m
  refine gs_if_lt (tgt := 156) k (by decide) dX7_isDone_149 (fun c1 => ?_) (fun c1 => ?_)
  · refine gs_iconst (v := 0) k (by decide) dX7_isDone_156 ?_
    exact gs_zret k kt (by decide) dX7_isDone_157 ⟨_, rfl, hm, Or.inr ⟨rfl, Int32.not_le.mpr c1⟩⟩
  · refine gs_iconst (v := 1) k (by decide) dX7_isDone_152 ?_
    refine gs_goto (tgt := 157) k (by decide) dX7_isDone_153 ?_
    exact gs_zret k kt (by decide) dX7_isDone_157 ⟨_, rfl, hm, Or.inl ⟨rfl, Int32.not_lt.mp c1⟩⟩

set_option maxRecDepth 100000 in
set_option maxHeartbeats 4000000 in
theorem c_X7_isDone_4 {l : Launch} {E : Ev} {M : Mm} {S : As} {c : Nat} {x : Nat → Int32} (hI : ∀ k, k < 108 → k ∈ E.2.1) (h : RA M S) (hg : GA S) (hc : c < 100) (hw : M 84 c = 4) (hx : ∀ j, j < 2 → M 85 (3 * c + j) = x j) : Cm l E yX7_isDone cX7_isDone 5 (some .boolean) 5 [.ref (E.2.2.1 65), .int (nI c)] M (pZ (obP S RO 3 x M)) := by
  refine Cm.of (by decide) (Nat.le_of_ble_eq_true rfl) (fun K k kt => ?_)
  show G l E K 0 [(0, .ref (E.2.2.1 65)), (1, .int (nI c))] [] M
  refine gs_aload_n (q := 0) k rfl rfl dX7_isDone_0 ?_
  refine gs_get (C := RX7) (T := TX7) (N := 27) (ci := 7) (k0 := 65) (j := 18) k (hI 65 (by omega)) rfl rfl inX7 (by decide) fl_X7_58 rfl rfl dX7_isDone_1 ?_
  refine gs_iconst (v := 3) k (by decide) dX7_isDone_4 ?_
  refine gs_iload_n (q := 1) k rfl rfl dX7_isDone_5 ?_
  refine gs_imulN (a := 3) (b := c) k rfl rfl dX7_isDone_6 ?_
  refine gs_ialdN (k0 := 85) (n := 300) (e := 3 * c) k (hI 85 (by omega)) (fun _ => rfl) rfl (by omega) (by decide) dX7_isDone_7 ?_
  refine gs_top (y := x 0) (hx 0 (by decide)) ?_
  refine gs_istore_n (lv' := [(2, .int (x 0)), (0, .ref (E.2.2.1 65)), (1, .int (nI c))]) k rfl (by decide) rfl dX7_isDone_8 ?_
  refine gs_aload_n (q := 1) k rfl rfl dX7_isDone_9 ?_
  refine gs_get (C := RX7) (T := TX7) (N := 27) (ci := 7) (k0 := 65) (j := 18) k (hI 65 (by omega)) rfl rfl inX7 (by decide) fl_X7_58 rfl rfl dX7_isDone_10 ?_
  refine gs_iconst (v := 3) k (by decide) dX7_isDone_13 ?_
  refine gs_iload_n (q := 2) k rfl rfl dX7_isDone_14 ?_
  refine gs_imulN (a := 3) (b := c) k rfl rfl dX7_isDone_15 ?_
  refine gs_iconst (v := 1) k (by decide) dX7_isDone_16 ?_
  refine gs_iaddN (a := 3 * c) (b := 1) k rfl rfl dX7_isDone_17 ?_
  refine gs_ialdN (k0 := 85) (n := 300) (e := (3 * c) + 1) k (hI 85 (by omega)) (fun _ => rfl) rfl (by omega) (by decide) dX7_isDone_18 ?_
  refine gs_top (y := x 1) (hx 1 (by decide)) ?_
  refine gs_istore_n (lv' := [(3, .int (x 1)), (2, .int (x 0)), (0, .ref (E.2.2.1 65)), (1, .int (nI c))]) k rfl (by decide) rfl dX7_isDone_19 ?_
  refine gs_aload_n (q := 2) k rfl rfl dX7_isDone_20 ?_
  refine gs_get (C := RX7) (T := TX7) (N := 27) (ci := 7) (k0 := 65) (j := 18) k (hI 65 (by omega)) rfl rfl inX7 (by decide) fl_X7_58 rfl rfl dX7_isDone_21 ?_
  refine gs_iconst (v := 3) k (by decide) dX7_isDone_24 ?_
  refine gs_iload_n (q := 3) k rfl rfl dX7_isDone_25 ?_
  refine gs_imulN (a := 3) (b := c) k rfl rfl dX7_isDone_26 ?_
  refine gs_iconst (v := 2) k (by decide) dX7_isDone_27 ?_
  refine gs_iaddN (a := 3 * c) (b := 2) k rfl rfl dX7_isDone_28 ?_
  refine gs_ialdN (k0 := 85) (n := 300) (e := (3 * c) + 2) k (hI 85 (by omega)) (fun _ => rfl) rfl (by omega) (by decide) dX7_isDone_29 ?_
  refine gs_istore (lv' := [(4, .int (M 85 ((3 * c) + 2))), (3, .int (x 1)), (2, .int (x 0)), (0, .ref (E.2.2.1 65)), (1, .int (nI c))]) k (by decide) rfl dX7_isDone_30 ?_
  refine gs_aload_n (q := 3) k rfl rfl dX7_isDone_32 ?_
  refine gs_get (C := RX7) (T := TX7) (N := 27) (ci := 7) (k0 := 65) (j := 17) k (hI 65 (by omega)) rfl rfl inX7 (by decide) fl_X7_55 rfl rfl dX7_isDone_33 ?_
  refine gs_iload_n (q := 4) k rfl rfl dX7_isDone_36 ?_
  refine gs_ialdN (k0 := 84) (n := 100) (e := c) k (hI 84 (by omega)) (fun _ => rfl) rfl (by omega) (by decide) dX7_isDone_37 ?_
  refine gs_top (y := 4) hw ?_
  refine gs_tableIn (off := 120) (tgt := 158) k (by decide) (by decide) (by decide) (by decide) dX7_isDone_38 ?_
  refine gs_aload_n (q := 3) k rfl rfl dX7_isDone_158 ?_
  refine gs_iload_n (q := 2) k rfl rfl dX7_isDone_159 ?_
  refine gs_iload_n (q := 1) k rfl rfl dX7_isDone_160 ?_
  refine gs_callV (As := [.int (x 0), .int (x 1)]) (k0 := 65) (ci := 7) (T := TX7) (N := 27) k (oR_cap hI h) cf_X7_cap im_X7_cap sl_X7_cap ml_X7_332 (hI 65 (by omega)) rfl rfl (by decide) rfl rfl (Nat.le_of_ble_eq_true rfl) dX7_isDone_161 (ppH (fun m hm => ?_))
  show G l E K 164 [(4, .int (M 85 ((3 * c) + 2))), (3, .int (x 1)), (2, .int (x 0)), (0, .ref (E.2.2.1 65)), (1, .int (nI c))] [.int (A_cap (S.1.2.1 4) (x 0) (x 1))] m
  refine gs_if_lt (tgt := 171) k (by decide) dX7_isDone_164 (fun c1 => ?_) (fun c1 => ?_)
  · refine gs_iconst (v := 0) k (by decide) dX7_isDone_171 ?_
    exact gs_zret k kt (by decide) dX7_isDone_172 ⟨_, rfl, hm, Or.inr ⟨rfl, Int32.not_le.mpr c1⟩⟩
  · refine gs_iconst (v := 1) k (by decide) dX7_isDone_167 ?_
    refine gs_goto (tgt := 172) k (by decide) dX7_isDone_168 ?_
    exact gs_zret k kt (by decide) dX7_isDone_172 ⟨_, rfl, hm, Or.inl ⟨rfl, Int32.not_lt.mp c1⟩⟩

set_option maxRecDepth 100000 in
set_option maxHeartbeats 4000000 in
theorem c_X7_isDone_5 {l : Launch} {E : Ev} {M : Mm} {S : As} {c : Nat} {x : Nat → Int32} (hI : ∀ k, k < 108 → k ∈ E.2.1) (h : RA M S) (hg : GA S) (hc : c < 100) (hw : M 84 c = 5) (hx : ∀ j, j < 2 → M 85 (3 * c + j) = x j) : Cm l E yX7_isDone cX7_isDone 5 (some .boolean) 5 [.ref (E.2.2.1 65), .int (nI c)] M (pZ (obP S RO 4 x M)) := by
  refine Cm.of (by decide) (Nat.le_of_ble_eq_true rfl) (fun K k kt => ?_)
  show G l E K 0 [(0, .ref (E.2.2.1 65)), (1, .int (nI c))] [] M
  refine gs_aload_n (q := 0) k rfl rfl dX7_isDone_0 ?_
  refine gs_get (C := RX7) (T := TX7) (N := 27) (ci := 7) (k0 := 65) (j := 18) k (hI 65 (by omega)) rfl rfl inX7 (by decide) fl_X7_58 rfl rfl dX7_isDone_1 ?_
  refine gs_iconst (v := 3) k (by decide) dX7_isDone_4 ?_
  refine gs_iload_n (q := 1) k rfl rfl dX7_isDone_5 ?_
  refine gs_imulN (a := 3) (b := c) k rfl rfl dX7_isDone_6 ?_
  refine gs_ialdN (k0 := 85) (n := 300) (e := 3 * c) k (hI 85 (by omega)) (fun _ => rfl) rfl (by omega) (by decide) dX7_isDone_7 ?_
  refine gs_top (y := x 0) (hx 0 (by decide)) ?_
  refine gs_istore_n (lv' := [(2, .int (x 0)), (0, .ref (E.2.2.1 65)), (1, .int (nI c))]) k rfl (by decide) rfl dX7_isDone_8 ?_
  refine gs_aload_n (q := 1) k rfl rfl dX7_isDone_9 ?_
  refine gs_get (C := RX7) (T := TX7) (N := 27) (ci := 7) (k0 := 65) (j := 18) k (hI 65 (by omega)) rfl rfl inX7 (by decide) fl_X7_58 rfl rfl dX7_isDone_10 ?_
  refine gs_iconst (v := 3) k (by decide) dX7_isDone_13 ?_
  refine gs_iload_n (q := 2) k rfl rfl dX7_isDone_14 ?_
  refine gs_imulN (a := 3) (b := c) k rfl rfl dX7_isDone_15 ?_
  refine gs_iconst (v := 1) k (by decide) dX7_isDone_16 ?_
  refine gs_iaddN (a := 3 * c) (b := 1) k rfl rfl dX7_isDone_17 ?_
  refine gs_ialdN (k0 := 85) (n := 300) (e := (3 * c) + 1) k (hI 85 (by omega)) (fun _ => rfl) rfl (by omega) (by decide) dX7_isDone_18 ?_
  refine gs_top (y := x 1) (hx 1 (by decide)) ?_
  refine gs_istore_n (lv' := [(3, .int (x 1)), (2, .int (x 0)), (0, .ref (E.2.2.1 65)), (1, .int (nI c))]) k rfl (by decide) rfl dX7_isDone_19 ?_
  refine gs_aload_n (q := 2) k rfl rfl dX7_isDone_20 ?_
  refine gs_get (C := RX7) (T := TX7) (N := 27) (ci := 7) (k0 := 65) (j := 18) k (hI 65 (by omega)) rfl rfl inX7 (by decide) fl_X7_58 rfl rfl dX7_isDone_21 ?_
  refine gs_iconst (v := 3) k (by decide) dX7_isDone_24 ?_
  refine gs_iload_n (q := 3) k rfl rfl dX7_isDone_25 ?_
  refine gs_imulN (a := 3) (b := c) k rfl rfl dX7_isDone_26 ?_
  refine gs_iconst (v := 2) k (by decide) dX7_isDone_27 ?_
  refine gs_iaddN (a := 3 * c) (b := 2) k rfl rfl dX7_isDone_28 ?_
  refine gs_ialdN (k0 := 85) (n := 300) (e := (3 * c) + 2) k (hI 85 (by omega)) (fun _ => rfl) rfl (by omega) (by decide) dX7_isDone_29 ?_
  refine gs_istore (lv' := [(4, .int (M 85 ((3 * c) + 2))), (3, .int (x 1)), (2, .int (x 0)), (0, .ref (E.2.2.1 65)), (1, .int (nI c))]) k (by decide) rfl dX7_isDone_30 ?_
  refine gs_aload_n (q := 3) k rfl rfl dX7_isDone_32 ?_
  refine gs_get (C := RX7) (T := TX7) (N := 27) (ci := 7) (k0 := 65) (j := 17) k (hI 65 (by omega)) rfl rfl inX7 (by decide) fl_X7_55 rfl rfl dX7_isDone_33 ?_
  refine gs_iload_n (q := 4) k rfl rfl dX7_isDone_36 ?_
  refine gs_ialdN (k0 := 84) (n := 100) (e := c) k (hI 84 (by omega)) (fun _ => rfl) rfl (by omega) (by decide) dX7_isDone_37 ?_
  refine gs_top (y := 5) hw ?_
  refine gs_tableIn (off := 135) (tgt := 173) k (by decide) (by decide) (by decide) (by decide) dX7_isDone_38 ?_
  refine gs_aload_n (q := 3) k rfl rfl dX7_isDone_173 ?_
  refine gs_iload_n (q := 2) k rfl rfl dX7_isDone_174 ?_
  refine gs_iload_n (q := 1) k rfl rfl dX7_isDone_175 ?_
  refine gs_callV (As := [.int (x 0), .int (x 1)]) (k0 := 65) (ci := 7) (T := TX7) (N := 27) k (oR_weight hI h) cf_X7_weight im_X7_weight sl_X7_weight ml_X7_334 (hI 65 (by omega)) rfl rfl (by decide) rfl rfl (Nat.le_of_ble_eq_true rfl) dX7_isDone_176 (ppH (fun m hm => ?_))
  show G l E K 179 [(4, .int (M 85 ((3 * c) + 2))), (3, .int (x 1)), (2, .int (x 0)), (0, .ref (E.2.2.1 65)), (1, .int (nI c))] [.int (A_weight S.1.1 (S.1.2.1 5) (x 0) (x 1))] m
  refine gs_ldcw (v := -1000000) k cn_X7_336 dX7_isDone_179 ?_
  refine gs_icmp_le (tgt := 189) k (by decide) dX7_isDone_182 (fun c1 => ?_) (fun c1 => ?_)
  · refine gs_iconst (v := 0) k (by decide) dX7_isDone_189 ?_
    exact gs_zret k kt (by decide) dX7_isDone_190 ⟨_, rfl, hm, Or.inr ⟨rfl, fun z => low_iff.mpr z c1⟩⟩
  · refine gs_iconst (v := 1) k (by decide) dX7_isDone_185 ?_
    refine gs_goto (tgt := 190) k (by decide) dX7_isDone_186 ?_
    exact gs_zret k kt (by decide) dX7_isDone_190 ⟨_, rfl, hm, Or.inl ⟨rfl, low_iff.mp c1⟩⟩

set_option maxRecDepth 100000 in
set_option maxHeartbeats 4000000 in
theorem c_X7_isDone_6 {l : Launch} {E : Ev} {M : Mm} {S : As} {c : Nat} {x : Nat → Int32} (hI : ∀ k, k < 108 → k ∈ E.2.1) (h : RA M S) (hg : GA S) (hc : c < 100) (hw : M 84 c = 6) (hx : ∀ j, j < 2 → M 85 (3 * c + j) = x j) : Cm l E yX7_isDone cX7_isDone 5 (some .boolean) 5 [.ref (E.2.2.1 65), .int (nI c)] M (pZ (obP S RO 10 x M)) := by
  refine Cm.of (by decide) (Nat.le_of_ble_eq_true rfl) (fun K k kt => ?_)
  show G l E K 0 [(0, .ref (E.2.2.1 65)), (1, .int (nI c))] [] M
  refine gs_aload_n (q := 0) k rfl rfl dX7_isDone_0 ?_
  refine gs_get (C := RX7) (T := TX7) (N := 27) (ci := 7) (k0 := 65) (j := 18) k (hI 65 (by omega)) rfl rfl inX7 (by decide) fl_X7_58 rfl rfl dX7_isDone_1 ?_
  refine gs_iconst (v := 3) k (by decide) dX7_isDone_4 ?_
  refine gs_iload_n (q := 1) k rfl rfl dX7_isDone_5 ?_
  refine gs_imulN (a := 3) (b := c) k rfl rfl dX7_isDone_6 ?_
  refine gs_ialdN (k0 := 85) (n := 300) (e := 3 * c) k (hI 85 (by omega)) (fun _ => rfl) rfl (by omega) (by decide) dX7_isDone_7 ?_
  refine gs_top (y := x 0) (hx 0 (by decide)) ?_
  refine gs_istore_n (lv' := [(2, .int (x 0)), (0, .ref (E.2.2.1 65)), (1, .int (nI c))]) k rfl (by decide) rfl dX7_isDone_8 ?_
  refine gs_aload_n (q := 1) k rfl rfl dX7_isDone_9 ?_
  refine gs_get (C := RX7) (T := TX7) (N := 27) (ci := 7) (k0 := 65) (j := 18) k (hI 65 (by omega)) rfl rfl inX7 (by decide) fl_X7_58 rfl rfl dX7_isDone_10 ?_
  refine gs_iconst (v := 3) k (by decide) dX7_isDone_13 ?_
  refine gs_iload_n (q := 2) k rfl rfl dX7_isDone_14 ?_
  refine gs_imulN (a := 3) (b := c) k rfl rfl dX7_isDone_15 ?_
  refine gs_iconst (v := 1) k (by decide) dX7_isDone_16 ?_
  refine gs_iaddN (a := 3 * c) (b := 1) k rfl rfl dX7_isDone_17 ?_
  refine gs_ialdN (k0 := 85) (n := 300) (e := (3 * c) + 1) k (hI 85 (by omega)) (fun _ => rfl) rfl (by omega) (by decide) dX7_isDone_18 ?_
  refine gs_top (y := x 1) (hx 1 (by decide)) ?_
  refine gs_istore_n (lv' := [(3, .int (x 1)), (2, .int (x 0)), (0, .ref (E.2.2.1 65)), (1, .int (nI c))]) k rfl (by decide) rfl dX7_isDone_19 ?_
  refine gs_aload_n (q := 2) k rfl rfl dX7_isDone_20 ?_
  refine gs_get (C := RX7) (T := TX7) (N := 27) (ci := 7) (k0 := 65) (j := 18) k (hI 65 (by omega)) rfl rfl inX7 (by decide) fl_X7_58 rfl rfl dX7_isDone_21 ?_
  refine gs_iconst (v := 3) k (by decide) dX7_isDone_24 ?_
  refine gs_iload_n (q := 3) k rfl rfl dX7_isDone_25 ?_
  refine gs_imulN (a := 3) (b := c) k rfl rfl dX7_isDone_26 ?_
  refine gs_iconst (v := 2) k (by decide) dX7_isDone_27 ?_
  refine gs_iaddN (a := 3 * c) (b := 2) k rfl rfl dX7_isDone_28 ?_
  refine gs_ialdN (k0 := 85) (n := 300) (e := (3 * c) + 2) k (hI 85 (by omega)) (fun _ => rfl) rfl (by omega) (by decide) dX7_isDone_29 ?_
  refine gs_istore (lv' := [(4, .int (M 85 ((3 * c) + 2))), (3, .int (x 1)), (2, .int (x 0)), (0, .ref (E.2.2.1 65)), (1, .int (nI c))]) k (by decide) rfl dX7_isDone_30 ?_
  refine gs_aload_n (q := 3) k rfl rfl dX7_isDone_32 ?_
  refine gs_get (C := RX7) (T := TX7) (N := 27) (ci := 7) (k0 := 65) (j := 17) k (hI 65 (by omega)) rfl rfl inX7 (by decide) fl_X7_55 rfl rfl dX7_isDone_33 ?_
  refine gs_iload_n (q := 4) k rfl rfl dX7_isDone_36 ?_
  refine gs_ialdN (k0 := 84) (n := 100) (e := c) k (hI 84 (by omega)) (fun _ => rfl) rfl (by omega) (by decide) dX7_isDone_37 ?_
  refine gs_top (y := 6) hw ?_
  refine gs_tableIn (off := 153) (tgt := 191) k (by decide) (by decide) (by decide) (by decide) dX7_isDone_38 ?_
  refine gs_aload_n (q := 3) k rfl rfl dX7_isDone_191 ?_
  refine gs_iload_n (q := 2) k rfl rfl dX7_isDone_192 ?_
  refine gs_iload_n (q := 1) k rfl rfl dX7_isDone_193 ?_
  refine gs_callV (As := [.int (x 0), .int (x 1)]) (k0 := 65) (ci := 7) (T := TX7) (N := 27) k (oR_turn hI h) cf_X7_turn im_X7_turn sl_X7_turn ml_X7_337 (hI 65 (by omega)) rfl rfl (by decide) rfl rfl (Nat.le_of_ble_eq_true rfl) dX7_isDone_194 (ppH (fun m hm => ?_))
  show G l E K 197 [(4, .int (M 85 ((3 * c) + 2))), (3, .int (x 1)), (2, .int (x 0)), (0, .ref (E.2.2.1 65)), (1, .int (nI c))] [.int (A_turn S.1.1 S.1.2.2.1 S.1.2.2.2 (x 0) (x 1))] m
  refine gs_if_lt (tgt := 204) k (by decide) dX7_isDone_197 (fun c1 => ?_) (fun c1 => ?_)
  · refine gs_iconst (v := 0) k (by decide) dX7_isDone_204 ?_
    exact gs_zret k kt (by decide) dX7_isDone_205 ⟨_, rfl, hm, Or.inr ⟨rfl, Int32.not_le.mpr c1⟩⟩
  · refine gs_iconst (v := 1) k (by decide) dX7_isDone_200 ?_
    refine gs_goto (tgt := 205) k (by decide) dX7_isDone_201 ?_
    exact gs_zret k kt (by decide) dX7_isDone_205 ⟨_, rfl, hm, Or.inl ⟨rfl, Int32.not_lt.mp c1⟩⟩

set_option maxRecDepth 100000 in
set_option maxHeartbeats 4000000 in
theorem c_X7_isDone_7 {l : Launch} {E : Ev} {M : Mm} {S : As} {c : Nat} {x : Nat → Int32} (hI : ∀ k, k < 108 → k ∈ E.2.1) (h : RA M S) (hg : GA S) (hc : c < 100) (hw : M 84 c = 7) (hx : ∀ j, j < 1 → M 85 (3 * c + j) = x j) : Cm l E yX7_isDone cX7_isDone 5 (some .boolean) 5 [.ref (E.2.2.1 65), .int (nI c)] M (pZ (obP S RO 5 x M)) := by
  refine Cm.of (by decide) (Nat.le_of_ble_eq_true rfl) (fun K k kt => ?_)
  show G l E K 0 [(0, .ref (E.2.2.1 65)), (1, .int (nI c))] [] M
  refine gs_aload_n (q := 0) k rfl rfl dX7_isDone_0 ?_
  refine gs_get (C := RX7) (T := TX7) (N := 27) (ci := 7) (k0 := 65) (j := 18) k (hI 65 (by omega)) rfl rfl inX7 (by decide) fl_X7_58 rfl rfl dX7_isDone_1 ?_
  refine gs_iconst (v := 3) k (by decide) dX7_isDone_4 ?_
  refine gs_iload_n (q := 1) k rfl rfl dX7_isDone_5 ?_
  refine gs_imulN (a := 3) (b := c) k rfl rfl dX7_isDone_6 ?_
  refine gs_ialdN (k0 := 85) (n := 300) (e := 3 * c) k (hI 85 (by omega)) (fun _ => rfl) rfl (by omega) (by decide) dX7_isDone_7 ?_
  refine gs_top (y := x 0) (hx 0 (by decide)) ?_
  refine gs_istore_n (lv' := [(2, .int (x 0)), (0, .ref (E.2.2.1 65)), (1, .int (nI c))]) k rfl (by decide) rfl dX7_isDone_8 ?_
  refine gs_aload_n (q := 1) k rfl rfl dX7_isDone_9 ?_
  refine gs_get (C := RX7) (T := TX7) (N := 27) (ci := 7) (k0 := 65) (j := 18) k (hI 65 (by omega)) rfl rfl inX7 (by decide) fl_X7_58 rfl rfl dX7_isDone_10 ?_
  refine gs_iconst (v := 3) k (by decide) dX7_isDone_13 ?_
  refine gs_iload_n (q := 2) k rfl rfl dX7_isDone_14 ?_
  refine gs_imulN (a := 3) (b := c) k rfl rfl dX7_isDone_15 ?_
  refine gs_iconst (v := 1) k (by decide) dX7_isDone_16 ?_
  refine gs_iaddN (a := 3 * c) (b := 1) k rfl rfl dX7_isDone_17 ?_
  refine gs_ialdN (k0 := 85) (n := 300) (e := (3 * c) + 1) k (hI 85 (by omega)) (fun _ => rfl) rfl (by omega) (by decide) dX7_isDone_18 ?_
  refine gs_istore_n (lv' := [(3, .int (M 85 ((3 * c) + 1))), (2, .int (x 0)), (0, .ref (E.2.2.1 65)), (1, .int (nI c))]) k rfl (by decide) rfl dX7_isDone_19 ?_
  refine gs_aload_n (q := 2) k rfl rfl dX7_isDone_20 ?_
  refine gs_get (C := RX7) (T := TX7) (N := 27) (ci := 7) (k0 := 65) (j := 18) k (hI 65 (by omega)) rfl rfl inX7 (by decide) fl_X7_58 rfl rfl dX7_isDone_21 ?_
  refine gs_iconst (v := 3) k (by decide) dX7_isDone_24 ?_
  refine gs_iload_n (q := 3) k rfl rfl dX7_isDone_25 ?_
  refine gs_imulN (a := 3) (b := c) k rfl rfl dX7_isDone_26 ?_
  refine gs_iconst (v := 2) k (by decide) dX7_isDone_27 ?_
  refine gs_iaddN (a := 3 * c) (b := 2) k rfl rfl dX7_isDone_28 ?_
  refine gs_ialdN (k0 := 85) (n := 300) (e := (3 * c) + 2) k (hI 85 (by omega)) (fun _ => rfl) rfl (by omega) (by decide) dX7_isDone_29 ?_
  refine gs_istore (lv' := [(4, .int (M 85 ((3 * c) + 2))), (3, .int (M 85 ((3 * c) + 1))), (2, .int (x 0)), (0, .ref (E.2.2.1 65)), (1, .int (nI c))]) k (by decide) rfl dX7_isDone_30 ?_
  refine gs_aload_n (q := 3) k rfl rfl dX7_isDone_32 ?_
  refine gs_get (C := RX7) (T := TX7) (N := 27) (ci := 7) (k0 := 65) (j := 17) k (hI 65 (by omega)) rfl rfl inX7 (by decide) fl_X7_55 rfl rfl dX7_isDone_33 ?_
  refine gs_iload_n (q := 4) k rfl rfl dX7_isDone_36 ?_
  refine gs_ialdN (k0 := 84) (n := 100) (e := c) k (hI 84 (by omega)) (fun _ => rfl) rfl (by omega) (by decide) dX7_isDone_37 ?_
  refine gs_top (y := 7) hw ?_
  refine gs_tableIn (off := 168) (tgt := 206) k (by decide) (by decide) (by decide) (by decide) dX7_isDone_38 ?_
  refine gs_aload_n (q := 3) k rfl rfl dX7_isDone_206 ?_
  refine gs_iload_n (q := 2) k rfl rfl dX7_isDone_207 ?_
  refine gs_callV (As := [.int (x 0)]) (k0 := 65) (ci := 7) (T := TX7) (N := 27) k (oR_cut hI h) cf_X7_cut im_X7_cut sl_X7_cut ml_X7_339 (hI 65 (by omega)) rfl rfl (by decide) rfl rfl (Nat.le_of_ble_eq_true rfl) dX7_isDone_208 (ppH (fun m hm => ?_))
  show G l E K 211 [(4, .int (M 85 ((3 * c) + 2))), (3, .int (M 85 ((3 * c) + 1))), (2, .int (x 0)), (0, .ref (E.2.2.1 65)), (1, .int (nI c))] [.int (A_kind (csum (S.1.2.1 0) S.1.1 (2 ^ S.1.1 - 2)) (x 0))] m
  refine gs_if_lt (tgt := 218) k (by decide) dX7_isDone_211 (fun c1 => ?_) (fun c1 => ?_)
  · refine gs_iconst (v := 0) k (by decide) dX7_isDone_218 ?_
    exact gs_zret k kt (by decide) dX7_isDone_219 ⟨_, rfl, hm, Or.inr ⟨rfl, Int32.not_le.mpr c1⟩⟩
  · refine gs_iconst (v := 1) k (by decide) dX7_isDone_214 ?_
    refine gs_goto (tgt := 219) k (by decide) dX7_isDone_215 ?_
    exact gs_zret k kt (by decide) dX7_isDone_219 ⟨_, rfl, hm, Or.inl ⟨rfl, Int32.not_lt.mp c1⟩⟩

set_option maxRecDepth 100000 in
set_option maxHeartbeats 4000000 in
theorem c_X7_isDone_8 {l : Launch} {E : Ev} {M : Mm} {S : As} {c : Nat} {x : Nat → Int32} (hI : ∀ k, k < 108 → k ∈ E.2.1) (h : RA M S) (hg : GA S) (hc : c < 100) (hw : M 84 c = 8) (hx : ∀ j, j < 1 → M 85 (3 * c + j) = x j) : Cm l E yX7_isDone cX7_isDone 5 (some .boolean) 5 [.ref (E.2.2.1 65), .int (nI c)] M (pZ (obP S RO 6 x M)) := by
  refine Cm.of (by decide) (Nat.le_of_ble_eq_true rfl) (fun K k kt => ?_)
  show G l E K 0 [(0, .ref (E.2.2.1 65)), (1, .int (nI c))] [] M
  refine gs_aload_n (q := 0) k rfl rfl dX7_isDone_0 ?_
  refine gs_get (C := RX7) (T := TX7) (N := 27) (ci := 7) (k0 := 65) (j := 18) k (hI 65 (by omega)) rfl rfl inX7 (by decide) fl_X7_58 rfl rfl dX7_isDone_1 ?_
  refine gs_iconst (v := 3) k (by decide) dX7_isDone_4 ?_
  refine gs_iload_n (q := 1) k rfl rfl dX7_isDone_5 ?_
  refine gs_imulN (a := 3) (b := c) k rfl rfl dX7_isDone_6 ?_
  refine gs_ialdN (k0 := 85) (n := 300) (e := 3 * c) k (hI 85 (by omega)) (fun _ => rfl) rfl (by omega) (by decide) dX7_isDone_7 ?_
  refine gs_top (y := x 0) (hx 0 (by decide)) ?_
  refine gs_istore_n (lv' := [(2, .int (x 0)), (0, .ref (E.2.2.1 65)), (1, .int (nI c))]) k rfl (by decide) rfl dX7_isDone_8 ?_
  refine gs_aload_n (q := 1) k rfl rfl dX7_isDone_9 ?_
  refine gs_get (C := RX7) (T := TX7) (N := 27) (ci := 7) (k0 := 65) (j := 18) k (hI 65 (by omega)) rfl rfl inX7 (by decide) fl_X7_58 rfl rfl dX7_isDone_10 ?_
  refine gs_iconst (v := 3) k (by decide) dX7_isDone_13 ?_
  refine gs_iload_n (q := 2) k rfl rfl dX7_isDone_14 ?_
  refine gs_imulN (a := 3) (b := c) k rfl rfl dX7_isDone_15 ?_
  refine gs_iconst (v := 1) k (by decide) dX7_isDone_16 ?_
  refine gs_iaddN (a := 3 * c) (b := 1) k rfl rfl dX7_isDone_17 ?_
  refine gs_ialdN (k0 := 85) (n := 300) (e := (3 * c) + 1) k (hI 85 (by omega)) (fun _ => rfl) rfl (by omega) (by decide) dX7_isDone_18 ?_
  refine gs_istore_n (lv' := [(3, .int (M 85 ((3 * c) + 1))), (2, .int (x 0)), (0, .ref (E.2.2.1 65)), (1, .int (nI c))]) k rfl (by decide) rfl dX7_isDone_19 ?_
  refine gs_aload_n (q := 2) k rfl rfl dX7_isDone_20 ?_
  refine gs_get (C := RX7) (T := TX7) (N := 27) (ci := 7) (k0 := 65) (j := 18) k (hI 65 (by omega)) rfl rfl inX7 (by decide) fl_X7_58 rfl rfl dX7_isDone_21 ?_
  refine gs_iconst (v := 3) k (by decide) dX7_isDone_24 ?_
  refine gs_iload_n (q := 3) k rfl rfl dX7_isDone_25 ?_
  refine gs_imulN (a := 3) (b := c) k rfl rfl dX7_isDone_26 ?_
  refine gs_iconst (v := 2) k (by decide) dX7_isDone_27 ?_
  refine gs_iaddN (a := 3 * c) (b := 2) k rfl rfl dX7_isDone_28 ?_
  refine gs_ialdN (k0 := 85) (n := 300) (e := (3 * c) + 2) k (hI 85 (by omega)) (fun _ => rfl) rfl (by omega) (by decide) dX7_isDone_29 ?_
  refine gs_istore (lv' := [(4, .int (M 85 ((3 * c) + 2))), (3, .int (M 85 ((3 * c) + 1))), (2, .int (x 0)), (0, .ref (E.2.2.1 65)), (1, .int (nI c))]) k (by decide) rfl dX7_isDone_30 ?_
  refine gs_aload_n (q := 3) k rfl rfl dX7_isDone_32 ?_
  refine gs_get (C := RX7) (T := TX7) (N := 27) (ci := 7) (k0 := 65) (j := 17) k (hI 65 (by omega)) rfl rfl inX7 (by decide) fl_X7_55 rfl rfl dX7_isDone_33 ?_
  refine gs_iload_n (q := 4) k rfl rfl dX7_isDone_36 ?_
  refine gs_ialdN (k0 := 84) (n := 100) (e := c) k (hI 84 (by omega)) (fun _ => rfl) rfl (by omega) (by decide) dX7_isDone_37 ?_
  refine gs_top (y := 8) hw ?_
  refine gs_tableIn (off := 182) (tgt := 220) k (by decide) (by decide) (by decide) (by decide) dX7_isDone_38 ?_
  refine gs_aload_n (q := 3) k rfl rfl dX7_isDone_220 ?_
  refine gs_iload_n (q := 2) k rfl rfl dX7_isDone_221 ?_
  refine gs_callV (As := [.int (x 0)]) (k0 := 65) (ci := 7) (T := TX7) (N := 27) k (oR_cover hI h) cf_X7_cover im_X7_cover sl_X7_cover ml_X7_341 (hI 65 (by omega)) rfl rfl (by decide) rfl rfl (Nat.le_of_ble_eq_true rfl) dX7_isDone_222 (ppH (fun m hm => ?_))
  show G l E K 225 [(4, .int (M 85 ((3 * c) + 2))), (3, .int (M 85 ((3 * c) + 1))), (2, .int (x 0)), (0, .ref (E.2.2.1 65)), (1, .int (nI c))] [.int (A_kind (vsum (S.1.2.1 2) (S.1.2.1 1) (nI (2 ^ S.1.1 - 1))) (x 0))] m
  refine gs_if_lt (tgt := 232) k (by decide) dX7_isDone_225 (fun c1 => ?_) (fun c1 => ?_)
  · refine gs_iconst (v := 0) k (by decide) dX7_isDone_232 ?_
    exact gs_zret k kt (by decide) dX7_isDone_233 ⟨_, rfl, hm, Or.inr ⟨rfl, Int32.not_le.mpr c1⟩⟩
  · refine gs_iconst (v := 1) k (by decide) dX7_isDone_228 ?_
    refine gs_goto (tgt := 233) k (by decide) dX7_isDone_229 ?_
    exact gs_zret k kt (by decide) dX7_isDone_233 ⟨_, rfl, hm, Or.inl ⟨rfl, Int32.not_lt.mp c1⟩⟩

set_option maxRecDepth 100000 in
set_option maxHeartbeats 4000000 in
theorem c_X7_isDone_9 {l : Launch} {E : Ev} {M : Mm} {S : As} {c : Nat} {x : Nat → Int32} (hI : ∀ k, k < 108 → k ∈ E.2.1) (h : RA M S) (hg : GA S) (hc : c < 100) (hw : M 84 c = 9) (hx : ∀ j, j < 1 → M 85 (3 * c + j) = x j) : Cm l E yX7_isDone cX7_isDone 5 (some .boolean) 5 [.ref (E.2.2.1 65), .int (nI c)] M (pZ (obP S RO 7 x M)) := by
  refine Cm.of (by decide) (Nat.le_of_ble_eq_true rfl) (fun K k kt => ?_)
  show G l E K 0 [(0, .ref (E.2.2.1 65)), (1, .int (nI c))] [] M
  refine gs_aload_n (q := 0) k rfl rfl dX7_isDone_0 ?_
  refine gs_get (C := RX7) (T := TX7) (N := 27) (ci := 7) (k0 := 65) (j := 18) k (hI 65 (by omega)) rfl rfl inX7 (by decide) fl_X7_58 rfl rfl dX7_isDone_1 ?_
  refine gs_iconst (v := 3) k (by decide) dX7_isDone_4 ?_
  refine gs_iload_n (q := 1) k rfl rfl dX7_isDone_5 ?_
  refine gs_imulN (a := 3) (b := c) k rfl rfl dX7_isDone_6 ?_
  refine gs_ialdN (k0 := 85) (n := 300) (e := 3 * c) k (hI 85 (by omega)) (fun _ => rfl) rfl (by omega) (by decide) dX7_isDone_7 ?_
  refine gs_top (y := x 0) (hx 0 (by decide)) ?_
  refine gs_istore_n (lv' := [(2, .int (x 0)), (0, .ref (E.2.2.1 65)), (1, .int (nI c))]) k rfl (by decide) rfl dX7_isDone_8 ?_
  refine gs_aload_n (q := 1) k rfl rfl dX7_isDone_9 ?_
  refine gs_get (C := RX7) (T := TX7) (N := 27) (ci := 7) (k0 := 65) (j := 18) k (hI 65 (by omega)) rfl rfl inX7 (by decide) fl_X7_58 rfl rfl dX7_isDone_10 ?_
  refine gs_iconst (v := 3) k (by decide) dX7_isDone_13 ?_
  refine gs_iload_n (q := 2) k rfl rfl dX7_isDone_14 ?_
  refine gs_imulN (a := 3) (b := c) k rfl rfl dX7_isDone_15 ?_
  refine gs_iconst (v := 1) k (by decide) dX7_isDone_16 ?_
  refine gs_iaddN (a := 3 * c) (b := 1) k rfl rfl dX7_isDone_17 ?_
  refine gs_ialdN (k0 := 85) (n := 300) (e := (3 * c) + 1) k (hI 85 (by omega)) (fun _ => rfl) rfl (by omega) (by decide) dX7_isDone_18 ?_
  refine gs_istore_n (lv' := [(3, .int (M 85 ((3 * c) + 1))), (2, .int (x 0)), (0, .ref (E.2.2.1 65)), (1, .int (nI c))]) k rfl (by decide) rfl dX7_isDone_19 ?_
  refine gs_aload_n (q := 2) k rfl rfl dX7_isDone_20 ?_
  refine gs_get (C := RX7) (T := TX7) (N := 27) (ci := 7) (k0 := 65) (j := 18) k (hI 65 (by omega)) rfl rfl inX7 (by decide) fl_X7_58 rfl rfl dX7_isDone_21 ?_
  refine gs_iconst (v := 3) k (by decide) dX7_isDone_24 ?_
  refine gs_iload_n (q := 3) k rfl rfl dX7_isDone_25 ?_
  refine gs_imulN (a := 3) (b := c) k rfl rfl dX7_isDone_26 ?_
  refine gs_iconst (v := 2) k (by decide) dX7_isDone_27 ?_
  refine gs_iaddN (a := 3 * c) (b := 2) k rfl rfl dX7_isDone_28 ?_
  refine gs_ialdN (k0 := 85) (n := 300) (e := (3 * c) + 2) k (hI 85 (by omega)) (fun _ => rfl) rfl (by omega) (by decide) dX7_isDone_29 ?_
  refine gs_istore (lv' := [(4, .int (M 85 ((3 * c) + 2))), (3, .int (M 85 ((3 * c) + 1))), (2, .int (x 0)), (0, .ref (E.2.2.1 65)), (1, .int (nI c))]) k (by decide) rfl dX7_isDone_30 ?_
  refine gs_aload_n (q := 3) k rfl rfl dX7_isDone_32 ?_
  refine gs_get (C := RX7) (T := TX7) (N := 27) (ci := 7) (k0 := 65) (j := 17) k (hI 65 (by omega)) rfl rfl inX7 (by decide) fl_X7_55 rfl rfl dX7_isDone_33 ?_
  refine gs_iload_n (q := 4) k rfl rfl dX7_isDone_36 ?_
  refine gs_ialdN (k0 := 84) (n := 100) (e := c) k (hI 84 (by omega)) (fun _ => rfl) rfl (by omega) (by decide) dX7_isDone_37 ?_
  refine gs_top (y := 9) hw ?_
  refine gs_tableIn (off := 196) (tgt := 234) k (by decide) (by decide) (by decide) (by decide) dX7_isDone_38 ?_
  refine gs_aload_n (q := 3) k rfl rfl dX7_isDone_234 ?_
  refine gs_iload_n (q := 2) k rfl rfl dX7_isDone_235 ?_
  refine gs_callV (As := [.int (x 0)]) (k0 := 65) (ci := 7) (T := TX7) (N := 27) k (oR_capped hI h hg.1) cf_X7_capped im_X7_capped sl_X7_capped ml_X7_343 (hI 65 (by omega)) rfl rfl (by decide) rfl rfl (Nat.le_of_ble_eq_true rfl) dX7_isDone_236 (ppH (fun m hm => ?_))
  show G l E K 239 [(4, .int (M 85 ((3 * c) + 2))), (3, .int (M 85 ((3 * c) + 1))), (2, .int (x 0)), (0, .ref (E.2.2.1 65)), (1, .int (nI c))] [.int (A_kind (ksum (S.1.2.1 3) (S.1.2.1 4) S.1.1 (2 ^ S.1.1 - 1)) (x 0))] m
  refine gs_if_lt (tgt := 246) k (by decide) dX7_isDone_239 (fun c1 => ?_) (fun c1 => ?_)
  · refine gs_iconst (v := 0) k (by decide) dX7_isDone_246 ?_
    exact gs_zret k kt (by decide) dX7_isDone_247 ⟨_, rfl, hm, Or.inr ⟨rfl, Int32.not_le.mpr c1⟩⟩
  · refine gs_iconst (v := 1) k (by decide) dX7_isDone_242 ?_
    refine gs_goto (tgt := 247) k (by decide) dX7_isDone_243 ?_
    exact gs_zret k kt (by decide) dX7_isDone_247 ⟨_, rfl, hm, Or.inl ⟨rfl, Int32.not_lt.mp c1⟩⟩

set_option maxRecDepth 100000 in
set_option maxHeartbeats 4000000 in
theorem c_X7_isDone_10 {l : Launch} {E : Ev} {M : Mm} {S : As} {c : Nat} {x : Nat → Int32} (hI : ∀ k, k < 108 → k ∈ E.2.1) (h : RA M S) (hg : GA S) (hc : c < 100) (hw : M 84 c = 10) (hx : ∀ j, j < 1 → M 85 (3 * c + j) = x j) : Cm l E yX7_isDone cX7_isDone 5 (some .boolean) 5 [.ref (E.2.2.1 65), .int (nI c)] M (pZ (obP S RO 8 x M)) := by
  refine Cm.of (by decide) (Nat.le_of_ble_eq_true rfl) (fun K k kt => ?_)
  show G l E K 0 [(0, .ref (E.2.2.1 65)), (1, .int (nI c))] [] M
  refine gs_aload_n (q := 0) k rfl rfl dX7_isDone_0 ?_
  refine gs_get (C := RX7) (T := TX7) (N := 27) (ci := 7) (k0 := 65) (j := 18) k (hI 65 (by omega)) rfl rfl inX7 (by decide) fl_X7_58 rfl rfl dX7_isDone_1 ?_
  refine gs_iconst (v := 3) k (by decide) dX7_isDone_4 ?_
  refine gs_iload_n (q := 1) k rfl rfl dX7_isDone_5 ?_
  refine gs_imulN (a := 3) (b := c) k rfl rfl dX7_isDone_6 ?_
  refine gs_ialdN (k0 := 85) (n := 300) (e := 3 * c) k (hI 85 (by omega)) (fun _ => rfl) rfl (by omega) (by decide) dX7_isDone_7 ?_
  refine gs_top (y := x 0) (hx 0 (by decide)) ?_
  refine gs_istore_n (lv' := [(2, .int (x 0)), (0, .ref (E.2.2.1 65)), (1, .int (nI c))]) k rfl (by decide) rfl dX7_isDone_8 ?_
  refine gs_aload_n (q := 1) k rfl rfl dX7_isDone_9 ?_
  refine gs_get (C := RX7) (T := TX7) (N := 27) (ci := 7) (k0 := 65) (j := 18) k (hI 65 (by omega)) rfl rfl inX7 (by decide) fl_X7_58 rfl rfl dX7_isDone_10 ?_
  refine gs_iconst (v := 3) k (by decide) dX7_isDone_13 ?_
  refine gs_iload_n (q := 2) k rfl rfl dX7_isDone_14 ?_
  refine gs_imulN (a := 3) (b := c) k rfl rfl dX7_isDone_15 ?_
  refine gs_iconst (v := 1) k (by decide) dX7_isDone_16 ?_
  refine gs_iaddN (a := 3 * c) (b := 1) k rfl rfl dX7_isDone_17 ?_
  refine gs_ialdN (k0 := 85) (n := 300) (e := (3 * c) + 1) k (hI 85 (by omega)) (fun _ => rfl) rfl (by omega) (by decide) dX7_isDone_18 ?_
  refine gs_istore_n (lv' := [(3, .int (M 85 ((3 * c) + 1))), (2, .int (x 0)), (0, .ref (E.2.2.1 65)), (1, .int (nI c))]) k rfl (by decide) rfl dX7_isDone_19 ?_
  refine gs_aload_n (q := 2) k rfl rfl dX7_isDone_20 ?_
  refine gs_get (C := RX7) (T := TX7) (N := 27) (ci := 7) (k0 := 65) (j := 18) k (hI 65 (by omega)) rfl rfl inX7 (by decide) fl_X7_58 rfl rfl dX7_isDone_21 ?_
  refine gs_iconst (v := 3) k (by decide) dX7_isDone_24 ?_
  refine gs_iload_n (q := 3) k rfl rfl dX7_isDone_25 ?_
  refine gs_imulN (a := 3) (b := c) k rfl rfl dX7_isDone_26 ?_
  refine gs_iconst (v := 2) k (by decide) dX7_isDone_27 ?_
  refine gs_iaddN (a := 3 * c) (b := 2) k rfl rfl dX7_isDone_28 ?_
  refine gs_ialdN (k0 := 85) (n := 300) (e := (3 * c) + 2) k (hI 85 (by omega)) (fun _ => rfl) rfl (by omega) (by decide) dX7_isDone_29 ?_
  refine gs_istore (lv' := [(4, .int (M 85 ((3 * c) + 2))), (3, .int (M 85 ((3 * c) + 1))), (2, .int (x 0)), (0, .ref (E.2.2.1 65)), (1, .int (nI c))]) k (by decide) rfl dX7_isDone_30 ?_
  refine gs_aload_n (q := 3) k rfl rfl dX7_isDone_32 ?_
  refine gs_get (C := RX7) (T := TX7) (N := 27) (ci := 7) (k0 := 65) (j := 17) k (hI 65 (by omega)) rfl rfl inX7 (by decide) fl_X7_55 rfl rfl dX7_isDone_33 ?_
  refine gs_iload_n (q := 4) k rfl rfl dX7_isDone_36 ?_
  refine gs_ialdN (k0 := 84) (n := 100) (e := c) k (hI 84 (by omega)) (fun _ => rfl) rfl (by omega) (by decide) dX7_isDone_37 ?_
  refine gs_top (y := 10) hw ?_
  refine gs_tableOut (tgt := 248) k (by decide) (by decide) dX7_isDone_38 ?_
  refine gs_aload_n (q := 3) k rfl rfl dX7_isDone_248 ?_
  refine gs_iload_n (q := 2) k rfl rfl dX7_isDone_249 ?_
  refine gs_callV (As := [.int (x 0)]) (k0 := 65) (ci := 7) (T := TX7) (N := 27) k (oR_weighed hI h) cf_X7_weighed im_X7_weighed sl_X7_weighed ml_X7_345 (hI 65 (by omega)) rfl rfl (by decide) rfl rfl (Nat.le_of_ble_eq_true rfl) dX7_isDone_250 (ppH (fun m hm => ?_))
  show G l E K 253 [(4, .int (M 85 ((3 * c) + 2))), (3, .int (M 85 ((3 * c) + 1))), (2, .int (x 0)), (0, .ref (E.2.2.1 65)), (1, .int (nI c))] [.int (A_kind (wsum (S.1.2.1 5) S.1.1 (2 ^ S.1.1 - 1) + 1000) (x 0))] m
  refine gs_if_lt (tgt := 260) k (by decide) dX7_isDone_253 (fun c1 => ?_) (fun c1 => ?_)
  · refine gs_iconst (v := 0) k (by decide) dX7_isDone_260 ?_
    exact gs_zret k kt (by decide) dX7_isDone_261 ⟨_, rfl, hm, Or.inr ⟨rfl, Int32.not_le.mpr c1⟩⟩
  · refine gs_iconst (v := 1) k (by decide) dX7_isDone_256 ?_
    refine gs_goto (tgt := 261) k (by decide) dX7_isDone_257 ?_
    exact gs_zret k kt (by decide) dX7_isDone_261 ⟨_, rfl, hm, Or.inl ⟨rfl, Int32.not_lt.mp c1⟩⟩

theorem c_X7_isDone {l : Launch} {E : Ev} {M : Mm} {S : As} {c w : Nat} {x : Nat → Int32} (hI : ∀ k, k < 108 → k ∈ E.2.1) (h : RA M S) (hg : GA S) (hc : c < 100) (hww : w < 11) (hw : M 84 c = nI w) (hx : ∀ j, j < ar (wm w) → M 85 (3 * c + j) = x j) : Cm l E yX7_isDone cX7_isDone 5 (some .boolean) 5 [.ref (E.2.2.1 65), .int (nI c)] M (pZ (obP S RO (wm w) x M)) :=
  match w, hww with
  | 0, _ => c_X7_isDone_0 hI h hg hc hw hx
  | 1, _ => c_X7_isDone_1 hI h hg hc hw hx
  | 2, _ => c_X7_isDone_2 hI h hg hc hw hx
  | 3, _ => c_X7_isDone_3 hI h hg hc hw hx
  | 4, _ => c_X7_isDone_4 hI h hg hc hw hx
  | 5, _ => c_X7_isDone_5 hI h hg hc hw hx
  | 6, _ => c_X7_isDone_6 hI h hg hc hw hx
  | 7, _ => c_X7_isDone_7 hI h hg hc hw hx
  | 8, _ => c_X7_isDone_8 hI h hg hc hw hx
  | 9, _ => c_X7_isDone_9 hI h hg hc hw hx
  | 10, _ => c_X7_isDone_10 hI h hg hc hw hx
  | w + 11, z => absurd z (by omega)
noncomputable def wAt (b : Nat → Int32) (len k : Nat) : Nat := (fw b (ps b len k) (eo b len (ps b len k))).getD 0
noncomputable def xAt (b : Nat → Int32) (len k j : Nat) : Int32 := nVal b len (nq b len (eo b len (ps b len k)) j)
noncomputable def run (b : Nat → Int32) (len : Nat) (W : Wd) : Nat → Wd
  | 0 => W
  | k + 1 => cmdW (run b len W k) (wAt b len k) (xAt b len k)
noncomputable def cnt (b : Nat → Int32) (len : Nat) (W : Wd) : Nat → Nat
  | 0 => 0
  | k + 1 => ifc (cmdA (run b len W k) (wAt b len k) (xAt b len k)) (cnt b len W k + 1) (cnt b len W k)
theorem cnt_le {b : Nat → Int32} {len : Nat} {W : Wd} : ∀ k, cnt b len W k ≤ k := by
  intro k
  induction k with
  | zero => exact Nat.le_refl _
  | succ k ih =>
    unfold cnt
    exact ifc_pr (R := fun z => z ≤ k + 1) (fun _ => by omega) (fun _ => by omega)
noncomputable def lastC (b : Nat → Int32) (len : Nat) : Nat := (fnd (fun c => ifc (good b len c) none (some c)) 20 0).getD 0
theorem last_eq {b : Nat → Int32} {len c : Nat} (h1 : ∀ i, i < c → good b len i) (h2 : ¬ good b len c) (hc : c < 20) : lastC b len = c := by
  unfold lastC
  rw [fnd_at (g := fun c => ifc (good b len c) none (some c)) (a := c) 20 c 0 (fun j hj => by rw [Nat.zero_add]; exact ifc_t (h1 j hj)) (by rw [Nat.zero_add]; exact ifc_f h2) hc]
  rfl
theorem nsc_b {b : Nat → Int32} {len : Nat} : ∀ k q, q ≤ len → nsc b len k q ≤ len := by
  intro k
  induction k with
  | zero => intro q h; exact h
  | succ k ih =>
    intro q h
    have := nEnd_b (b := b) h
    exact ifc_pr (R := fun z => z ≤ len) (fun _ => ih _ this.2.1) (fun _ => this.2.1)
theorem cEnd_le {b : Nat → Int32} {len p : Nat} (h : p ≤ len) : cEnd b len p ≤ len := by
  unfold cEnd
  split
  · exact h
  · exact nsc_b _ _ (eo_b (b := b) h).2
def okP (b : Nat → Int32) (len : Nat) : Prop := cOk b len (ps b len (lastC b len)) ∧ len ≤ cEnd b len (ps b len (lastC b len))
noncomputable def dA (b : Nat → Int32) (len : Nat) (W : Wd) : Int32 := ifc (okP b len) (nI (cnt b len W (lastC b len + 1))) (-100 - nI (cEnd b len (ps b len (lastC b len))))
noncomputable def dW (b : Nat → Int32) (len : Nat) (W : Wd) : Wd := ifc (okP b len) (run b len W (lastC b len + 1)) W
theorem wAt_lt {b : Nat → Int32} {len k : Nat} : wAt b len k < 11 := by
  unfold wAt
  cases c : fw b (ps b len k) (eo b len (ps b len k)) with
  | none => exact (by decide : (0 : Nat) < 11)
  | some i => exact (fw_in c).1
theorem gRun {b : Nat → Int32} {len : Nat} {W : Wd} (h : GW W) : ∀ k, GW (run b len W k) := by
  intro k
  induction k with
  | zero => exact h
  | succ k ih => exact gCmd ih _ wAt_lt
noncomputable def dS (S : As) : As := (dW S.2.2.2.1.2 S.2.2.2.1.1 S.1, S.2.1, S.2.2.1, (0, S.2.2.2.1.2), S.2.2.2.2)
theorem gDeeds {S : As} (h : GA S) : GA (dS S) := ⟨ifc_pr (fun _ => gRun h.1 _) (fun _ => h.1), h.2.1, Nat.zero_le _, h.2.2.2⟩
/-- k commands have been executed -/
def dJ (kn kw kc jc : Nat) (wd : Nat → Nat) (CH : Mm → As → Prop) (F : Mm → Mm → Prop) (b : Nat → Int32) (len : Nat) (S : As) (M : Mm) (k : Nat) (m : Mm) : Prop := CH m (run b len S.1 k, S.2.1, S.2.2.1, (0, b), S.2.2.2.2) ∧ F M m ∧ m kc jc = nI (lastC b len + 1) ∧ (∀ i, i < lastC b len + 1 → stdP kn kw wd b len i m) ∧ k ≤ lastC b len + 1
theorem wAt_eq {b : Nat → Int32} {len k i : Nat} (h : fw b (ps b len k) (eo b len (ps b len k)) = some i) : wAt b len k = i := by
  unfold wAt
  rw [h]
  rfl
theorem stdP_row {kn kw : Nat} {wd : Nat → Nat} {b : Nat → Int32} {len i : Nat} {m m2 : Mm} (h2 : m2 kn = m kn) (h3 : m2 kw = m kw) (h : stdP kn kw wd b len i m) : stdP kn kw wd b len i m2 := by
  obtain ⟨w, hw, hF, e1, e2⟩ := h
  exact ⟨w, hw, hF, (congrFun h3 _).trans e1, fun j hj => (congrFun h2 _).trans (e2 j hj)⟩
theorem dJ_C {b : Nat → Int32} {len k : Nat} {S : As} {M m m2 : Mm} (h : dJ 54 53 52 1 (fun w => w) CA FR b len S M k m) (hk : k < lastC b len + 1) (c : CO m m2 (cmdW (run b len S.1 k) (wAt b len k) (xAt b len k))) : dJ 54 53 52 1 (fun w => w) CA FR b len S M (k + 1) m2 := by
  obtain ⟨h1, h2, h3, h4, h5⟩ := h
  obtain ⟨c1, c2⟩ := CA_W h1 c
  have r : ∀ q, q = 53 ∨ q = 54 → m2 q = m q := fun q hq => funext fun j => c.2 q j (by unfold scr; omega) (by omega)
  exact ⟨c1, fun q j hq hs => (c2 q j hq hs).trans (h2 q j hq hs), (c.2 52 1 (by unfold scr; omega) (by omega)).trans h3, fun i hi => stdP_row (r 54 (by omega)) (r 53 (by omega)) (h4 i hi), hk⟩
theorem dJ_R {b : Nat → Int32} {len k : Nat} {S : As} {M m m2 : Mm} (h : dJ 85 84 65 16 wm RA FC b len S M k m) (hk : k < lastC b len + 1) (c : RO m m2 (cmdW (run b len S.1 k) (wAt b len k) (xAt b len k))) : dJ 85 84 65 16 wm RA FC b len S M (k + 1) m2 := by
  obtain ⟨h1, h2, h3, h4, h5⟩ := h
  obtain ⟨c1, c2⟩ := RA_W h1 c
  have r : ∀ q, q = 84 ∨ q = 85 → m2 q = m q := fun q hq => funext fun j => c.2 q j (by unfold scr; omega) (by omega) (by omega)
  exact ⟨c1, fun q j hq hs => (c2 q j hq hs).trans (h2 q j hq hs), (c.2 65 16 (by unfold scr; omega) (by omega) (by omega)).trans h3, fun i hi => stdP_row (r 85 (by omega)) (r 84 (by omega)) (h4 i hi), hk⟩
theorem cf_X6_deeds : CF yX6_deeds cX6_deeds 4 (some .int) 0 := ⟨cd_X6_deeds, iz_X6, by decide, by decide +kernel, by decide +kernel, by decide +kernel⟩
set_option maxRecDepth 100000 in
set_option maxHeartbeats 4000000 in
theorem c_X6_deeds {l : Launch} {E : Ev} {M : Mm} {S : As} (hI : ∀ k, k < 108 → k ∈ E.2.1) (h : CA M S) (hg : GA S) : Cm l E yX6_deeds cX6_deeds 4 (some .int) 8 [.ref (E.2.2.1 0)] M (hp (.int (dA S.2.2.2.1.2 S.2.2.2.1.1 S.1)) (hC (dS S) M)) := by
  refine Cm.of (by decide) (Nat.le_of_ble_eq_true rfl) (fun K k kt => ?_)
  show G l E K 0 [(0, .ref (E.2.2.1 0))] [] M
  refine gs_aload_n (q := 0) k rfl rfl dX6_deeds_0 ?_
  refine gs_get (C := RX6) (T := TX6) (N := 10) (ci := 6) (k0 := 0) (j := 4) k (hI 0 (by omega)) rfl rfl inX6 (by decide) fl_X6_35 rfl rfl dX6_deeds_1 ?_
  refine gs_callV (As := []) (k0 := 52) (ci := 4) (T := TX4) (N := 6) k (c_X4_parse hI h.2.2.2.1.2 h.2.2.2.1.1 hg.2.2.1) cf_X4_parse im_X4_parse sl_X4_parse ml_X6_249 (hI 52 (by omega)) rfl rfl (by decide) rfl rfl (Nat.le_of_ble_eq_true rfl) dX6_deeds_4 (ppZ (fun rm m hm => ?_))
  obtain ⟨hs, c0, g1, g2, hd⟩ := hm
  have hps := ps_b c0 g1
  have hlc := last_eq g1 g2 (by have := hg.2.2.1; omega)
  subst hlc
  have hce := cEnd_le (b := S.2.2.2.1.2) hps.2
  have hlen := hg.2.2.1
  rcases hd with ⟨k1, k2, rfl, hcm, hst⟩ | ⟨hk, rfl⟩
  · show G l E K 7 [(0, .ref (E.2.2.1 0))] [.int (-1)] m
    refine gs_istore_n (lv' := [(1, .int (-1)), (0, .ref (E.2.2.1 0))]) k rfl (by decide) rfl dX6_deeds_7 ?_
    refine gs_aload_n (q := 1) k rfl rfl dX6_deeds_8 ?_
    refine gs_get (C := RX6) (T := TX6) (N := 10) (ci := 6) (k0 := 0) (j := 4) k (hI 0 (by omega)) rfl rfl inX6 (by decide) fl_X6_35 rfl rfl dX6_deeds_9 ?_
    refine gs_iconst (v := 0) k (by decide) dX6_deeds_12 ?_
    refine gs_put (C := RX4) (T := TX4) (N := 6) (ci := 4) (k0 := 52) (j := 0) (ty := .int) k (hI 52 (by omega)) rfl rfl rfl inX4 tyX4 tyX4_ok nmX4 (by decide) fl_X6_246 rfl rfl (tyX4_ok 0 (by decide)) rfl rfl (Nat.le_of_ble_eq_true rfl) dX6_deeds_13 ?_
    have h0 : hC (setT S (0, S.2.2.2.1.2)) M (mw m 52 0 0) := CA_T h (mw_eq _ _ _ _) (rown (by omega) (tb_same hs h.2.2.2.1.2)) (fun q j hz h1 h2 => (by by_cases e : q = 52; (subst e; exact rdj (by omega) (hs _ _ hz)); exact rdn e (hs _ _ hz)))
    refine gs_iload_n (q := 0) k rfl rfl dX6_deeds_16 ?_
    refine gs_iconst (v := -1) k (by decide) dX6_deeds_17 ?_
    refine gs_icmp_eq (tgt := 26) k (by decide) dX6_deeds_18 (fun _ => ?_) (fun h => absurd h (by decide))
    refine gs_iconst (v := 0) k (by decide) dX6_deeds_26 ?_
    refine gs_istore_n (lv' := [(2, .int 0), (1, .int (-1)), (0, .ref (E.2.2.1 0))]) k rfl (by decide) rfl dX6_deeds_27 ?_
    refine gs_iconst (v := 0) k (by decide) dX6_deeds_28 ?_
    refine gs_istore_n (lv' := [(3, .int 0), (2, .int 0), (1, .int (-1)), (0, .ref (E.2.2.1 0))]) k rfl (by decide) rfl dX6_deeds_29 ?_
    refine gs_lv (lv' := [(0, .ref (E.2.2.1 0)), (1, .int (-1)), (2, .int 0), (3, .int 0)]) [3, 2, 1, 0] rfl ?_
    refine for_wh (σ := Mm) (fun ix m => G l E K 30 [(0, .ref (E.2.2.1 0)), (1, .int (-1)), (2, .int (nI (cnt (S.2.2.2.1.2) (S.2.2.2.1.1) S.1 ix))), (3, .int (nI ix))] [] m) (fun ix m => dJ 54 53 52 1 (fun w => w) CA FR S.2.2.2.1.2 S.2.2.2.1.1 S M ix m) (lastC S.2.2.2.1.2 S.2.2.2.1.1 + 1) (fun ix m hJ hG => ?_) 0 (mw m 52 0 (0)) ⟨h0.1, h0.2, rdj (by decide) hcm, fun i hi => stdP_row (rown (by omega) rfl) (rown (by omega) rfl) (hst i hi), Nat.zero_le _⟩
    show G l E K 30 [(0, .ref (E.2.2.1 0)), (1, .int (-1)), (2, .int (nI (cnt (S.2.2.2.1.2) (S.2.2.2.1.1) S.1 ix))), (3, .int (nI ix))] [] m
    have hcl := cnt_le (b := S.2.2.2.1.2) (len := S.2.2.2.1.1) (W := S.1) ix
    have hJ5 := hJ.2.2.2.2
    refine gs_iload_n (q := 3) k rfl rfl dX6_deeds_30 ?_
    refine gs_aload_n (q := 0) k rfl rfl dX6_deeds_31 ?_
    refine gs_get (C := RX6) (T := TX6) (N := 10) (ci := 6) (k0 := 0) (j := 4) k (hI 0 (by omega)) rfl rfl inX6 (by decide) fl_X6_35 rfl rfl dX6_deeds_32 ?_
    refine gs_get (C := RX4) (T := TX4) (N := 6) (ci := 4) (k0 := 52) (j := 1) k (hI 52 (by omega)) rfl rfl inX4 (by decide) fl_X6_252 rfl rfl dX6_deeds_35 ?_
    refine gs_top (y := nI (lastC S.2.2.2.1.2 S.2.2.2.1.1 + 1)) hJ.2.2.1 ?_
    refine gs_icmpN_ge (a := ix) (b := lastC S.2.2.2.1.2 S.2.2.2.1.1 + 1) (tgt := 58) k rfl rfl (by omega) (by omega) (by decide) dX6_deeds_38 (fun c1 => ?_) (fun c1 => ?_)
    · refine gs_iload_n (q := 2) k rfl rfl dX6_deeds_58 ?_
      exact gs_iret k kt dX6_deeds_59 ⟨(by have e : ix = lastC S.2.2.2.1.2 S.2.2.2.1.1 + 1 := Nat.le_antisymm hJ.2.2.2.2 c1; subst e; unfold dA; rw [ifc_t ⟨k1, k2⟩]), (by have e : ix = lastC S.2.2.2.1.2 S.2.2.2.1.1 + 1 := Nat.le_antisymm hJ.2.2.2.2 c1; subst e; unfold dS dW; rw [ifc_t ⟨k1, k2⟩]; exact ⟨hJ.1, hJ.2.1⟩)⟩
    · obtain ⟨w, hw, hF, e1, e2⟩ := hJ.2.2.2.1 ix c1
      have hwd : wAt (S.2.2.2.1.2) (S.2.2.2.1.1) ix = w := wAt_eq hF
      have hgx : GA (run S.2.2.2.1.2 S.2.2.2.1.1 S.1 ix, S.2.1, S.2.2.1, (0, S.2.2.2.1.2), S.2.2.2.2) := ⟨gRun hg.1 _, hg.2.1, Nat.zero_le _, hg.2.2.2⟩
      refine gs_aload_n (q := 0) k rfl rfl dX6_deeds_41 ?_
      refine gs_iload_n (q := 3) k rfl rfl dX6_deeds_42 ?_
      refine gs_callV (As := [.int (nI ix)]) (k0 := 0) (ci := 6) (T := TX6) (N := 10) k (c_X6_obey (S := (run S.2.2.2.1.2 S.2.2.2.1.1 S.1 ix, S.2.1, S.2.2.1, (0, S.2.2.2.1.2), S.2.2.2.2)) (c := ix) (w := w) (x := xAt S.2.2.2.1.2 S.2.2.2.1.1 ix) hI hJ.1 hgx (by omega) hw e1 e2) cf_X6_obey im_X6_obey sl_X6_obey ml_X6_255 (hI 0 (by omega)) rfl rfl (by decide) rfl rfl (Nat.le_of_ble_eq_true rfl) dX6_deeds_43 (ppZ (fun rm2 m2 hm2 => ?_))
      rw [← hwd] at hm2
      rcases hm2 with ⟨s1, ⟨rfl, s6⟩ | ⟨rfl, s6⟩⟩
      · show G l E K 46 [(0, .ref (E.2.2.1 0)), (1, .int (-1)), (2, .int (nI (cnt (S.2.2.2.1.2) (S.2.2.2.1.1) S.1 ix))), (3, .int (nI ix))] [.int 1] m2
        refine gs_if_eq (tgt := 52) k (by decide) dX6_deeds_46 (fun h => absurd h (by decide)) (fun _ => ?_)
        refine gs_iincN (q := 2) (a := cnt (S.2.2.2.1.2) (S.2.2.2.1.1) S.1 ix) (c := 1) (lv' := [(2, .int (nI (cnt (S.2.2.2.1.2) (S.2.2.2.1.1) S.1 ix + 1))), (0, .ref (E.2.2.1 0)), (1, .int (-1)), (3, .int (nI ix))]) k rfl rfl (by decide) rfl dX6_deeds_49 ?_
        refine gs_iincN (q := 3) (a := ix) (c := 1) (lv' := [(3, .int (nI (ix + 1))), (2, .int (nI (cnt (S.2.2.2.1.2) (S.2.2.2.1.1) S.1 ix + 1))), (0, .ref (E.2.2.1 0)), (1, .int (-1))]) k rfl rfl (by decide) rfl dX6_deeds_52 ?_
        refine gs_goto (tgt := 30) k (by decide) dX6_deeds_55 ?_
        refine gs_lv (lv' := [(0, .ref (E.2.2.1 0)), (1, .int (-1)), (2, .int (nI (cnt (S.2.2.2.1.2) (S.2.2.2.1.1) S.1 ix + 1))), (3, .int (nI (ix + 1)))]) [2, 3, 1, 0] rfl ?_
        refine gs_lvE (lv' := [(0, .ref (E.2.2.1 0)), (1, .int (-1)), (2, .int (nI (cnt (S.2.2.2.1.2) (S.2.2.2.1.1) S.1 (ix + 1)))), (3, .int (nI (ix + 1)))]) (by rw [show cnt (S.2.2.2.1.2) (S.2.2.2.1.1) S.1 (ix + 1) = _ from ifc_t s6]) ?_
        exact hG (by omega) _ (dJ_C hJ c1 s1)
      · show G l E K 46 [(0, .ref (E.2.2.1 0)), (1, .int (-1)), (2, .int (nI (cnt (S.2.2.2.1.2) (S.2.2.2.1.1) S.1 ix))), (3, .int (nI ix))] [.int 0] m2
        refine gs_if_eq (tgt := 52) k (by decide) dX6_deeds_46 (fun _ => ?_) (fun h => absurd h (by decide))
        refine gs_iincN (q := 3) (a := ix) (c := 1) (lv' := [(3, .int (nI (ix + 1))), (0, .ref (E.2.2.1 0)), (1, .int (-1)), (2, .int (nI (cnt (S.2.2.2.1.2) (S.2.2.2.1.1) S.1 ix)))]) k rfl rfl (by decide) rfl dX6_deeds_52 ?_
        refine gs_goto (tgt := 30) k (by decide) dX6_deeds_55 ?_
        refine gs_lv (lv' := [(0, .ref (E.2.2.1 0)), (1, .int (-1)), (2, .int (nI (cnt (S.2.2.2.1.2) (S.2.2.2.1.1) S.1 ix))), (3, .int (nI (ix + 1)))]) [1, 2, 3, 0] rfl ?_
        refine gs_lvE (lv' := [(0, .ref (E.2.2.1 0)), (1, .int (-1)), (2, .int (nI (cnt (S.2.2.2.1.2) (S.2.2.2.1.1) S.1 (ix + 1)))), (3, .int (nI (ix + 1)))]) (by rw [show cnt (S.2.2.2.1.2) (S.2.2.2.1.1) S.1 (ix + 1) = _ from ifc_f s6]) ?_
        exact hG (by omega) _ (dJ_C hJ c1 s1)
  · show G l E K 7 [(0, .ref (E.2.2.1 0))] [.int (nI (cEnd (S.2.2.2.1.2) (S.2.2.2.1.1) (ps (S.2.2.2.1.2) (S.2.2.2.1.1) (lastC S.2.2.2.1.2 S.2.2.2.1.1))))] m
    refine gs_istore_n (lv' := [(1, .int (nI (cEnd (S.2.2.2.1.2) (S.2.2.2.1.1) (ps (S.2.2.2.1.2) (S.2.2.2.1.1) (lastC S.2.2.2.1.2 S.2.2.2.1.1))))), (0, .ref (E.2.2.1 0))]) k rfl (by decide) rfl dX6_deeds_7 ?_
    refine gs_aload_n (q := 1) k rfl rfl dX6_deeds_8 ?_
    refine gs_get (C := RX6) (T := TX6) (N := 10) (ci := 6) (k0 := 0) (j := 4) k (hI 0 (by omega)) rfl rfl inX6 (by decide) fl_X6_35 rfl rfl dX6_deeds_9 ?_
    refine gs_iconst (v := 0) k (by decide) dX6_deeds_12 ?_
    refine gs_put (C := RX4) (T := TX4) (N := 6) (ci := 4) (k0 := 52) (j := 0) (ty := .int) k (hI 52 (by omega)) rfl rfl rfl inX4 tyX4 tyX4_ok nmX4 (by decide) fl_X6_246 rfl rfl (tyX4_ok 0 (by decide)) rfl rfl (Nat.le_of_ble_eq_true rfl) dX6_deeds_13 ?_
    have h0 : hC (setT S (0, S.2.2.2.1.2)) M (mw m 52 0 0) := CA_T h (mw_eq _ _ _ _) (rown (by omega) (tb_same hs h.2.2.2.1.2)) (fun q j hz h1 h2 => (by by_cases e : q = 52; (subst e; exact rdj (by omega) (hs _ _ hz)); exact rdn e (hs _ _ hz)))
    refine gs_iload_n (q := 0) k rfl rfl dX6_deeds_16 ?_
    refine gs_iconst (v := -1) k (by decide) dX6_deeds_17 ?_
    refine gs_icmp_eq (tgt := 26) k (by decide) dX6_deeds_18 (fun h => absurd h (nnne rfl (by omega) (by decide))) (fun _ => ?_)
    refine gs_bipush (v := -100) k (by decide) dX6_deeds_21 ?_
    refine gs_iload_n (q := 0) k rfl rfl dX6_deeds_23 ?_
    refine gs_isub k dX6_deeds_24 ?_
    exact gs_iret k kt dX6_deeds_25 ⟨(by unfold dA okP; rw [ifc_f hk]), (by unfold dS dW okP; rw [ifc_f hk]; exact h0)⟩

theorem cf_X7_deeds : CF yX7_deeds cX7_deeds 4 (some .int) 0 := ⟨cd_X7_deeds, iz_X7, by decide, by decide +kernel, by decide +kernel, by decide +kernel⟩
set_option maxRecDepth 100000 in
set_option maxHeartbeats 4000000 in
theorem c_X7_deeds {l : Launch} {E : Ev} {M : Mm} {S : As} (hI : ∀ k, k < 108 → k ∈ E.2.1) (h : RA M S) (hg : GA S) : Cm l E yX7_deeds cX7_deeds 4 (some .int) 8 [.ref (E.2.2.1 65)] M (hp (.int (dA S.2.2.2.1.2 S.2.2.2.1.1 S.1)) (hR (dS S) M)) := by
  refine Cm.of (by decide) (Nat.le_of_ble_eq_true rfl) (fun K k kt => ?_)
  show G l E K 0 [(0, .ref (E.2.2.1 65))] [] M
  refine gs_aload_n (q := 0) k rfl rfl dX7_deeds_0 ?_
  refine gs_callV (As := []) (k0 := 65) (ci := 7) (T := TX7) (N := 27) k (c_X7_takesAll hI h.2.2.2.1.2 h.2.2.2.1.1 hg.2.2.1) cf_X7_takesAll im_X7_takesAll sl_X7_takesAll ml_X7_347 (hI 65 (by omega)) rfl rfl (by decide) rfl rfl (Nat.le_of_ble_eq_true rfl) dX7_deeds_1 (ppZ (fun rm m hm => ?_))
  obtain ⟨hs, c0, g1, g2, hd⟩ := hm
  have hps := ps_b c0 g1
  have hlc := last_eq g1 g2 (by have := hg.2.2.1; omega)
  subst hlc
  have hce := cEnd_le (b := S.2.2.2.1.2) hps.2
  have hlen := hg.2.2.1
  rcases hd with ⟨k1, k2, rfl, hcm, hst⟩ | ⟨hk, rfl, hat⟩
  · show G l E K 4 [(0, .ref (E.2.2.1 65))] [.int 1] m
    refine gs_istore_n (lv' := [(1, .int 1), (0, .ref (E.2.2.1 65))]) k rfl (by decide) rfl dX7_deeds_4 ?_
    refine gs_aload_n (q := 1) k rfl rfl dX7_deeds_5 ?_
    refine gs_iconst (v := 0) k (by decide) dX7_deeds_6 ?_
    refine gs_put (C := RX7) (T := TX7) (N := 27) (ci := 7) (k0 := 65) (j := 14) (ty := .int) k (hI 65 (by omega)) rfl rfl rfl inX7 tyX7 tyX7_ok nmX7 (by decide) fl_X7_261 rfl rfl (tyX7_ok 14 (by decide)) rfl rfl (Nat.le_of_ble_eq_true rfl) dX7_deeds_7 ?_
    have h0 : hR (setT S (0, S.2.2.2.1.2)) M (mw m 65 14 0) := RA_T h (mw_eq _ _ _ _) (rown (by omega) (rb_same hs h.2.2.2.1.2)) (fun q j hz h1 h2 => (by by_cases e : q = 65; (subst e; exact rdj (by omega) (hs _ _ hz)); exact rdn e (hs _ _ hz)))
    refine gs_iload_n (q := 0) k rfl rfl dX7_deeds_10 ?_
    refine gs_if_ne (tgt := 22) k (by decide) dX7_deeds_11 (fun _ => ?_) (fun h => absurd h (by decide))
    refine gs_iconst (v := 0) k (by decide) dX7_deeds_22 ?_
    refine gs_istore_n (lv' := [(2, .int 0), (1, .int 1), (0, .ref (E.2.2.1 65))]) k rfl (by decide) rfl dX7_deeds_23 ?_
    refine gs_iconst (v := 0) k (by decide) dX7_deeds_24 ?_
    refine gs_istore_n (lv' := [(3, .int 0), (2, .int 0), (1, .int 1), (0, .ref (E.2.2.1 65))]) k rfl (by decide) rfl dX7_deeds_25 ?_
    refine gs_lv (lv' := [(0, .ref (E.2.2.1 65)), (1, .int 1), (2, .int 0), (3, .int 0)]) [3, 2, 1, 0] rfl ?_
    refine for_wh (σ := Mm) (fun ix m => G l E K 26 [(0, .ref (E.2.2.1 65)), (1, .int 1), (2, .int (nI (cnt (S.2.2.2.1.2) (S.2.2.2.1.1) S.1 ix))), (3, .int (nI ix))] [] m) (fun ix m => dJ 85 84 65 16 wm RA FC S.2.2.2.1.2 S.2.2.2.1.1 S M ix m) (lastC S.2.2.2.1.2 S.2.2.2.1.1 + 1) (fun ix m hJ hG => ?_) 0 (mw m 65 14 (0)) ⟨h0.1, h0.2, rdj (by decide) hcm, fun i hi => stdP_row (rown (by omega) rfl) (rown (by omega) rfl) (hst i hi), Nat.zero_le _⟩
    show G l E K 26 [(0, .ref (E.2.2.1 65)), (1, .int 1), (2, .int (nI (cnt (S.2.2.2.1.2) (S.2.2.2.1.1) S.1 ix))), (3, .int (nI ix))] [] m
    have hcl := cnt_le (b := S.2.2.2.1.2) (len := S.2.2.2.1.1) (W := S.1) ix
    have hJ5 := hJ.2.2.2.2
    refine gs_iload_n (q := 3) k rfl rfl dX7_deeds_26 ?_
    refine gs_aload_n (q := 0) k rfl rfl dX7_deeds_27 ?_
    refine gs_get (C := RX7) (T := TX7) (N := 27) (ci := 7) (k0 := 65) (j := 16) k (hI 65 (by omega)) rfl rfl inX7 (by decide) fl_X7_309 rfl rfl dX7_deeds_28 ?_
    refine gs_top (y := nI (lastC S.2.2.2.1.2 S.2.2.2.1.1 + 1)) hJ.2.2.1 ?_
    refine gs_icmpN_ge (a := ix) (b := lastC S.2.2.2.1.2 S.2.2.2.1.1 + 1) (tgt := 51) k rfl rfl (by omega) (by omega) (by decide) dX7_deeds_31 (fun c1 => ?_) (fun c1 => ?_)
    · refine gs_iload_n (q := 2) k rfl rfl dX7_deeds_51 ?_
      exact gs_iret k kt dX7_deeds_52 ⟨(by have e : ix = lastC S.2.2.2.1.2 S.2.2.2.1.1 + 1 := Nat.le_antisymm hJ.2.2.2.2 c1; subst e; unfold dA; rw [ifc_t ⟨k1, k2⟩]), (by have e : ix = lastC S.2.2.2.1.2 S.2.2.2.1.1 + 1 := Nat.le_antisymm hJ.2.2.2.2 c1; subst e; unfold dS dW; rw [ifc_t ⟨k1, k2⟩]; exact ⟨hJ.1, hJ.2.1⟩)⟩
    · obtain ⟨w, hw, hF, e1, e2⟩ := hJ.2.2.2.1 ix c1
      have hwd := wAt_eq hF
      have hgx : GA (run S.2.2.2.1.2 S.2.2.2.1.1 S.1 ix, S.2.1, S.2.2.1, (0, S.2.2.2.1.2), S.2.2.2.2) := ⟨gRun hg.1 _, hg.2.1, Nat.zero_le _, hg.2.2.2⟩
      refine gs_aload_n (q := 0) k rfl rfl dX7_deeds_34 ?_
      refine gs_iload_n (q := 3) k rfl rfl dX7_deeds_35 ?_
      refine gs_callV (As := [.int (nI ix)]) (k0 := 65) (ci := 7) (T := TX7) (N := 27) k (c_X7_isDone (S := (run S.2.2.2.1.2 S.2.2.2.1.1 S.1 ix, S.2.1, S.2.2.1, (0, S.2.2.2.1.2), S.2.2.2.2)) (c := ix) (w := w) (x := xAt S.2.2.2.1.2 S.2.2.2.1.1 ix) hI hJ.1 hgx (by omega) hw e1 e2) cf_X7_isDone im_X7_isDone sl_X7_isDone ml_X7_350 (hI 65 (by omega)) rfl rfl (by decide) rfl rfl (Nat.le_of_ble_eq_true rfl) dX7_deeds_36 (ppZ (fun rm2 m2 hm2 => ?_))
      rw [← hwd] at hm2
      rcases hm2 with ⟨s1, ⟨rfl, s6⟩ | ⟨rfl, s6⟩⟩
      · show G l E K 39 [(0, .ref (E.2.2.1 65)), (1, .int 1), (2, .int (nI (cnt (S.2.2.2.1.2) (S.2.2.2.1.1) S.1 ix))), (3, .int (nI ix))] [.int 1] m2
        refine gs_if_eq (tgt := 45) k (by decide) dX7_deeds_39 (fun h => absurd h (by decide)) (fun _ => ?_)
        refine gs_iincN (q := 2) (a := cnt (S.2.2.2.1.2) (S.2.2.2.1.1) S.1 ix) (c := 1) (lv' := [(2, .int (nI (cnt (S.2.2.2.1.2) (S.2.2.2.1.1) S.1 ix + 1))), (0, .ref (E.2.2.1 65)), (1, .int 1), (3, .int (nI ix))]) k rfl rfl (by decide) rfl dX7_deeds_42 ?_
        refine gs_iincN (q := 3) (a := ix) (c := 1) (lv' := [(3, .int (nI (ix + 1))), (2, .int (nI (cnt (S.2.2.2.1.2) (S.2.2.2.1.1) S.1 ix + 1))), (0, .ref (E.2.2.1 65)), (1, .int 1)]) k rfl rfl (by decide) rfl dX7_deeds_45 ?_
        refine gs_goto (tgt := 26) k (by decide) dX7_deeds_48 ?_
        refine gs_lv (lv' := [(0, .ref (E.2.2.1 65)), (1, .int 1), (2, .int (nI (cnt (S.2.2.2.1.2) (S.2.2.2.1.1) S.1 ix + 1))), (3, .int (nI (ix + 1)))]) [2, 3, 1, 0] rfl ?_
        refine gs_lvE (lv' := [(0, .ref (E.2.2.1 65)), (1, .int 1), (2, .int (nI (cnt (S.2.2.2.1.2) (S.2.2.2.1.1) S.1 (ix + 1)))), (3, .int (nI (ix + 1)))]) (by rw [show cnt (S.2.2.2.1.2) (S.2.2.2.1.1) S.1 (ix + 1) = _ from ifc_t s6]) ?_
        exact hG (by omega) _ (dJ_R hJ c1 s1)
      · show G l E K 39 [(0, .ref (E.2.2.1 65)), (1, .int 1), (2, .int (nI (cnt (S.2.2.2.1.2) (S.2.2.2.1.1) S.1 ix))), (3, .int (nI ix))] [.int 0] m2
        refine gs_if_eq (tgt := 45) k (by decide) dX7_deeds_39 (fun _ => ?_) (fun h => absurd h (by decide))
        refine gs_iincN (q := 3) (a := ix) (c := 1) (lv' := [(3, .int (nI (ix + 1))), (0, .ref (E.2.2.1 65)), (1, .int 1), (2, .int (nI (cnt (S.2.2.2.1.2) (S.2.2.2.1.1) S.1 ix)))]) k rfl rfl (by decide) rfl dX7_deeds_45 ?_
        refine gs_goto (tgt := 26) k (by decide) dX7_deeds_48 ?_
        refine gs_lv (lv' := [(0, .ref (E.2.2.1 65)), (1, .int 1), (2, .int (nI (cnt (S.2.2.2.1.2) (S.2.2.2.1.1) S.1 ix))), (3, .int (nI (ix + 1)))]) [1, 2, 3, 0] rfl ?_
        refine gs_lvE (lv' := [(0, .ref (E.2.2.1 65)), (1, .int 1), (2, .int (nI (cnt (S.2.2.2.1.2) (S.2.2.2.1.1) S.1 (ix + 1)))), (3, .int (nI (ix + 1)))]) (by rw [show cnt (S.2.2.2.1.2) (S.2.2.2.1.1) S.1 (ix + 1) = _ from ifc_f s6]) ?_
        exact hG (by omega) _ (dJ_R hJ c1 s1)
  · show G l E K 4 [(0, .ref (E.2.2.1 65))] [.int 0] m
    refine gs_istore_n (lv' := [(1, .int 0), (0, .ref (E.2.2.1 65))]) k rfl (by decide) rfl dX7_deeds_4 ?_
    refine gs_aload_n (q := 1) k rfl rfl dX7_deeds_5 ?_
    refine gs_iconst (v := 0) k (by decide) dX7_deeds_6 ?_
    refine gs_put (C := RX7) (T := TX7) (N := 27) (ci := 7) (k0 := 65) (j := 14) (ty := .int) k (hI 65 (by omega)) rfl rfl rfl inX7 tyX7 tyX7_ok nmX7 (by decide) fl_X7_261 rfl rfl (tyX7_ok 14 (by decide)) rfl rfl (Nat.le_of_ble_eq_true rfl) dX7_deeds_7 ?_
    have h0 : hR (setT S (0, S.2.2.2.1.2)) M (mw m 65 14 0) := RA_T h (mw_eq _ _ _ _) (rown (by omega) (rb_same hs h.2.2.2.1.2)) (fun q j hz h1 h2 => (by by_cases e : q = 65; (subst e; exact rdj (by omega) (hs _ _ hz)); exact rdn e (hs _ _ hz)))
    refine gs_iload_n (q := 0) k rfl rfl dX7_deeds_10 ?_
    refine gs_if_ne (tgt := 22) k (by decide) dX7_deeds_11 (fun h => absurd h (by decide)) (fun _ => ?_)
    refine gs_bipush (v := -100) k (by decide) dX7_deeds_14 ?_
    refine gs_aload_n (q := 1) k rfl rfl dX7_deeds_16 ?_
    refine gs_get (C := RX7) (T := TX7) (N := 27) (ci := 7) (k0 := 65) (j := 15) k (hI 65 (by omega)) rfl rfl inX7 (by decide) fl_X7_286 rfl rfl dX7_deeds_17 ?_
    refine gs_top (y := m 65 15) (rdj (by decide) (rfl)) ?_
    refine gs_top (y := nI (cEnd (S.2.2.2.1.2) (S.2.2.2.1.1) (ps (S.2.2.2.1.2) (S.2.2.2.1.1) (lastC S.2.2.2.1.2 S.2.2.2.1.1)))) hat ?_
    refine gs_isub k dX7_deeds_20 ?_
    exact gs_iret k kt dX7_deeds_21 ⟨(by unfold dA okP; rw [ifc_f hk]), (by unfold dS dW okP; rw [ifc_f hk]; exact h0)⟩

