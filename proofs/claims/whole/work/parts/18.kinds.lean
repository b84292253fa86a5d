theorem becR_v {n t A : Nat} {k : Int32} {g : Nat → Int32} {M : Mm} (hA : A < 2 ^ n) (hn : n ≤ 6) : becR n t k g M (74 + t) A = g A := by
  have := p2_le6 hn
  unfold becR
  rw [rset_eq, setr_in (by omega), if_pos hA]
theorem ni_all1 {n : Nat} (hn : n ≤ 6) : nI (2 ^ n - 1) &&& -2 = nI (2 ^ n - 2) := by
  have H : ∀ n, n < 7 → nI (2 ^ n - 1) &&& -2 = nI (2 ^ n - 2) := by decide +kernel
  exact H n (by omega)
def kval (ld is ws bl cp w : Nat → Int32) (n : Nat) (k : Nat) (s : Nat) : Int32 := match k with
  | 1 => csum ld n s
  | 2 => vsum is ws (nI s)
  | 3 => ksum bl cp n s
  | _ => wsum w n s
theorem cf_X7_makes : CF yX7_makes cX7_makes 5 (some .int) 3 := ⟨cd_X7_makes, iz_X7, by decide, by decide +kernel, by decide +kernel, by decide +kernel⟩
set_option maxRecDepth 100000 in
set_option maxHeartbeats 4000000 in
theorem c_X7_makes1 {l : Launch} {E : Ev} {M : Mm} {n : Nat} (hI : ∀ k, k < 108 → k ∈ E.2.1) (hn : Rn M n) {x : Int32} {t : Nat} (hx : x = nI t) (ht : t < 6) {A : Nat} (hA : A < 2 ^ n) : Cm l E yX7_makes cX7_makes 5 (some .int) 2 [.ref (E.2.2.1 65), .int x, .int 1, .int (nI A)] M (pR (.int (csum (M 66) n A)) (becR n t 1 (fun s => csum (M 66) n s) M)) := by
  refine Cm.of (by decide) (Nat.le_of_ble_eq_true rfl) (fun K k kt => ?_)
  show G l E K 0 [(0, .ref (E.2.2.1 65)), (1, .int x), (2, .int 1), (3, .int (nI A))] [] M
  obtain ⟨hn0, hn1, hn6⟩ := id hn
  have hp := p2_le6 hn6
  have hp2 := p2_ge2 hn1
  refine gs_iconst (v := 0) k (by decide) dX7_makes_0 ?_
  refine gs_istore (lv' := [(4, .int 0), (0, .ref (E.2.2.1 65)), (1, .int x), (2, .int 1), (3, .int (nI A))]) k (by decide) rfl dX7_makes_1 ?_
  refine gs_lv (lv' := [(0, .ref (E.2.2.1 65)), (1, .int x), (2, .int 1), (3, .int (nI A)), (4, .int 0)]) [1, 2, 3, 4, 0] rfl ?_
  refine gs_M (rset_same M 80).symm ?_
  refine for_up (σ := (Nat → Int32)) (fun s r => G l E K 3 [(0, .ref (E.2.2.1 65)), (1, .int x), (2, .int 1), (3, .int (nI A)), (4, .int (nI s))] [] (rset M 80 r)) (fun s r => upd r s (csum (M 66) n s)) (2 ^ n) (fun s r hs hGs => ?_) (2 ^ n) 0 (M 80) (by omega) ?_
  · show G l E K 3 [(0, .ref (E.2.2.1 65)), (1, .int x), (2, .int 1), (3, .int (nI A)), (4, .int (nI s))] [] (rset M 80 r)
    refine gs_iload (q := 4) k rfl dX7_makes_3 ?_
    refine gs_aload_n (q := 0) k rfl rfl dX7_makes_5 ?_
    refine gs_callV (As := []) (k0 := 65) (ci := 7) (T := TX7) (N := 27) k (c_X7_sets hI (Rn_rs (by omega) hn)) cf_X7_sets im_X7_sets sl_X7_sets ml_X7_83 (hI 65 (by omega)) rfl rfl (by decide) rfl rfl (Nat.le_of_ble_eq_true rfl) dX7_makes_6 (ppI ?_)
    refine gs_icmpN_ge (a := s) (b := 2 ^ n) (tgt := 73) k rfl rfl (by omega) (by omega) (by decide) dX7_makes_9 (fun c1 => absurd c1 (by omega)) (fun c1 => ?_)
    refine gs_aload_n (q := 0) k rfl rfl dX7_makes_12 ?_
    refine gs_get (C := RX7) (T := TX7) (N := 27) (ci := 7) (k0 := 65) (j := 9) k (hI 65 (by omega)) rfl rfl inX7 (by decide) fl_X7_42 rfl rfl dX7_makes_13 ?_
    refine gs_iload (q := 4) k rfl dX7_makes_16 ?_
    refine gs_iload_n (q := 2) k rfl rfl dX7_makes_18 ?_
    refine gs_iconst (v := 1) k (by decide) dX7_makes_19 ?_
    refine gs_icmp_ne (tgt := 32) k (by decide) dX7_makes_20 (fun h => absurd h (by decide)) (fun _ => ?_)
    refine gs_aload_n (q := 0) k rfl rfl dX7_makes_23 ?_
    refine gs_iload (q := 4) k rfl dX7_makes_24 ?_
    refine gs_callV (As := [.int (nI s)]) (k0 := 65) (ci := 7) (T := TX7) (N := 27) k (c_X7_cutOf (S := s) hI (Rn_rs (by omega) hn) rfl (by omega)) cf_X7_cutOf im_X7_cutOf sl_X7_cutOf ml_X7_147 (hI 65 (by omega)) rfl rfl (by decide) rfl rfl (Nat.le_of_ble_eq_true rfl) dX7_makes_26 (ppI ?_)
    refine gs_top (y := csum (M 66) n s) rfl ?_
    refine gs_goto (tgt := 66) k (by decide) dX7_makes_29 ?_
    refine gs_iastN (k0 := 80) (n := 64) (e := s) k (hI 80 (by omega)) (fun _ => rfl) rfl (by omega) (by decide) dX7_makes_66 ?_
    refine gs_M (mw_rset _ _ _ _ _) ?_
    refine gs_iincN (q := 4) (a := s) (c := 1) (lv' := [(4, .int (nI (s + 1))), (0, .ref (E.2.2.1 65)), (1, .int x), (2, .int 1), (3, .int (nI A))]) k rfl rfl (by decide) rfl dX7_makes_67 ?_
    refine gs_goto (tgt := 3) k (by decide) dX7_makes_70 ?_
    refine gs_lv (lv' := [(0, .ref (E.2.2.1 65)), (1, .int x), (2, .int 1), (3, .int (nI A)), (4, .int (nI (s + 1)))]) [1, 2, 3, 4, 0] rfl ?_
    exact hGs _ rfl
  · show G l E K 3 [(0, .ref (E.2.2.1 65)), (1, .int x), (2, .int 1), (3, .int (nI A)), (4, .int (nI (2 ^ n)))] [] (rset M 80 (lp (fun s r => upd r s (csum (M 66) n s)) (2 ^ n) 0 (M 80)))
    rw [lp_setr]
    show G l E K 3 [(0, .ref (E.2.2.1 65)), (1, .int x), (2, .int 1), (3, .int (nI A)), (4, .int (nI (2 ^ n)))] [] (rset M 80 (setr (2 ^ n) (fun s => csum (M 66) n s) (M 80)))
    refine gs_iload (q := 4) k rfl dX7_makes_3 ?_
    refine gs_aload_n (q := 0) k rfl rfl dX7_makes_5 ?_
    refine gs_callV (As := []) (k0 := 65) (ci := 7) (T := TX7) (N := 27) k (c_X7_sets hI (Rn_rs (by omega) hn)) cf_X7_sets im_X7_sets sl_X7_sets ml_X7_83 (hI 65 (by omega)) rfl rfl (by decide) rfl rfl (Nat.le_of_ble_eq_true rfl) dX7_makes_6 (ppI ?_)
    refine gs_icmpN_ge (a := 2 ^ n) (b := 2 ^ n) (tgt := 73) k rfl rfl (by omega) (by omega) (by decide) dX7_makes_9 (fun c1 => ?_) (fun c1 => absurd c1 (by omega))
    refine gs_aload_n (q := 0) k rfl rfl dX7_makes_73 ?_
    refine gs_iload_n (q := 1) k rfl rfl dX7_makes_74 ?_
    refine gs_iload_n (q := 2) k rfl rfl dX7_makes_75 ?_
    refine gs_callV (As := [.int x, .int 1]) (k0 := 65) (ci := 7) (T := TX7) (N := 27) k (c_X7_becomes hI (Rn_rs (by omega) hn) (t := t) hx (by omega)) cf_X7_becomes im_X7_becomes sl_X7_becomes ml_X7_143 (hI 65 (by omega)) rfl rfl (by decide) rfl rfl (Nat.le_of_ble_eq_true rfl) dX7_makes_76 (ppV ?_)
    refine gs_aload_n (q := 0) k rfl rfl dX7_makes_79 ?_
    refine gs_get (C := RX7) (T := TX7) (N := 27) (ci := 7) (k0 := 65) (j := 8) k (hI 65 (by omega)) rfl rfl inX7 (by decide) fl_X7_39 rfl rfl dX7_makes_80 ?_
    refine gs_iload_n (q := 1) k rfl rfl dX7_makes_83 ?_
    refine gs_aaldIN (k0 := 73) (n := 6) (e := t) (a := E.2.2.1 (74 + t)) k (hI 73 (by omega)) (fun _ => rfl) hx (by omega) (by decide) rfl dX7_makes_84 ?_
    refine gs_iload_n (q := 3) k rfl rfl dX7_makes_85 ?_
    refine gs_ialdN (k0 := (74 + t)) (n := 64) (e := A) k (hI (74 + t) (by omega)) (ent_RV (by omega)) rfl (by omega) (by decide) dX7_makes_86 ?_
    refine gs_top (y := csum (M 66) n A) ((becR_v hA hn6).trans (rdraft A hA)) ?_
    exact gs_iret k kt dX7_makes_87 ⟨rfl, bec_same (by omega) (Same.r1 Same.rf (fun j => by unfold scr; omega)) rdraft⟩

set_option maxRecDepth 100000 in
set_option maxHeartbeats 4000000 in
theorem c_X7_makes2 {l : Launch} {E : Ev} {M : Mm} {n : Nat} (hI : ∀ k, k < 108 → k ∈ E.2.1) (hn : Rn M n) {x : Int32} {t : Nat} (hx : x = nI t) (ht : t < 6) {A : Nat} (hA : A < 2 ^ n) : Cm l E yX7_makes cX7_makes 5 (some .int) 2 [.ref (E.2.2.1 65), .int x, .int 2, .int (nI A)] M (pR (.int (vsum (M 68) (M 67) (nI A))) (becR n t 2 (fun s => vsum (M 68) (M 67) (nI s)) M)) := by
  refine Cm.of (by decide) (Nat.le_of_ble_eq_true rfl) (fun K k kt => ?_)
  show G l E K 0 [(0, .ref (E.2.2.1 65)), (1, .int x), (2, .int 2), (3, .int (nI A))] [] M
  obtain ⟨hn0, hn1, hn6⟩ := id hn
  have hp := p2_le6 hn6
  have hp2 := p2_ge2 hn1
  refine gs_iconst (v := 0) k (by decide) dX7_makes_0 ?_
  refine gs_istore (lv' := [(4, .int 0), (0, .ref (E.2.2.1 65)), (1, .int x), (2, .int 2), (3, .int (nI A))]) k (by decide) rfl dX7_makes_1 ?_
  refine gs_lv (lv' := [(0, .ref (E.2.2.1 65)), (1, .int x), (2, .int 2), (3, .int (nI A)), (4, .int 0)]) [1, 2, 3, 4, 0] rfl ?_
  refine gs_M (rset_same M 80).symm ?_
  refine for_up (σ := (Nat → Int32)) (fun s r => G l E K 3 [(0, .ref (E.2.2.1 65)), (1, .int x), (2, .int 2), (3, .int (nI A)), (4, .int (nI s))] [] (rset M 80 r)) (fun s r => upd r s (vsum (M 68) (M 67) (nI s))) (2 ^ n) (fun s r hs hGs => ?_) (2 ^ n) 0 (M 80) (by omega) ?_
  · show G l E K 3 [(0, .ref (E.2.2.1 65)), (1, .int x), (2, .int 2), (3, .int (nI A)), (4, .int (nI s))] [] (rset M 80 r)
    refine gs_iload (q := 4) k rfl dX7_makes_3 ?_
    refine gs_aload_n (q := 0) k rfl rfl dX7_makes_5 ?_
    refine gs_callV (As := []) (k0 := 65) (ci := 7) (T := TX7) (N := 27) k (c_X7_sets hI (Rn_rs (by omega) hn)) cf_X7_sets im_X7_sets sl_X7_sets ml_X7_83 (hI 65 (by omega)) rfl rfl (by decide) rfl rfl (Nat.le_of_ble_eq_true rfl) dX7_makes_6 (ppI ?_)
    refine gs_icmpN_ge (a := s) (b := 2 ^ n) (tgt := 73) k rfl rfl (by omega) (by omega) (by decide) dX7_makes_9 (fun c1 => absurd c1 (by omega)) (fun c1 => ?_)
    refine gs_aload_n (q := 0) k rfl rfl dX7_makes_12 ?_
    refine gs_get (C := RX7) (T := TX7) (N := 27) (ci := 7) (k0 := 65) (j := 9) k (hI 65 (by omega)) rfl rfl inX7 (by decide) fl_X7_42 rfl rfl dX7_makes_13 ?_
    refine gs_iload (q := 4) k rfl dX7_makes_16 ?_
    refine gs_iload_n (q := 2) k rfl rfl dX7_makes_18 ?_
    refine gs_iconst (v := 1) k (by decide) dX7_makes_19 ?_
    refine gs_icmp_ne (tgt := 32) k (by decide) dX7_makes_20 (fun _ => ?_) (fun h => absurd h (by decide))
    refine gs_iload_n (q := 2) k rfl rfl dX7_makes_32 ?_
    refine gs_iconst (v := 2) k (by decide) dX7_makes_33 ?_
    refine gs_icmp_ne (tgt := 46) k (by decide) dX7_makes_34 (fun h => absurd h (by decide)) (fun _ => ?_)
    refine gs_aload_n (q := 0) k rfl rfl dX7_makes_37 ?_
    refine gs_iload (q := 4) k rfl dX7_makes_38 ?_
    refine gs_callV (As := [.int (nI s)]) (k0 := 65) (ci := 7) (T := TX7) (N := 27) k (c_X7_coverOf hI) cf_X7_coverOf im_X7_coverOf sl_X7_coverOf ml_X7_150 (hI 65 (by omega)) rfl rfl (by decide) rfl rfl (Nat.le_of_ble_eq_true rfl) dX7_makes_40 (ppI ?_)
    refine gs_top (y := vsum (M 68) (M 67) (nI s)) rfl ?_
    refine gs_goto (tgt := 66) k (by decide) dX7_makes_43 ?_
    refine gs_iastN (k0 := 80) (n := 64) (e := s) k (hI 80 (by omega)) (fun _ => rfl) rfl (by omega) (by decide) dX7_makes_66 ?_
    refine gs_M (mw_rset _ _ _ _ _) ?_
    refine gs_iincN (q := 4) (a := s) (c := 1) (lv' := [(4, .int (nI (s + 1))), (0, .ref (E.2.2.1 65)), (1, .int x), (2, .int 2), (3, .int (nI A))]) k rfl rfl (by decide) rfl dX7_makes_67 ?_
    refine gs_goto (tgt := 3) k (by decide) dX7_makes_70 ?_
    refine gs_lv (lv' := [(0, .ref (E.2.2.1 65)), (1, .int x), (2, .int 2), (3, .int (nI A)), (4, .int (nI (s + 1)))]) [1, 2, 3, 4, 0] rfl ?_
    exact hGs _ rfl
  · show G l E K 3 [(0, .ref (E.2.2.1 65)), (1, .int x), (2, .int 2), (3, .int (nI A)), (4, .int (nI (2 ^ n)))] [] (rset M 80 (lp (fun s r => upd r s (vsum (M 68) (M 67) (nI s))) (2 ^ n) 0 (M 80)))
    rw [lp_setr]
    show G l E K 3 [(0, .ref (E.2.2.1 65)), (1, .int x), (2, .int 2), (3, .int (nI A)), (4, .int (nI (2 ^ n)))] [] (rset M 80 (setr (2 ^ n) (fun s => vsum (M 68) (M 67) (nI s)) (M 80)))
    refine gs_iload (q := 4) k rfl dX7_makes_3 ?_
    refine gs_aload_n (q := 0) k rfl rfl dX7_makes_5 ?_
    refine gs_callV (As := []) (k0 := 65) (ci := 7) (T := TX7) (N := 27) k (c_X7_sets hI (Rn_rs (by omega) hn)) cf_X7_sets im_X7_sets sl_X7_sets ml_X7_83 (hI 65 (by omega)) rfl rfl (by decide) rfl rfl (Nat.le_of_ble_eq_true rfl) dX7_makes_6 (ppI ?_)
    refine gs_icmpN_ge (a := 2 ^ n) (b := 2 ^ n) (tgt := 73) k rfl rfl (by omega) (by omega) (by decide) dX7_makes_9 (fun c1 => ?_) (fun c1 => absurd c1 (by omega))
    refine gs_aload_n (q := 0) k rfl rfl dX7_makes_73 ?_
    refine gs_iload_n (q := 1) k rfl rfl dX7_makes_74 ?_
    refine gs_iload_n (q := 2) k rfl rfl dX7_makes_75 ?_
    refine gs_callV (As := [.int x, .int 2]) (k0 := 65) (ci := 7) (T := TX7) (N := 27) k (c_X7_becomes hI (Rn_rs (by omega) hn) (t := t) hx (by omega)) cf_X7_becomes im_X7_becomes sl_X7_becomes ml_X7_143 (hI 65 (by omega)) rfl rfl (by decide) rfl rfl (Nat.le_of_ble_eq_true rfl) dX7_makes_76 (ppV ?_)
    refine gs_aload_n (q := 0) k rfl rfl dX7_makes_79 ?_
    refine gs_get (C := RX7) (T := TX7) (N := 27) (ci := 7) (k0 := 65) (j := 8) k (hI 65 (by omega)) rfl rfl inX7 (by decide) fl_X7_39 rfl rfl dX7_makes_80 ?_
    refine gs_iload_n (q := 1) k rfl rfl dX7_makes_83 ?_
    refine gs_aaldIN (k0 := 73) (n := 6) (e := t) (a := E.2.2.1 (74 + t)) k (hI 73 (by omega)) (fun _ => rfl) hx (by omega) (by decide) rfl dX7_makes_84 ?_
    refine gs_iload_n (q := 3) k rfl rfl dX7_makes_85 ?_
    refine gs_ialdN (k0 := (74 + t)) (n := 64) (e := A) k (hI (74 + t) (by omega)) (ent_RV (by omega)) rfl (by omega) (by decide) dX7_makes_86 ?_
    refine gs_top (y := vsum (M 68) (M 67) (nI A)) ((becR_v hA hn6).trans (rdraft A hA)) ?_
    exact gs_iret k kt dX7_makes_87 ⟨rfl, bec_same (by omega) (Same.r1 Same.rf (fun j => by unfold scr; omega)) rdraft⟩

set_option maxRecDepth 100000 in
set_option maxHeartbeats 4000000 in
theorem c_X7_makes3 {l : Launch} {E : Ev} {M : Mm} {n : Nat} (hI : ∀ k, k < 108 → k ∈ E.2.1) (hn : Rn M n) {x : Int32} {t : Nat} (hx : x = nI t) (ht : t < 6) {A : Nat} (hA : A < 2 ^ n) : Cm l E yX7_makes cX7_makes 5 (some .int) 2 [.ref (E.2.2.1 65), .int x, .int 3, .int (nI A)] M (pR (.int (ksum (M 69) (M 70) n A)) (becR n t 3 (fun s => ksum (M 69) (M 70) n s) M)) := by
  refine Cm.of (by decide) (Nat.le_of_ble_eq_true rfl) (fun K k kt => ?_)
  show G l E K 0 [(0, .ref (E.2.2.1 65)), (1, .int x), (2, .int 3), (3, .int (nI A))] [] M
  obtain ⟨hn0, hn1, hn6⟩ := id hn
  have hp := p2_le6 hn6
  have hp2 := p2_ge2 hn1
  refine gs_iconst (v := 0) k (by decide) dX7_makes_0 ?_
  refine gs_istore (lv' := [(4, .int 0), (0, .ref (E.2.2.1 65)), (1, .int x), (2, .int 3), (3, .int (nI A))]) k (by decide) rfl dX7_makes_1 ?_
  refine gs_lv (lv' := [(0, .ref (E.2.2.1 65)), (1, .int x), (2, .int 3), (3, .int (nI A)), (4, .int 0)]) [1, 2, 3, 4, 0] rfl ?_
  refine gs_M (rset_same M 80).symm ?_
  refine for_up (σ := (Nat → Int32)) (fun s r => G l E K 3 [(0, .ref (E.2.2.1 65)), (1, .int x), (2, .int 3), (3, .int (nI A)), (4, .int (nI s))] [] (rset M 80 r)) (fun s r => upd r s (ksum (M 69) (M 70) n s)) (2 ^ n) (fun s r hs hGs => ?_) (2 ^ n) 0 (M 80) (by omega) ?_
  · show G l E K 3 [(0, .ref (E.2.2.1 65)), (1, .int x), (2, .int 3), (3, .int (nI A)), (4, .int (nI s))] [] (rset M 80 r)
    refine gs_iload (q := 4) k rfl dX7_makes_3 ?_
    refine gs_aload_n (q := 0) k rfl rfl dX7_makes_5 ?_
    refine gs_callV (As := []) (k0 := 65) (ci := 7) (T := TX7) (N := 27) k (c_X7_sets hI (Rn_rs (by omega) hn)) cf_X7_sets im_X7_sets sl_X7_sets ml_X7_83 (hI 65 (by omega)) rfl rfl (by decide) rfl rfl (Nat.le_of_ble_eq_true rfl) dX7_makes_6 (ppI ?_)
    refine gs_icmpN_ge (a := s) (b := 2 ^ n) (tgt := 73) k rfl rfl (by omega) (by omega) (by decide) dX7_makes_9 (fun c1 => absurd c1 (by omega)) (fun c1 => ?_)
    refine gs_aload_n (q := 0) k rfl rfl dX7_makes_12 ?_
    refine gs_get (C := RX7) (T := TX7) (N := 27) (ci := 7) (k0 := 65) (j := 9) k (hI 65 (by omega)) rfl rfl inX7 (by decide) fl_X7_42 rfl rfl dX7_makes_13 ?_
    refine gs_iload (q := 4) k rfl dX7_makes_16 ?_
    refine gs_iload_n (q := 2) k rfl rfl dX7_makes_18 ?_
    refine gs_iconst (v := 1) k (by decide) dX7_makes_19 ?_
    refine gs_icmp_ne (tgt := 32) k (by decide) dX7_makes_20 (fun _ => ?_) (fun h => absurd h (by decide))
    refine gs_iload_n (q := 2) k rfl rfl dX7_makes_32 ?_
    refine gs_iconst (v := 2) k (by decide) dX7_makes_33 ?_
    refine gs_icmp_ne (tgt := 46) k (by decide) dX7_makes_34 (fun _ => ?_) (fun h => absurd h (by decide))
    refine gs_iload_n (q := 2) k rfl rfl dX7_makes_46 ?_
    refine gs_iconst (v := 3) k (by decide) dX7_makes_47 ?_
    refine gs_icmp_ne (tgt := 60) k (by decide) dX7_makes_48 (fun h => absurd h (by decide)) (fun _ => ?_)
    refine gs_aload_n (q := 0) k rfl rfl dX7_makes_51 ?_
    refine gs_iload (q := 4) k rfl dX7_makes_52 ?_
    refine gs_callV (As := [.int (nI s)]) (k0 := 65) (ci := 7) (T := TX7) (N := 27) k (c_X7_cappedOf (S := s) hI (Rn_rs (by omega) hn) rfl (by omega)) cf_X7_cappedOf im_X7_cappedOf sl_X7_cappedOf ml_X7_153 (hI 65 (by omega)) rfl rfl (by decide) rfl rfl (Nat.le_of_ble_eq_true rfl) dX7_makes_54 (ppI ?_)
    refine gs_top (y := ksum (M 69) (M 70) n s) rfl ?_
    refine gs_goto (tgt := 66) k (by decide) dX7_makes_57 ?_
    refine gs_iastN (k0 := 80) (n := 64) (e := s) k (hI 80 (by omega)) (fun _ => rfl) rfl (by omega) (by decide) dX7_makes_66 ?_
    refine gs_M (mw_rset _ _ _ _ _) ?_
    refine gs_iincN (q := 4) (a := s) (c := 1) (lv' := [(4, .int (nI (s + 1))), (0, .ref (E.2.2.1 65)), (1, .int x), (2, .int 3), (3, .int (nI A))]) k rfl rfl (by decide) rfl dX7_makes_67 ?_
    refine gs_goto (tgt := 3) k (by decide) dX7_makes_70 ?_
    refine gs_lv (lv' := [(0, .ref (E.2.2.1 65)), (1, .int x), (2, .int 3), (3, .int (nI A)), (4, .int (nI (s + 1)))]) [1, 2, 3, 4, 0] rfl ?_
    exact hGs _ rfl
  · show G l E K 3 [(0, .ref (E.2.2.1 65)), (1, .int x), (2, .int 3), (3, .int (nI A)), (4, .int (nI (2 ^ n)))] [] (rset M 80 (lp (fun s r => upd r s (ksum (M 69) (M 70) n s)) (2 ^ n) 0 (M 80)))
    rw [lp_setr]
    show G l E K 3 [(0, .ref (E.2.2.1 65)), (1, .int x), (2, .int 3), (3, .int (nI A)), (4, .int (nI (2 ^ n)))] [] (rset M 80 (setr (2 ^ n) (fun s => ksum (M 69) (M 70) n s) (M 80)))
    refine gs_iload (q := 4) k rfl dX7_makes_3 ?_
    refine gs_aload_n (q := 0) k rfl rfl dX7_makes_5 ?_
    refine gs_callV (As := []) (k0 := 65) (ci := 7) (T := TX7) (N := 27) k (c_X7_sets hI (Rn_rs (by omega) hn)) cf_X7_sets im_X7_sets sl_X7_sets ml_X7_83 (hI 65 (by omega)) rfl rfl (by decide) rfl rfl (Nat.le_of_ble_eq_true rfl) dX7_makes_6 (ppI ?_)
    refine gs_icmpN_ge (a := 2 ^ n) (b := 2 ^ n) (tgt := 73) k rfl rfl (by omega) (by omega) (by decide) dX7_makes_9 (fun c1 => ?_) (fun c1 => absurd c1 (by omega))
    refine gs_aload_n (q := 0) k rfl rfl dX7_makes_73 ?_
    refine gs_iload_n (q := 1) k rfl rfl dX7_makes_74 ?_
    refine gs_iload_n (q := 2) k rfl rfl dX7_makes_75 ?_
    refine gs_callV (As := [.int x, .int 3]) (k0 := 65) (ci := 7) (T := TX7) (N := 27) k (c_X7_becomes hI (Rn_rs (by omega) hn) (t := t) hx (by omega)) cf_X7_becomes im_X7_becomes sl_X7_becomes ml_X7_143 (hI 65 (by omega)) rfl rfl (by decide) rfl rfl (Nat.le_of_ble_eq_true rfl) dX7_makes_76 (ppV ?_)
    refine gs_aload_n (q := 0) k rfl rfl dX7_makes_79 ?_
    refine gs_get (C := RX7) (T := TX7) (N := 27) (ci := 7) (k0 := 65) (j := 8) k (hI 65 (by omega)) rfl rfl inX7 (by decide) fl_X7_39 rfl rfl dX7_makes_80 ?_
    refine gs_iload_n (q := 1) k rfl rfl dX7_makes_83 ?_
    refine gs_aaldIN (k0 := 73) (n := 6) (e := t) (a := E.2.2.1 (74 + t)) k (hI 73 (by omega)) (fun _ => rfl) hx (by omega) (by decide) rfl dX7_makes_84 ?_
    refine gs_iload_n (q := 3) k rfl rfl dX7_makes_85 ?_
    refine gs_ialdN (k0 := (74 + t)) (n := 64) (e := A) k (hI (74 + t) (by omega)) (ent_RV (by omega)) rfl (by omega) (by decide) dX7_makes_86 ?_
    refine gs_top (y := ksum (M 69) (M 70) n A) ((becR_v hA hn6).trans (rdraft A hA)) ?_
    exact gs_iret k kt dX7_makes_87 ⟨rfl, bec_same (by omega) (Same.r1 Same.rf (fun j => by unfold scr; omega)) rdraft⟩

set_option maxRecDepth 100000 in
set_option maxHeartbeats 4000000 in
theorem c_X7_makes4 {l : Launch} {E : Ev} {M : Mm} {n : Nat} (hI : ∀ k, k < 108 → k ∈ E.2.1) (hn : Rn M n) {x : Int32} {t : Nat} (hx : x = nI t) (ht : t < 6) {A : Nat} (hA : A < 2 ^ n) : Cm l E yX7_makes cX7_makes 5 (some .int) 2 [.ref (E.2.2.1 65), .int x, .int 4, .int (nI A)] M (pR (.int (wsum (M 71) n A)) (becR n t 4 (fun s => wsum (M 71) n s) M)) := by
  refine Cm.of (by decide) (Nat.le_of_ble_eq_true rfl) (fun K k kt => ?_)
  show G l E K 0 [(0, .ref (E.2.2.1 65)), (1, .int x), (2, .int 4), (3, .int (nI A))] [] M
  obtain ⟨hn0, hn1, hn6⟩ := id hn
  have hp := p2_le6 hn6
  have hp2 := p2_ge2 hn1
  refine gs_iconst (v := 0) k (by decide) dX7_makes_0 ?_
  refine gs_istore (lv' := [(4, .int 0), (0, .ref (E.2.2.1 65)), (1, .int x), (2, .int 4), (3, .int (nI A))]) k (by decide) rfl dX7_makes_1 ?_
  refine gs_lv (lv' := [(0, .ref (E.2.2.1 65)), (1, .int x), (2, .int 4), (3, .int (nI A)), (4, .int 0)]) [1, 2, 3, 4, 0] rfl ?_
  refine gs_M (rset_same M 80).symm ?_
  refine for_up (σ := (Nat → Int32)) (fun s r => G l E K 3 [(0, .ref (E.2.2.1 65)), (1, .int x), (2, .int 4), (3, .int (nI A)), (4, .int (nI s))] [] (rset M 80 r)) (fun s r => upd r s (wsum (M 71) n s)) (2 ^ n) (fun s r hs hGs => ?_) (2 ^ n) 0 (M 80) (by omega) ?_
  · show G l E K 3 [(0, .ref (E.2.2.1 65)), (1, .int x), (2, .int 4), (3, .int (nI A)), (4, .int (nI s))] [] (rset M 80 r)
    refine gs_iload (q := 4) k rfl dX7_makes_3 ?_
    refine gs_aload_n (q := 0) k rfl rfl dX7_makes_5 ?_
    refine gs_callV (As := []) (k0 := 65) (ci := 7) (T := TX7) (N := 27) k (c_X7_sets hI (Rn_rs (by omega) hn)) cf_X7_sets im_X7_sets sl_X7_sets ml_X7_83 (hI 65 (by omega)) rfl rfl (by decide) rfl rfl (Nat.le_of_ble_eq_true rfl) dX7_makes_6 (ppI ?_)
    refine gs_icmpN_ge (a := s) (b := 2 ^ n) (tgt := 73) k rfl rfl (by omega) (by omega) (by decide) dX7_makes_9 (fun c1 => absurd c1 (by omega)) (fun c1 => ?_)
    refine gs_aload_n (q := 0) k rfl rfl dX7_makes_12 ?_
    refine gs_get (C := RX7) (T := TX7) (N := 27) (ci := 7) (k0 := 65) (j := 9) k (hI 65 (by omega)) rfl rfl inX7 (by decide) fl_X7_42 rfl rfl dX7_makes_13 ?_
    refine gs_iload (q := 4) k rfl dX7_makes_16 ?_
    refine gs_iload_n (q := 2) k rfl rfl dX7_makes_18 ?_
    refine gs_iconst (v := 1) k (by decide) dX7_makes_19 ?_
    refine gs_icmp_ne (tgt := 32) k (by decide) dX7_makes_20 (fun _ => ?_) (fun h => absurd h (by decide))
    refine gs_iload_n (q := 2) k rfl rfl dX7_makes_32 ?_
    refine gs_iconst (v := 2) k (by decide) dX7_makes_33 ?_
    refine gs_icmp_ne (tgt := 46) k (by decide) dX7_makes_34 (fun _ => ?_) (fun h => absurd h (by decide))
    refine gs_iload_n (q := 2) k rfl rfl dX7_makes_46 ?_
    refine gs_iconst (v := 3) k (by decide) dX7_makes_47 ?_
    refine gs_icmp_ne (tgt := 60) k (by decide) dX7_makes_48 (fun _ => ?_) (fun h => absurd h (by decide))
    refine gs_aload_n (q := 0) k rfl rfl dX7_makes_60 ?_
    refine gs_iload (q := 4) k rfl dX7_makes_61 ?_
    refine gs_callV (As := [.int (nI s)]) (k0 := 65) (ci := 7) (T := TX7) (N := 27) k (c_X7_weightOf (S := s) hI (Rn_rs (by omega) hn) rfl (by omega)) cf_X7_weightOf im_X7_weightOf sl_X7_weightOf ml_X7_156 (hI 65 (by omega)) rfl rfl (by decide) rfl rfl (Nat.le_of_ble_eq_true rfl) dX7_makes_63 (ppI ?_)
    refine gs_top (y := wsum (M 71) n s) rfl ?_
    refine gs_iastN (k0 := 80) (n := 64) (e := s) k (hI 80 (by omega)) (fun _ => rfl) rfl (by omega) (by decide) dX7_makes_66 ?_
    refine gs_M (mw_rset _ _ _ _ _) ?_
    refine gs_iincN (q := 4) (a := s) (c := 1) (lv' := [(4, .int (nI (s + 1))), (0, .ref (E.2.2.1 65)), (1, .int x), (2, .int 4), (3, .int (nI A))]) k rfl rfl (by decide) rfl dX7_makes_67 ?_
    refine gs_goto (tgt := 3) k (by decide) dX7_makes_70 ?_
    refine gs_lv (lv' := [(0, .ref (E.2.2.1 65)), (1, .int x), (2, .int 4), (3, .int (nI A)), (4, .int (nI (s + 1)))]) [1, 2, 3, 4, 0] rfl ?_
    exact hGs _ rfl
  · show G l E K 3 [(0, .ref (E.2.2.1 65)), (1, .int x), (2, .int 4), (3, .int (nI A)), (4, .int (nI (2 ^ n)))] [] (rset M 80 (lp (fun s r => upd r s (wsum (M 71) n s)) (2 ^ n) 0 (M 80)))
    rw [lp_setr]
    show G l E K 3 [(0, .ref (E.2.2.1 65)), (1, .int x), (2, .int 4), (3, .int (nI A)), (4, .int (nI (2 ^ n)))] [] (rset M 80 (setr (2 ^ n) (fun s => wsum (M 71) n s) (M 80)))
    refine gs_iload (q := 4) k rfl dX7_makes_3 ?_
    refine gs_aload_n (q := 0) k rfl rfl dX7_makes_5 ?_
    refine gs_callV (As := []) (k0 := 65) (ci := 7) (T := TX7) (N := 27) k (c_X7_sets hI (Rn_rs (by omega) hn)) cf_X7_sets im_X7_sets sl_X7_sets ml_X7_83 (hI 65 (by omega)) rfl rfl (by decide) rfl rfl (Nat.le_of_ble_eq_true rfl) dX7_makes_6 (ppI ?_)
    refine gs_icmpN_ge (a := 2 ^ n) (b := 2 ^ n) (tgt := 73) k rfl rfl (by omega) (by omega) (by decide) dX7_makes_9 (fun c1 => ?_) (fun c1 => absurd c1 (by omega))
    refine gs_aload_n (q := 0) k rfl rfl dX7_makes_73 ?_
    refine gs_iload_n (q := 1) k rfl rfl dX7_makes_74 ?_
    refine gs_iload_n (q := 2) k rfl rfl dX7_makes_75 ?_
    refine gs_callV (As := [.int x, .int 4]) (k0 := 65) (ci := 7) (T := TX7) (N := 27) k (c_X7_becomes hI (Rn_rs (by omega) hn) (t := t) hx (by omega)) cf_X7_becomes im_X7_becomes sl_X7_becomes ml_X7_143 (hI 65 (by omega)) rfl rfl (by decide) rfl rfl (Nat.le_of_ble_eq_true rfl) dX7_makes_76 (ppV ?_)
    refine gs_aload_n (q := 0) k rfl rfl dX7_makes_79 ?_
    refine gs_get (C := RX7) (T := TX7) (N := 27) (ci := 7) (k0 := 65) (j := 8) k (hI 65 (by omega)) rfl rfl inX7 (by decide) fl_X7_39 rfl rfl dX7_makes_80 ?_
    refine gs_iload_n (q := 1) k rfl rfl dX7_makes_83 ?_
    refine gs_aaldIN (k0 := 73) (n := 6) (e := t) (a := E.2.2.1 (74 + t)) k (hI 73 (by omega)) (fun _ => rfl) hx (by omega) (by decide) rfl dX7_makes_84 ?_
    refine gs_iload_n (q := 3) k rfl rfl dX7_makes_85 ?_
    refine gs_ialdN (k0 := (74 + t)) (n := 64) (e := A) k (hI (74 + t) (by omega)) (ent_RV (by omega)) rfl (by omega) (by decide) dX7_makes_86 ?_
    refine gs_top (y := wsum (M 71) n A) ((becR_v hA hn6).trans (rdraft A hA)) ?_
    exact gs_iret k kt dX7_makes_87 ⟨rfl, bec_same (by omega) (Same.r1 Same.rf (fun j => by unfold scr; omega)) rdraft⟩

noncomputable def A_kind (v : Int32) (f : Int32) : Int32 := ifc (inR f 6) v (-1)
noncomputable def U_kind (U : Mm) (f : Int32) (M : Mm) : Mm := ifc (inR f 6) U M
theorem cf_X6_cut : CF yX6_cut cX6_cut 2 (some .int) 1 := ⟨cd_X6_cut, iz_X6, by decide, by decide +kernel, by decide +kernel, by decide +kernel⟩
set_option maxRecDepth 100000 in
set_option maxHeartbeats 4000000 in
theorem c_X6_cut {l : Launch} {E : Ev} {M : Mm} {n : Nat} (hI : ∀ k, k < 108 → k ∈ E.2.1) (hn : Cn M n) {f : Int32} : Cm l E yX6_cut cX6_cut 2 (some .int) 4 [.ref (E.2.2.1 0), .int f] M (pR (.int (A_kind (csum (M 2) n (2 ^ n - 2)) f)) (U_kind (fsetC n (tn f) 1 (fun s => csum (M 2) n s) M) f M)) := by
  refine Cm.of (by decide) (Nat.le_of_ble_eq_true rfl) (fun K k kt => ?_)
  show G l E K 0 [(0, .ref (E.2.2.1 0)), (1, .int f)] [] M
  obtain ⟨hn0, hn1, hn6⟩ := id hn
  have hp := p2_le6 hn6
  have hp2 := p2_ge2 hn1
  refine gs_iload_n (q := 1) k rfl rfl dX6_cut_0 ?_
  refine gs_callS (As := [.int f]) k c_X6_isFunction cf_X6_isFunction sm_X6_isFunction ml_X6_101 (by decide) rfl rfl (Nat.le_of_ble_eq_true rfl) dX6_cut_1 (ppB (fun c1 => ?_) (fun c1 => ?_))
  · have bc1 := inR_lt c1
    refine gs_if_eq (tgt := 26) k (by decide) dX6_cut_4 (fun h => absurd h (by decide)) (fun _ => ?_)
    refine gs_aload_n (q := 0) k rfl rfl dX6_cut_7 ?_
    refine gs_iload_n (q := 1) k rfl rfl dX6_cut_8 ?_
    refine gs_iconst (v := 1) k (by decide) dX6_cut_9 ?_
    refine gs_aload_n (q := 0) k rfl rfl dX6_cut_10 ?_
    refine gs_get (C := RX6) (T := TX6) (N := 10) (ci := 6) (k0 := 0) (j := 0) k (hI 0 (by omega)) rfl rfl inX6 (by decide) fl_X6_12 rfl rfl dX6_cut_11 ?_
    refine gs_callV (As := []) (k0 := 1) (ci := 5) (T := TX5) (N := 9) k (c_X5_all hI hn) cf_X5_all im_X5_all sl_X5_all ml_X6_119 (hI 1 (by omega)) rfl rfl (by decide) rfl rfl (Nat.le_of_ble_eq_true rfl) dX6_cut_14 (ppI ?_)
    refine gs_bipush (v := -2) k (by decide) dX6_cut_17 ?_
    refine gs_iand k dX6_cut_19 ?_
    refine gs_top (y := nI (2 ^ n - 2)) (ni_all1 hn6) ?_
    refine gs_callV (As := [.int f, .int 1, .int (nI (2 ^ n - 2))]) (k0 := 0) (ci := 6) (T := TX6) (N := 10) k (c_X6_setFromData1 (t := tn f) (A := 2 ^ n - 2) hI hn (inR_eq c1) (by omega) (by omega)) cf_X6_setFromData im_X6_setFromData sl_X6_setFromData ml_X6_123 (hI 0 (by omega)) rfl rfl (by decide) rfl rfl (Nat.le_of_ble_eq_true rfl) dX6_cut_20 (ppR (fun m1 hm1 => ?_))
    refine gs_goto (tgt := 27) k (by decide) dX6_cut_23 ?_
    exact gs_iret k kt dX6_cut_27 ⟨(by simp [A_kind, U_kind, ifc_T, ifc_F, c1]), Same.of (X := (fsetC n (tn f) 1 (fun s => csum (M 2) n s) M)) (by simp [A_kind, U_kind, ifc_T, ifc_F, c1]) hm1⟩
  · refine gs_if_eq (tgt := 26) k (by decide) dX6_cut_4 (fun _ => ?_) (fun h => absurd h (by decide))
    refine gs_iconst (v := -1) k (by decide) dX6_cut_26 ?_
    exact gs_iret k kt dX6_cut_27 ⟨(by simp [A_kind, U_kind, ifc_T, ifc_F, c1]), Same.of (X := M) (by simp [A_kind, U_kind, ifc_T, ifc_F, c1]) Same.rf⟩

theorem cf_X7_cut : CF yX7_cut cX7_cut 2 (some .int) 1 := ⟨cd_X7_cut, iz_X7, by decide, by decide +kernel, by decide +kernel, by decide +kernel⟩
set_option maxRecDepth 100000 in
set_option maxHeartbeats 4000000 in
theorem c_X7_cut {l : Launch} {E : Ev} {M : Mm} {n : Nat} (hI : ∀ k, k < 108 → k ∈ E.2.1) (hn : Rn M n) {f : Int32} : Cm l E yX7_cut cX7_cut 2 (some .int) 3 [.ref (E.2.2.1 65), .int f] M (pR (.int (A_kind (csum (M 66) n (2 ^ n - 2)) f)) (U_kind (becR n (tn f) 1 (fun s => csum (M 66) n s) M) f M)) := by
  refine Cm.of (by decide) (Nat.le_of_ble_eq_true rfl) (fun K k kt => ?_)
  show G l E K 0 [(0, .ref (E.2.2.1 65)), (1, .int f)] [] M
  obtain ⟨hn0, hn1, hn6⟩ := id hn
  have hp := p2_le6 hn6
  have hp2 := p2_ge2 hn1
  refine gs_iload_n (q := 1) k rfl rfl dX7_cut_0 ?_
  refine gs_callS (As := [.int f]) k c_X7_isFunction cf_X7_isFunction sm_X7_isFunction ml_X7_128 (by decide) rfl rfl (Nat.le_of_ble_eq_true rfl) dX7_cut_1 (ppB (fun c1 => ?_) (fun c1 => ?_))
  · have bc1 := inR_lt c1
    refine gs_if_eq (tgt := 23) k (by decide) dX7_cut_4 (fun h => absurd h (by decide)) (fun _ => ?_)
    refine gs_aload_n (q := 0) k rfl rfl dX7_cut_7 ?_
    refine gs_iload_n (q := 1) k rfl rfl dX7_cut_8 ?_
    refine gs_iconst (v := 1) k (by decide) dX7_cut_9 ?_
    refine gs_aload_n (q := 0) k rfl rfl dX7_cut_10 ?_
    refine gs_callV (As := []) (k0 := 65) (ci := 7) (T := TX7) (N := 27) k (c_X7_all hI hn) cf_X7_all im_X7_all sl_X7_all ml_X7_87 (hI 65 (by omega)) rfl rfl (by decide) rfl rfl (Nat.le_of_ble_eq_true rfl) dX7_cut_11 (ppI ?_)
    refine gs_bipush (v := -2) k (by decide) dX7_cut_14 ?_
    refine gs_iand k dX7_cut_16 ?_
    refine gs_top (y := nI (2 ^ n - 2)) (ni_all1 hn6) ?_
    refine gs_callV (As := [.int f, .int 1, .int (nI (2 ^ n - 2))]) (k0 := 65) (ci := 7) (T := TX7) (N := 27) k (c_X7_makes1 (t := tn f) (A := 2 ^ n - 2) hI hn (inR_eq c1) (by omega) (by omega)) cf_X7_makes im_X7_makes sl_X7_makes ml_X7_159 (hI 65 (by omega)) rfl rfl (by decide) rfl rfl (Nat.le_of_ble_eq_true rfl) dX7_cut_17 (ppR (fun m2 hm2 => ?_))
    refine gs_goto (tgt := 24) k (by decide) dX7_cut_20 ?_
    exact gs_iret k kt dX7_cut_24 ⟨(by simp [A_kind, U_kind, ifc_T, ifc_F, c1]), Same.of (X := (becR n (tn f) 1 (fun s => csum (M 66) n s) M)) (by simp [A_kind, U_kind, ifc_T, ifc_F, c1]) hm2⟩
  · refine gs_if_eq (tgt := 23) k (by decide) dX7_cut_4 (fun _ => ?_) (fun h => absurd h (by decide))
    refine gs_iconst (v := -1) k (by decide) dX7_cut_23 ?_
    exact gs_iret k kt dX7_cut_24 ⟨(by simp [A_kind, U_kind, ifc_T, ifc_F, c1]), Same.of (X := M) (by simp [A_kind, U_kind, ifc_T, ifc_F, c1]) Same.rf⟩

theorem cf_X6_cover : CF yX6_cover cX6_cover 2 (some .int) 1 := ⟨cd_X6_cover, iz_X6, by decide, by decide +kernel, by decide +kernel, by decide +kernel⟩
set_option maxRecDepth 100000 in
set_option maxHeartbeats 4000000 in
theorem c_X6_cover {l : Launch} {E : Ev} {M : Mm} {n : Nat} (hI : ∀ k, k < 108 → k ∈ E.2.1) (hn : Cn M n) {f : Int32} : Cm l E yX6_cover cX6_cover 2 (some .int) 4 [.ref (E.2.2.1 0), .int f] M (pR (.int (A_kind (vsum (M 4) (M 3) (nI (2 ^ n - 1))) f)) (U_kind (fsetC n (tn f) 2 (fun s => vsum (M 4) (M 3) (nI s)) M) f M)) := by
  refine Cm.of (by decide) (Nat.le_of_ble_eq_true rfl) (fun K k kt => ?_)
  show G l E K 0 [(0, .ref (E.2.2.1 0)), (1, .int f)] [] M
  obtain ⟨hn0, hn1, hn6⟩ := id hn
  have hp := p2_le6 hn6
  have hp2 := p2_ge2 hn1
  refine gs_iload_n (q := 1) k rfl rfl dX6_cover_0 ?_
  refine gs_callS (As := [.int f]) k c_X6_isFunction cf_X6_isFunction sm_X6_isFunction ml_X6_101 (by decide) rfl rfl (Nat.le_of_ble_eq_true rfl) dX6_cover_1 (ppB (fun c1 => ?_) (fun c1 => ?_))
  · have bc1 := inR_lt c1
    refine gs_if_eq (tgt := 23) k (by decide) dX6_cover_4 (fun h => absurd h (by decide)) (fun _ => ?_)
    refine gs_aload_n (q := 0) k rfl rfl dX6_cover_7 ?_
    refine gs_iload_n (q := 1) k rfl rfl dX6_cover_8 ?_
    refine gs_iconst (v := 2) k (by decide) dX6_cover_9 ?_
    refine gs_aload_n (q := 0) k rfl rfl dX6_cover_10 ?_
    refine gs_get (C := RX6) (T := TX6) (N := 10) (ci := 6) (k0 := 0) (j := 0) k (hI 0 (by omega)) rfl rfl inX6 (by decide) fl_X6_12 rfl rfl dX6_cover_11 ?_
    refine gs_callV (As := []) (k0 := 1) (ci := 5) (T := TX5) (N := 9) k (c_X5_all hI hn) cf_X5_all im_X5_all sl_X5_all ml_X6_119 (hI 1 (by omega)) rfl rfl (by decide) rfl rfl (Nat.le_of_ble_eq_true rfl) dX6_cover_14 (ppI ?_)
    refine gs_callV (As := [.int f, .int 2, .int (nI (2 ^ n - 1))]) (k0 := 0) (ci := 6) (T := TX6) (N := 10) k (c_X6_setFromData2 (t := tn f) (A := 2 ^ n - 1) hI hn (inR_eq c1) (by omega) (by omega)) cf_X6_setFromData im_X6_setFromData sl_X6_setFromData ml_X6_123 (hI 0 (by omega)) rfl rfl (by decide) rfl rfl (Nat.le_of_ble_eq_true rfl) dX6_cover_17 (ppR (fun m3 hm3 => ?_))
    refine gs_goto (tgt := 24) k (by decide) dX6_cover_20 ?_
    exact gs_iret k kt dX6_cover_24 ⟨(by simp [A_kind, U_kind, ifc_T, ifc_F, c1]), Same.of (X := (fsetC n (tn f) 2 (fun s => vsum (M 4) (M 3) (nI s)) M)) (by simp [A_kind, U_kind, ifc_T, ifc_F, c1]) hm3⟩
  · refine gs_if_eq (tgt := 23) k (by decide) dX6_cover_4 (fun _ => ?_) (fun h => absurd h (by decide))
    refine gs_iconst (v := -1) k (by decide) dX6_cover_23 ?_
    exact gs_iret k kt dX6_cover_24 ⟨(by simp [A_kind, U_kind, ifc_T, ifc_F, c1]), Same.of (X := M) (by simp [A_kind, U_kind, ifc_T, ifc_F, c1]) Same.rf⟩

theorem cf_X7_cover : CF yX7_cover cX7_cover 2 (some .int) 1 := ⟨cd_X7_cover, iz_X7, by decide, by decide +kernel, by decide +kernel, by decide +kernel⟩
set_option maxRecDepth 100000 in
set_option maxHeartbeats 4000000 in
theorem c_X7_cover {l : Launch} {E : Ev} {M : Mm} {n : Nat} (hI : ∀ k, k < 108 → k ∈ E.2.1) (hn : Rn M n) {f : Int32} : Cm l E yX7_cover cX7_cover 2 (some .int) 3 [.ref (E.2.2.1 65), .int f] M (pR (.int (A_kind (vsum (M 68) (M 67) (nI (2 ^ n - 1))) f)) (U_kind (becR n (tn f) 2 (fun s => vsum (M 68) (M 67) (nI s)) M) f M)) := by
  refine Cm.of (by decide) (Nat.le_of_ble_eq_true rfl) (fun K k kt => ?_)
  show G l E K 0 [(0, .ref (E.2.2.1 65)), (1, .int f)] [] M
  obtain ⟨hn0, hn1, hn6⟩ := id hn
  have hp := p2_le6 hn6
  have hp2 := p2_ge2 hn1
  refine gs_iload_n (q := 1) k rfl rfl dX7_cover_0 ?_
  refine gs_callS (As := [.int f]) k c_X7_isFunction cf_X7_isFunction sm_X7_isFunction ml_X7_128 (by decide) rfl rfl (Nat.le_of_ble_eq_true rfl) dX7_cover_1 (ppB (fun c1 => ?_) (fun c1 => ?_))
  · have bc1 := inR_lt c1
    refine gs_if_eq (tgt := 20) k (by decide) dX7_cover_4 (fun h => absurd h (by decide)) (fun _ => ?_)
    refine gs_aload_n (q := 0) k rfl rfl dX7_cover_7 ?_
    refine gs_iload_n (q := 1) k rfl rfl dX7_cover_8 ?_
    refine gs_iconst (v := 2) k (by decide) dX7_cover_9 ?_
    refine gs_aload_n (q := 0) k rfl rfl dX7_cover_10 ?_
    refine gs_callV (As := []) (k0 := 65) (ci := 7) (T := TX7) (N := 27) k (c_X7_all hI hn) cf_X7_all im_X7_all sl_X7_all ml_X7_87 (hI 65 (by omega)) rfl rfl (by decide) rfl rfl (Nat.le_of_ble_eq_true rfl) dX7_cover_11 (ppI ?_)
    refine gs_callV (As := [.int f, .int 2, .int (nI (2 ^ n - 1))]) (k0 := 65) (ci := 7) (T := TX7) (N := 27) k (c_X7_makes2 (t := tn f) (A := 2 ^ n - 1) hI hn (inR_eq c1) (by omega) (by omega)) cf_X7_makes im_X7_makes sl_X7_makes ml_X7_159 (hI 65 (by omega)) rfl rfl (by decide) rfl rfl (Nat.le_of_ble_eq_true rfl) dX7_cover_14 (ppR (fun m4 hm4 => ?_))
    refine gs_goto (tgt := 21) k (by decide) dX7_cover_17 ?_
    exact gs_iret k kt dX7_cover_21 ⟨(by simp [A_kind, U_kind, ifc_T, ifc_F, c1]), Same.of (X := (becR n (tn f) 2 (fun s => vsum (M 68) (M 67) (nI s)) M)) (by simp [A_kind, U_kind, ifc_T, ifc_F, c1]) hm4⟩
  · refine gs_if_eq (tgt := 20) k (by decide) dX7_cover_4 (fun _ => ?_) (fun h => absurd h (by decide))
    refine gs_iconst (v := -1) k (by decide) dX7_cover_20 ?_
    exact gs_iret k kt dX7_cover_21 ⟨(by simp [A_kind, U_kind, ifc_T, ifc_F, c1]), Same.of (X := M) (by simp [A_kind, U_kind, ifc_T, ifc_F, c1]) Same.rf⟩

theorem cf_X6_capped : CF yX6_capped cX6_capped 2 (some .int) 1 := ⟨cd_X6_capped, iz_X6, by decide, by decide +kernel, by decide +kernel, by decide +kernel⟩
set_option maxRecDepth 100000 in
set_option maxHeartbeats 4000000 in
theorem c_X6_capped {l : Launch} {E : Ev} {M : Mm} {n : Nat} (hI : ∀ k, k < 108 → k ∈ E.2.1) (hn : Cn M n) (hbl : ∀ p, p < 6 → inR (M 5 p) 6) {f : Int32} : Cm l E yX6_capped cX6_capped 2 (some .int) 4 [.ref (E.2.2.1 0), .int f] M (pR (.int (A_kind (ksum (M 5) (M 6) n (2 ^ n - 1)) f)) (U_kind (fsetC n (tn f) 3 (fun s => ksum (M 5) (M 6) n s) M) f M)) := by
  refine Cm.of (by decide) (Nat.le_of_ble_eq_true rfl) (fun K k kt => ?_)
  show G l E K 0 [(0, .ref (E.2.2.1 0)), (1, .int f)] [] M
  obtain ⟨hn0, hn1, hn6⟩ := id hn
  have hp := p2_le6 hn6
  have hp2 := p2_ge2 hn1
  refine gs_iload_n (q := 1) k rfl rfl dX6_capped_0 ?_
  refine gs_callS (As := [.int f]) k c_X6_isFunction cf_X6_isFunction sm_X6_isFunction ml_X6_101 (by decide) rfl rfl (Nat.le_of_ble_eq_true rfl) dX6_capped_1 (ppB (fun c1 => ?_) (fun c1 => ?_))
  · have bc1 := inR_lt c1
    refine gs_if_eq (tgt := 23) k (by decide) dX6_capped_4 (fun h => absurd h (by decide)) (fun _ => ?_)
    refine gs_aload_n (q := 0) k rfl rfl dX6_capped_7 ?_
    refine gs_iload_n (q := 1) k rfl rfl dX6_capped_8 ?_
    refine gs_iconst (v := 3) k (by decide) dX6_capped_9 ?_
    refine gs_aload_n (q := 0) k rfl rfl dX6_capped_10 ?_
    refine gs_get (C := RX6) (T := TX6) (N := 10) (ci := 6) (k0 := 0) (j := 0) k (hI 0 (by omega)) rfl rfl inX6 (by decide) fl_X6_12 rfl rfl dX6_capped_11 ?_
    refine gs_callV (As := []) (k0 := 1) (ci := 5) (T := TX5) (N := 9) k (c_X5_all hI hn) cf_X5_all im_X5_all sl_X5_all ml_X6_119 (hI 1 (by omega)) rfl rfl (by decide) rfl rfl (Nat.le_of_ble_eq_true rfl) dX6_capped_14 (ppI ?_)
    refine gs_callV (As := [.int f, .int 3, .int (nI (2 ^ n - 1))]) (k0 := 0) (ci := 6) (T := TX6) (N := 10) k (c_X6_setFromData3 (t := tn f) (A := 2 ^ n - 1) hI hn hbl (inR_eq c1) (by omega) (by omega)) cf_X6_setFromData im_X6_setFromData sl_X6_setFromData ml_X6_123 (hI 0 (by omega)) rfl rfl (by decide) rfl rfl (Nat.le_of_ble_eq_true rfl) dX6_capped_17 (ppR (fun m5 hm5 => ?_))
    refine gs_goto (tgt := 24) k (by decide) dX6_capped_20 ?_
    exact gs_iret k kt dX6_capped_24 ⟨(by simp [A_kind, U_kind, ifc_T, ifc_F, c1]), Same.of (X := (fsetC n (tn f) 3 (fun s => ksum (M 5) (M 6) n s) M)) (by simp [A_kind, U_kind, ifc_T, ifc_F, c1]) hm5⟩
  · refine gs_if_eq (tgt := 23) k (by decide) dX6_capped_4 (fun _ => ?_) (fun h => absurd h (by decide))
    refine gs_iconst (v := -1) k (by decide) dX6_capped_23 ?_
    exact gs_iret k kt dX6_capped_24 ⟨(by simp [A_kind, U_kind, ifc_T, ifc_F, c1]), Same.of (X := M) (by simp [A_kind, U_kind, ifc_T, ifc_F, c1]) Same.rf⟩

theorem cf_X7_capped : CF yX7_capped cX7_capped 2 (some .int) 1 := ⟨cd_X7_capped, iz_X7, by decide, by decide +kernel, by decide +kernel, by decide +kernel⟩
set_option maxRecDepth 100000 in
set_option maxHeartbeats 4000000 in
theorem c_X7_capped {l : Launch} {E : Ev} {M : Mm} {n : Nat} (hI : ∀ k, k < 108 → k ∈ E.2.1) (hn : Rn M n) {f : Int32} : Cm l E yX7_capped cX7_capped 2 (some .int) 3 [.ref (E.2.2.1 65), .int f] M (pR (.int (A_kind (ksum (M 69) (M 70) n (2 ^ n - 1)) f)) (U_kind (becR n (tn f) 3 (fun s => ksum (M 69) (M 70) n s) M) f M)) := by
  refine Cm.of (by decide) (Nat.le_of_ble_eq_true rfl) (fun K k kt => ?_)
  show G l E K 0 [(0, .ref (E.2.2.1 65)), (1, .int f)] [] M
  obtain ⟨hn0, hn1, hn6⟩ := id hn
  have hp := p2_le6 hn6
  have hp2 := p2_ge2 hn1
  refine gs_iload_n (q := 1) k rfl rfl dX7_capped_0 ?_
  refine gs_callS (As := [.int f]) k c_X7_isFunction cf_X7_isFunction sm_X7_isFunction ml_X7_128 (by decide) rfl rfl (Nat.le_of_ble_eq_true rfl) dX7_capped_1 (ppB (fun c1 => ?_) (fun c1 => ?_))
  · have bc1 := inR_lt c1
    refine gs_if_eq (tgt := 20) k (by decide) dX7_capped_4 (fun h => absurd h (by decide)) (fun _ => ?_)
    refine gs_aload_n (q := 0) k rfl rfl dX7_capped_7 ?_
    refine gs_iload_n (q := 1) k rfl rfl dX7_capped_8 ?_
    refine gs_iconst (v := 3) k (by decide) dX7_capped_9 ?_
    refine gs_aload_n (q := 0) k rfl rfl dX7_capped_10 ?_
    refine gs_callV (As := []) (k0 := 65) (ci := 7) (T := TX7) (N := 27) k (c_X7_all hI hn) cf_X7_all im_X7_all sl_X7_all ml_X7_87 (hI 65 (by omega)) rfl rfl (by decide) rfl rfl (Nat.le_of_ble_eq_true rfl) dX7_capped_11 (ppI ?_)
    refine gs_callV (As := [.int f, .int 3, .int (nI (2 ^ n - 1))]) (k0 := 65) (ci := 7) (T := TX7) (N := 27) k (c_X7_makes3 (t := tn f) (A := 2 ^ n - 1) hI hn (inR_eq c1) (by omega) (by omega)) cf_X7_makes im_X7_makes sl_X7_makes ml_X7_159 (hI 65 (by omega)) rfl rfl (by decide) rfl rfl (Nat.le_of_ble_eq_true rfl) dX7_capped_14 (ppR (fun m6 hm6 => ?_))
    refine gs_goto (tgt := 21) k (by decide) dX7_capped_17 ?_
    exact gs_iret k kt dX7_capped_21 ⟨(by simp [A_kind, U_kind, ifc_T, ifc_F, c1]), Same.of (X := (becR n (tn f) 3 (fun s => ksum (M 69) (M 70) n s) M)) (by simp [A_kind, U_kind, ifc_T, ifc_F, c1]) hm6⟩
  · refine gs_if_eq (tgt := 20) k (by decide) dX7_capped_4 (fun _ => ?_) (fun h => absurd h (by decide))
    refine gs_iconst (v := -1) k (by decide) dX7_capped_20 ?_
    exact gs_iret k kt dX7_capped_21 ⟨(by simp [A_kind, U_kind, ifc_T, ifc_F, c1]), Same.of (X := M) (by simp [A_kind, U_kind, ifc_T, ifc_F, c1]) Same.rf⟩

theorem cf_X6_weighed : CF yX6_weighed cX6_weighed 2 (some .int) 1 := ⟨cd_X6_weighed, iz_X6, by decide, by decide +kernel, by decide +kernel, by decide +kernel⟩
set_option maxRecDepth 100000 in
set_option maxHeartbeats 4000000 in
theorem c_X6_weighed {l : Launch} {E : Ev} {M : Mm} {n : Nat} (hI : ∀ k, k < 108 → k ∈ E.2.1) (hn : Cn M n) {f : Int32} : Cm l E yX6_weighed cX6_weighed 2 (some .int) 4 [.ref (E.2.2.1 0), .int f] M (pR (.int (A_kind (wsum (M 7) n (2 ^ n - 1) + 1000) f)) (U_kind (fsetC n (tn f) 4 (fun s => wsum (M 7) n s) M) f M)) := by
  refine Cm.of (by decide) (Nat.le_of_ble_eq_true rfl) (fun K k kt => ?_)
  show G l E K 0 [(0, .ref (E.2.2.1 0)), (1, .int f)] [] M
  obtain ⟨hn0, hn1, hn6⟩ := id hn
  have hp := p2_le6 hn6
  have hp2 := p2_ge2 hn1
  refine gs_iload_n (q := 1) k rfl rfl dX6_weighed_0 ?_
  refine gs_callS (As := [.int f]) k c_X6_isFunction cf_X6_isFunction sm_X6_isFunction ml_X6_101 (by decide) rfl rfl (Nat.le_of_ble_eq_true rfl) dX6_weighed_1 (ppB (fun c1 => ?_) (fun c1 => ?_))
  · have bc1 := inR_lt c1
    refine gs_if_eq (tgt := 27) k (by decide) dX6_weighed_4 (fun h => absurd h (by decide)) (fun _ => ?_)
    refine gs_aload_n (q := 0) k rfl rfl dX6_weighed_7 ?_
    refine gs_iload_n (q := 1) k rfl rfl dX6_weighed_8 ?_
    refine gs_iconst (v := 4) k (by decide) dX6_weighed_9 ?_
    refine gs_aload_n (q := 0) k rfl rfl dX6_weighed_10 ?_
    refine gs_get (C := RX6) (T := TX6) (N := 10) (ci := 6) (k0 := 0) (j := 0) k (hI 0 (by omega)) rfl rfl inX6 (by decide) fl_X6_12 rfl rfl dX6_weighed_11 ?_
    refine gs_callV (As := []) (k0 := 1) (ci := 5) (T := TX5) (N := 9) k (c_X5_all hI hn) cf_X5_all im_X5_all sl_X5_all ml_X6_119 (hI 1 (by omega)) rfl rfl (by decide) rfl rfl (Nat.le_of_ble_eq_true rfl) dX6_weighed_14 (ppI ?_)
    refine gs_callV (As := [.int f, .int 4, .int (nI (2 ^ n - 1))]) (k0 := 0) (ci := 6) (T := TX6) (N := 10) k (c_X6_setFromData4 (t := tn f) (A := 2 ^ n - 1) hI hn (inR_eq c1) (by omega) (by omega)) cf_X6_setFromData im_X6_setFromData sl_X6_setFromData ml_X6_123 (hI 0 (by omega)) rfl rfl (by decide) rfl rfl (Nat.le_of_ble_eq_true rfl) dX6_weighed_17 (ppR (fun m7 hm7 => ?_))
    refine gs_sipush (v := 1000) k (by decide) dX6_weighed_20 ?_
    refine gs_iadd k dX6_weighed_23 ?_
    refine gs_goto (tgt := 28) k (by decide) dX6_weighed_24 ?_
    exact gs_iret k kt dX6_weighed_28 ⟨(by simp [A_kind, U_kind, ifc_T, ifc_F, c1]), Same.of (X := (fsetC n (tn f) 4 (fun s => wsum (M 7) n s) M)) (by simp [A_kind, U_kind, ifc_T, ifc_F, c1]) hm7⟩
  · refine gs_if_eq (tgt := 27) k (by decide) dX6_weighed_4 (fun _ => ?_) (fun h => absurd h (by decide))
    refine gs_iconst (v := -1) k (by decide) dX6_weighed_27 ?_
    exact gs_iret k kt dX6_weighed_28 ⟨(by simp [A_kind, U_kind, ifc_T, ifc_F, c1]), Same.of (X := M) (by simp [A_kind, U_kind, ifc_T, ifc_F, c1]) Same.rf⟩

theorem cf_X7_weighed : CF yX7_weighed cX7_weighed 2 (some .int) 1 := ⟨cd_X7_weighed, iz_X7, by decide, by decide +kernel, by decide +kernel, by decide +kernel⟩
set_option maxRecDepth 100000 in
set_option maxHeartbeats 4000000 in
theorem c_X7_weighed {l : Launch} {E : Ev} {M : Mm} {n : Nat} (hI : ∀ k, k < 108 → k ∈ E.2.1) (hn : Rn M n) {f : Int32} : Cm l E yX7_weighed cX7_weighed 2 (some .int) 3 [.ref (E.2.2.1 65), .int f] M (pR (.int (A_kind (wsum (M 71) n (2 ^ n - 1) + 1000) f)) (U_kind (becR n (tn f) 4 (fun s => wsum (M 71) n s) M) f M)) := by
  refine Cm.of (by decide) (Nat.le_of_ble_eq_true rfl) (fun K k kt => ?_)
  show G l E K 0 [(0, .ref (E.2.2.1 65)), (1, .int f)] [] M
  obtain ⟨hn0, hn1, hn6⟩ := id hn
  have hp := p2_le6 hn6
  have hp2 := p2_ge2 hn1
  refine gs_iload_n (q := 1) k rfl rfl dX7_weighed_0 ?_
  refine gs_callS (As := [.int f]) k c_X7_isFunction cf_X7_isFunction sm_X7_isFunction ml_X7_128 (by decide) rfl rfl (Nat.le_of_ble_eq_true rfl) dX7_weighed_1 (ppB (fun c1 => ?_) (fun c1 => ?_))
  · have bc1 := inR_lt c1
    refine gs_if_eq (tgt := 24) k (by decide) dX7_weighed_4 (fun h => absurd h (by decide)) (fun _ => ?_)
    refine gs_aload_n (q := 0) k rfl rfl dX7_weighed_7 ?_
    refine gs_iload_n (q := 1) k rfl rfl dX7_weighed_8 ?_
    refine gs_iconst (v := 4) k (by decide) dX7_weighed_9 ?_
    refine gs_aload_n (q := 0) k rfl rfl dX7_weighed_10 ?_
    refine gs_callV (As := []) (k0 := 65) (ci := 7) (T := TX7) (N := 27) k (c_X7_all hI hn) cf_X7_all im_X7_all sl_X7_all ml_X7_87 (hI 65 (by omega)) rfl rfl (by decide) rfl rfl (Nat.le_of_ble_eq_true rfl) dX7_weighed_11 (ppI ?_)
    refine gs_callV (As := [.int f, .int 4, .int (nI (2 ^ n - 1))]) (k0 := 65) (ci := 7) (T := TX7) (N := 27) k (c_X7_makes4 (t := tn f) (A := 2 ^ n - 1) hI hn (inR_eq c1) (by omega) (by omega)) cf_X7_makes im_X7_makes sl_X7_makes ml_X7_159 (hI 65 (by omega)) rfl rfl (by decide) rfl rfl (Nat.le_of_ble_eq_true rfl) dX7_weighed_14 (ppR (fun m8 hm8 => ?_))
    refine gs_sipush (v := 1000) k (by decide) dX7_weighed_17 ?_
    refine gs_iadd k dX7_weighed_20 ?_
    refine gs_goto (tgt := 25) k (by decide) dX7_weighed_21 ?_
    exact gs_iret k kt dX7_weighed_25 ⟨(by simp [A_kind, U_kind, ifc_T, ifc_F, c1]), Same.of (X := (becR n (tn f) 4 (fun s => wsum (M 71) n s) M)) (by simp [A_kind, U_kind, ifc_T, ifc_F, c1]) hm8⟩
  · refine gs_if_eq (tgt := 24) k (by decide) dX7_weighed_4 (fun _ => ?_) (fun h => absurd h (by decide))
    refine gs_iconst (v := -1) k (by decide) dX7_weighed_24 ?_
    exact gs_iret k kt dX7_weighed_25 ⟨(by simp [A_kind, U_kind, ifc_T, ifc_F, c1]), Same.of (X := M) (by simp [A_kind, U_kind, ifc_T, ifc_F, c1]) Same.rf⟩

