theorem lp_cell {s : Nat} {r : Nat → Int32} (c : Nat → Prop) [DecidablePred c] (g : Nat → Int32) : ∀ (k i : Nat) (x : Int32), lp (fun t q => if c t then upd q s (imin (q s) (g t)) else q) k i (upd r s x) = upd r s (lp (fun t x => if c t then imin x (g t) else x) k i x) := by
  intro k
  induction k with
  | zero => intro i x; rfl
  | succ k ih =>
    intro i x
    show lp _ k (i + 1) (if c i then upd (upd r s x) s (imin (upd r s x s) (g i)) else upd r s x) = upd r s (lp _ k (i + 1) (if c i then imin x (g i) else x))
    by_cases h : c i
    · rw [if_pos h, if_pos h, pk_us, show upd (upd r s x) s (imin x (g i)) = upd r s (imin x (g i)) from funext fun j => by
        by_cases e : j = s
        · subst e; rw [pk_us, pk_us]
        · rw [pk_un e, pk_un e, pk_un e]]
      exact ih (i + 1) _
    · rw [if_neg h, if_neg h]
      exact ih (i + 1) _
noncomputable def A_cutBack (w : Nat → Int32) (n : Nat) (kd : Nat → Int32) (V : Nat → Nat → Int32) (f t : Int32) : Int32 := ifc (inR t 6 ∧ inR f 6) (ifc (¬ kd (tn f) < 0) (ifc (allV (2 ^ n) (fun s => cbk (V (tn f)) w n s)) 1 (-3)) (-11)) (-1)
noncomputable def U_cutBack (U : Mm) (w : Nat → Int32) (n : Nat) (kd : Nat → Int32) (V : Nat → Nat → Int32) (f t : Int32) (M : Mm) : Mm := ifc (inR t 6 ∧ inR f 6) (ifc (¬ kd (tn f) < 0) (ifc (allV (2 ^ n) (fun s => cbk (V (tn f)) w n s)) U M) M) M
theorem cf_X6_leastOverSubsets : CF yX6_leastOverSubsets cX6_leastOverSubsets 5 (some .int) 2 := ⟨cd_X6_leastOverSubsets, iz_X6, by decide, by decide +kernel, by decide +kernel, by decide +kernel⟩
set_option maxRecDepth 100000 in
set_option maxHeartbeats 4000000 in
theorem c_X6_leastOverSubsets {l : Launch} {E : Ev} {M : Mm} {n : Nat} {kd : Nat → Int32} {V : Nat → Nat → Int32} (hI : ∀ k, k < 108 → k ∈ E.2.1) (hF : CFn M n kd V) {f : Nat} (hf : f < 6) (hn6 : n ≤ 6) {w : Nat → Int32} (hW : ∀ s, s < 2 ^ n → M 63 s = wsum w n s) {y : Int32} {s : Nat} (hy : y = nI s) (hs : s < 2 ^ n) : Cm l E yX6_leastOverSubsets cX6_leastOverSubsets 5 (some .int) 1 [.ref (E.2.2.1 0), .ref (E.2.2.1 (11 + 2 * f)), .int y] M (pI (cbk (V f) w n s) M) := by
  refine Cm.of (by decide) (Nat.le_of_ble_eq_true rfl) (fun K k kt => ?_)
  show G l E K 0 [(0, .ref (E.2.2.1 0)), (1, .ref (E.2.2.1 (11 + 2 * f))), (2, .int y)] [] M
  have hp := p2_le6 hn6
  refine gs_aload_n (q := 1) k rfl rfl dX6_leastOverSubsets_0 ?_
  refine gs_iload_n (q := 2) k rfl rfl dX6_leastOverSubsets_1 ?_
  refine gs_ialdN (k0 := (11 + 2 * f)) (n := 64) (e := s) k (hI (11 + 2 * f) (by omega)) (ent_V1 hf) hy (by omega) (by decide) dX6_leastOverSubsets_2 ?_
  refine gs_top (y := V f s) ((hF f hf).2.2 s (by omega)) ?_
  refine gs_istore_n (lv' := [(3, .int (V f s)), (0, .ref (E.2.2.1 0)), (1, .ref (E.2.2.1 (11 + 2 * f))), (2, .int y)]) k rfl (by decide) rfl dX6_leastOverSubsets_3 ?_
  refine gs_iconst (v := 0) k (by decide) dX6_leastOverSubsets_4 ?_
  refine gs_istore (lv' := [(4, .int 0), (3, .int (V f s)), (0, .ref (E.2.2.1 0)), (1, .ref (E.2.2.1 (11 + 2 * f))), (2, .int y)]) k (by decide) rfl dX6_leastOverSubsets_5 ?_
  refine gs_lv (lv' := [(0, .ref (E.2.2.1 0)), (1, .ref (E.2.2.1 (11 + 2 * f))), (2, .int y), (3, .int (V f s)), (4, .int 0)]) [2, 3, 4, 1, 0] rfl ?_
  refine for_up (σ := Int32) (fun t x => G l E K 7 [(0, .ref (E.2.2.1 0)), (1, .ref (E.2.2.1 (11 + 2 * f))), (2, .int y), (3, .int x), (4, .int (nI t))] [] M) (fun t x => if t &&& s = t then imin x (V f t + wsum w n (dif s t)) else x) s (fun t x ht hGt => ?_) s 0 (V f s) (by omega) ?_
  · show G l E K 7 [(0, .ref (E.2.2.1 0)), (1, .ref (E.2.2.1 (11 + 2 * f))), (2, .int y), (3, .int x), (4, .int (nI t))] [] M
    have hd1 := dif_le s t
    have hd2 := dif_le t s
    refine gs_iload (q := 4) k rfl dX6_leastOverSubsets_7 ?_
    refine gs_iload_n (q := 2) k rfl rfl dX6_leastOverSubsets_9 ?_
    refine gs_icmpN_ge (a := t) (b := s) (tgt := 49) k rfl hy (by omega) (by omega) (by decide) dX6_leastOverSubsets_10 (fun c1 => absurd c1 (by omega)) (fun c1 => ?_)
    refine gs_iload (q := 4) k rfl dX6_leastOverSubsets_13 ?_
    refine gs_iload_n (q := 2) k rfl rfl dX6_leastOverSubsets_15 ?_
    refine gs_iconst (v := -1) k (by decide) dX6_leastOverSubsets_16 ?_
    refine gs_ixor k dX6_leastOverSubsets_17 ?_
    refine gs_iand k dX6_leastOverSubsets_18 ?_
    refine gs_top (y := nI (dif t s)) (by rw [hy]; exact ni_dif t (by omega) s (by omega)) ?_
    refine gs_ifN_ne (a := dif t s) (tgt := 43) k rfl (by omega) (by decide) dX6_leastOverSubsets_19 (fun c2 => ?_) (fun c2 => ?_)
    · refine gs_iincN (q := 4) (a := t) (c := 1) (lv' := [(4, .int (nI (t + 1))), (0, .ref (E.2.2.1 0)), (1, .ref (E.2.2.1 (11 + 2 * f))), (2, .int y), (3, .int x)]) k rfl rfl (by decide) rfl dX6_leastOverSubsets_43 ?_
      refine gs_goto (tgt := 7) k (by decide) dX6_leastOverSubsets_46 ?_
      refine gs_lv (lv' := [(0, .ref (E.2.2.1 0)), (1, .ref (E.2.2.1 (11 + 2 * f))), (2, .int y), (3, .int x), (4, .int (nI (t + 1)))]) [1, 2, 3, 4, 0] rfl ?_
      exact hGt _ (by rw [if_neg (fun q => c2 ((dif_0 s (by omega) t (by omega)).mpr q))])
    · refine gs_iload_n (q := 3) k rfl rfl dX6_leastOverSubsets_22 ?_
      refine gs_aload_n (q := 1) k rfl rfl dX6_leastOverSubsets_23 ?_
      refine gs_iload (q := 4) k rfl dX6_leastOverSubsets_24 ?_
      refine gs_ialdN (k0 := (11 + 2 * f)) (n := 64) (e := t) k (hI (11 + 2 * f) (by omega)) (ent_V1 hf) rfl (by omega) (by decide) dX6_leastOverSubsets_26 ?_
      refine gs_top (y := V f t) ((hF f hf).2.2 t (by omega)) ?_
      refine gs_aload_n (q := 0) k rfl rfl dX6_leastOverSubsets_27 ?_
      refine gs_get (C := RX6) (T := TX6) (N := 10) (ci := 6) (k0 := 0) (j := 8) k (hI 0 (by omega)) rfl rfl inX6 (by decide) fl_X6_57 rfl rfl dX6_leastOverSubsets_28 ?_
      refine gs_iload_n (q := 2) k rfl rfl dX6_leastOverSubsets_31 ?_
      refine gs_iload (q := 4) k rfl dX6_leastOverSubsets_32 ?_
      refine gs_iconst (v := -1) k (by decide) dX6_leastOverSubsets_34 ?_
      refine gs_ixor k dX6_leastOverSubsets_35 ?_
      refine gs_iand k dX6_leastOverSubsets_36 ?_
      refine gs_top (y := nI (dif s t)) (by rw [hy]; exact ni_dif s (by omega) t (by omega)) ?_
      refine gs_ialdN (k0 := 63) (n := 64) (e := dif s t) k (hI 63 (by omega)) (fun _ => rfl) rfl (by omega) (by decide) dX6_leastOverSubsets_37 ?_
      refine gs_top (y := wsum w n (dif s t)) (hW (dif s t) (by omega)) ?_
      refine gs_iadd k dX6_leastOverSubsets_38 ?_
      refine gs_min k ml_X6_149 (by decide) (Nat.le_of_ble_eq_true rfl) dX6_leastOverSubsets_39 ?_
      refine gs_istore_n (lv' := [(3, .int (imin x ((V f t) + (wsum w n (dif s t))))), (0, .ref (E.2.2.1 0)), (1, .ref (E.2.2.1 (11 + 2 * f))), (2, .int y), (4, .int (nI t))]) k rfl (by decide) rfl dX6_leastOverSubsets_42 ?_
      refine gs_iincN (q := 4) (a := t) (c := 1) (lv' := [(4, .int (nI (t + 1))), (3, .int (imin x ((V f t) + (wsum w n (dif s t))))), (0, .ref (E.2.2.1 0)), (1, .ref (E.2.2.1 (11 + 2 * f))), (2, .int y)]) k rfl rfl (by decide) rfl dX6_leastOverSubsets_43 ?_
      refine gs_goto (tgt := 7) k (by decide) dX6_leastOverSubsets_46 ?_
      refine gs_lv (lv' := [(0, .ref (E.2.2.1 0)), (1, .ref (E.2.2.1 (11 + 2 * f))), (2, .int y), (3, .int (imin x ((V f t) + (wsum w n (dif s t))))), (4, .int (nI (t + 1)))]) [2, 3, 4, 1, 0] rfl ?_
      exact hGt _ (by rw [if_pos ((dif_0 s (by omega) t (by omega)).mp c2)])
  · show G l E K 7 [(0, .ref (E.2.2.1 0)), (1, .ref (E.2.2.1 (11 + 2 * f))), (2, .int y), (3, .int (cbk (V f) w n s)), (4, .int (nI s))] [] M
    refine gs_iload (q := 4) k rfl dX6_leastOverSubsets_7 ?_
    refine gs_iload_n (q := 2) k rfl rfl dX6_leastOverSubsets_9 ?_
    refine gs_icmpN_ge (a := s) (b := s) (tgt := 49) k rfl hy (by omega) (by omega) (by decide) dX6_leastOverSubsets_10 (fun c1 => ?_) (fun c1 => absurd c1 (by omega))
    refine gs_iload_n (q := 3) k rfl rfl dX6_leastOverSubsets_49 ?_
    exact gs_iret k kt dX6_leastOverSubsets_50 ⟨rfl, rfl⟩

theorem cf_X6_cutBack : CF yX6_cutBack cX6_cutBack 6 (some .int) 2 := ⟨cd_X6_cutBack, iz_X6, by decide, by decide +kernel, by decide +kernel, by decide +kernel⟩
set_option maxRecDepth 100000 in
set_option maxHeartbeats 4000000 in
theorem c_X6_cutBack {l : Launch} {E : Ev} {M : Mm} {n : Nat} {kd : Nat → Int32} {V : Nat → Nat → Int32} (hI : ∀ k, k < 108 → k ∈ E.2.1) (hn : Cn M n) (hF : CFn M n kd V) {f t : Int32} : Cm l E yX6_cutBack cX6_cutBack 6 (some .int) 3 [.ref (E.2.2.1 0), .int f, .int t] M (pR (.int (A_cutBack (M 7) n kd V f t)) (U_cutBack (fsetC n (tn t) 5 (fun s => cbk (V (tn f)) (M 7) n s) M) (M 7) n kd V f t M)) := by
  refine Cm.of (by decide) (Nat.le_of_ble_eq_true rfl) (fun K k kt => ?_)
  show G l E K 0 [(0, .ref (E.2.2.1 0)), (1, .int f), (2, .int t)] [] M
  obtain ⟨hn0, hn1, hn6⟩ := id hn
  have hp := p2_le6 hn6
  have hp2 := p2_ge2 hn1
  refine gs_aload_n (q := 0) k rfl rfl dX6_cutBack_0 ?_
  refine gs_iload_n (q := 1) k rfl rfl dX6_cutBack_1 ?_
  refine gs_iload_n (q := 2) k rfl rfl dX6_cutBack_2 ?_
  refine gs_callV (As := [.int f, .int t]) (k0 := 0) (ci := 6) (T := TX6) (N := 10) k (c_X6_errorOfPair hI hF) cf_X6_errorOfPair im_X6_errorOfPair sl_X6_errorOfPair ml_X6_138 (hI 0 (by omega)) rfl rfl (by decide) rfl rfl (Nat.le_of_ble_eq_true rfl) dX6_cutBack_3 (ppE (fun c1 => ?_) (fun c1 c2 => ?_) (fun c1 c2 => ?_))
  · refine gs_istore_n (lv' := [(3, .int (-1)), (0, .ref (E.2.2.1 0)), (1, .int f), (2, .int t)]) k rfl (by decide) rfl dX6_cutBack_6 ?_
    refine gs_iload_n (q := 0) k rfl rfl dX6_cutBack_7 ?_
    refine gs_if_eq (tgt := 13) k (by decide) dX6_cutBack_8 (fun h => absurd h (by decide)) (fun _ => ?_)
    refine gs_iload_n (q := 0) k rfl rfl dX6_cutBack_11 ?_
    exact gs_iret k kt dX6_cutBack_12 ⟨(by simp [-Int32.not_lt, A_cutBack, U_cutBack, ifc_T, ifc_F, c1]), Same.of (X := M) (by simp [-Int32.not_lt, A_cutBack, U_cutBack, ifc_T, ifc_F, c1]) Same.rf⟩
  · have bc1 := inR_lt c1.2
    have dc1 := inR_lt c1.1
    refine gs_istore_n (lv' := [(3, .int (-11)), (0, .ref (E.2.2.1 0)), (1, .int f), (2, .int t)]) k rfl (by decide) rfl dX6_cutBack_6 ?_
    refine gs_iload_n (q := 0) k rfl rfl dX6_cutBack_7 ?_
    refine gs_if_eq (tgt := 13) k (by decide) dX6_cutBack_8 (fun h => absurd h (by decide)) (fun _ => ?_)
    refine gs_iload_n (q := 0) k rfl rfl dX6_cutBack_11 ?_
    exact gs_iret k kt dX6_cutBack_12 ⟨(by simp [-Int32.not_lt, A_cutBack, U_cutBack, ifc_T, ifc_F, c1, c2]), Same.of (X := M) (by simp [-Int32.not_lt, A_cutBack, U_cutBack, ifc_T, ifc_F, c1, c2]) Same.rf⟩
  · have bc1 := inR_lt c1.2
    have dc1 := inR_lt c1.1
    refine gs_istore_n (lv' := [(3, .int 0), (0, .ref (E.2.2.1 0)), (1, .int f), (2, .int t)]) k rfl (by decide) rfl dX6_cutBack_6 ?_
    refine gs_iload_n (q := 0) k rfl rfl dX6_cutBack_7 ?_
    refine gs_if_eq (tgt := 13) k (by decide) dX6_cutBack_8 (fun _ => ?_) (fun h => absurd h (by decide))
    refine gs_aload_n (q := 1) k rfl rfl dX6_cutBack_13 ?_
    refine gs_get (C := RX6) (T := TX6) (N := 10) (ci := 6) (k0 := 0) (j := 0) k (hI 0 (by omega)) rfl rfl inX6 (by decide) fl_X6_12 rfl rfl dX6_cutBack_14 ?_
    refine gs_get (C := RX5) (T := TX5) (N := 9) (ci := 5) (k0 := 1) (j := 7) k (hI 1 (by omega)) rfl rfl inX5 (by decide) fl_X6_107 rfl rfl dX6_cutBack_17 ?_
    refine gs_iload_n (q := 2) k rfl rfl dX6_cutBack_20 ?_
    refine gs_aaldSN (k0 := 8) (n := 6) (e := tn f) (a := E.2.2.1 (10 + 2 * (tn f))) k (hI 8 (by omega)) (fun _ => rfl) (inR_eq c1.2) (by omega) (by decide) rfl dX6_cutBack_21 ?_
    refine gs_get (C := RX3) (T := TX3) (N := 2) (ci := 3) (k0 := (10 + 2 * (tn f))) (j := 1) k (hI (10 + 2 * (tn f)) (by omega)) (ent_F1 (by omega) _) rfl inX3 (by decide) fl_X6_111 rfl rfl dX6_cutBack_22 ?_
    refine gs_astore (lv' := [(4, .ref (E.2.2.1 (11 + 2 * (tn f)))), (3, .int 0), (0, .ref (E.2.2.1 0)), (1, .int f), (2, .int t)]) k (by decide) rfl dX6_cutBack_25 ?_
    refine gs_iconst (v := 0) k (by decide) dX6_cutBack_27 ?_
    refine gs_istore (lv' := [(5, .int 0), (4, .ref (E.2.2.1 (11 + 2 * (tn f)))), (3, .int 0), (0, .ref (E.2.2.1 0)), (1, .int f), (2, .int t)]) k (by decide) rfl dX6_cutBack_28 ?_
    refine gs_lv (lv' := [(0, .ref (E.2.2.1 0)), (1, .int f), (2, .int t), (3, .int 0), (4, .ref (E.2.2.1 (11 + 2 * (tn f)))), (5, .int 0)]) [3, 4, 5, 2, 1, 0] rfl ?_
    refine gs_M (rset_same M 63).symm ?_
    refine for_up (σ := (Nat → Int32)) (fun s r => G l E K 30 [(0, .ref (E.2.2.1 0)), (1, .int f), (2, .int t), (3, .int 0), (4, .ref (E.2.2.1 (11 + 2 * (tn f)))), (5, .int (nI s))] [] (rset M 63 r)) (fun s r => upd r s (wsum (M 7) n s)) (2 ^ n) (fun s r hs hGs => ?_) (2 ^ n) 0 (M 63) (by omega) ?_
    · show G l E K 30 [(0, .ref (E.2.2.1 0)), (1, .int f), (2, .int t), (3, .int 0), (4, .ref (E.2.2.1 (11 + 2 * (tn f)))), (5, .int (nI s))] [] (rset M 63 r)
      refine gs_iload (q := 5) k rfl dX6_cutBack_30 ?_
      refine gs_aload_n (q := 0) k rfl rfl dX6_cutBack_32 ?_
      refine gs_get (C := RX6) (T := TX6) (N := 10) (ci := 6) (k0 := 0) (j := 0) k (hI 0 (by omega)) rfl rfl inX6 (by decide) fl_X6_12 rfl rfl dX6_cutBack_33 ?_
      refine gs_callV (As := []) (k0 := 1) (ci := 5) (T := TX5) (N := 9) k (c_X5_sets hI (Cn_rs (by omega) hn)) cf_X5_sets im_X5_sets sl_X5_sets ml_X6_131 (hI 1 (by omega)) rfl rfl (by decide) rfl rfl (Nat.le_of_ble_eq_true rfl) dX6_cutBack_36 (ppI ?_)
      refine gs_icmpN_ge (a := s) (b := 2 ^ n) (tgt := 64) k rfl rfl (by omega) (by omega) (by decide) dX6_cutBack_39 (fun c3 => absurd c3 (by omega)) (fun c3 => ?_)
      refine gs_aload_n (q := 0) k rfl rfl dX6_cutBack_42 ?_
      refine gs_get (C := RX6) (T := TX6) (N := 10) (ci := 6) (k0 := 0) (j := 8) k (hI 0 (by omega)) rfl rfl inX6 (by decide) fl_X6_57 rfl rfl dX6_cutBack_43 ?_
      refine gs_iload (q := 5) k rfl dX6_cutBack_46 ?_
      refine gs_aload_n (q := 0) k rfl rfl dX6_cutBack_48 ?_
      refine gs_get (C := RX6) (T := TX6) (N := 10) (ci := 6) (k0 := 0) (j := 0) k (hI 0 (by omega)) rfl rfl inX6 (by decide) fl_X6_12 rfl rfl dX6_cutBack_49 ?_
      refine gs_iload (q := 5) k rfl dX6_cutBack_52 ?_
      refine gs_callV (As := [.int (nI s)]) (k0 := 1) (ci := 5) (T := TX5) (N := 9) k (c_X5_totalWeight (S := s) hI (Cn_rs (by omega) hn) rfl (by omega)) cf_X5_totalWeight im_X5_totalWeight sl_X5_totalWeight ml_X6_142 (hI 1 (by omega)) rfl rfl (by decide) rfl rfl (Nat.le_of_ble_eq_true rfl) dX6_cutBack_54 (ppI ?_)
      refine gs_top (y := wsum (M 7) n s) rfl ?_
      refine gs_iastN (k0 := 63) (n := 64) (e := s) k (hI 63 (by omega)) (fun _ => rfl) rfl (by omega) (by decide) dX6_cutBack_57 ?_
      refine gs_M (mw_rset _ _ _ _ _) ?_
      refine gs_iincN (q := 5) (a := s) (c := 1) (lv' := [(5, .int (nI (s + 1))), (0, .ref (E.2.2.1 0)), (1, .int f), (2, .int t), (3, .int 0), (4, .ref (E.2.2.1 (11 + 2 * (tn f))))]) k rfl rfl (by decide) rfl dX6_cutBack_58 ?_
      refine gs_goto (tgt := 30) k (by decide) dX6_cutBack_61 ?_
      refine gs_lv (lv' := [(0, .ref (E.2.2.1 0)), (1, .int f), (2, .int t), (3, .int 0), (4, .ref (E.2.2.1 (11 + 2 * (tn f)))), (5, .int (nI (s + 1)))]) [1, 2, 3, 4, 5, 0] rfl ?_
      exact hGs _ rfl
    · show G l E K 30 [(0, .ref (E.2.2.1 0)), (1, .int f), (2, .int t), (3, .int 0), (4, .ref (E.2.2.1 (11 + 2 * (tn f)))), (5, .int (nI (2 ^ n)))] [] (rset M 63 (lp (fun s r => upd r s (wsum (M 7) n s)) (2 ^ n) 0 (M 63)))
      rw [lp_setr]
      show G l E K 30 [(0, .ref (E.2.2.1 0)), (1, .int f), (2, .int t), (3, .int 0), (4, .ref (E.2.2.1 (11 + 2 * (tn f)))), (5, .int (nI (2 ^ n)))] [] (rset M 63 (setr (2 ^ n) (fun s => wsum (M 7) n s) (M 63)))
      refine gs_iload (q := 5) k rfl dX6_cutBack_30 ?_
      refine gs_aload_n (q := 0) k rfl rfl dX6_cutBack_32 ?_
      refine gs_get (C := RX6) (T := TX6) (N := 10) (ci := 6) (k0 := 0) (j := 0) k (hI 0 (by omega)) rfl rfl inX6 (by decide) fl_X6_12 rfl rfl dX6_cutBack_33 ?_
      refine gs_callV (As := []) (k0 := 1) (ci := 5) (T := TX5) (N := 9) k (c_X5_sets hI (Cn_rs (by omega) hn)) cf_X5_sets im_X5_sets sl_X5_sets ml_X6_131 (hI 1 (by omega)) rfl rfl (by decide) rfl rfl (Nat.le_of_ble_eq_true rfl) dX6_cutBack_36 (ppI ?_)
      refine gs_icmpN_ge (a := 2 ^ n) (b := 2 ^ n) (tgt := 64) k rfl rfl (by omega) (by omega) (by decide) dX6_cutBack_39 (fun c3 => ?_) (fun c3 => absurd c3 (by omega))
      refine gs_iconst (v := 0) k (by decide) dX6_cutBack_64 ?_
      refine gs_istore (lv' := [(5, .int 0), (0, .ref (E.2.2.1 0)), (1, .int f), (2, .int t), (3, .int 0), (4, .ref (E.2.2.1 (11 + 2 * (tn f))))]) k (by decide) rfl dX6_cutBack_65 ?_
      refine gs_lv (lv' := [(0, .ref (E.2.2.1 0)), (1, .int f), (2, .int t), (3, .int 0), (4, .ref (E.2.2.1 (11 + 2 * (tn f)))), (5, .int 0)]) [1, 2, 3, 4, 5, 0] rfl ?_
      refine gs_M (rset_same (rset M 63 (setr (2 ^ n) (fun s => wsum (M 7) n s) (M 63))) 62).symm ?_
      refine for_up (σ := (Nat → Int32)) (fun s r => G l E K 67 [(0, .ref (E.2.2.1 0)), (1, .int f), (2, .int t), (3, .int 0), (4, .ref (E.2.2.1 (11 + 2 * (tn f)))), (5, .int (nI s))] [] (rset (rset M 63 (setr (2 ^ n) (fun s => wsum (M 7) n s) (M 63))) 62 r)) (fun s r => upd r s (cbk (V (tn f)) (M 7) n s)) (2 ^ n) (fun s r hs hGs => ?_) (2 ^ n) 0 ((rset M 63 (setr (2 ^ n) (fun s => wsum (M 7) n s) (M 63))) 62) (by omega) ?_
      · show G l E K 67 [(0, .ref (E.2.2.1 0)), (1, .int f), (2, .int t), (3, .int 0), (4, .ref (E.2.2.1 (11 + 2 * (tn f)))), (5, .int (nI s))] [] (rset (rset M 63 (setr (2 ^ n) (fun s => wsum (M 7) n s) (M 63))) 62 r)
        refine gs_iload (q := 5) k rfl dX6_cutBack_67 ?_
        refine gs_aload_n (q := 0) k rfl rfl dX6_cutBack_69 ?_
        refine gs_get (C := RX6) (T := TX6) (N := 10) (ci := 6) (k0 := 0) (j := 0) k (hI 0 (by omega)) rfl rfl inX6 (by decide) fl_X6_12 rfl rfl dX6_cutBack_70 ?_
        refine gs_callV (As := []) (k0 := 1) (ci := 5) (T := TX5) (N := 9) k (c_X5_sets hI (Cn_rs (by omega) (Cn_rs (by omega) hn))) cf_X5_sets im_X5_sets sl_X5_sets ml_X6_131 (hI 1 (by omega)) rfl rfl (by decide) rfl rfl (Nat.le_of_ble_eq_true rfl) dX6_cutBack_73 (ppI ?_)
        refine gs_icmpN_ge (a := s) (b := 2 ^ n) (tgt := 100) k rfl rfl (by omega) (by omega) (by decide) dX6_cutBack_76 (fun c4 => absurd c4 (by omega)) (fun c4 => ?_)
        refine gs_aload_n (q := 0) k rfl rfl dX6_cutBack_79 ?_
        refine gs_get (C := RX6) (T := TX6) (N := 10) (ci := 6) (k0 := 0) (j := 7) k (hI 0 (by omega)) rfl rfl inX6 (by decide) fl_X6_53 rfl rfl dX6_cutBack_80 ?_
        refine gs_iload (q := 5) k rfl dX6_cutBack_83 ?_
        refine gs_aload_n (q := 0) k rfl rfl dX6_cutBack_85 ?_
        refine gs_aload (q := 4) k rfl dX6_cutBack_86 ?_
        refine gs_iload (q := 5) k rfl dX6_cutBack_88 ?_
        refine gs_callV (As := [.ref (E.2.2.1 (11 + 2 * (tn f))), .int (nI s)]) (k0 := 0) (ci := 6) (T := TX6) (N := 10) k (c_X6_leastOverSubsets (w := M 7) (s := s) hI (CFn_rs (by omega) (CFn_rs (by omega) hF)) (by omega) hn6 (fun s hs => rdr (by omega) (rdraft s hs)) rfl (by omega)) cf_X6_leastOverSubsets im_X6_leastOverSubsets sl_X6_leastOverSubsets ml_X6_145 (hI 0 (by omega)) rfl rfl (by decide) rfl rfl (Nat.le_of_ble_eq_true rfl) dX6_cutBack_90 (ppI ?_)
        refine gs_iastN (k0 := 62) (n := 64) (e := s) k (hI 62 (by omega)) (fun _ => rfl) rfl (by omega) (by decide) dX6_cutBack_93 ?_
        refine gs_M (mw_rset _ _ _ _ _) ?_
        refine gs_iincN (q := 5) (a := s) (c := 1) (lv' := [(5, .int (nI (s + 1))), (0, .ref (E.2.2.1 0)), (1, .int f), (2, .int t), (3, .int 0), (4, .ref (E.2.2.1 (11 + 2 * (tn f))))]) k rfl rfl (by decide) rfl dX6_cutBack_94 ?_
        refine gs_goto (tgt := 67) k (by decide) dX6_cutBack_97 ?_
        refine gs_lv (lv' := [(0, .ref (E.2.2.1 0)), (1, .int f), (2, .int t), (3, .int 0), (4, .ref (E.2.2.1 (11 + 2 * (tn f)))), (5, .int (nI (s + 1)))]) [1, 2, 3, 4, 5, 0] rfl ?_
        exact hGs _ rfl
      · show G l E K 67 [(0, .ref (E.2.2.1 0)), (1, .int f), (2, .int t), (3, .int 0), (4, .ref (E.2.2.1 (11 + 2 * (tn f)))), (5, .int (nI (2 ^ n)))] [] (rset (rset M 63 (setr (2 ^ n) (fun s => wsum (M 7) n s) (M 63))) 62 (lp (fun s r => upd r s (cbk (V (tn f)) (M 7) n s)) (2 ^ n) 0 ((rset M 63 (setr (2 ^ n) (fun s => wsum (M 7) n s) (M 63))) 62)))
        rw [lp_setr]
        show G l E K 67 [(0, .ref (E.2.2.1 0)), (1, .int f), (2, .int t), (3, .int 0), (4, .ref (E.2.2.1 (11 + 2 * (tn f)))), (5, .int (nI (2 ^ n)))] [] (rset (rset M 63 (setr (2 ^ n) (fun s => wsum (M 7) n s) (M 63))) 62 (setr (2 ^ n) (fun s => cbk (V (tn f)) (M 7) n s) (M 62)))
        refine gs_iload (q := 5) k rfl dX6_cutBack_67 ?_
        refine gs_aload_n (q := 0) k rfl rfl dX6_cutBack_69 ?_
        refine gs_get (C := RX6) (T := TX6) (N := 10) (ci := 6) (k0 := 0) (j := 0) k (hI 0 (by omega)) rfl rfl inX6 (by decide) fl_X6_12 rfl rfl dX6_cutBack_70 ?_
        refine gs_callV (As := []) (k0 := 1) (ci := 5) (T := TX5) (N := 9) k (c_X5_sets hI (Cn_rs (by omega) (Cn_rs (by omega) hn))) cf_X5_sets im_X5_sets sl_X5_sets ml_X6_131 (hI 1 (by omega)) rfl rfl (by decide) rfl rfl (Nat.le_of_ble_eq_true rfl) dX6_cutBack_73 (ppI ?_)
        refine gs_icmpN_ge (a := 2 ^ n) (b := 2 ^ n) (tgt := 100) k rfl rfl (by omega) (by omega) (by decide) dX6_cutBack_76 (fun c4 => ?_) (fun c4 => absurd c4 (by omega))
        refine gs_aload_n (q := 0) k rfl rfl dX6_cutBack_100 ?_
        refine gs_iload_n (q := 2) k rfl rfl dX6_cutBack_101 ?_
        refine gs_callV (As := [.int t]) (k0 := 0) (ci := 6) (T := TX6) (N := 10) k (c_X6_settleIfInRange hI (Cn_rs (by omega) (Cn_rs (by omega) hn)) (t := tn t) (inR_eq c1.1) (by omega) (g := fun s => cbk (V (tn f)) (M 7) n s) rdraft) cf_X6_settleIfInRange im_X6_settleIfInRange sl_X6_settleIfInRange ml_X6_134 (hI 0 (by omega)) rfl rfl (by decide) rfl rfl (Nat.le_of_ble_eq_true rfl) dX6_cutBack_102 (ppC (fun c5 => ?_) (fun c5 => ?_))
        · exact gs_iret k kt dX6_cutBack_105 ⟨(by simp [-Int32.not_lt, A_cutBack, U_cutBack, ifc_T, ifc_F, c1, c2, c5]), Same.of (X := (fsetC n (tn t) 5 (fun s => cbk (V (tn f)) (M 7) n s) M)) (by simp [-Int32.not_lt, A_cutBack, U_cutBack, ifc_T, ifc_F, c1, c2, c5]) (stl_same (by omega) (Same.r1 (Same.r1 Same.rf (fun j => by unfold scr; omega)) (fun j => by unfold scr; omega)) rdraft)⟩
        · exact gs_iret k kt dX6_cutBack_105 ⟨(by simp [-Int32.not_lt, A_cutBack, U_cutBack, ifc_T, ifc_F, c1, c2, c5]), Same.of (X := M) (by simp [-Int32.not_lt, A_cutBack, U_cutBack, ifc_T, ifc_F, c1, c2, c5]) (Same.r1 (Same.r1 Same.rf (fun j => by unfold scr; omega)) (fun j => by unfold scr; omega))⟩

theorem cf_X7_cutBack : CF yX7_cutBack cX7_cutBack 5 (some .int) 2 := ⟨cd_X7_cutBack, iz_X7, by decide, by decide +kernel, by decide +kernel, by decide +kernel⟩
set_option maxRecDepth 100000 in
set_option maxHeartbeats 4000000 in
theorem c_X7_cutBack {l : Launch} {E : Ev} {M : Mm} {n : Nat} {kd : Nat → Int32} {V : Nat → Nat → Int32} (hI : ∀ k, k < 108 → k ∈ E.2.1) (hn : Rn M n) (hF : RFn M n kd V) {f t : Int32} : Cm l E yX7_cutBack cX7_cutBack 5 (some .int) 4 [.ref (E.2.2.1 65), .int f, .int t] M (pR (.int (A_cutBack (M 71) n kd V f t)) (U_cutBack (becR n (tn t) 5 (fun s => cbk (V (tn f)) (M 71) n s) M) (M 71) n kd V f t M)) := by
  refine Cm.of (by decide) (Nat.le_of_ble_eq_true rfl) (fun K k kt => ?_)
  show G l E K 0 [(0, .ref (E.2.2.1 65)), (1, .int f), (2, .int t)] [] M
  obtain ⟨hn0, hn1, hn6⟩ := id hn
  have hp := p2_le6 hn6
  have hp2 := p2_ge2 hn1
  refine gs_iload_n (q := 1) k rfl rfl dX7_cutBack_0 ?_
  refine gs_callS (As := [.int f]) k c_X7_isFunction cf_X7_isFunction sm_X7_isFunction ml_X7_128 (by decide) rfl rfl (Nat.le_of_ble_eq_true rfl) dX7_cutBack_1 (ppB (fun c1 => ?_) (fun c1 => ?_))
  · have bc1 := inR_lt c1
    refine gs_if_eq (tgt := 14) k (by decide) dX7_cutBack_4 (fun h => absurd h (by decide)) (fun _ => ?_)
    refine gs_iload_n (q := 2) k rfl rfl dX7_cutBack_7 ?_
    refine gs_callS (As := [.int t]) k c_X7_isFunction cf_X7_isFunction sm_X7_isFunction ml_X7_128 (by decide) rfl rfl (Nat.le_of_ble_eq_true rfl) dX7_cutBack_8 (ppB (fun c2 => ?_) (fun c2 => ?_))
    · have bc2 := inR_lt c2
      refine gs_if_ne (tgt := 16) k (by decide) dX7_cutBack_11 (fun _ => ?_) (fun h => absurd h (by decide))
      refine gs_aload_n (q := 0) k rfl rfl dX7_cutBack_16 ?_
      refine gs_iload_n (q := 1) k rfl rfl dX7_cutBack_17 ?_
      refine gs_callV (As := [.int f]) (k0 := 65) (ci := 7) (T := TX7) (N := 27) k (c_X7_isThere hI hF) cf_X7_isThere im_X7_isThere sl_X7_isThere ml_X7_163 (hI 65 (by omega)) rfl rfl (by decide) rfl rfl (Nat.le_of_ble_eq_true rfl) dX7_cutBack_18 (ppB (fun c3 => ?_) (fun c3 => ?_))
      · have bc3 := inR_lt c3.1
        have tc3 := c3.2
        refine gs_if_ne (tgt := 27) k (by decide) dX7_cutBack_21 (fun _ => ?_) (fun h => absurd h (by decide))
        refine gs_iconst (v := 0) k (by decide) dX7_cutBack_27 ?_
        refine gs_istore_n (lv' := [(3, .int 0), (0, .ref (E.2.2.1 65)), (1, .int f), (2, .int t)]) k rfl (by decide) rfl dX7_cutBack_28 ?_
        refine gs_lv (lv' := [(0, .ref (E.2.2.1 65)), (1, .int f), (2, .int t), (3, .int 0)]) [1, 2, 3, 0] rfl ?_
        refine gs_M (rset_same M 80).symm ?_
        refine for_up (σ := (Nat → Int32)) (fun s r => G l E K 29 [(0, .ref (E.2.2.1 65)), (1, .int f), (2, .int t), (3, .int (nI s))] [] (rset M 80 r)) (fun s r => upd r s (cbk (V (tn f)) (M 71) n s)) (2 ^ n) (fun s r hs hGs => ?_) (2 ^ n) 0 (M 80) (by omega) ?_
        · show G l E K 29 [(0, .ref (E.2.2.1 65)), (1, .int f), (2, .int t), (3, .int (nI s))] [] (rset M 80 r)
          refine gs_iload_n (q := 3) k rfl rfl dX7_cutBack_29 ?_
          refine gs_aload_n (q := 0) k rfl rfl dX7_cutBack_30 ?_
          refine gs_callV (As := []) (k0 := 65) (ci := 7) (T := TX7) (N := 27) k (c_X7_sets hI (Rn_rs (by omega) hn)) cf_X7_sets im_X7_sets sl_X7_sets ml_X7_83 (hI 65 (by omega)) rfl rfl (by decide) rfl rfl (Nat.le_of_ble_eq_true rfl) dX7_cutBack_31 (ppI ?_)
          refine gs_icmpN_ge (a := s) (b := 2 ^ n) (tgt := 116) k rfl rfl (by omega) (by omega) (by decide) dX7_cutBack_34 (fun c4 => absurd c4 (by omega)) (fun c4 => ?_)
          refine gs_aload_n (q := 0) k rfl rfl dX7_cutBack_37 ?_
          refine gs_get (C := RX7) (T := TX7) (N := 27) (ci := 7) (k0 := 65) (j := 9) k (hI 65 (by omega)) rfl rfl inX7 (by decide) fl_X7_42 rfl rfl dX7_cutBack_38 ?_
          refine gs_iload_n (q := 3) k rfl rfl dX7_cutBack_41 ?_
          refine gs_aload_n (q := 0) k rfl rfl dX7_cutBack_42 ?_
          refine gs_get (C := RX7) (T := TX7) (N := 27) (ci := 7) (k0 := 65) (j := 8) k (hI 65 (by omega)) rfl rfl inX7 (by decide) fl_X7_39 rfl rfl dX7_cutBack_43 ?_
          refine gs_iload_n (q := 1) k rfl rfl dX7_cutBack_46 ?_
          refine gs_aaldIN (k0 := 73) (n := 6) (e := tn f) (a := E.2.2.1 (74 + (tn f))) k (hI 73 (by omega)) (fun _ => rfl) (inR_eq c1) (by omega) (by decide) rfl dX7_cutBack_47 ?_
          refine gs_iload_n (q := 3) k rfl rfl dX7_cutBack_48 ?_
          refine gs_ialdN (k0 := (74 + (tn f))) (n := 64) (e := s) k (hI (74 + (tn f)) (by omega)) (ent_RV (by omega)) rfl (by omega) (by decide) dX7_cutBack_49 ?_
          refine gs_top (y := V (tn f) s) (rdr (by omega) ((hF (tn f) (by omega)).2.2 (by assumption) s (by omega))) ?_
          refine gs_iastN (k0 := 80) (n := 64) (e := s) k (hI 80 (by omega)) (fun _ => rfl) rfl (by omega) (by decide) dX7_cutBack_50 ?_
          refine gs_M (mw_rset _ _ _ _ _) ?_
          refine gs_iconst (v := 0) k (by decide) dX7_cutBack_51 ?_
          refine gs_istore (lv' := [(4, .int 0), (0, .ref (E.2.2.1 65)), (1, .int f), (2, .int t), (3, .int (nI s))]) k (by decide) rfl dX7_cutBack_52 ?_
          refine gs_lv (lv' := [(0, .ref (E.2.2.1 65)), (1, .int f), (2, .int t), (3, .int (nI s)), (4, .int 0)]) [1, 2, 3, 4, 0] rfl ?_
          refine for_up (σ := (Nat → Int32)) (fun u q => G l E K 54 [(0, .ref (E.2.2.1 65)), (1, .int f), (2, .int t), (3, .int (nI s)), (4, .int (nI u))] [] (rset M 80 q)) (fun u q => if u &&& s = u then upd q s (imin (q s) (V (tn f) u + wsum (M 71) n (dif s u))) else q) s (fun u q hu hGu => ?_) s 0 (upd r s (V (tn f) s)) (by omega) ?_
          · show G l E K 54 [(0, .ref (E.2.2.1 65)), (1, .int f), (2, .int t), (3, .int (nI s)), (4, .int (nI u))] [] (rset M 80 q)
            have hd1 := dif_le s u
            have hd2 : u &&& s ≤ u := Nat.and_le_left
            refine gs_iload (q := 4) k rfl dX7_cutBack_54 ?_
            refine gs_iload_n (q := 3) k rfl rfl dX7_cutBack_56 ?_
            refine gs_icmpN_ge (a := u) (b := s) (tgt := 110) k rfl rfl (by omega) (by omega) (by decide) dX7_cutBack_57 (fun c5 => absurd c5 (by omega)) (fun c5 => ?_)
            refine gs_iload (q := 4) k rfl dX7_cutBack_60 ?_
            refine gs_iload_n (q := 3) k rfl rfl dX7_cutBack_62 ?_
            refine gs_iandN (a := u) (b := s) k rfl rfl dX7_cutBack_63 ?_
            refine gs_iload (q := 4) k rfl dX7_cutBack_64 ?_
            refine gs_icmpN_ne (a := u &&& s) (b := u) (tgt := 104) k rfl rfl (by omega) (by omega) (by decide) dX7_cutBack_66 (fun c6 => ?_) (fun c6 => ?_)
            · refine gs_iincN (q := 4) (a := u) (c := 1) (lv' := [(4, .int (nI (u + 1))), (0, .ref (E.2.2.1 65)), (1, .int f), (2, .int t), (3, .int (nI s))]) k rfl rfl (by decide) rfl dX7_cutBack_104 ?_
              refine gs_goto (tgt := 54) k (by decide) dX7_cutBack_107 ?_
              refine gs_lv (lv' := [(0, .ref (E.2.2.1 65)), (1, .int f), (2, .int t), (3, .int (nI s)), (4, .int (nI (u + 1)))]) [1, 2, 3, 4, 0] rfl ?_
              exact hGu _ (by rw [if_neg c6])
            · refine gs_aload_n (q := 0) k rfl rfl dX7_cutBack_69 ?_
              refine gs_get (C := RX7) (T := TX7) (N := 27) (ci := 7) (k0 := 65) (j := 9) k (hI 65 (by omega)) rfl rfl inX7 (by decide) fl_X7_42 rfl rfl dX7_cutBack_70 ?_
              refine gs_iload_n (q := 3) k rfl rfl dX7_cutBack_73 ?_
              refine gs_aload_n (q := 0) k rfl rfl dX7_cutBack_74 ?_
              refine gs_get (C := RX7) (T := TX7) (N := 27) (ci := 7) (k0 := 65) (j := 9) k (hI 65 (by omega)) rfl rfl inX7 (by decide) fl_X7_42 rfl rfl dX7_cutBack_75 ?_
              refine gs_iload_n (q := 3) k rfl rfl dX7_cutBack_78 ?_
              refine gs_ialdN (k0 := 80) (n := 64) (e := s) k (hI 80 (by omega)) (fun _ => rfl) rfl (by omega) (by decide) dX7_cutBack_79 ?_
              refine gs_top (y := q s) (congrFun (rset_eq _ _ _) _) ?_
              refine gs_aload_n (q := 0) k rfl rfl dX7_cutBack_80 ?_
              refine gs_get (C := RX7) (T := TX7) (N := 27) (ci := 7) (k0 := 65) (j := 8) k (hI 65 (by omega)) rfl rfl inX7 (by decide) fl_X7_39 rfl rfl dX7_cutBack_81 ?_
              refine gs_iload_n (q := 1) k rfl rfl dX7_cutBack_84 ?_
              refine gs_aaldIN (k0 := 73) (n := 6) (e := tn f) (a := E.2.2.1 (74 + (tn f))) k (hI 73 (by omega)) (fun _ => rfl) (inR_eq c1) (by omega) (by decide) rfl dX7_cutBack_85 ?_
              refine gs_iload (q := 4) k rfl dX7_cutBack_86 ?_
              refine gs_ialdN (k0 := (74 + (tn f))) (n := 64) (e := u) k (hI (74 + (tn f)) (by omega)) (ent_RV (by omega)) rfl (by omega) (by decide) dX7_cutBack_88 ?_
              refine gs_top (y := V (tn f) u) (rdr (by omega) ((hF (tn f) (by omega)).2.2 (by assumption) u (by omega))) ?_
              refine gs_aload_n (q := 0) k rfl rfl dX7_cutBack_89 ?_
              refine gs_iload_n (q := 3) k rfl rfl dX7_cutBack_90 ?_
              refine gs_iload (q := 4) k rfl dX7_cutBack_91 ?_
              refine gs_iconst (v := -1) k (by decide) dX7_cutBack_93 ?_
              refine gs_ixor k dX7_cutBack_94 ?_
              refine gs_iand k dX7_cutBack_95 ?_
              refine gs_top (y := nI (dif s u)) (ni_dif s (by omega) u (by omega)) ?_
              refine gs_callV (As := [.int (nI (dif s u))]) (k0 := 65) (ci := 7) (T := TX7) (N := 27) k (c_X7_weightOf (S := dif s u) hI (Rn_rs (by omega) hn) rfl (by omega)) cf_X7_weightOf im_X7_weightOf sl_X7_weightOf ml_X7_156 (hI 65 (by omega)) rfl rfl (by decide) rfl rfl (Nat.le_of_ble_eq_true rfl) dX7_cutBack_96 (ppI ?_)
              refine gs_top (y := wsum (M 71) n (dif s u)) rfl ?_
              refine gs_iadd k dX7_cutBack_99 ?_
              refine gs_min k ml_X7_122 (by decide) (Nat.le_of_ble_eq_true rfl) dX7_cutBack_100 ?_
              refine gs_iastN (k0 := 80) (n := 64) (e := s) k (hI 80 (by omega)) (fun _ => rfl) rfl (by omega) (by decide) dX7_cutBack_103 ?_
              refine gs_M (mw_rset _ _ _ _ _) ?_
              refine gs_iincN (q := 4) (a := u) (c := 1) (lv' := [(4, .int (nI (u + 1))), (0, .ref (E.2.2.1 65)), (1, .int f), (2, .int t), (3, .int (nI s))]) k rfl rfl (by decide) rfl dX7_cutBack_104 ?_
              refine gs_goto (tgt := 54) k (by decide) dX7_cutBack_107 ?_
              refine gs_lv (lv' := [(0, .ref (E.2.2.1 65)), (1, .int f), (2, .int t), (3, .int (nI s)), (4, .int (nI (u + 1)))]) [1, 2, 3, 4, 0] rfl ?_
              exact hGu _ (by rw [if_pos c6])
          · show G l E K 54 [(0, .ref (E.2.2.1 65)), (1, .int f), (2, .int t), (3, .int (nI s)), (4, .int (nI s))] [] (rset M 80 (lp (fun u q => if u &&& s = u then upd q s (imin (q s) (V (tn f) u + wsum (M 71) n (dif s u))) else q) s 0 (upd r s (V (tn f) s))))
            rw [lp_cell (fun u => u &&& s = u) (fun u => V (tn f) u + wsum (M 71) n (dif s u))]
            show G l E K 54 [(0, .ref (E.2.2.1 65)), (1, .int f), (2, .int t), (3, .int (nI s)), (4, .int (nI s))] [] (rset M 80 (upd r s (cbk (V (tn f)) (M 71) n s)))
            refine gs_iload (q := 4) k rfl dX7_cutBack_54 ?_
            refine gs_iload_n (q := 3) k rfl rfl dX7_cutBack_56 ?_
            refine gs_icmpN_ge (a := s) (b := s) (tgt := 110) k rfl rfl (by omega) (by omega) (by decide) dX7_cutBack_57 (fun c5 => ?_) (fun c5 => absurd c5 (by omega))
            refine gs_iincN (q := 3) (a := s) (c := 1) (lv' := [(3, .int (nI (s + 1))), (0, .ref (E.2.2.1 65)), (1, .int f), (2, .int t), (4, .int (nI s))]) k rfl rfl (by decide) rfl dX7_cutBack_110 ?_
            refine gs_goto (tgt := 29) k (by decide) dX7_cutBack_113 ?_
            refine gs_lv (lv' := [(0, .ref (E.2.2.1 65)), (1, .int f), (2, .int t), (3, .int (nI (s + 1))), (4, .int (nI s))]) [1, 2, 3, 0, 4] rfl ?_
            refine gs_lv (lv' := [(0, .ref (E.2.2.1 65)), (1, .int f), (2, .int t), (3, .int (nI (s + 1)))]) [0, 1, 2, 3] rfl ?_
            exact hGs _ rfl
        · show G l E K 29 [(0, .ref (E.2.2.1 65)), (1, .int f), (2, .int t), (3, .int (nI (2 ^ n)))] [] (rset M 80 (lp (fun s r => upd r s (cbk (V (tn f)) (M 71) n s)) (2 ^ n) 0 (M 80)))
          rw [lp_setr]
          show G l E K 29 [(0, .ref (E.2.2.1 65)), (1, .int f), (2, .int t), (3, .int (nI (2 ^ n)))] [] (rset M 80 (setr (2 ^ n) (fun s => cbk (V (tn f)) (M 71) n s) (M 80)))
          refine gs_iload_n (q := 3) k rfl rfl dX7_cutBack_29 ?_
          refine gs_aload_n (q := 0) k rfl rfl dX7_cutBack_30 ?_
          refine gs_callV (As := []) (k0 := 65) (ci := 7) (T := TX7) (N := 27) k (c_X7_sets hI (Rn_rs (by omega) hn)) cf_X7_sets im_X7_sets sl_X7_sets ml_X7_83 (hI 65 (by omega)) rfl rfl (by decide) rfl rfl (Nat.le_of_ble_eq_true rfl) dX7_cutBack_31 (ppI ?_)
          refine gs_icmpN_ge (a := 2 ^ n) (b := 2 ^ n) (tgt := 116) k rfl rfl (by omega) (by omega) (by decide) dX7_cutBack_34 (fun c4 => ?_) (fun c4 => absurd c4 (by omega))
          refine gs_aload_n (q := 0) k rfl rfl dX7_cutBack_116 ?_
          refine gs_iload_n (q := 2) k rfl rfl dX7_cutBack_117 ?_
          refine gs_callV (As := [.int t]) (k0 := 65) (ci := 7) (T := TX7) (N := 27) k (c_X7_comes hI (Rn_rs (by omega) hn) (t := tn t) (inR_eq c2) (by omega) (g := fun s => cbk (V (tn f)) (M 71) n s) rdraft) cf_X7_comes im_X7_comes sl_X7_comes ml_X7_166 (hI 65 (by omega)) rfl rfl (by decide) rfl rfl (Nat.le_of_ble_eq_true rfl) dX7_cutBack_118 (ppC (fun c5 => ?_) (fun c5 => ?_))
          · exact gs_iret k kt dX7_cutBack_121 ⟨(by simp [-Int32.not_lt, A_cutBack, U_cutBack, ifc_T, ifc_F, c1, c2, c3, tc3, c5]), Same.of (X := (becR n (tn t) 5 (fun s => cbk (V (tn f)) (M 71) n s) M)) (by simp [-Int32.not_lt, A_cutBack, U_cutBack, ifc_T, ifc_F, c1, c2, c3, tc3, c5]) (bec_same (by omega) (Same.r1 Same.rf (fun j => by unfold scr; omega)) rdraft)⟩
          · exact gs_iret k kt dX7_cutBack_121 ⟨(by simp [-Int32.not_lt, A_cutBack, U_cutBack, ifc_T, ifc_F, c1, c2, c3, tc3, c5]), Same.of (X := M) (by simp [-Int32.not_lt, A_cutBack, U_cutBack, ifc_T, ifc_F, c1, c2, c3, tc3, c5]) (Same.r1 Same.rf (fun j => by unfold scr; omega))⟩
      · have qc3 : kd (tn f) < 0 := Classical.byContradiction (fun k => c3 ⟨by assumption, k⟩)
        refine gs_if_ne (tgt := 27) k (by decide) dX7_cutBack_21 (fun h => absurd h (by decide)) (fun _ => ?_)
        refine gs_bipush (v := -11) k (by decide) dX7_cutBack_24 ?_
        exact gs_iret k kt dX7_cutBack_26 ⟨(by simp [-Int32.not_lt, A_cutBack, U_cutBack, ifc_T, ifc_F, c1, c2, c3, qc3]), Same.of (X := M) (by simp [-Int32.not_lt, A_cutBack, U_cutBack, ifc_T, ifc_F, c1, c2, c3, qc3]) Same.rf⟩
    · refine gs_if_ne (tgt := 16) k (by decide) dX7_cutBack_11 (fun h => absurd h (by decide)) (fun _ => ?_)
      refine gs_iconst (v := -1) k (by decide) dX7_cutBack_14 ?_
      exact gs_iret k kt dX7_cutBack_15 ⟨(by simp [-Int32.not_lt, A_cutBack, U_cutBack, ifc_T, ifc_F, c1, c2]), Same.of (X := M) (by simp [-Int32.not_lt, A_cutBack, U_cutBack, ifc_T, ifc_F, c1, c2]) Same.rf⟩
  · refine gs_if_eq (tgt := 14) k (by decide) dX7_cutBack_4 (fun _ => ?_) (fun h => absurd h (by decide))
    refine gs_iconst (v := -1) k (by decide) dX7_cutBack_14 ?_
    exact gs_iret k kt dX7_cutBack_15 ⟨(by simp [-Int32.not_lt, A_cutBack, U_cutBack, ifc_T, ifc_F, c1]), Same.of (X := M) (by simp [-Int32.not_lt, A_cutBack, U_cutBack, ifc_T, ifc_F, c1]) Same.rf⟩

