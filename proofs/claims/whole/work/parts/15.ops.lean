noncomputable def A_sum (n : Nat) (kd : Nat → Int32) (V : Nat → Nat → Int32) (f g t : Int32) : Int32 := ifc (inR f 6 ∧ inR g 6 ∧ inR t 6) (ifc (¬ kd (tn f) < 0 ∧ ¬ kd (tn g) < 0) (ifc (allV (2 ^ n) (fun s => V (tn f) s + V (tn g) s)) (1) (-3)) (-11)) (-1)
noncomputable def U_sum (c : Bool) (n : Nat) (kd : Nat → Int32) (V : Nat → Nat → Int32) (f g t : Int32) (M : Mm) : Mm := ifc (inR f 6 ∧ inR g 6 ∧ inR t 6) (ifc (¬ kd (tn f) < 0 ∧ ¬ kd (tn g) < 0) (ifc (allV (2 ^ n) (fun s => V (tn f) s + V (tn g) s)) ((if c then fsetC n (tn t) 5 (fun s => V (tn f) s + V (tn g) s) M else becR n (tn t) 5 (fun s => V (tn f) s + V (tn g) s) M)) M) M) M
theorem cf_X6_sum : CF yX6_sum cX6_sum 7 (some .int) 3 := ⟨cd_X6_sum, iz_X6, by decide, by decide +kernel, by decide +kernel, by decide +kernel⟩
set_option maxRecDepth 100000 in
set_option maxHeartbeats 4000000 in
theorem c_X6_sum {l : Launch} {E : Ev} {M : Mm} {n : Nat} {kd : Nat → Int32} {V : Nat → Nat → Int32} (hI : ∀ k, k < 108 → k ∈ E.2.1) (hn : Cn M n) (hF : CFn M n kd V) {f g t : Int32} : Cm l E yX6_sum cX6_sum 7 (some .int) 3 [.ref (E.2.2.1 0), .int f, .int g, .int t] M (pR (.int (A_sum n kd V f g t)) (U_sum true n kd V f g t M)) := by
  refine Cm.of (by decide) (Nat.le_of_ble_eq_true rfl) (fun K k kt => ?_)
  show G l E K 0 [(0, .ref (E.2.2.1 0)), (1, .int f), (2, .int g), (3, .int t)] [] M
  obtain ⟨hn0, hn1, hn6⟩ := id hn
  have hp := p2_le6 hn6
  have hp2 := p2_ge2 hn1
  refine gs_iload_n (q := 1) k rfl rfl dX6_sum_0 ?_
  refine gs_callS (As := [.int f]) k c_X6_isFunction cf_X6_isFunction sm_X6_isFunction ml_X6_101 (by decide) rfl rfl (Nat.le_of_ble_eq_true rfl) dX6_sum_1 (ppB (fun c1 => ?_) (fun c1 => ?_))
  · have bc1 := inR_lt c1
    refine gs_if_eq (tgt := 21) k (by decide) dX6_sum_4 (fun h => absurd h (by decide)) (fun _ => ?_)
    refine gs_iload_n (q := 2) k rfl rfl dX6_sum_7 ?_
    refine gs_callS (As := [.int g]) k c_X6_isFunction cf_X6_isFunction sm_X6_isFunction ml_X6_101 (by decide) rfl rfl (Nat.le_of_ble_eq_true rfl) dX6_sum_8 (ppB (fun c2 => ?_) (fun c2 => ?_))
    · have bc2 := inR_lt c2
      refine gs_if_eq (tgt := 21) k (by decide) dX6_sum_11 (fun h => absurd h (by decide)) (fun _ => ?_)
      refine gs_iload_n (q := 3) k rfl rfl dX6_sum_14 ?_
      refine gs_callS (As := [.int t]) k c_X6_isFunction cf_X6_isFunction sm_X6_isFunction ml_X6_101 (by decide) rfl rfl (Nat.le_of_ble_eq_true rfl) dX6_sum_15 (ppB (fun c3 => ?_) (fun c3 => ?_))
      · have bc3 := inR_lt c3
        refine gs_if_ne (tgt := 23) k (by decide) dX6_sum_18 (fun _ => ?_) (fun h => absurd h (by decide))
        refine gs_aload_n (q := 0) k rfl rfl dX6_sum_23 ?_
        refine gs_get (C := RX6) (T := TX6) (N := 10) (ci := 6) (k0 := 0) (j := 0) k (hI 0 (by omega)) rfl rfl inX6 (by decide) fl_X6_12 rfl rfl dX6_sum_24 ?_
        refine gs_get (C := RX5) (T := TX5) (N := 9) (ci := 5) (k0 := 1) (j := 7) k (hI 1 (by omega)) rfl rfl inX5 (by decide) fl_X6_107 rfl rfl dX6_sum_27 ?_
        refine gs_iload_n (q := 1) k rfl rfl dX6_sum_30 ?_
        refine gs_aaldSN (k0 := 8) (n := 6) (e := tn f) (a := E.2.2.1 (10 + 2 * (tn f))) k (hI 8 (by omega)) (fun _ => rfl) (inR_eq c1) (by omega) (by decide) rfl dX6_sum_31 ?_
        refine gs_callV (As := []) (k0 := (10 + 2 * (tn f))) (ci := 3) (T := TX3) (N := 2) k (c_X3_isMissing hI hF (by omega)) cf_X3_isMissing im_X3_isMissing sl_X3_isMissing ml_X6_127 (hI (10 + 2 * (tn f)) (by omega)) (ent_F1 (by omega) _) rfl (by decide) rfl rfl (Nat.le_of_ble_eq_true rfl) dX6_sum_32 (ppB (fun c4 => ?_) (fun c4 => ?_))
        · refine gs_if_ne (tgt := 53) k (by decide) dX6_sum_35 (fun _ => ?_) (fun h => absurd h (by decide))
          refine gs_bipush (v := -11) k (by decide) dX6_sum_53 ?_
          exact gs_iret k kt dX6_sum_55 ⟨(by simp [-Int32.not_lt, A_sum, U_sum, ifc_T, ifc_F, c1, c2, c3, c4]), Same.of (X := M) (by simp [-Int32.not_lt, A_sum, U_sum, ifc_T, ifc_F, c1, c2, c3, c4]) Same.rf⟩
        · refine gs_if_ne (tgt := 53) k (by decide) dX6_sum_35 (fun h => absurd h (by decide)) (fun _ => ?_)
          refine gs_aload_n (q := 0) k rfl rfl dX6_sum_38 ?_
          refine gs_get (C := RX6) (T := TX6) (N := 10) (ci := 6) (k0 := 0) (j := 0) k (hI 0 (by omega)) rfl rfl inX6 (by decide) fl_X6_12 rfl rfl dX6_sum_39 ?_
          refine gs_get (C := RX5) (T := TX5) (N := 9) (ci := 5) (k0 := 1) (j := 7) k (hI 1 (by omega)) rfl rfl inX5 (by decide) fl_X6_107 rfl rfl dX6_sum_42 ?_
          refine gs_iload_n (q := 2) k rfl rfl dX6_sum_45 ?_
          refine gs_aaldSN (k0 := 8) (n := 6) (e := tn g) (a := E.2.2.1 (10 + 2 * (tn g))) k (hI 8 (by omega)) (fun _ => rfl) (inR_eq c2) (by omega) (by decide) rfl dX6_sum_46 ?_
          refine gs_callV (As := []) (k0 := (10 + 2 * (tn g))) (ci := 3) (T := TX3) (N := 2) k (c_X3_isMissing hI hF (by omega)) cf_X3_isMissing im_X3_isMissing sl_X3_isMissing ml_X6_127 (hI (10 + 2 * (tn g)) (by omega)) (ent_F1 (by omega) _) rfl (by decide) rfl rfl (Nat.le_of_ble_eq_true rfl) dX6_sum_47 (ppB (fun c5 => ?_) (fun c5 => ?_))
          · refine gs_if_eq (tgt := 56) k (by decide) dX6_sum_50 (fun h => absurd h (by decide)) (fun _ => ?_)
            refine gs_bipush (v := -11) k (by decide) dX6_sum_53 ?_
            exact gs_iret k kt dX6_sum_55 ⟨(by simp [-Int32.not_lt, A_sum, U_sum, ifc_T, ifc_F, c1, c2, c3, c4, c5]), Same.of (X := M) (by simp [-Int32.not_lt, A_sum, U_sum, ifc_T, ifc_F, c1, c2, c3, c4, c5]) Same.rf⟩
          · refine gs_if_eq (tgt := 56) k (by decide) dX6_sum_50 (fun _ => ?_) (fun h => absurd h (by decide))
            refine gs_aload_n (q := 0) k rfl rfl dX6_sum_56 ?_
            refine gs_get (C := RX6) (T := TX6) (N := 10) (ci := 6) (k0 := 0) (j := 0) k (hI 0 (by omega)) rfl rfl inX6 (by decide) fl_X6_12 rfl rfl dX6_sum_57 ?_
            refine gs_get (C := RX5) (T := TX5) (N := 9) (ci := 5) (k0 := 1) (j := 7) k (hI 1 (by omega)) rfl rfl inX5 (by decide) fl_X6_107 rfl rfl dX6_sum_60 ?_
            refine gs_iload_n (q := 1) k rfl rfl dX6_sum_63 ?_
            refine gs_aaldSN (k0 := 8) (n := 6) (e := tn f) (a := E.2.2.1 (10 + 2 * (tn f))) k (hI 8 (by omega)) (fun _ => rfl) (inR_eq c1) (by omega) (by decide) rfl dX6_sum_64 ?_
            refine gs_get (C := RX3) (T := TX3) (N := 2) (ci := 3) (k0 := (10 + 2 * (tn f))) (j := 1) k (hI (10 + 2 * (tn f)) (by omega)) (ent_F1 (by omega) _) rfl inX3 (by decide) fl_X6_111 rfl rfl dX6_sum_65 ?_
            refine gs_astore (lv' := [(4, .ref (E.2.2.1 (11 + 2 * (tn f)))), (0, .ref (E.2.2.1 0)), (1, .int f), (2, .int g), (3, .int t)]) k (by decide) rfl dX6_sum_68 ?_
            refine gs_aload_n (q := 1) k rfl rfl dX6_sum_70 ?_
            refine gs_get (C := RX6) (T := TX6) (N := 10) (ci := 6) (k0 := 0) (j := 0) k (hI 0 (by omega)) rfl rfl inX6 (by decide) fl_X6_12 rfl rfl dX6_sum_71 ?_
            refine gs_get (C := RX5) (T := TX5) (N := 9) (ci := 5) (k0 := 1) (j := 7) k (hI 1 (by omega)) rfl rfl inX5 (by decide) fl_X6_107 rfl rfl dX6_sum_74 ?_
            refine gs_iload_n (q := 3) k rfl rfl dX6_sum_77 ?_
            refine gs_aaldSN (k0 := 8) (n := 6) (e := tn g) (a := E.2.2.1 (10 + 2 * (tn g))) k (hI 8 (by omega)) (fun _ => rfl) (inR_eq c2) (by omega) (by decide) rfl dX6_sum_78 ?_
            refine gs_get (C := RX3) (T := TX3) (N := 2) (ci := 3) (k0 := (10 + 2 * (tn g))) (j := 1) k (hI (10 + 2 * (tn g)) (by omega)) (ent_F1 (by omega) _) rfl inX3 (by decide) fl_X6_111 rfl rfl dX6_sum_79 ?_
            refine gs_astore (lv' := [(5, .ref (E.2.2.1 (11 + 2 * (tn g)))), (4, .ref (E.2.2.1 (11 + 2 * (tn f)))), (0, .ref (E.2.2.1 0)), (1, .int f), (2, .int g), (3, .int t)]) k (by decide) rfl dX6_sum_82 ?_
            refine gs_iconst (v := 0) k (by decide) dX6_sum_84 ?_
            refine gs_istore (lv' := [(6, .int 0), (5, .ref (E.2.2.1 (11 + 2 * (tn g)))), (4, .ref (E.2.2.1 (11 + 2 * (tn f)))), (0, .ref (E.2.2.1 0)), (1, .int f), (2, .int g), (3, .int t)]) k (by decide) rfl dX6_sum_85 ?_
            refine gs_lv (lv' := [(0, .ref (E.2.2.1 0)), (1, .int f), (2, .int g), (3, .int t), (4, .ref (E.2.2.1 (11 + 2 * (tn f)))), (5, .ref (E.2.2.1 (11 + 2 * (tn g)))), (6, .int 0)]) [3, 4, 5, 6, 2, 1, 0] rfl ?_
            refine gs_M (rset_same M 62).symm ?_
            refine for_up (σ := (Nat → Int32)) (fun s r => G l E K 87 [(0, .ref (E.2.2.1 0)), (1, .int f), (2, .int g), (3, .int t), (4, .ref (E.2.2.1 (11 + 2 * (tn f)))), (5, .ref (E.2.2.1 (11 + 2 * (tn g)))), (6, .int (nI s))] [] (rset M 62 r)) (fun s r => upd r s (V (tn f) s + V (tn g) s)) (2 ^ n) (fun s r hs hGs => ?_) (2 ^ n) 0 (M 62) (by omega) ?_
            · show G l E K 87 [(0, .ref (E.2.2.1 0)), (1, .int f), (2, .int g), (3, .int t), (4, .ref (E.2.2.1 (11 + 2 * (tn f)))), (5, .ref (E.2.2.1 (11 + 2 * (tn g)))), (6, .int (nI s))] [] (rset M 62 r)
              refine gs_iload (q := 6) k rfl dX6_sum_87 ?_
              refine gs_aload_n (q := 0) k rfl rfl dX6_sum_89 ?_
              refine gs_get (C := RX6) (T := TX6) (N := 10) (ci := 6) (k0 := 0) (j := 0) k (hI 0 (by omega)) rfl rfl inX6 (by decide) fl_X6_12 rfl rfl dX6_sum_90 ?_
              refine gs_callV (As := []) (k0 := 1) (ci := 5) (T := TX5) (N := 9) k (c_X5_sets hI (Cn_rs (by omega) hn)) cf_X5_sets im_X5_sets sl_X5_sets ml_X6_131 (hI 1 (by omega)) rfl rfl (by decide) rfl rfl (Nat.le_of_ble_eq_true rfl) dX6_sum_93 (ppI ?_)
              refine gs_icmpN_ge (a := s) (b := 2 ^ n) (tgt := 123) k rfl rfl (by omega) (by omega) (by decide) dX6_sum_96 (fun c6 => absurd c6 (by omega)) (fun c6 => ?_)
              refine gs_aload_n (q := 0) k rfl rfl dX6_sum_99 ?_
              refine gs_get (C := RX6) (T := TX6) (N := 10) (ci := 6) (k0 := 0) (j := 7) k (hI 0 (by omega)) rfl rfl inX6 (by decide) fl_X6_53 rfl rfl dX6_sum_100 ?_
              refine gs_iload (q := 6) k rfl dX6_sum_103 ?_
              refine gs_aload (q := 4) k rfl dX6_sum_105 ?_
              refine gs_iload (q := 6) k rfl dX6_sum_107 ?_
              refine gs_ialdN (k0 := (11 + 2 * (tn f))) (n := 64) (e := s) k (hI (11 + 2 * (tn f)) (by omega)) (ent_V1 (by omega)) rfl (by omega) (by decide) dX6_sum_109 ?_
              refine gs_top (y := V (tn f) s) (rdr (by omega) ((hF (tn f) (by omega)).2.2 s (by omega))) ?_
              refine gs_aload (q := 5) k rfl dX6_sum_110 ?_
              refine gs_iload (q := 6) k rfl dX6_sum_112 ?_
              refine gs_ialdN (k0 := (11 + 2 * (tn g))) (n := 64) (e := s) k (hI (11 + 2 * (tn g)) (by omega)) (ent_V1 (by omega)) rfl (by omega) (by decide) dX6_sum_114 ?_
              refine gs_top (y := V (tn g) s) (rdr (by omega) ((hF (tn g) (by omega)).2.2 s (by omega))) ?_
              refine gs_iadd k dX6_sum_115 ?_
              refine gs_iastN (k0 := 62) (n := 64) (e := s) k (hI 62 (by omega)) (fun _ => rfl) rfl (by omega) (by decide) dX6_sum_116 ?_
              refine gs_M (mw_rset _ _ _ _ _) ?_
              refine gs_iincN (q := 6) (a := s) (c := 1) (lv' := [(6, .int (nI (s + 1))), (0, .ref (E.2.2.1 0)), (1, .int f), (2, .int g), (3, .int t), (4, .ref (E.2.2.1 (11 + 2 * (tn f)))), (5, .ref (E.2.2.1 (11 + 2 * (tn g))))]) k rfl rfl (by decide) rfl dX6_sum_117 ?_
              refine gs_goto (tgt := 87) k (by decide) dX6_sum_120 ?_
              refine gs_lv (lv' := [(0, .ref (E.2.2.1 0)), (1, .int f), (2, .int g), (3, .int t), (4, .ref (E.2.2.1 (11 + 2 * (tn f)))), (5, .ref (E.2.2.1 (11 + 2 * (tn g)))), (6, .int (nI (s + 1)))]) [1, 2, 3, 4, 5, 6, 0] rfl ?_
              exact hGs _ rfl
            · show G l E K 87 [(0, .ref (E.2.2.1 0)), (1, .int f), (2, .int g), (3, .int t), (4, .ref (E.2.2.1 (11 + 2 * (tn f)))), (5, .ref (E.2.2.1 (11 + 2 * (tn g)))), (6, .int (nI (2 ^ n)))] [] (rset M 62 (lp (fun s r => upd r s (V (tn f) s + V (tn g) s)) (2 ^ n) 0 (M 62)))
              rw [lp_setr]
              show G l E K 87 [(0, .ref (E.2.2.1 0)), (1, .int f), (2, .int g), (3, .int t), (4, .ref (E.2.2.1 (11 + 2 * (tn f)))), (5, .ref (E.2.2.1 (11 + 2 * (tn g)))), (6, .int (nI (2 ^ n)))] [] (rset M 62 (setr (2 ^ n) (fun s => V (tn f) s + V (tn g) s) (M 62)))
              refine gs_iload (q := 6) k rfl dX6_sum_87 ?_
              refine gs_aload_n (q := 0) k rfl rfl dX6_sum_89 ?_
              refine gs_get (C := RX6) (T := TX6) (N := 10) (ci := 6) (k0 := 0) (j := 0) k (hI 0 (by omega)) rfl rfl inX6 (by decide) fl_X6_12 rfl rfl dX6_sum_90 ?_
              refine gs_callV (As := []) (k0 := 1) (ci := 5) (T := TX5) (N := 9) k (c_X5_sets hI (Cn_rs (by omega) hn)) cf_X5_sets im_X5_sets sl_X5_sets ml_X6_131 (hI 1 (by omega)) rfl rfl (by decide) rfl rfl (Nat.le_of_ble_eq_true rfl) dX6_sum_93 (ppI ?_)
              refine gs_icmpN_ge (a := 2 ^ n) (b := 2 ^ n) (tgt := 123) k rfl rfl (by omega) (by omega) (by decide) dX6_sum_96 (fun c6 => ?_) (fun c6 => absurd c6 (by omega))
              refine gs_aload_n (q := 0) k rfl rfl dX6_sum_123 ?_
              refine gs_iload_n (q := 3) k rfl rfl dX6_sum_124 ?_
              refine gs_callV (As := [.int t]) (k0 := 0) (ci := 6) (T := TX6) (N := 10) k (c_X6_settleIfInRange hI (Cn_rs (by omega) hn) (t := tn t) (inR_eq c3) (by omega) (g := fun s => V (tn f) s + V (tn g) s) rdraft) cf_X6_settleIfInRange im_X6_settleIfInRange sl_X6_settleIfInRange ml_X6_134 (hI 0 (by omega)) rfl rfl (by decide) rfl rfl (Nat.le_of_ble_eq_true rfl) dX6_sum_125 (ppC (fun c7 => ?_) (fun c7 => ?_))
              · exact gs_iret k kt dX6_sum_128 ⟨(by simp [-Int32.not_lt, A_sum, U_sum, ifc_T, ifc_F, c1, c2, c3, c4, c5, c7]), Same.of (X := (fsetC n (tn t) 5 (fun s => V (tn f) s + V (tn g) s) M)) (by simp [-Int32.not_lt, A_sum, U_sum, ifc_T, ifc_F, c1, c2, c3, c4, c5, c7]) (stl_same (by omega) (Same.r1 Same.rf (fun j => by unfold scr; omega)) rdraft)⟩
              · exact gs_iret k kt dX6_sum_128 ⟨(by simp [-Int32.not_lt, A_sum, U_sum, ifc_T, ifc_F, c1, c2, c3, c4, c5, c7]), Same.of (X := M) (by simp [-Int32.not_lt, A_sum, U_sum, ifc_T, ifc_F, c1, c2, c3, c4, c5, c7]) (Same.r1 Same.rf (fun j => by unfold scr; omega))⟩
      · refine gs_if_ne (tgt := 23) k (by decide) dX6_sum_18 (fun h => absurd h (by decide)) (fun _ => ?_)
        refine gs_iconst (v := -1) k (by decide) dX6_sum_21 ?_
        exact gs_iret k kt dX6_sum_22 ⟨(by simp [-Int32.not_lt, A_sum, U_sum, ifc_T, ifc_F, c1, c2, c3]), Same.of (X := M) (by simp [-Int32.not_lt, A_sum, U_sum, ifc_T, ifc_F, c1, c2, c3]) Same.rf⟩
    · refine gs_if_eq (tgt := 21) k (by decide) dX6_sum_11 (fun _ => ?_) (fun h => absurd h (by decide))
      refine gs_iconst (v := -1) k (by decide) dX6_sum_21 ?_
      exact gs_iret k kt dX6_sum_22 ⟨(by simp [-Int32.not_lt, A_sum, U_sum, ifc_T, ifc_F, c1, c2]), Same.of (X := M) (by simp [-Int32.not_lt, A_sum, U_sum, ifc_T, ifc_F, c1, c2]) Same.rf⟩
  · refine gs_if_eq (tgt := 21) k (by decide) dX6_sum_4 (fun _ => ?_) (fun h => absurd h (by decide))
    refine gs_iconst (v := -1) k (by decide) dX6_sum_21 ?_
    exact gs_iret k kt dX6_sum_22 ⟨(by simp [-Int32.not_lt, A_sum, U_sum, ifc_T, ifc_F, c1]), Same.of (X := M) (by simp [-Int32.not_lt, A_sum, U_sum, ifc_T, ifc_F, c1]) Same.rf⟩

theorem cf_X7_sum : CF yX7_sum cX7_sum 5 (some .int) 3 := ⟨cd_X7_sum, iz_X7, by decide, by decide +kernel, by decide +kernel, by decide +kernel⟩
set_option maxRecDepth 100000 in
set_option maxHeartbeats 4000000 in
theorem c_X7_sum {l : Launch} {E : Ev} {M : Mm} {n : Nat} {kd : Nat → Int32} {V : Nat → Nat → Int32} (hI : ∀ k, k < 108 → k ∈ E.2.1) (hn : Rn M n) (hF : RFn M n kd V) {f g t : Int32} : Cm l E yX7_sum cX7_sum 5 (some .int) 4 [.ref (E.2.2.1 65), .int f, .int g, .int t] M (pR (.int (A_sum n kd V f g t)) (U_sum false n kd V f g t M)) := by
  refine Cm.of (by decide) (Nat.le_of_ble_eq_true rfl) (fun K k kt => ?_)
  show G l E K 0 [(0, .ref (E.2.2.1 65)), (1, .int f), (2, .int g), (3, .int t)] [] M
  obtain ⟨hn0, hn1, hn6⟩ := id hn
  have hp := p2_le6 hn6
  have hp2 := p2_ge2 hn1
  refine gs_iload_n (q := 1) k rfl rfl dX7_sum_0 ?_
  refine gs_callS (As := [.int f]) k c_X7_isFunction cf_X7_isFunction sm_X7_isFunction ml_X7_128 (by decide) rfl rfl (Nat.le_of_ble_eq_true rfl) dX7_sum_1 (ppB (fun c1 => ?_) (fun c1 => ?_))
  · have bc1 := inR_lt c1
    refine gs_if_eq (tgt := 21) k (by decide) dX7_sum_4 (fun h => absurd h (by decide)) (fun _ => ?_)
    refine gs_iload_n (q := 2) k rfl rfl dX7_sum_7 ?_
    refine gs_callS (As := [.int g]) k c_X7_isFunction cf_X7_isFunction sm_X7_isFunction ml_X7_128 (by decide) rfl rfl (Nat.le_of_ble_eq_true rfl) dX7_sum_8 (ppB (fun c2 => ?_) (fun c2 => ?_))
    · have bc2 := inR_lt c2
      refine gs_if_eq (tgt := 21) k (by decide) dX7_sum_11 (fun h => absurd h (by decide)) (fun _ => ?_)
      refine gs_iload_n (q := 3) k rfl rfl dX7_sum_14 ?_
      refine gs_callS (As := [.int t]) k c_X7_isFunction cf_X7_isFunction sm_X7_isFunction ml_X7_128 (by decide) rfl rfl (Nat.le_of_ble_eq_true rfl) dX7_sum_15 (ppB (fun c3 => ?_) (fun c3 => ?_))
      · have bc3 := inR_lt c3
        refine gs_if_ne (tgt := 23) k (by decide) dX7_sum_18 (fun _ => ?_) (fun h => absurd h (by decide))
        refine gs_aload_n (q := 0) k rfl rfl dX7_sum_23 ?_
        refine gs_iload_n (q := 1) k rfl rfl dX7_sum_24 ?_
        refine gs_callV (As := [.int f]) (k0 := 65) (ci := 7) (T := TX7) (N := 27) k (c_X7_isThere hI hF) cf_X7_isThere im_X7_isThere sl_X7_isThere ml_X7_163 (hI 65 (by omega)) rfl rfl (by decide) rfl rfl (Nat.le_of_ble_eq_true rfl) dX7_sum_25 (ppB (fun c4 => ?_) (fun c4 => ?_))
        · have bc4 := inR_lt c4.1
          have tc4 := c4.2
          refine gs_if_eq (tgt := 39) k (by decide) dX7_sum_28 (fun h => absurd h (by decide)) (fun _ => ?_)
          refine gs_aload_n (q := 0) k rfl rfl dX7_sum_31 ?_
          refine gs_iload_n (q := 2) k rfl rfl dX7_sum_32 ?_
          refine gs_callV (As := [.int g]) (k0 := 65) (ci := 7) (T := TX7) (N := 27) k (c_X7_isThere hI hF) cf_X7_isThere im_X7_isThere sl_X7_isThere ml_X7_163 (hI 65 (by omega)) rfl rfl (by decide) rfl rfl (Nat.le_of_ble_eq_true rfl) dX7_sum_33 (ppB (fun c5 => ?_) (fun c5 => ?_))
          · have bc5 := inR_lt c5.1
            have tc5 := c5.2
            refine gs_if_ne (tgt := 42) k (by decide) dX7_sum_36 (fun _ => ?_) (fun h => absurd h (by decide))
            refine gs_iconst (v := 0) k (by decide) dX7_sum_42 ?_
            refine gs_istore (lv' := [(4, .int 0), (0, .ref (E.2.2.1 65)), (1, .int f), (2, .int g), (3, .int t)]) k (by decide) rfl dX7_sum_43 ?_
            refine gs_lv (lv' := [(0, .ref (E.2.2.1 65)), (1, .int f), (2, .int g), (3, .int t), (4, .int 0)]) [1, 2, 3, 4, 0] rfl ?_
            refine gs_M (rset_same M 80).symm ?_
            refine for_up (σ := (Nat → Int32)) (fun s r => G l E K 45 [(0, .ref (E.2.2.1 65)), (1, .int f), (2, .int g), (3, .int t), (4, .int (nI s))] [] (rset M 80 r)) (fun s r => upd r s (V (tn f) s + V (tn g) s)) (2 ^ n) (fun s r hs hGs => ?_) (2 ^ n) 0 (M 80) (by omega) ?_
            · show G l E K 45 [(0, .ref (E.2.2.1 65)), (1, .int f), (2, .int g), (3, .int t), (4, .int (nI s))] [] (rset M 80 r)
              refine gs_iload (q := 4) k rfl dX7_sum_45 ?_
              refine gs_aload_n (q := 0) k rfl rfl dX7_sum_47 ?_
              refine gs_callV (As := []) (k0 := 65) (ci := 7) (T := TX7) (N := 27) k (c_X7_sets hI (Rn_rs (by omega) hn)) cf_X7_sets im_X7_sets sl_X7_sets ml_X7_83 (hI 65 (by omega)) rfl rfl (by decide) rfl rfl (Nat.le_of_ble_eq_true rfl) dX7_sum_48 (ppI ?_)
              refine gs_icmpN_ge (a := s) (b := 2 ^ n) (tgt := 86) k rfl rfl (by omega) (by omega) (by decide) dX7_sum_51 (fun c6 => absurd c6 (by omega)) (fun c6 => ?_)
              refine gs_aload_n (q := 0) k rfl rfl dX7_sum_54 ?_
              refine gs_get (C := RX7) (T := TX7) (N := 27) (ci := 7) (k0 := 65) (j := 9) k (hI 65 (by omega)) rfl rfl inX7 (by decide) fl_X7_42 rfl rfl dX7_sum_55 ?_
              refine gs_iload (q := 4) k rfl dX7_sum_58 ?_
              refine gs_aload_n (q := 0) k rfl rfl dX7_sum_60 ?_
              refine gs_get (C := RX7) (T := TX7) (N := 27) (ci := 7) (k0 := 65) (j := 8) k (hI 65 (by omega)) rfl rfl inX7 (by decide) fl_X7_39 rfl rfl dX7_sum_61 ?_
              refine gs_iload_n (q := 1) k rfl rfl dX7_sum_64 ?_
              refine gs_aaldIN (k0 := 73) (n := 6) (e := tn f) (a := E.2.2.1 (74 + (tn f))) k (hI 73 (by omega)) (fun _ => rfl) (inR_eq c1) (by omega) (by decide) rfl dX7_sum_65 ?_
              refine gs_iload (q := 4) k rfl dX7_sum_66 ?_
              refine gs_ialdN (k0 := (74 + (tn f))) (n := 64) (e := s) k (hI (74 + (tn f)) (by omega)) (ent_RV (by omega)) rfl (by omega) (by decide) dX7_sum_68 ?_
              refine gs_top (y := V (tn f) s) (rdr (by omega) ((hF (tn f) (by omega)).2.2 (by assumption) s (by omega))) ?_
              refine gs_aload_n (q := 0) k rfl rfl dX7_sum_69 ?_
              refine gs_get (C := RX7) (T := TX7) (N := 27) (ci := 7) (k0 := 65) (j := 8) k (hI 65 (by omega)) rfl rfl inX7 (by decide) fl_X7_39 rfl rfl dX7_sum_70 ?_
              refine gs_iload_n (q := 2) k rfl rfl dX7_sum_73 ?_
              refine gs_aaldIN (k0 := 73) (n := 6) (e := tn g) (a := E.2.2.1 (74 + (tn g))) k (hI 73 (by omega)) (fun _ => rfl) (inR_eq c2) (by omega) (by decide) rfl dX7_sum_74 ?_
              refine gs_iload (q := 4) k rfl dX7_sum_75 ?_
              refine gs_ialdN (k0 := (74 + (tn g))) (n := 64) (e := s) k (hI (74 + (tn g)) (by omega)) (ent_RV (by omega)) rfl (by omega) (by decide) dX7_sum_77 ?_
              refine gs_top (y := V (tn g) s) (rdr (by omega) ((hF (tn g) (by omega)).2.2 (by assumption) s (by omega))) ?_
              refine gs_iadd k dX7_sum_78 ?_
              refine gs_iastN (k0 := 80) (n := 64) (e := s) k (hI 80 (by omega)) (fun _ => rfl) rfl (by omega) (by decide) dX7_sum_79 ?_
              refine gs_M (mw_rset _ _ _ _ _) ?_
              refine gs_iincN (q := 4) (a := s) (c := 1) (lv' := [(4, .int (nI (s + 1))), (0, .ref (E.2.2.1 65)), (1, .int f), (2, .int g), (3, .int t)]) k rfl rfl (by decide) rfl dX7_sum_80 ?_
              refine gs_goto (tgt := 45) k (by decide) dX7_sum_83 ?_
              refine gs_lv (lv' := [(0, .ref (E.2.2.1 65)), (1, .int f), (2, .int g), (3, .int t), (4, .int (nI (s + 1)))]) [1, 2, 3, 4, 0] rfl ?_
              exact hGs _ rfl
            · show G l E K 45 [(0, .ref (E.2.2.1 65)), (1, .int f), (2, .int g), (3, .int t), (4, .int (nI (2 ^ n)))] [] (rset M 80 (lp (fun s r => upd r s (V (tn f) s + V (tn g) s)) (2 ^ n) 0 (M 80)))
              rw [lp_setr]
              show G l E K 45 [(0, .ref (E.2.2.1 65)), (1, .int f), (2, .int g), (3, .int t), (4, .int (nI (2 ^ n)))] [] (rset M 80 (setr (2 ^ n) (fun s => V (tn f) s + V (tn g) s) (M 80)))
              refine gs_iload (q := 4) k rfl dX7_sum_45 ?_
              refine gs_aload_n (q := 0) k rfl rfl dX7_sum_47 ?_
              refine gs_callV (As := []) (k0 := 65) (ci := 7) (T := TX7) (N := 27) k (c_X7_sets hI (Rn_rs (by omega) hn)) cf_X7_sets im_X7_sets sl_X7_sets ml_X7_83 (hI 65 (by omega)) rfl rfl (by decide) rfl rfl (Nat.le_of_ble_eq_true rfl) dX7_sum_48 (ppI ?_)
              refine gs_icmpN_ge (a := 2 ^ n) (b := 2 ^ n) (tgt := 86) k rfl rfl (by omega) (by omega) (by decide) dX7_sum_51 (fun c6 => ?_) (fun c6 => absurd c6 (by omega))
              refine gs_aload_n (q := 0) k rfl rfl dX7_sum_86 ?_
              refine gs_iload_n (q := 3) k rfl rfl dX7_sum_87 ?_
              refine gs_callV (As := [.int t]) (k0 := 65) (ci := 7) (T := TX7) (N := 27) k (c_X7_comes hI (Rn_rs (by omega) hn) (t := tn t) (inR_eq c3) (by omega) (g := fun s => V (tn f) s + V (tn g) s) rdraft) cf_X7_comes im_X7_comes sl_X7_comes ml_X7_166 (hI 65 (by omega)) rfl rfl (by decide) rfl rfl (Nat.le_of_ble_eq_true rfl) dX7_sum_88 (ppC (fun c7 => ?_) (fun c7 => ?_))
              · exact gs_iret k kt dX7_sum_91 ⟨(by simp [-Int32.not_lt, A_sum, U_sum, ifc_T, ifc_F, c1, c2, c3, c4, tc4, c5, tc5, c7]), Same.of (X := (becR n (tn t) 5 (fun s => V (tn f) s + V (tn g) s) M)) (by simp [-Int32.not_lt, A_sum, U_sum, ifc_T, ifc_F, c1, c2, c3, c4, tc4, c5, tc5, c7]) (bec_same (by omega) (Same.r1 Same.rf (fun j => by unfold scr; omega)) rdraft)⟩
              · exact gs_iret k kt dX7_sum_91 ⟨(by simp [-Int32.not_lt, A_sum, U_sum, ifc_T, ifc_F, c1, c2, c3, c4, tc4, c5, tc5, c7]), Same.of (X := M) (by simp [-Int32.not_lt, A_sum, U_sum, ifc_T, ifc_F, c1, c2, c3, c4, tc4, c5, tc5, c7]) (Same.r1 Same.rf (fun j => by unfold scr; omega))⟩
          · have qc5 : kd (tn g) < 0 := Classical.byContradiction (fun k => c5 ⟨by assumption, k⟩)
            refine gs_if_ne (tgt := 42) k (by decide) dX7_sum_36 (fun h => absurd h (by decide)) (fun _ => ?_)
            refine gs_bipush (v := -11) k (by decide) dX7_sum_39 ?_
            exact gs_iret k kt dX7_sum_41 ⟨(by simp [-Int32.not_lt, A_sum, U_sum, ifc_T, ifc_F, c1, c2, c3, c4, tc4, c5, qc5]), Same.of (X := M) (by simp [-Int32.not_lt, A_sum, U_sum, ifc_T, ifc_F, c1, c2, c3, c4, tc4, c5, qc5]) Same.rf⟩
        · have qc4 : kd (tn f) < 0 := Classical.byContradiction (fun k => c4 ⟨by assumption, k⟩)
          refine gs_if_eq (tgt := 39) k (by decide) dX7_sum_28 (fun _ => ?_) (fun h => absurd h (by decide))
          refine gs_bipush (v := -11) k (by decide) dX7_sum_39 ?_
          exact gs_iret k kt dX7_sum_41 ⟨(by simp [-Int32.not_lt, A_sum, U_sum, ifc_T, ifc_F, c1, c2, c3, c4, qc4]), Same.of (X := M) (by simp [-Int32.not_lt, A_sum, U_sum, ifc_T, ifc_F, c1, c2, c3, c4, qc4]) Same.rf⟩
      · refine gs_if_ne (tgt := 23) k (by decide) dX7_sum_18 (fun h => absurd h (by decide)) (fun _ => ?_)
        refine gs_iconst (v := -1) k (by decide) dX7_sum_21 ?_
        exact gs_iret k kt dX7_sum_22 ⟨(by simp [-Int32.not_lt, A_sum, U_sum, ifc_T, ifc_F, c1, c2, c3]), Same.of (X := M) (by simp [-Int32.not_lt, A_sum, U_sum, ifc_T, ifc_F, c1, c2, c3]) Same.rf⟩
    · refine gs_if_eq (tgt := 21) k (by decide) dX7_sum_11 (fun _ => ?_) (fun h => absurd h (by decide))
      refine gs_iconst (v := -1) k (by decide) dX7_sum_21 ?_
      exact gs_iret k kt dX7_sum_22 ⟨(by simp [-Int32.not_lt, A_sum, U_sum, ifc_T, ifc_F, c1, c2]), Same.of (X := M) (by simp [-Int32.not_lt, A_sum, U_sum, ifc_T, ifc_F, c1, c2]) Same.rf⟩
  · refine gs_if_eq (tgt := 21) k (by decide) dX7_sum_4 (fun _ => ?_) (fun h => absurd h (by decide))
    refine gs_iconst (v := -1) k (by decide) dX7_sum_21 ?_
    exact gs_iret k kt dX7_sum_22 ⟨(by simp [-Int32.not_lt, A_sum, U_sum, ifc_T, ifc_F, c1]), Same.of (X := M) (by simp [-Int32.not_lt, A_sum, U_sum, ifc_T, ifc_F, c1]) Same.rf⟩

noncomputable def A_turn (n : Nat) (kd : Nat → Int32) (V : Nat → Nat → Int32) (f t : Int32) : Int32 := ifc (inR t 6 ∧ inR f 6) (ifc (¬ kd (tn f) < 0) (ifc (allV (2 ^ n) (fun s => V (tn f) (2 ^ n - 1 - s))) (1) (-3)) (-11)) (-1)
noncomputable def U_turn (c : Bool) (n : Nat) (kd : Nat → Int32) (V : Nat → Nat → Int32) (f t : Int32) (M : Mm) : Mm := ifc (inR t 6 ∧ inR f 6) (ifc (¬ kd (tn f) < 0) (ifc (allV (2 ^ n) (fun s => V (tn f) (2 ^ n - 1 - s))) ((if c then fsetC n (tn t) 5 (fun s => V (tn f) (2 ^ n - 1 - s)) M else becR n (tn t) 5 (fun s => V (tn f) (2 ^ n - 1 - s)) M)) M) M) M
theorem cf_X6_turn : CF yX6_turn cX6_turn 6 (some .int) 2 := ⟨cd_X6_turn, iz_X6, by decide, by decide +kernel, by decide +kernel, by decide +kernel⟩
set_option maxRecDepth 100000 in
set_option maxHeartbeats 4000000 in
theorem c_X6_turn {l : Launch} {E : Ev} {M : Mm} {n : Nat} {kd : Nat → Int32} {V : Nat → Nat → Int32} (hI : ∀ k, k < 108 → k ∈ E.2.1) (hn : Cn M n) (hF : CFn M n kd V) {f t : Int32} : Cm l E yX6_turn cX6_turn 6 (some .int) 3 [.ref (E.2.2.1 0), .int f, .int t] M (pR (.int (A_turn n kd V f t)) (U_turn true n kd V f t M)) := by
  refine Cm.of (by decide) (Nat.le_of_ble_eq_true rfl) (fun K k kt => ?_)
  show G l E K 0 [(0, .ref (E.2.2.1 0)), (1, .int f), (2, .int t)] [] M
  obtain ⟨hn0, hn1, hn6⟩ := id hn
  have hp := p2_le6 hn6
  have hp2 := p2_ge2 hn1
  refine gs_aload_n (q := 0) k rfl rfl dX6_turn_0 ?_
  refine gs_iload_n (q := 1) k rfl rfl dX6_turn_1 ?_
  refine gs_iload_n (q := 2) k rfl rfl dX6_turn_2 ?_
  refine gs_callV (As := [.int f, .int t]) (k0 := 0) (ci := 6) (T := TX6) (N := 10) k (c_X6_errorOfPair hI hF) cf_X6_errorOfPair im_X6_errorOfPair sl_X6_errorOfPair ml_X6_138 (hI 0 (by omega)) rfl rfl (by decide) rfl rfl (Nat.le_of_ble_eq_true rfl) dX6_turn_3 (ppE (fun c1 => ?_) (fun c1 c2 => ?_) (fun c1 c2 => ?_))
  · refine gs_istore_n (lv' := [(3, .int (-1)), (0, .ref (E.2.2.1 0)), (1, .int f), (2, .int t)]) k rfl (by decide) rfl dX6_turn_6 ?_
    refine gs_iload_n (q := 0) k rfl rfl dX6_turn_7 ?_
    refine gs_if_eq (tgt := 13) k (by decide) dX6_turn_8 (fun h => absurd h (by decide)) (fun _ => ?_)
    refine gs_iload_n (q := 0) k rfl rfl dX6_turn_11 ?_
    exact gs_iret k kt dX6_turn_12 ⟨(by simp [-Int32.not_lt, A_turn, U_turn, ifc_T, ifc_F, c1]), Same.of (X := M) (by simp [-Int32.not_lt, A_turn, U_turn, ifc_T, ifc_F, c1]) Same.rf⟩
  · have bc1 := inR_lt c1.2
    have dc1 := inR_lt c1.1
    refine gs_istore_n (lv' := [(3, .int (-11)), (0, .ref (E.2.2.1 0)), (1, .int f), (2, .int t)]) k rfl (by decide) rfl dX6_turn_6 ?_
    refine gs_iload_n (q := 0) k rfl rfl dX6_turn_7 ?_
    refine gs_if_eq (tgt := 13) k (by decide) dX6_turn_8 (fun h => absurd h (by decide)) (fun _ => ?_)
    refine gs_iload_n (q := 0) k rfl rfl dX6_turn_11 ?_
    exact gs_iret k kt dX6_turn_12 ⟨(by simp [-Int32.not_lt, A_turn, U_turn, ifc_T, ifc_F, c1, c2]), Same.of (X := M) (by simp [-Int32.not_lt, A_turn, U_turn, ifc_T, ifc_F, c1, c2]) Same.rf⟩
  · have bc1 := inR_lt c1.2
    have dc1 := inR_lt c1.1
    refine gs_istore_n (lv' := [(3, .int 0), (0, .ref (E.2.2.1 0)), (1, .int f), (2, .int t)]) k rfl (by decide) rfl dX6_turn_6 ?_
    refine gs_iload_n (q := 0) k rfl rfl dX6_turn_7 ?_
    refine gs_if_eq (tgt := 13) k (by decide) dX6_turn_8 (fun _ => ?_) (fun h => absurd h (by decide))
    refine gs_aload_n (q := 1) k rfl rfl dX6_turn_13 ?_
    refine gs_get (C := RX6) (T := TX6) (N := 10) (ci := 6) (k0 := 0) (j := 0) k (hI 0 (by omega)) rfl rfl inX6 (by decide) fl_X6_12 rfl rfl dX6_turn_14 ?_
    refine gs_get (C := RX5) (T := TX5) (N := 9) (ci := 5) (k0 := 1) (j := 7) k (hI 1 (by omega)) rfl rfl inX5 (by decide) fl_X6_107 rfl rfl dX6_turn_17 ?_
    refine gs_iload_n (q := 2) k rfl rfl dX6_turn_20 ?_
    refine gs_aaldSN (k0 := 8) (n := 6) (e := tn f) (a := E.2.2.1 (10 + 2 * (tn f))) k (hI 8 (by omega)) (fun _ => rfl) (inR_eq c1.2) (by omega) (by decide) rfl dX6_turn_21 ?_
    refine gs_get (C := RX3) (T := TX3) (N := 2) (ci := 3) (k0 := (10 + 2 * (tn f))) (j := 1) k (hI (10 + 2 * (tn f)) (by omega)) (ent_F1 (by omega) _) rfl inX3 (by decide) fl_X6_111 rfl rfl dX6_turn_22 ?_
    refine gs_astore (lv' := [(4, .ref (E.2.2.1 (11 + 2 * (tn f)))), (3, .int 0), (0, .ref (E.2.2.1 0)), (1, .int f), (2, .int t)]) k (by decide) rfl dX6_turn_25 ?_
    refine gs_iconst (v := 0) k (by decide) dX6_turn_27 ?_
    refine gs_istore (lv' := [(5, .int 0), (4, .ref (E.2.2.1 (11 + 2 * (tn f)))), (3, .int 0), (0, .ref (E.2.2.1 0)), (1, .int f), (2, .int t)]) k (by decide) rfl dX6_turn_28 ?_
    refine gs_lv (lv' := [(0, .ref (E.2.2.1 0)), (1, .int f), (2, .int t), (3, .int 0), (4, .ref (E.2.2.1 (11 + 2 * (tn f)))), (5, .int 0)]) [3, 4, 5, 2, 1, 0] rfl ?_
    refine gs_M (rset_same M 62).symm ?_
    refine for_up (σ := (Nat → Int32)) (fun s r => G l E K 30 [(0, .ref (E.2.2.1 0)), (1, .int f), (2, .int t), (3, .int 0), (4, .ref (E.2.2.1 (11 + 2 * (tn f)))), (5, .int (nI s))] [] (rset M 62 r)) (fun s r => upd r s (V (tn f) (2 ^ n - 1 - s))) (2 ^ n) (fun s r hs hGs => ?_) (2 ^ n) 0 (M 62) (by omega) ?_
    · show G l E K 30 [(0, .ref (E.2.2.1 0)), (1, .int f), (2, .int t), (3, .int 0), (4, .ref (E.2.2.1 (11 + 2 * (tn f)))), (5, .int (nI s))] [] (rset M 62 r)
      refine gs_iload (q := 5) k rfl dX6_turn_30 ?_
      refine gs_aload_n (q := 0) k rfl rfl dX6_turn_32 ?_
      refine gs_get (C := RX6) (T := TX6) (N := 10) (ci := 6) (k0 := 0) (j := 0) k (hI 0 (by omega)) rfl rfl inX6 (by decide) fl_X6_12 rfl rfl dX6_turn_33 ?_
      refine gs_callV (As := []) (k0 := 1) (ci := 5) (T := TX5) (N := 9) k (c_X5_sets hI (Cn_rs (by omega) hn)) cf_X5_sets im_X5_sets sl_X5_sets ml_X6_131 (hI 1 (by omega)) rfl rfl (by decide) rfl rfl (Nat.le_of_ble_eq_true rfl) dX6_turn_36 (ppI ?_)
      refine gs_icmpN_ge (a := s) (b := 2 ^ n) (tgt := 70) k rfl rfl (by omega) (by omega) (by decide) dX6_turn_39 (fun c3 => absurd c3 (by omega)) (fun c3 => ?_)
      refine gs_aload_n (q := 0) k rfl rfl dX6_turn_42 ?_
      refine gs_get (C := RX6) (T := TX6) (N := 10) (ci := 6) (k0 := 0) (j := 7) k (hI 0 (by omega)) rfl rfl inX6 (by decide) fl_X6_53 rfl rfl dX6_turn_43 ?_
      refine gs_iload (q := 5) k rfl dX6_turn_46 ?_
      refine gs_aload (q := 4) k rfl dX6_turn_48 ?_
      refine gs_aload_n (q := 0) k rfl rfl dX6_turn_50 ?_
      refine gs_get (C := RX6) (T := TX6) (N := 10) (ci := 6) (k0 := 0) (j := 0) k (hI 0 (by omega)) rfl rfl inX6 (by decide) fl_X6_12 rfl rfl dX6_turn_51 ?_
      refine gs_callV (As := []) (k0 := 1) (ci := 5) (T := TX5) (N := 9) k (c_X5_all hI (Cn_rs (by omega) hn)) cf_X5_all im_X5_all sl_X5_all ml_X6_119 (hI 1 (by omega)) rfl rfl (by decide) rfl rfl (Nat.le_of_ble_eq_true rfl) dX6_turn_54 (ppI ?_)
      refine gs_iload (q := 5) k rfl dX6_turn_57 ?_
      refine gs_iconst (v := -1) k (by decide) dX6_turn_59 ?_
      refine gs_ixor k dX6_turn_60 ?_
      refine gs_iand k dX6_turn_61 ?_
      refine gs_top (y := nI (2 ^ n - 1 - s)) (ni_allbut hn6 hs) ?_
      refine gs_ialdN (k0 := (11 + 2 * (tn f))) (n := 64) (e := 2 ^ n - 1 - s) k (hI (11 + 2 * (tn f)) (by omega)) (ent_V1 (by omega)) rfl (by omega) (by decide) dX6_turn_62 ?_
      refine gs_top (y := V (tn f) (2 ^ n - 1 - s)) (rdr (by omega) ((hF (tn f) (by omega)).2.2 (2 ^ n - 1 - s) (by omega))) ?_
      refine gs_iastN (k0 := 62) (n := 64) (e := s) k (hI 62 (by omega)) (fun _ => rfl) rfl (by omega) (by decide) dX6_turn_63 ?_
      refine gs_M (mw_rset _ _ _ _ _) ?_
      refine gs_iincN (q := 5) (a := s) (c := 1) (lv' := [(5, .int (nI (s + 1))), (0, .ref (E.2.2.1 0)), (1, .int f), (2, .int t), (3, .int 0), (4, .ref (E.2.2.1 (11 + 2 * (tn f))))]) k rfl rfl (by decide) rfl dX6_turn_64 ?_
      refine gs_goto (tgt := 30) k (by decide) dX6_turn_67 ?_
      refine gs_lv (lv' := [(0, .ref (E.2.2.1 0)), (1, .int f), (2, .int t), (3, .int 0), (4, .ref (E.2.2.1 (11 + 2 * (tn f)))), (5, .int (nI (s + 1)))]) [1, 2, 3, 4, 5, 0] rfl ?_
      exact hGs _ rfl
    · show G l E K 30 [(0, .ref (E.2.2.1 0)), (1, .int f), (2, .int t), (3, .int 0), (4, .ref (E.2.2.1 (11 + 2 * (tn f)))), (5, .int (nI (2 ^ n)))] [] (rset M 62 (lp (fun s r => upd r s (V (tn f) (2 ^ n - 1 - s))) (2 ^ n) 0 (M 62)))
      rw [lp_setr]
      show G l E K 30 [(0, .ref (E.2.2.1 0)), (1, .int f), (2, .int t), (3, .int 0), (4, .ref (E.2.2.1 (11 + 2 * (tn f)))), (5, .int (nI (2 ^ n)))] [] (rset M 62 (setr (2 ^ n) (fun s => V (tn f) (2 ^ n - 1 - s)) (M 62)))
      refine gs_iload (q := 5) k rfl dX6_turn_30 ?_
      refine gs_aload_n (q := 0) k rfl rfl dX6_turn_32 ?_
      refine gs_get (C := RX6) (T := TX6) (N := 10) (ci := 6) (k0 := 0) (j := 0) k (hI 0 (by omega)) rfl rfl inX6 (by decide) fl_X6_12 rfl rfl dX6_turn_33 ?_
      refine gs_callV (As := []) (k0 := 1) (ci := 5) (T := TX5) (N := 9) k (c_X5_sets hI (Cn_rs (by omega) hn)) cf_X5_sets im_X5_sets sl_X5_sets ml_X6_131 (hI 1 (by omega)) rfl rfl (by decide) rfl rfl (Nat.le_of_ble_eq_true rfl) dX6_turn_36 (ppI ?_)
      refine gs_icmpN_ge (a := 2 ^ n) (b := 2 ^ n) (tgt := 70) k rfl rfl (by omega) (by omega) (by decide) dX6_turn_39 (fun c3 => ?_) (fun c3 => absurd c3 (by omega))
      refine gs_aload_n (q := 0) k rfl rfl dX6_turn_70 ?_
      refine gs_iload_n (q := 2) k rfl rfl dX6_turn_71 ?_
      refine gs_callV (As := [.int t]) (k0 := 0) (ci := 6) (T := TX6) (N := 10) k (c_X6_settleIfInRange hI (Cn_rs (by omega) hn) (t := tn t) (inR_eq c1.1) (by omega) (g := fun s => V (tn f) (2 ^ n - 1 - s)) rdraft) cf_X6_settleIfInRange im_X6_settleIfInRange sl_X6_settleIfInRange ml_X6_134 (hI 0 (by omega)) rfl rfl (by decide) rfl rfl (Nat.le_of_ble_eq_true rfl) dX6_turn_72 (ppC (fun c4 => ?_) (fun c4 => ?_))
      · exact gs_iret k kt dX6_turn_75 ⟨(by simp [-Int32.not_lt, A_turn, U_turn, ifc_T, ifc_F, c1, c2, c4]), Same.of (X := (fsetC n (tn t) 5 (fun s => V (tn f) (2 ^ n - 1 - s)) M)) (by simp [-Int32.not_lt, A_turn, U_turn, ifc_T, ifc_F, c1, c2, c4]) (stl_same (by omega) (Same.r1 Same.rf (fun j => by unfold scr; omega)) rdraft)⟩
      · exact gs_iret k kt dX6_turn_75 ⟨(by simp [-Int32.not_lt, A_turn, U_turn, ifc_T, ifc_F, c1, c2, c4]), Same.of (X := M) (by simp [-Int32.not_lt, A_turn, U_turn, ifc_T, ifc_F, c1, c2, c4]) (Same.r1 Same.rf (fun j => by unfold scr; omega))⟩

theorem cf_X7_turn : CF yX7_turn cX7_turn 4 (some .int) 2 := ⟨cd_X7_turn, iz_X7, by decide, by decide +kernel, by decide +kernel, by decide +kernel⟩
set_option maxRecDepth 100000 in
set_option maxHeartbeats 4000000 in
theorem c_X7_turn {l : Launch} {E : Ev} {M : Mm} {n : Nat} {kd : Nat → Int32} {V : Nat → Nat → Int32} (hI : ∀ k, k < 108 → k ∈ E.2.1) (hn : Rn M n) (hF : RFn M n kd V) {f t : Int32} : Cm l E yX7_turn cX7_turn 4 (some .int) 4 [.ref (E.2.2.1 65), .int f, .int t] M (pR (.int (A_turn n kd V f t)) (U_turn false n kd V f t M)) := by
  refine Cm.of (by decide) (Nat.le_of_ble_eq_true rfl) (fun K k kt => ?_)
  show G l E K 0 [(0, .ref (E.2.2.1 65)), (1, .int f), (2, .int t)] [] M
  obtain ⟨hn0, hn1, hn6⟩ := id hn
  have hp := p2_le6 hn6
  have hp2 := p2_ge2 hn1
  refine gs_iload_n (q := 1) k rfl rfl dX7_turn_0 ?_
  refine gs_callS (As := [.int f]) k c_X7_isFunction cf_X7_isFunction sm_X7_isFunction ml_X7_128 (by decide) rfl rfl (Nat.le_of_ble_eq_true rfl) dX7_turn_1 (ppB (fun c1 => ?_) (fun c1 => ?_))
  · have bc1 := inR_lt c1
    refine gs_if_eq (tgt := 14) k (by decide) dX7_turn_4 (fun h => absurd h (by decide)) (fun _ => ?_)
    refine gs_iload_n (q := 2) k rfl rfl dX7_turn_7 ?_
    refine gs_callS (As := [.int t]) k c_X7_isFunction cf_X7_isFunction sm_X7_isFunction ml_X7_128 (by decide) rfl rfl (Nat.le_of_ble_eq_true rfl) dX7_turn_8 (ppB (fun c2 => ?_) (fun c2 => ?_))
    · have bc2 := inR_lt c2
      refine gs_if_ne (tgt := 16) k (by decide) dX7_turn_11 (fun _ => ?_) (fun h => absurd h (by decide))
      refine gs_aload_n (q := 0) k rfl rfl dX7_turn_16 ?_
      refine gs_iload_n (q := 1) k rfl rfl dX7_turn_17 ?_
      refine gs_callV (As := [.int f]) (k0 := 65) (ci := 7) (T := TX7) (N := 27) k (c_X7_isThere hI hF) cf_X7_isThere im_X7_isThere sl_X7_isThere ml_X7_163 (hI 65 (by omega)) rfl rfl (by decide) rfl rfl (Nat.le_of_ble_eq_true rfl) dX7_turn_18 (ppB (fun c3 => ?_) (fun c3 => ?_))
      · have bc3 := inR_lt c3.1
        have tc3 := c3.2
        refine gs_if_ne (tgt := 27) k (by decide) dX7_turn_21 (fun _ => ?_) (fun h => absurd h (by decide))
        refine gs_iconst (v := 0) k (by decide) dX7_turn_27 ?_
        refine gs_istore_n (lv' := [(3, .int 0), (0, .ref (E.2.2.1 65)), (1, .int f), (2, .int t)]) k rfl (by decide) rfl dX7_turn_28 ?_
        refine gs_lv (lv' := [(0, .ref (E.2.2.1 65)), (1, .int f), (2, .int t), (3, .int 0)]) [1, 2, 3, 0] rfl ?_
        refine gs_M (rset_same M 80).symm ?_
        refine for_up (σ := (Nat → Int32)) (fun s r => G l E K 29 [(0, .ref (E.2.2.1 65)), (1, .int f), (2, .int t), (3, .int (nI s))] [] (rset M 80 r)) (fun s r => upd r s (V (tn f) (2 ^ n - 1 - s))) (2 ^ n) (fun s r hs hGs => ?_) (2 ^ n) 0 (M 80) (by omega) ?_
        · show G l E K 29 [(0, .ref (E.2.2.1 65)), (1, .int f), (2, .int t), (3, .int (nI s))] [] (rset M 80 r)
          refine gs_iload_n (q := 3) k rfl rfl dX7_turn_29 ?_
          refine gs_aload_n (q := 0) k rfl rfl dX7_turn_30 ?_
          refine gs_callV (As := []) (k0 := 65) (ci := 7) (T := TX7) (N := 27) k (c_X7_sets hI (Rn_rs (by omega) hn)) cf_X7_sets im_X7_sets sl_X7_sets ml_X7_83 (hI 65 (by omega)) rfl rfl (by decide) rfl rfl (Nat.le_of_ble_eq_true rfl) dX7_turn_31 (ppI ?_)
          refine gs_icmpN_ge (a := s) (b := 2 ^ n) (tgt := 62) k rfl rfl (by omega) (by omega) (by decide) dX7_turn_34 (fun c4 => absurd c4 (by omega)) (fun c4 => ?_)
          refine gs_aload_n (q := 0) k rfl rfl dX7_turn_37 ?_
          refine gs_get (C := RX7) (T := TX7) (N := 27) (ci := 7) (k0 := 65) (j := 9) k (hI 65 (by omega)) rfl rfl inX7 (by decide) fl_X7_42 rfl rfl dX7_turn_38 ?_
          refine gs_iload_n (q := 3) k rfl rfl dX7_turn_41 ?_
          refine gs_aload_n (q := 0) k rfl rfl dX7_turn_42 ?_
          refine gs_get (C := RX7) (T := TX7) (N := 27) (ci := 7) (k0 := 65) (j := 8) k (hI 65 (by omega)) rfl rfl inX7 (by decide) fl_X7_39 rfl rfl dX7_turn_43 ?_
          refine gs_iload_n (q := 1) k rfl rfl dX7_turn_46 ?_
          refine gs_aaldIN (k0 := 73) (n := 6) (e := tn f) (a := E.2.2.1 (74 + (tn f))) k (hI 73 (by omega)) (fun _ => rfl) (inR_eq c1) (by omega) (by decide) rfl dX7_turn_47 ?_
          refine gs_aload_n (q := 0) k rfl rfl dX7_turn_48 ?_
          refine gs_callV (As := []) (k0 := 65) (ci := 7) (T := TX7) (N := 27) k (c_X7_all hI (Rn_rs (by omega) hn)) cf_X7_all im_X7_all sl_X7_all ml_X7_87 (hI 65 (by omega)) rfl rfl (by decide) rfl rfl (Nat.le_of_ble_eq_true rfl) dX7_turn_49 (ppI ?_)
          refine gs_iload_n (q := 3) k rfl rfl dX7_turn_52 ?_
          refine gs_isubN (a := 2 ^ n - 1) (b := s) k rfl rfl (by omega) dX7_turn_53 ?_
          refine gs_ialdN (k0 := (74 + (tn f))) (n := 64) (e := (2 ^ n - 1) - s) k (hI (74 + (tn f)) (by omega)) (ent_RV (by omega)) rfl (by omega) (by decide) dX7_turn_54 ?_
          refine gs_top (y := V (tn f) ((2 ^ n - 1) - s)) (rdr (by omega) ((hF (tn f) (by omega)).2.2 (by assumption) ((2 ^ n - 1) - s) (by omega))) ?_
          refine gs_iastN (k0 := 80) (n := 64) (e := s) k (hI 80 (by omega)) (fun _ => rfl) rfl (by omega) (by decide) dX7_turn_55 ?_
          refine gs_M (mw_rset _ _ _ _ _) ?_
          refine gs_iincN (q := 3) (a := s) (c := 1) (lv' := [(3, .int (nI (s + 1))), (0, .ref (E.2.2.1 65)), (1, .int f), (2, .int t)]) k rfl rfl (by decide) rfl dX7_turn_56 ?_
          refine gs_goto (tgt := 29) k (by decide) dX7_turn_59 ?_
          refine gs_lv (lv' := [(0, .ref (E.2.2.1 65)), (1, .int f), (2, .int t), (3, .int (nI (s + 1)))]) [1, 2, 3, 0] rfl ?_
          exact hGs _ rfl
        · show G l E K 29 [(0, .ref (E.2.2.1 65)), (1, .int f), (2, .int t), (3, .int (nI (2 ^ n)))] [] (rset M 80 (lp (fun s r => upd r s (V (tn f) (2 ^ n - 1 - s))) (2 ^ n) 0 (M 80)))
          rw [lp_setr]
          show G l E K 29 [(0, .ref (E.2.2.1 65)), (1, .int f), (2, .int t), (3, .int (nI (2 ^ n)))] [] (rset M 80 (setr (2 ^ n) (fun s => V (tn f) (2 ^ n - 1 - s)) (M 80)))
          refine gs_iload_n (q := 3) k rfl rfl dX7_turn_29 ?_
          refine gs_aload_n (q := 0) k rfl rfl dX7_turn_30 ?_
          refine gs_callV (As := []) (k0 := 65) (ci := 7) (T := TX7) (N := 27) k (c_X7_sets hI (Rn_rs (by omega) hn)) cf_X7_sets im_X7_sets sl_X7_sets ml_X7_83 (hI 65 (by omega)) rfl rfl (by decide) rfl rfl (Nat.le_of_ble_eq_true rfl) dX7_turn_31 (ppI ?_)
          refine gs_icmpN_ge (a := 2 ^ n) (b := 2 ^ n) (tgt := 62) k rfl rfl (by omega) (by omega) (by decide) dX7_turn_34 (fun c4 => ?_) (fun c4 => absurd c4 (by omega))
          refine gs_aload_n (q := 0) k rfl rfl dX7_turn_62 ?_
          refine gs_iload_n (q := 2) k rfl rfl dX7_turn_63 ?_
          refine gs_callV (As := [.int t]) (k0 := 65) (ci := 7) (T := TX7) (N := 27) k (c_X7_comes hI (Rn_rs (by omega) hn) (t := tn t) (inR_eq c2) (by omega) (g := fun s => V (tn f) (2 ^ n - 1 - s)) rdraft) cf_X7_comes im_X7_comes sl_X7_comes ml_X7_166 (hI 65 (by omega)) rfl rfl (by decide) rfl rfl (Nat.le_of_ble_eq_true rfl) dX7_turn_64 (ppC (fun c5 => ?_) (fun c5 => ?_))
          · exact gs_iret k kt dX7_turn_67 ⟨(by simp [-Int32.not_lt, A_turn, U_turn, ifc_T, ifc_F, c1, c2, c3, tc3, c5]), Same.of (X := (becR n (tn t) 5 (fun s => V (tn f) (2 ^ n - 1 - s)) M)) (by simp [-Int32.not_lt, A_turn, U_turn, ifc_T, ifc_F, c1, c2, c3, tc3, c5]) (bec_same (by omega) (Same.r1 Same.rf (fun j => by unfold scr; omega)) rdraft)⟩
          · exact gs_iret k kt dX7_turn_67 ⟨(by simp [-Int32.not_lt, A_turn, U_turn, ifc_T, ifc_F, c1, c2, c3, tc3, c5]), Same.of (X := M) (by simp [-Int32.not_lt, A_turn, U_turn, ifc_T, ifc_F, c1, c2, c3, tc3, c5]) (Same.r1 Same.rf (fun j => by unfold scr; omega))⟩
      · have qc3 : kd (tn f) < 0 := Classical.byContradiction (fun k => c3 ⟨by assumption, k⟩)
        refine gs_if_ne (tgt := 27) k (by decide) dX7_turn_21 (fun h => absurd h (by decide)) (fun _ => ?_)
        refine gs_bipush (v := -11) k (by decide) dX7_turn_24 ?_
        exact gs_iret k kt dX7_turn_26 ⟨(by simp [-Int32.not_lt, A_turn, U_turn, ifc_T, ifc_F, c1, c2, c3, qc3]), Same.of (X := M) (by simp [-Int32.not_lt, A_turn, U_turn, ifc_T, ifc_F, c1, c2, c3, qc3]) Same.rf⟩
    · refine gs_if_ne (tgt := 16) k (by decide) dX7_turn_11 (fun h => absurd h (by decide)) (fun _ => ?_)
      refine gs_iconst (v := -1) k (by decide) dX7_turn_14 ?_
      exact gs_iret k kt dX7_turn_15 ⟨(by simp [-Int32.not_lt, A_turn, U_turn, ifc_T, ifc_F, c1, c2]), Same.of (X := M) (by simp [-Int32.not_lt, A_turn, U_turn, ifc_T, ifc_F, c1, c2]) Same.rf⟩
  · refine gs_if_eq (tgt := 14) k (by decide) dX7_turn_4 (fun _ => ?_) (fun h => absurd h (by decide))
    refine gs_iconst (v := -1) k (by decide) dX7_turn_14 ?_
    exact gs_iret k kt dX7_turn_15 ⟨(by simp [-Int32.not_lt, A_turn, U_turn, ifc_T, ifc_F, c1]), Same.of (X := M) (by simp [-Int32.not_lt, A_turn, U_turn, ifc_T, ifc_F, c1]) Same.rf⟩

noncomputable def A_held (n : Nat) (kd : Nat → Int32) (V : Nat → Nat → Int32) (f v t : Int32) : Int32 := ifc (inR f 6 ∧ inR t 6) (ifc (isV v) (ifc (¬ kd (tn f) < 0) (ifc (allV (2 ^ n) (fun s => imin (V (tn f) s) v)) (1) (-3)) (-11)) (-2)) (-1)
noncomputable def U_held (c : Bool) (n : Nat) (kd : Nat → Int32) (V : Nat → Nat → Int32) (f v t : Int32) (M : Mm) : Mm := ifc (inR f 6 ∧ inR t 6) (ifc (isV v) (ifc (¬ kd (tn f) < 0) (ifc (allV (2 ^ n) (fun s => imin (V (tn f) s) v)) ((if c then fsetC n (tn t) 5 (fun s => imin (V (tn f) s) v) M else becR n (tn t) 5 (fun s => imin (V (tn f) s) v) M)) M) M) M) M
theorem cf_X6_held : CF yX6_held cX6_held 6 (some .int) 3 := ⟨cd_X6_held, iz_X6, by decide, by decide +kernel, by decide +kernel, by decide +kernel⟩
set_option maxRecDepth 100000 in
set_option maxHeartbeats 4000000 in
theorem c_X6_held {l : Launch} {E : Ev} {M : Mm} {n : Nat} {kd : Nat → Int32} {V : Nat → Nat → Int32} (hI : ∀ k, k < 108 → k ∈ E.2.1) (hn : Cn M n) (hF : CFn M n kd V) {f v t : Int32} : Cm l E yX6_held cX6_held 6 (some .int) 3 [.ref (E.2.2.1 0), .int f, .int v, .int t] M (pR (.int (A_held n kd V f v t)) (U_held true n kd V f v t M)) := by
  refine Cm.of (by decide) (Nat.le_of_ble_eq_true rfl) (fun K k kt => ?_)
  show G l E K 0 [(0, .ref (E.2.2.1 0)), (1, .int f), (2, .int v), (3, .int t)] [] M
  obtain ⟨hn0, hn1, hn6⟩ := id hn
  have hp := p2_le6 hn6
  have hp2 := p2_ge2 hn1
  refine gs_iload_n (q := 1) k rfl rfl dX6_held_0 ?_
  refine gs_callS (As := [.int f]) k c_X6_isFunction cf_X6_isFunction sm_X6_isFunction ml_X6_101 (by decide) rfl rfl (Nat.le_of_ble_eq_true rfl) dX6_held_1 (ppB (fun c1 => ?_) (fun c1 => ?_))
  · have bc1 := inR_lt c1
    refine gs_if_eq (tgt := 14) k (by decide) dX6_held_4 (fun h => absurd h (by decide)) (fun _ => ?_)
    refine gs_iload_n (q := 3) k rfl rfl dX6_held_7 ?_
    refine gs_callS (As := [.int t]) k c_X6_isFunction cf_X6_isFunction sm_X6_isFunction ml_X6_101 (by decide) rfl rfl (Nat.le_of_ble_eq_true rfl) dX6_held_8 (ppB (fun c2 => ?_) (fun c2 => ?_))
    · have bc2 := inR_lt c2
      refine gs_if_ne (tgt := 16) k (by decide) dX6_held_11 (fun _ => ?_) (fun h => absurd h (by decide))
      refine gs_iload_n (q := 2) k rfl rfl dX6_held_16 ?_
      refine gs_callS (As := [.int v]) k c_X6_isValue cf_X6_isValue sm_X6_isValue ml_X6_104 (by decide) rfl rfl (Nat.le_of_ble_eq_true rfl) dX6_held_17 (ppB (fun c3 => ?_) (fun c3 => ?_))
      · refine gs_if_ne (tgt := 26) k (by decide) dX6_held_20 (fun _ => ?_) (fun h => absurd h (by decide))
        refine gs_aload_n (q := 0) k rfl rfl dX6_held_26 ?_
        refine gs_get (C := RX6) (T := TX6) (N := 10) (ci := 6) (k0 := 0) (j := 0) k (hI 0 (by omega)) rfl rfl inX6 (by decide) fl_X6_12 rfl rfl dX6_held_27 ?_
        refine gs_get (C := RX5) (T := TX5) (N := 9) (ci := 5) (k0 := 1) (j := 7) k (hI 1 (by omega)) rfl rfl inX5 (by decide) fl_X6_107 rfl rfl dX6_held_30 ?_
        refine gs_iload_n (q := 1) k rfl rfl dX6_held_33 ?_
        refine gs_aaldSN (k0 := 8) (n := 6) (e := tn f) (a := E.2.2.1 (10 + 2 * (tn f))) k (hI 8 (by omega)) (fun _ => rfl) (inR_eq c1) (by omega) (by decide) rfl dX6_held_34 ?_
        refine gs_callV (As := []) (k0 := (10 + 2 * (tn f))) (ci := 3) (T := TX3) (N := 2) k (c_X3_isMissing hI hF (by omega)) cf_X3_isMissing im_X3_isMissing sl_X3_isMissing ml_X6_127 (hI (10 + 2 * (tn f)) (by omega)) (ent_F1 (by omega) _) rfl (by decide) rfl rfl (Nat.le_of_ble_eq_true rfl) dX6_held_35 (ppB (fun c4 => ?_) (fun c4 => ?_))
        · refine gs_if_eq (tgt := 44) k (by decide) dX6_held_38 (fun h => absurd h (by decide)) (fun _ => ?_)
          refine gs_bipush (v := -11) k (by decide) dX6_held_41 ?_
          exact gs_iret k kt dX6_held_43 ⟨(by simp [-Int32.not_lt, A_held, U_held, ifc_T, ifc_F, c1, c2, c3, c4]), Same.of (X := M) (by simp [-Int32.not_lt, A_held, U_held, ifc_T, ifc_F, c1, c2, c3, c4]) Same.rf⟩
        · refine gs_if_eq (tgt := 44) k (by decide) dX6_held_38 (fun _ => ?_) (fun h => absurd h (by decide))
          refine gs_aload_n (q := 0) k rfl rfl dX6_held_44 ?_
          refine gs_get (C := RX6) (T := TX6) (N := 10) (ci := 6) (k0 := 0) (j := 0) k (hI 0 (by omega)) rfl rfl inX6 (by decide) fl_X6_12 rfl rfl dX6_held_45 ?_
          refine gs_get (C := RX5) (T := TX5) (N := 9) (ci := 5) (k0 := 1) (j := 7) k (hI 1 (by omega)) rfl rfl inX5 (by decide) fl_X6_107 rfl rfl dX6_held_48 ?_
          refine gs_iload_n (q := 1) k rfl rfl dX6_held_51 ?_
          refine gs_aaldSN (k0 := 8) (n := 6) (e := tn f) (a := E.2.2.1 (10 + 2 * (tn f))) k (hI 8 (by omega)) (fun _ => rfl) (inR_eq c1) (by omega) (by decide) rfl dX6_held_52 ?_
          refine gs_get (C := RX3) (T := TX3) (N := 2) (ci := 3) (k0 := (10 + 2 * (tn f))) (j := 1) k (hI (10 + 2 * (tn f)) (by omega)) (ent_F1 (by omega) _) rfl inX3 (by decide) fl_X6_111 rfl rfl dX6_held_53 ?_
          refine gs_astore (lv' := [(4, .ref (E.2.2.1 (11 + 2 * (tn f)))), (0, .ref (E.2.2.1 0)), (1, .int f), (2, .int v), (3, .int t)]) k (by decide) rfl dX6_held_56 ?_
          refine gs_iconst (v := 0) k (by decide) dX6_held_58 ?_
          refine gs_istore (lv' := [(5, .int 0), (4, .ref (E.2.2.1 (11 + 2 * (tn f)))), (0, .ref (E.2.2.1 0)), (1, .int f), (2, .int v), (3, .int t)]) k (by decide) rfl dX6_held_59 ?_
          refine gs_lv (lv' := [(0, .ref (E.2.2.1 0)), (1, .int f), (2, .int v), (3, .int t), (4, .ref (E.2.2.1 (11 + 2 * (tn f)))), (5, .int 0)]) [2, 3, 4, 5, 1, 0] rfl ?_
          refine gs_M (rset_same M 62).symm ?_
          refine for_up (σ := (Nat → Int32)) (fun s r => G l E K 61 [(0, .ref (E.2.2.1 0)), (1, .int f), (2, .int v), (3, .int t), (4, .ref (E.2.2.1 (11 + 2 * (tn f)))), (5, .int (nI s))] [] (rset M 62 r)) (fun s r => upd r s (imin (V (tn f) s) v)) (2 ^ n) (fun s r hs hGs => ?_) (2 ^ n) 0 (M 62) (by omega) ?_
          · show G l E K 61 [(0, .ref (E.2.2.1 0)), (1, .int f), (2, .int v), (3, .int t), (4, .ref (E.2.2.1 (11 + 2 * (tn f)))), (5, .int (nI s))] [] (rset M 62 r)
            refine gs_iload (q := 5) k rfl dX6_held_61 ?_
            refine gs_aload_n (q := 0) k rfl rfl dX6_held_63 ?_
            refine gs_get (C := RX6) (T := TX6) (N := 10) (ci := 6) (k0 := 0) (j := 0) k (hI 0 (by omega)) rfl rfl inX6 (by decide) fl_X6_12 rfl rfl dX6_held_64 ?_
            refine gs_callV (As := []) (k0 := 1) (ci := 5) (T := TX5) (N := 9) k (c_X5_sets hI (Cn_rs (by omega) hn)) cf_X5_sets im_X5_sets sl_X5_sets ml_X6_131 (hI 1 (by omega)) rfl rfl (by decide) rfl rfl (Nat.le_of_ble_eq_true rfl) dX6_held_67 (ppI ?_)
            refine gs_icmpN_ge (a := s) (b := 2 ^ n) (tgt := 95) k rfl rfl (by omega) (by omega) (by decide) dX6_held_70 (fun c5 => absurd c5 (by omega)) (fun c5 => ?_)
            refine gs_aload_n (q := 0) k rfl rfl dX6_held_73 ?_
            refine gs_get (C := RX6) (T := TX6) (N := 10) (ci := 6) (k0 := 0) (j := 7) k (hI 0 (by omega)) rfl rfl inX6 (by decide) fl_X6_53 rfl rfl dX6_held_74 ?_
            refine gs_iload (q := 5) k rfl dX6_held_77 ?_
            refine gs_aload (q := 4) k rfl dX6_held_79 ?_
            refine gs_iload (q := 5) k rfl dX6_held_81 ?_
            refine gs_ialdN (k0 := (11 + 2 * (tn f))) (n := 64) (e := s) k (hI (11 + 2 * (tn f)) (by omega)) (ent_V1 (by omega)) rfl (by omega) (by decide) dX6_held_83 ?_
            refine gs_top (y := V (tn f) s) (rdr (by omega) ((hF (tn f) (by omega)).2.2 s (by omega))) ?_
            refine gs_iload_n (q := 2) k rfl rfl dX6_held_84 ?_
            refine gs_min k ml_X6_149 (by decide) (Nat.le_of_ble_eq_true rfl) dX6_held_85 ?_
            refine gs_iastN (k0 := 62) (n := 64) (e := s) k (hI 62 (by omega)) (fun _ => rfl) rfl (by omega) (by decide) dX6_held_88 ?_
            refine gs_M (mw_rset _ _ _ _ _) ?_
            refine gs_iincN (q := 5) (a := s) (c := 1) (lv' := [(5, .int (nI (s + 1))), (0, .ref (E.2.2.1 0)), (1, .int f), (2, .int v), (3, .int t), (4, .ref (E.2.2.1 (11 + 2 * (tn f))))]) k rfl rfl (by decide) rfl dX6_held_89 ?_
            refine gs_goto (tgt := 61) k (by decide) dX6_held_92 ?_
            refine gs_lv (lv' := [(0, .ref (E.2.2.1 0)), (1, .int f), (2, .int v), (3, .int t), (4, .ref (E.2.2.1 (11 + 2 * (tn f)))), (5, .int (nI (s + 1)))]) [1, 2, 3, 4, 5, 0] rfl ?_
            exact hGs _ rfl
          · show G l E K 61 [(0, .ref (E.2.2.1 0)), (1, .int f), (2, .int v), (3, .int t), (4, .ref (E.2.2.1 (11 + 2 * (tn f)))), (5, .int (nI (2 ^ n)))] [] (rset M 62 (lp (fun s r => upd r s (imin (V (tn f) s) v)) (2 ^ n) 0 (M 62)))
            rw [lp_setr]
            show G l E K 61 [(0, .ref (E.2.2.1 0)), (1, .int f), (2, .int v), (3, .int t), (4, .ref (E.2.2.1 (11 + 2 * (tn f)))), (5, .int (nI (2 ^ n)))] [] (rset M 62 (setr (2 ^ n) (fun s => imin (V (tn f) s) v) (M 62)))
            refine gs_iload (q := 5) k rfl dX6_held_61 ?_
            refine gs_aload_n (q := 0) k rfl rfl dX6_held_63 ?_
            refine gs_get (C := RX6) (T := TX6) (N := 10) (ci := 6) (k0 := 0) (j := 0) k (hI 0 (by omega)) rfl rfl inX6 (by decide) fl_X6_12 rfl rfl dX6_held_64 ?_
            refine gs_callV (As := []) (k0 := 1) (ci := 5) (T := TX5) (N := 9) k (c_X5_sets hI (Cn_rs (by omega) hn)) cf_X5_sets im_X5_sets sl_X5_sets ml_X6_131 (hI 1 (by omega)) rfl rfl (by decide) rfl rfl (Nat.le_of_ble_eq_true rfl) dX6_held_67 (ppI ?_)
            refine gs_icmpN_ge (a := 2 ^ n) (b := 2 ^ n) (tgt := 95) k rfl rfl (by omega) (by omega) (by decide) dX6_held_70 (fun c5 => ?_) (fun c5 => absurd c5 (by omega))
            refine gs_aload_n (q := 0) k rfl rfl dX6_held_95 ?_
            refine gs_iload_n (q := 3) k rfl rfl dX6_held_96 ?_
            refine gs_callV (As := [.int t]) (k0 := 0) (ci := 6) (T := TX6) (N := 10) k (c_X6_settleIfInRange hI (Cn_rs (by omega) hn) (t := tn t) (inR_eq c2) (by omega) (g := fun s => imin (V (tn f) s) v) rdraft) cf_X6_settleIfInRange im_X6_settleIfInRange sl_X6_settleIfInRange ml_X6_134 (hI 0 (by omega)) rfl rfl (by decide) rfl rfl (Nat.le_of_ble_eq_true rfl) dX6_held_97 (ppC (fun c6 => ?_) (fun c6 => ?_))
            · exact gs_iret k kt dX6_held_100 ⟨(by simp [-Int32.not_lt, A_held, U_held, ifc_T, ifc_F, c1, c2, c3, c4, c6]), Same.of (X := (fsetC n (tn t) 5 (fun s => imin (V (tn f) s) v) M)) (by simp [-Int32.not_lt, A_held, U_held, ifc_T, ifc_F, c1, c2, c3, c4, c6]) (stl_same (by omega) (Same.r1 Same.rf (fun j => by unfold scr; omega)) rdraft)⟩
            · exact gs_iret k kt dX6_held_100 ⟨(by simp [-Int32.not_lt, A_held, U_held, ifc_T, ifc_F, c1, c2, c3, c4, c6]), Same.of (X := M) (by simp [-Int32.not_lt, A_held, U_held, ifc_T, ifc_F, c1, c2, c3, c4, c6]) (Same.r1 Same.rf (fun j => by unfold scr; omega))⟩
      · refine gs_if_ne (tgt := 26) k (by decide) dX6_held_20 (fun h => absurd h (by decide)) (fun _ => ?_)
        refine gs_bipush (v := -2) k (by decide) dX6_held_23 ?_
        exact gs_iret k kt dX6_held_25 ⟨(by simp [-Int32.not_lt, A_held, U_held, ifc_T, ifc_F, c1, c2, c3]), Same.of (X := M) (by simp [-Int32.not_lt, A_held, U_held, ifc_T, ifc_F, c1, c2, c3]) Same.rf⟩
    · refine gs_if_ne (tgt := 16) k (by decide) dX6_held_11 (fun h => absurd h (by decide)) (fun _ => ?_)
      refine gs_iconst (v := -1) k (by decide) dX6_held_14 ?_
      exact gs_iret k kt dX6_held_15 ⟨(by simp [-Int32.not_lt, A_held, U_held, ifc_T, ifc_F, c1, c2]), Same.of (X := M) (by simp [-Int32.not_lt, A_held, U_held, ifc_T, ifc_F, c1, c2]) Same.rf⟩
  · refine gs_if_eq (tgt := 14) k (by decide) dX6_held_4 (fun _ => ?_) (fun h => absurd h (by decide))
    refine gs_iconst (v := -1) k (by decide) dX6_held_14 ?_
    exact gs_iret k kt dX6_held_15 ⟨(by simp [-Int32.not_lt, A_held, U_held, ifc_T, ifc_F, c1]), Same.of (X := M) (by simp [-Int32.not_lt, A_held, U_held, ifc_T, ifc_F, c1]) Same.rf⟩

theorem cf_X7_held : CF yX7_held cX7_held 5 (some .int) 3 := ⟨cd_X7_held, iz_X7, by decide, by decide +kernel, by decide +kernel, by decide +kernel⟩
set_option maxRecDepth 100000 in
set_option maxHeartbeats 4000000 in
theorem c_X7_held {l : Launch} {E : Ev} {M : Mm} {n : Nat} {kd : Nat → Int32} {V : Nat → Nat → Int32} (hI : ∀ k, k < 108 → k ∈ E.2.1) (hn : Rn M n) (hF : RFn M n kd V) {f v t : Int32} : Cm l E yX7_held cX7_held 5 (some .int) 4 [.ref (E.2.2.1 65), .int f, .int v, .int t] M (pR (.int (A_held n kd V f v t)) (U_held false n kd V f v t M)) := by
  refine Cm.of (by decide) (Nat.le_of_ble_eq_true rfl) (fun K k kt => ?_)
  show G l E K 0 [(0, .ref (E.2.2.1 65)), (1, .int f), (2, .int v), (3, .int t)] [] M
  obtain ⟨hn0, hn1, hn6⟩ := id hn
  have hp := p2_le6 hn6
  have hp2 := p2_ge2 hn1
  refine gs_iload_n (q := 1) k rfl rfl dX7_held_0 ?_
  refine gs_callS (As := [.int f]) k c_X7_isFunction cf_X7_isFunction sm_X7_isFunction ml_X7_128 (by decide) rfl rfl (Nat.le_of_ble_eq_true rfl) dX7_held_1 (ppB (fun c1 => ?_) (fun c1 => ?_))
  · have bc1 := inR_lt c1
    refine gs_if_eq (tgt := 14) k (by decide) dX7_held_4 (fun h => absurd h (by decide)) (fun _ => ?_)
    refine gs_iload_n (q := 3) k rfl rfl dX7_held_7 ?_
    refine gs_callS (As := [.int t]) k c_X7_isFunction cf_X7_isFunction sm_X7_isFunction ml_X7_128 (by decide) rfl rfl (Nat.le_of_ble_eq_true rfl) dX7_held_8 (ppB (fun c2 => ?_) (fun c2 => ?_))
    · have bc2 := inR_lt c2
      refine gs_if_ne (tgt := 16) k (by decide) dX7_held_11 (fun _ => ?_) (fun h => absurd h (by decide))
      refine gs_iload_n (q := 2) k rfl rfl dX7_held_16 ?_
      refine gs_i2l k dX7_held_17 ?_
      refine gs_callS (As := [.long (v.toInt64)]) k (Cm.iff (isBL (a := -999999) (b := 999999) (by decide) (by decide)) c_X7_isValue) cf_X7_isValue sm_X7_isValue ml_X7_135 (by decide) rfl rfl (Nat.le_of_ble_eq_true rfl) dX7_held_18 (ppB (fun c3 => ?_) (fun c3 => ?_))
      · refine gs_if_ne (tgt := 27) k (by decide) dX7_held_21 (fun _ => ?_) (fun h => absurd h (by decide))
        refine gs_aload_n (q := 0) k rfl rfl dX7_held_27 ?_
        refine gs_iload_n (q := 1) k rfl rfl dX7_held_28 ?_
        refine gs_callV (As := [.int f]) (k0 := 65) (ci := 7) (T := TX7) (N := 27) k (c_X7_isThere hI hF) cf_X7_isThere im_X7_isThere sl_X7_isThere ml_X7_163 (hI 65 (by omega)) rfl rfl (by decide) rfl rfl (Nat.le_of_ble_eq_true rfl) dX7_held_29 (ppB (fun c4 => ?_) (fun c4 => ?_))
        · have bc4 := inR_lt c4.1
          have tc4 := c4.2
          refine gs_if_ne (tgt := 38) k (by decide) dX7_held_32 (fun _ => ?_) (fun h => absurd h (by decide))
          refine gs_iconst (v := 0) k (by decide) dX7_held_38 ?_
          refine gs_istore (lv' := [(4, .int 0), (0, .ref (E.2.2.1 65)), (1, .int f), (2, .int v), (3, .int t)]) k (by decide) rfl dX7_held_39 ?_
          refine gs_lv (lv' := [(0, .ref (E.2.2.1 65)), (1, .int f), (2, .int v), (3, .int t), (4, .int 0)]) [1, 2, 3, 4, 0] rfl ?_
          refine gs_M (rset_same M 80).symm ?_
          refine for_up (σ := (Nat → Int32)) (fun s r => G l E K 41 [(0, .ref (E.2.2.1 65)), (1, .int f), (2, .int v), (3, .int t), (4, .int (nI s))] [] (rset M 80 r)) (fun s r => upd r s (imin (V (tn f) s) v)) (2 ^ n) (fun s r hs hGs => ?_) (2 ^ n) 0 (M 80) (by omega) ?_
          · show G l E K 41 [(0, .ref (E.2.2.1 65)), (1, .int f), (2, .int v), (3, .int t), (4, .int (nI s))] [] (rset M 80 r)
            refine gs_iload (q := 4) k rfl dX7_held_41 ?_
            refine gs_aload_n (q := 0) k rfl rfl dX7_held_43 ?_
            refine gs_callV (As := []) (k0 := 65) (ci := 7) (T := TX7) (N := 27) k (c_X7_sets hI (Rn_rs (by omega) hn)) cf_X7_sets im_X7_sets sl_X7_sets ml_X7_83 (hI 65 (by omega)) rfl rfl (by decide) rfl rfl (Nat.le_of_ble_eq_true rfl) dX7_held_44 (ppI ?_)
            refine gs_icmpN_ge (a := s) (b := 2 ^ n) (tgt := 76) k rfl rfl (by omega) (by omega) (by decide) dX7_held_47 (fun c5 => absurd c5 (by omega)) (fun c5 => ?_)
            refine gs_aload_n (q := 0) k rfl rfl dX7_held_50 ?_
            refine gs_get (C := RX7) (T := TX7) (N := 27) (ci := 7) (k0 := 65) (j := 9) k (hI 65 (by omega)) rfl rfl inX7 (by decide) fl_X7_42 rfl rfl dX7_held_51 ?_
            refine gs_iload (q := 4) k rfl dX7_held_54 ?_
            refine gs_aload_n (q := 0) k rfl rfl dX7_held_56 ?_
            refine gs_get (C := RX7) (T := TX7) (N := 27) (ci := 7) (k0 := 65) (j := 8) k (hI 65 (by omega)) rfl rfl inX7 (by decide) fl_X7_39 rfl rfl dX7_held_57 ?_
            refine gs_iload_n (q := 1) k rfl rfl dX7_held_60 ?_
            refine gs_aaldIN (k0 := 73) (n := 6) (e := tn f) (a := E.2.2.1 (74 + (tn f))) k (hI 73 (by omega)) (fun _ => rfl) (inR_eq c1) (by omega) (by decide) rfl dX7_held_61 ?_
            refine gs_iload (q := 4) k rfl dX7_held_62 ?_
            refine gs_ialdN (k0 := (74 + (tn f))) (n := 64) (e := s) k (hI (74 + (tn f)) (by omega)) (ent_RV (by omega)) rfl (by omega) (by decide) dX7_held_64 ?_
            refine gs_top (y := V (tn f) s) (rdr (by omega) ((hF (tn f) (by omega)).2.2 (by assumption) s (by omega))) ?_
            refine gs_iload_n (q := 2) k rfl rfl dX7_held_65 ?_
            refine gs_min k ml_X7_122 (by decide) (Nat.le_of_ble_eq_true rfl) dX7_held_66 ?_
            refine gs_iastN (k0 := 80) (n := 64) (e := s) k (hI 80 (by omega)) (fun _ => rfl) rfl (by omega) (by decide) dX7_held_69 ?_
            refine gs_M (mw_rset _ _ _ _ _) ?_
            refine gs_iincN (q := 4) (a := s) (c := 1) (lv' := [(4, .int (nI (s + 1))), (0, .ref (E.2.2.1 65)), (1, .int f), (2, .int v), (3, .int t)]) k rfl rfl (by decide) rfl dX7_held_70 ?_
            refine gs_goto (tgt := 41) k (by decide) dX7_held_73 ?_
            refine gs_lv (lv' := [(0, .ref (E.2.2.1 65)), (1, .int f), (2, .int v), (3, .int t), (4, .int (nI (s + 1)))]) [1, 2, 3, 4, 0] rfl ?_
            exact hGs _ rfl
          · show G l E K 41 [(0, .ref (E.2.2.1 65)), (1, .int f), (2, .int v), (3, .int t), (4, .int (nI (2 ^ n)))] [] (rset M 80 (lp (fun s r => upd r s (imin (V (tn f) s) v)) (2 ^ n) 0 (M 80)))
            rw [lp_setr]
            show G l E K 41 [(0, .ref (E.2.2.1 65)), (1, .int f), (2, .int v), (3, .int t), (4, .int (nI (2 ^ n)))] [] (rset M 80 (setr (2 ^ n) (fun s => imin (V (tn f) s) v) (M 80)))
            refine gs_iload (q := 4) k rfl dX7_held_41 ?_
            refine gs_aload_n (q := 0) k rfl rfl dX7_held_43 ?_
            refine gs_callV (As := []) (k0 := 65) (ci := 7) (T := TX7) (N := 27) k (c_X7_sets hI (Rn_rs (by omega) hn)) cf_X7_sets im_X7_sets sl_X7_sets ml_X7_83 (hI 65 (by omega)) rfl rfl (by decide) rfl rfl (Nat.le_of_ble_eq_true rfl) dX7_held_44 (ppI ?_)
            refine gs_icmpN_ge (a := 2 ^ n) (b := 2 ^ n) (tgt := 76) k rfl rfl (by omega) (by omega) (by decide) dX7_held_47 (fun c5 => ?_) (fun c5 => absurd c5 (by omega))
            refine gs_aload_n (q := 0) k rfl rfl dX7_held_76 ?_
            refine gs_iload_n (q := 3) k rfl rfl dX7_held_77 ?_
            refine gs_callV (As := [.int t]) (k0 := 65) (ci := 7) (T := TX7) (N := 27) k (c_X7_comes hI (Rn_rs (by omega) hn) (t := tn t) (inR_eq c2) (by omega) (g := fun s => imin (V (tn f) s) v) rdraft) cf_X7_comes im_X7_comes sl_X7_comes ml_X7_166 (hI 65 (by omega)) rfl rfl (by decide) rfl rfl (Nat.le_of_ble_eq_true rfl) dX7_held_78 (ppC (fun c6 => ?_) (fun c6 => ?_))
            · exact gs_iret k kt dX7_held_81 ⟨(by simp [-Int32.not_lt, A_held, U_held, ifc_T, ifc_F, c1, c2, c3, c4, tc4, c6]), Same.of (X := (becR n (tn t) 5 (fun s => imin (V (tn f) s) v) M)) (by simp [-Int32.not_lt, A_held, U_held, ifc_T, ifc_F, c1, c2, c3, c4, tc4, c6]) (bec_same (by omega) (Same.r1 Same.rf (fun j => by unfold scr; omega)) rdraft)⟩
            · exact gs_iret k kt dX7_held_81 ⟨(by simp [-Int32.not_lt, A_held, U_held, ifc_T, ifc_F, c1, c2, c3, c4, tc4, c6]), Same.of (X := M) (by simp [-Int32.not_lt, A_held, U_held, ifc_T, ifc_F, c1, c2, c3, c4, tc4, c6]) (Same.r1 Same.rf (fun j => by unfold scr; omega))⟩
        · have qc4 : kd (tn f) < 0 := Classical.byContradiction (fun k => c4 ⟨by assumption, k⟩)
          refine gs_if_ne (tgt := 38) k (by decide) dX7_held_32 (fun h => absurd h (by decide)) (fun _ => ?_)
          refine gs_bipush (v := -11) k (by decide) dX7_held_35 ?_
          exact gs_iret k kt dX7_held_37 ⟨(by simp [-Int32.not_lt, A_held, U_held, ifc_T, ifc_F, c1, c2, c3, c4, qc4]), Same.of (X := M) (by simp [-Int32.not_lt, A_held, U_held, ifc_T, ifc_F, c1, c2, c3, c4, qc4]) Same.rf⟩
      · refine gs_if_ne (tgt := 27) k (by decide) dX7_held_21 (fun h => absurd h (by decide)) (fun _ => ?_)
        refine gs_bipush (v := -2) k (by decide) dX7_held_24 ?_
        exact gs_iret k kt dX7_held_26 ⟨(by simp [-Int32.not_lt, A_held, U_held, ifc_T, ifc_F, c1, c2, c3]), Same.of (X := M) (by simp [-Int32.not_lt, A_held, U_held, ifc_T, ifc_F, c1, c2, c3]) Same.rf⟩
    · refine gs_if_ne (tgt := 16) k (by decide) dX7_held_11 (fun h => absurd h (by decide)) (fun _ => ?_)
      refine gs_iconst (v := -1) k (by decide) dX7_held_14 ?_
      exact gs_iret k kt dX7_held_15 ⟨(by simp [-Int32.not_lt, A_held, U_held, ifc_T, ifc_F, c1, c2]), Same.of (X := M) (by simp [-Int32.not_lt, A_held, U_held, ifc_T, ifc_F, c1, c2]) Same.rf⟩
  · refine gs_if_eq (tgt := 14) k (by decide) dX7_held_4 (fun _ => ?_) (fun h => absurd h (by decide))
    refine gs_iconst (v := -1) k (by decide) dX7_held_14 ?_
    exact gs_iret k kt dX7_held_15 ⟨(by simp [-Int32.not_lt, A_held, U_held, ifc_T, ifc_F, c1]), Same.of (X := M) (by simp [-Int32.not_lt, A_held, U_held, ifc_T, ifc_F, c1]) Same.rf⟩

noncomputable def A_part (n : Nat) (kd : Nat → Int32) (V : Nat → Nat → Int32) (f a w t : Int32) : Int32 := ifc (inR f 6 ∧ inR t 6) (ifc (inR a (2 ^ n) ∧ inR w 2) (ifc (¬ kd (tn f) < 0) (ifc (allV (2 ^ n) (fun s => if w = 0 then V (tn f) (s &&& tn a) else V (tn f) (s ||| tn a) - V (tn f) (tn a))) (1) (-3)) (-11)) (-2)) (-1)
noncomputable def U_part (c : Bool) (n : Nat) (kd : Nat → Int32) (V : Nat → Nat → Int32) (f a w t : Int32) (M : Mm) : Mm := ifc (inR f 6 ∧ inR t 6) (ifc (inR a (2 ^ n) ∧ inR w 2) (ifc (¬ kd (tn f) < 0) (ifc (allV (2 ^ n) (fun s => if w = 0 then V (tn f) (s &&& tn a) else V (tn f) (s ||| tn a) - V (tn f) (tn a))) ((if c then fsetC n (tn t) 5 (fun s => if w = 0 then V (tn f) (s &&& tn a) else V (tn f) (s ||| tn a) - V (tn f) (tn a)) M else becR n (tn t) 5 (fun s => if w = 0 then V (tn f) (s &&& tn a) else V (tn f) (s ||| tn a) - V (tn f) (tn a)) M)) M) M) M) M
theorem cf_X6_part : CF yX6_part cX6_part 7 (some .int) 4 := ⟨cd_X6_part, iz_X6, by decide, by decide +kernel, by decide +kernel, by decide +kernel⟩
set_option maxRecDepth 100000 in
set_option maxHeartbeats 4000000 in
theorem c_X6_part {l : Launch} {E : Ev} {M : Mm} {n : Nat} {kd : Nat → Int32} {V : Nat → Nat → Int32} (hI : ∀ k, k < 108 → k ∈ E.2.1) (hn : Cn M n) (hF : CFn M n kd V) {f a w t : Int32} : Cm l E yX6_part cX6_part 7 (some .int) 3 [.ref (E.2.2.1 0), .int f, .int a, .int w, .int t] M (pR (.int (A_part n kd V f a w t)) (U_part true n kd V f a w t M)) := by
  refine Cm.of (by decide) (Nat.le_of_ble_eq_true rfl) (fun K k kt => ?_)
  show G l E K 0 [(0, .ref (E.2.2.1 0)), (1, .int f), (2, .int a), (3, .int w), (4, .int t)] [] M
  obtain ⟨hn0, hn1, hn6⟩ := id hn
  have hp := p2_le6 hn6
  have hp2 := p2_ge2 hn1
  refine gs_iload_n (q := 1) k rfl rfl dX6_part_0 ?_
  refine gs_callS (As := [.int f]) k c_X6_isFunction cf_X6_isFunction sm_X6_isFunction ml_X6_101 (by decide) rfl rfl (Nat.le_of_ble_eq_true rfl) dX6_part_1 (ppB (fun c1 => ?_) (fun c1 => ?_))
  · have bc1 := inR_lt c1
    refine gs_if_eq (tgt := 15) k (by decide) dX6_part_4 (fun h => absurd h (by decide)) (fun _ => ?_)
    refine gs_iload (q := 4) k rfl dX6_part_7 ?_
    refine gs_callS (As := [.int t]) k c_X6_isFunction cf_X6_isFunction sm_X6_isFunction ml_X6_101 (by decide) rfl rfl (Nat.le_of_ble_eq_true rfl) dX6_part_9 (ppB (fun c2 => ?_) (fun c2 => ?_))
    · have bc2 := inR_lt c2
      refine gs_if_ne (tgt := 17) k (by decide) dX6_part_12 (fun _ => ?_) (fun h => absurd h (by decide))
      refine gs_aload_n (q := 0) k rfl rfl dX6_part_17 ?_
      refine gs_get (C := RX6) (T := TX6) (N := 10) (ci := 6) (k0 := 0) (j := 0) k (hI 0 (by omega)) rfl rfl inX6 (by decide) fl_X6_12 rfl rfl dX6_part_18 ?_
      refine gs_iload_n (q := 2) k rfl rfl dX6_part_21 ?_
      refine gs_callV (As := [.int a]) (k0 := 1) (ci := 5) (T := TX5) (N := 9) k (c_X5_hasSet hI hn) cf_X5_hasSet im_X5_hasSet sl_X5_hasSet ml_X6_78 (hI 1 (by omega)) rfl rfl (by decide) rfl rfl (Nat.le_of_ble_eq_true rfl) dX6_part_22 (ppB (fun c3 => ?_) (fun c3 => ?_))
      · have bc3 := inR_lt c3
        refine gs_if_eq (tgt := 37) k (by decide) dX6_part_25 (fun h => absurd h (by decide)) (fun _ => ?_)
        refine gs_iload_n (q := 3) k rfl rfl dX6_part_28 ?_
        refine gs_if_lt (tgt := 37) k (by decide) dX6_part_29 (fun c4 => ?_) (fun c4 => ?_)
        · have ec4 : ¬ inR w 2 := inR_n1 c4
          refine gs_bipush (v := -2) k (by decide) dX6_part_37 ?_
          exact gs_iret k kt dX6_part_39 ⟨(by simp [-Int32.not_lt, A_part, U_part, ifc_T, ifc_F, c1, c2, c3, c4, ec4]), Same.of (X := M) (by simp [-Int32.not_lt, A_part, U_part, ifc_T, ifc_F, c1, c2, c3, c4, ec4]) Same.rf⟩
        · refine gs_iload_n (q := 3) k rfl rfl dX6_part_32 ?_
          refine gs_iconst (v := 1) k (by decide) dX6_part_33 ?_
          refine gs_icmp_le (tgt := 40) k (by decide) dX6_part_34 (fun c5 => ?_) (fun c5 => ?_)
          · have ec5 : inR w 2 := inR_of' rfl (by decide) (by decide) c4 (Int32.not_lt.mpr c5)
            have fc5 := inR_lt ec5
            refine gs_aload_n (q := 0) k rfl rfl dX6_part_40 ?_
            refine gs_get (C := RX6) (T := TX6) (N := 10) (ci := 6) (k0 := 0) (j := 0) k (hI 0 (by omega)) rfl rfl inX6 (by decide) fl_X6_12 rfl rfl dX6_part_41 ?_
            refine gs_get (C := RX5) (T := TX5) (N := 9) (ci := 5) (k0 := 1) (j := 7) k (hI 1 (by omega)) rfl rfl inX5 (by decide) fl_X6_107 rfl rfl dX6_part_44 ?_
            refine gs_iload_n (q := 1) k rfl rfl dX6_part_47 ?_
            refine gs_aaldSN (k0 := 8) (n := 6) (e := tn f) (a := E.2.2.1 (10 + 2 * (tn f))) k (hI 8 (by omega)) (fun _ => rfl) (inR_eq c1) (by omega) (by decide) rfl dX6_part_48 ?_
            refine gs_callV (As := []) (k0 := (10 + 2 * (tn f))) (ci := 3) (T := TX3) (N := 2) k (c_X3_isMissing hI hF (by omega)) cf_X3_isMissing im_X3_isMissing sl_X3_isMissing ml_X6_127 (hI (10 + 2 * (tn f)) (by omega)) (ent_F1 (by omega) _) rfl (by decide) rfl rfl (Nat.le_of_ble_eq_true rfl) dX6_part_49 (ppB (fun c6 => ?_) (fun c6 => ?_))
            · refine gs_if_eq (tgt := 58) k (by decide) dX6_part_52 (fun h => absurd h (by decide)) (fun _ => ?_)
              refine gs_bipush (v := -11) k (by decide) dX6_part_55 ?_
              exact gs_iret k kt dX6_part_57 ⟨(by simp [-Int32.not_lt, A_part, U_part, ifc_T, ifc_F, c1, c2, c3, c4, c5, ec5, c6]), Same.of (X := M) (by simp [-Int32.not_lt, A_part, U_part, ifc_T, ifc_F, c1, c2, c3, c4, c5, ec5, c6]) Same.rf⟩
            · refine gs_if_eq (tgt := 58) k (by decide) dX6_part_52 (fun _ => ?_) (fun h => absurd h (by decide))
              refine gs_aload_n (q := 0) k rfl rfl dX6_part_58 ?_
              refine gs_get (C := RX6) (T := TX6) (N := 10) (ci := 6) (k0 := 0) (j := 0) k (hI 0 (by omega)) rfl rfl inX6 (by decide) fl_X6_12 rfl rfl dX6_part_59 ?_
              refine gs_get (C := RX5) (T := TX5) (N := 9) (ci := 5) (k0 := 1) (j := 7) k (hI 1 (by omega)) rfl rfl inX5 (by decide) fl_X6_107 rfl rfl dX6_part_62 ?_
              refine gs_iload_n (q := 1) k rfl rfl dX6_part_65 ?_
              refine gs_aaldSN (k0 := 8) (n := 6) (e := tn f) (a := E.2.2.1 (10 + 2 * (tn f))) k (hI 8 (by omega)) (fun _ => rfl) (inR_eq c1) (by omega) (by decide) rfl dX6_part_66 ?_
              refine gs_get (C := RX3) (T := TX3) (N := 2) (ci := 3) (k0 := (10 + 2 * (tn f))) (j := 1) k (hI (10 + 2 * (tn f)) (by omega)) (ent_F1 (by omega) _) rfl inX3 (by decide) fl_X6_111 rfl rfl dX6_part_67 ?_
              refine gs_astore (lv' := [(5, .ref (E.2.2.1 (11 + 2 * (tn f)))), (0, .ref (E.2.2.1 0)), (1, .int f), (2, .int a), (3, .int w), (4, .int t)]) k (by decide) rfl dX6_part_70 ?_
              refine gs_iconst (v := 0) k (by decide) dX6_part_72 ?_
              refine gs_istore (lv' := [(6, .int 0), (5, .ref (E.2.2.1 (11 + 2 * (tn f)))), (0, .ref (E.2.2.1 0)), (1, .int f), (2, .int a), (3, .int w), (4, .int t)]) k (by decide) rfl dX6_part_73 ?_
              refine gs_lv (lv' := [(0, .ref (E.2.2.1 0)), (1, .int f), (2, .int a), (3, .int w), (4, .int t), (5, .ref (E.2.2.1 (11 + 2 * (tn f)))), (6, .int 0)]) [2, 3, 4, 5, 6, 1, 0] rfl ?_
              refine gs_M (rset_same M 62).symm ?_
              refine for_up (σ := (Nat → Int32)) (fun s r => G l E K 75 [(0, .ref (E.2.2.1 0)), (1, .int f), (2, .int a), (3, .int w), (4, .int t), (5, .ref (E.2.2.1 (11 + 2 * (tn f)))), (6, .int (nI s))] [] (rset M 62 r)) (fun s r => upd r s (if w = 0 then V (tn f) (s &&& tn a) else V (tn f) (s ||| tn a) - V (tn f) (tn a))) (2 ^ n) (fun s r hs hGs => ?_) (2 ^ n) 0 (M 62) (by omega) ?_
              · show G l E K 75 [(0, .ref (E.2.2.1 0)), (1, .int f), (2, .int a), (3, .int w), (4, .int t), (5, .ref (E.2.2.1 (11 + 2 * (tn f)))), (6, .int (nI s))] [] (rset M 62 r)
                have h1 : s &&& tn a < 2 ^ n := andlt hs
                have h2 : s ||| tn a < 2 ^ n := orlt2 hs (by omega)
                refine gs_iload (q := 6) k rfl dX6_part_75 ?_
                refine gs_aload_n (q := 0) k rfl rfl dX6_part_77 ?_
                refine gs_get (C := RX6) (T := TX6) (N := 10) (ci := 6) (k0 := 0) (j := 0) k (hI 0 (by omega)) rfl rfl inX6 (by decide) fl_X6_12 rfl rfl dX6_part_78 ?_
                refine gs_callV (As := []) (k0 := 1) (ci := 5) (T := TX5) (N := 9) k (c_X5_sets hI (Cn_rs (by omega) hn)) cf_X5_sets im_X5_sets sl_X5_sets ml_X6_131 (hI 1 (by omega)) rfl rfl (by decide) rfl rfl (Nat.le_of_ble_eq_true rfl) dX6_part_81 (ppI ?_)
                refine gs_icmpN_ge (a := s) (b := 2 ^ n) (tgt := 126) k rfl rfl (by omega) (by omega) (by decide) dX6_part_84 (fun c7 => absurd c7 (by omega)) (fun c7 => ?_)
                refine gs_aload_n (q := 0) k rfl rfl dX6_part_87 ?_
                refine gs_get (C := RX6) (T := TX6) (N := 10) (ci := 6) (k0 := 0) (j := 7) k (hI 0 (by omega)) rfl rfl inX6 (by decide) fl_X6_53 rfl rfl dX6_part_88 ?_
                refine gs_iload (q := 6) k rfl dX6_part_91 ?_
                refine gs_iload_n (q := 3) k rfl rfl dX6_part_93 ?_
                refine gs_if_ne (tgt := 107) k (by decide) dX6_part_94 (fun c8 => ?_) (fun c8 => ?_)
                · refine gs_aload (q := 5) k rfl dX6_part_107 ?_
                  refine gs_iload (q := 6) k rfl dX6_part_109 ?_
                  refine gs_iload_n (q := 2) k rfl rfl dX6_part_111 ?_
                  refine gs_iorN (a := s) (b := tn a) k rfl (inR_eq c3) dX6_part_112 ?_
                  refine gs_ialdN (k0 := (11 + 2 * (tn f))) (n := 64) (e := s ||| (tn a)) k (hI (11 + 2 * (tn f)) (by omega)) (ent_V1 (by omega)) rfl (by omega) (by decide) dX6_part_113 ?_
                  refine gs_top (y := V (tn f) (s ||| (tn a))) (rdr (by omega) ((hF (tn f) (by omega)).2.2 (s ||| (tn a)) (by omega))) ?_
                  refine gs_aload (q := 5) k rfl dX6_part_114 ?_
                  refine gs_iload_n (q := 2) k rfl rfl dX6_part_116 ?_
                  refine gs_ialdN (k0 := (11 + 2 * (tn f))) (n := 64) (e := tn a) k (hI (11 + 2 * (tn f)) (by omega)) (ent_V1 (by omega)) (inR_eq c3) (by omega) (by decide) dX6_part_117 ?_
                  refine gs_top (y := V (tn f) (tn a)) (rdr (by omega) ((hF (tn f) (by omega)).2.2 (tn a) (by omega))) ?_
                  refine gs_isub k dX6_part_118 ?_
                  refine gs_iastN (k0 := 62) (n := 64) (e := s) k (hI 62 (by omega)) (fun _ => rfl) rfl (by omega) (by decide) dX6_part_119 ?_
                  refine gs_M (mw_rset _ _ _ _ _) ?_
                  refine gs_iincN (q := 6) (a := s) (c := 1) (lv' := [(6, .int (nI (s + 1))), (0, .ref (E.2.2.1 0)), (1, .int f), (2, .int a), (3, .int w), (4, .int t), (5, .ref (E.2.2.1 (11 + 2 * (tn f))))]) k rfl rfl (by decide) rfl dX6_part_120 ?_
                  refine gs_goto (tgt := 75) k (by decide) dX6_part_123 ?_
                  refine gs_lv (lv' := [(0, .ref (E.2.2.1 0)), (1, .int f), (2, .int a), (3, .int w), (4, .int t), (5, .ref (E.2.2.1 (11 + 2 * (tn f)))), (6, .int (nI (s + 1)))]) [1, 2, 3, 4, 5, 6, 0] rfl ?_
                  exact hGs _ (by rw [if_neg c8])
                · refine gs_aload (q := 5) k rfl dX6_part_97 ?_
                  refine gs_iload (q := 6) k rfl dX6_part_99 ?_
                  refine gs_iload_n (q := 2) k rfl rfl dX6_part_101 ?_
                  refine gs_iandN (a := s) (b := tn a) k rfl (inR_eq c3) dX6_part_102 ?_
                  refine gs_ialdN (k0 := (11 + 2 * (tn f))) (n := 64) (e := s &&& (tn a)) k (hI (11 + 2 * (tn f)) (by omega)) (ent_V1 (by omega)) rfl (by omega) (by decide) dX6_part_103 ?_
                  refine gs_top (y := V (tn f) (s &&& (tn a))) (rdr (by omega) ((hF (tn f) (by omega)).2.2 (s &&& (tn a)) (by omega))) ?_
                  refine gs_goto (tgt := 119) k (by decide) dX6_part_104 ?_
                  refine gs_iastN (k0 := 62) (n := 64) (e := s) k (hI 62 (by omega)) (fun _ => rfl) rfl (by omega) (by decide) dX6_part_119 ?_
                  refine gs_M (mw_rset _ _ _ _ _) ?_
                  refine gs_iincN (q := 6) (a := s) (c := 1) (lv' := [(6, .int (nI (s + 1))), (0, .ref (E.2.2.1 0)), (1, .int f), (2, .int a), (3, .int w), (4, .int t), (5, .ref (E.2.2.1 (11 + 2 * (tn f))))]) k rfl rfl (by decide) rfl dX6_part_120 ?_
                  refine gs_goto (tgt := 75) k (by decide) dX6_part_123 ?_
                  refine gs_lv (lv' := [(0, .ref (E.2.2.1 0)), (1, .int f), (2, .int a), (3, .int w), (4, .int t), (5, .ref (E.2.2.1 (11 + 2 * (tn f)))), (6, .int (nI (s + 1)))]) [1, 2, 3, 4, 5, 6, 0] rfl ?_
                  exact hGs _ (by rw [if_pos c8])
              · show G l E K 75 [(0, .ref (E.2.2.1 0)), (1, .int f), (2, .int a), (3, .int w), (4, .int t), (5, .ref (E.2.2.1 (11 + 2 * (tn f)))), (6, .int (nI (2 ^ n)))] [] (rset M 62 (lp (fun s r => upd r s (if w = 0 then V (tn f) (s &&& tn a) else V (tn f) (s ||| tn a) - V (tn f) (tn a))) (2 ^ n) 0 (M 62)))
                rw [lp_setr]
                show G l E K 75 [(0, .ref (E.2.2.1 0)), (1, .int f), (2, .int a), (3, .int w), (4, .int t), (5, .ref (E.2.2.1 (11 + 2 * (tn f)))), (6, .int (nI (2 ^ n)))] [] (rset M 62 (setr (2 ^ n) (fun s => if w = 0 then V (tn f) (s &&& tn a) else V (tn f) (s ||| tn a) - V (tn f) (tn a)) (M 62)))
                refine gs_iload (q := 6) k rfl dX6_part_75 ?_
                refine gs_aload_n (q := 0) k rfl rfl dX6_part_77 ?_
                refine gs_get (C := RX6) (T := TX6) (N := 10) (ci := 6) (k0 := 0) (j := 0) k (hI 0 (by omega)) rfl rfl inX6 (by decide) fl_X6_12 rfl rfl dX6_part_78 ?_
                refine gs_callV (As := []) (k0 := 1) (ci := 5) (T := TX5) (N := 9) k (c_X5_sets hI (Cn_rs (by omega) hn)) cf_X5_sets im_X5_sets sl_X5_sets ml_X6_131 (hI 1 (by omega)) rfl rfl (by decide) rfl rfl (Nat.le_of_ble_eq_true rfl) dX6_part_81 (ppI ?_)
                refine gs_icmpN_ge (a := 2 ^ n) (b := 2 ^ n) (tgt := 126) k rfl rfl (by omega) (by omega) (by decide) dX6_part_84 (fun c7 => ?_) (fun c7 => absurd c7 (by omega))
                refine gs_aload_n (q := 0) k rfl rfl dX6_part_126 ?_
                refine gs_iload (q := 4) k rfl dX6_part_127 ?_
                refine gs_callV (As := [.int t]) (k0 := 0) (ci := 6) (T := TX6) (N := 10) k (c_X6_settleIfInRange hI (Cn_rs (by omega) hn) (t := tn t) (inR_eq c2) (by omega) (g := fun s => if w = 0 then V (tn f) (s &&& tn a) else V (tn f) (s ||| tn a) - V (tn f) (tn a)) rdraft) cf_X6_settleIfInRange im_X6_settleIfInRange sl_X6_settleIfInRange ml_X6_134 (hI 0 (by omega)) rfl rfl (by decide) rfl rfl (Nat.le_of_ble_eq_true rfl) dX6_part_129 (ppC (fun c8 => ?_) (fun c8 => ?_))
                · exact gs_iret k kt dX6_part_132 ⟨(by simp [-Int32.not_lt, A_part, U_part, ifc_T, ifc_F, c1, c2, c3, c4, c5, ec5, c6, c8]), Same.of (X := (fsetC n (tn t) 5 (fun s => if w = 0 then V (tn f) (s &&& tn a) else V (tn f) (s ||| tn a) - V (tn f) (tn a)) M)) (by simp [-Int32.not_lt, A_part, U_part, ifc_T, ifc_F, c1, c2, c3, c4, c5, ec5, c6, c8]) (stl_same (by omega) (Same.r1 Same.rf (fun j => by unfold scr; omega)) rdraft)⟩
                · exact gs_iret k kt dX6_part_132 ⟨(by simp [-Int32.not_lt, A_part, U_part, ifc_T, ifc_F, c1, c2, c3, c4, c5, ec5, c6, c8]), Same.of (X := M) (by simp [-Int32.not_lt, A_part, U_part, ifc_T, ifc_F, c1, c2, c3, c4, c5, ec5, c6, c8]) (Same.r1 Same.rf (fun j => by unfold scr; omega))⟩
          · have ec5 : ¬ inR w 2 := inR_n2' rfl (by decide) (by decide) (Int32.not_le.mp c5)
            refine gs_bipush (v := -2) k (by decide) dX6_part_37 ?_
            exact gs_iret k kt dX6_part_39 ⟨(by simp [-Int32.not_lt, A_part, U_part, ifc_T, ifc_F, c1, c2, c3, c4, c5, ec5]), Same.of (X := M) (by simp [-Int32.not_lt, A_part, U_part, ifc_T, ifc_F, c1, c2, c3, c4, c5, ec5]) Same.rf⟩
      · refine gs_if_eq (tgt := 37) k (by decide) dX6_part_25 (fun _ => ?_) (fun h => absurd h (by decide))
        refine gs_bipush (v := -2) k (by decide) dX6_part_37 ?_
        exact gs_iret k kt dX6_part_39 ⟨(by simp [-Int32.not_lt, A_part, U_part, ifc_T, ifc_F, c1, c2, c3]), Same.of (X := M) (by simp [-Int32.not_lt, A_part, U_part, ifc_T, ifc_F, c1, c2, c3]) Same.rf⟩
    · refine gs_if_ne (tgt := 17) k (by decide) dX6_part_12 (fun h => absurd h (by decide)) (fun _ => ?_)
      refine gs_iconst (v := -1) k (by decide) dX6_part_15 ?_
      exact gs_iret k kt dX6_part_16 ⟨(by simp [-Int32.not_lt, A_part, U_part, ifc_T, ifc_F, c1, c2]), Same.of (X := M) (by simp [-Int32.not_lt, A_part, U_part, ifc_T, ifc_F, c1, c2]) Same.rf⟩
  · refine gs_if_eq (tgt := 15) k (by decide) dX6_part_4 (fun _ => ?_) (fun h => absurd h (by decide))
    refine gs_iconst (v := -1) k (by decide) dX6_part_15 ?_
    exact gs_iret k kt dX6_part_16 ⟨(by simp [-Int32.not_lt, A_part, U_part, ifc_T, ifc_F, c1]), Same.of (X := M) (by simp [-Int32.not_lt, A_part, U_part, ifc_T, ifc_F, c1]) Same.rf⟩

theorem cf_X7_part : CF yX7_part cX7_part 6 (some .int) 4 := ⟨cd_X7_part, iz_X7, by decide, by decide +kernel, by decide +kernel, by decide +kernel⟩
set_option maxRecDepth 100000 in
set_option maxHeartbeats 4000000 in
theorem c_X7_part {l : Launch} {E : Ev} {M : Mm} {n : Nat} {kd : Nat → Int32} {V : Nat → Nat → Int32} (hI : ∀ k, k < 108 → k ∈ E.2.1) (hn : Rn M n) (hF : RFn M n kd V) {f a w t : Int32} : Cm l E yX7_part cX7_part 6 (some .int) 4 [.ref (E.2.2.1 65), .int f, .int a, .int w, .int t] M (pR (.int (A_part n kd V f a w t)) (U_part false n kd V f a w t M)) := by
  refine Cm.of (by decide) (Nat.le_of_ble_eq_true rfl) (fun K k kt => ?_)
  show G l E K 0 [(0, .ref (E.2.2.1 65)), (1, .int f), (2, .int a), (3, .int w), (4, .int t)] [] M
  obtain ⟨hn0, hn1, hn6⟩ := id hn
  have hp := p2_le6 hn6
  have hp2 := p2_ge2 hn1
  refine gs_iload_n (q := 1) k rfl rfl dX7_part_0 ?_
  refine gs_callS (As := [.int f]) k c_X7_isFunction cf_X7_isFunction sm_X7_isFunction ml_X7_128 (by decide) rfl rfl (Nat.le_of_ble_eq_true rfl) dX7_part_1 (ppB (fun c1 => ?_) (fun c1 => ?_))
  · have bc1 := inR_lt c1
    refine gs_if_eq (tgt := 15) k (by decide) dX7_part_4 (fun h => absurd h (by decide)) (fun _ => ?_)
    refine gs_iload (q := 4) k rfl dX7_part_7 ?_
    refine gs_callS (As := [.int t]) k c_X7_isFunction cf_X7_isFunction sm_X7_isFunction ml_X7_128 (by decide) rfl rfl (Nat.le_of_ble_eq_true rfl) dX7_part_9 (ppB (fun c2 => ?_) (fun c2 => ?_))
    · have bc2 := inR_lt c2
      refine gs_if_ne (tgt := 17) k (by decide) dX7_part_12 (fun _ => ?_) (fun h => absurd h (by decide))
      refine gs_aload_n (q := 0) k rfl rfl dX7_part_17 ?_
      refine gs_iload_n (q := 2) k rfl rfl dX7_part_18 ?_
      refine gs_callV (As := [.int a]) (k0 := 65) (ci := 7) (T := TX7) (N := 27) k (c_X7_isSet hI hn) cf_X7_isSet im_X7_isSet sl_X7_isSet ml_X7_106 (hI 65 (by omega)) rfl rfl (by decide) rfl rfl (Nat.le_of_ble_eq_true rfl) dX7_part_19 (ppB (fun c3 => ?_) (fun c3 => ?_))
      · have bc3 := inR_lt c3
        refine gs_if_eq (tgt := 35) k (by decide) dX7_part_22 (fun h => absurd h (by decide)) (fun _ => ?_)
        refine gs_iload_n (q := 3) k rfl rfl dX7_part_25 ?_
        refine gs_i2l k dX7_part_26 ?_
        refine gs_lconst (v := 0) k (by decide) dX7_part_27 ?_
        refine gs_lconst (v := 1) k (by decide) dX7_part_28 ?_
        refine gs_callS (As := [.long (w.toInt64), .long (0), .long (1)]) k (Cm.iff (inL (n := 2) (by decide) (by decide)) c_X7_in) cf_X7_in sm_X7_in ml_X7_79 (by decide) rfl rfl (Nat.le_of_ble_eq_true rfl) dX7_part_29 (ppB (fun c4 => ?_) (fun c4 => ?_))
        · have bc4 := inR_lt c4
          refine gs_if_ne (tgt := 38) k (by decide) dX7_part_32 (fun _ => ?_) (fun h => absurd h (by decide))
          refine gs_aload_n (q := 0) k rfl rfl dX7_part_38 ?_
          refine gs_iload_n (q := 1) k rfl rfl dX7_part_39 ?_
          refine gs_callV (As := [.int f]) (k0 := 65) (ci := 7) (T := TX7) (N := 27) k (c_X7_isThere hI hF) cf_X7_isThere im_X7_isThere sl_X7_isThere ml_X7_163 (hI 65 (by omega)) rfl rfl (by decide) rfl rfl (Nat.le_of_ble_eq_true rfl) dX7_part_40 (ppB (fun c5 => ?_) (fun c5 => ?_))
          · have bc5 := inR_lt c5.1
            have tc5 := c5.2
            refine gs_if_ne (tgt := 49) k (by decide) dX7_part_43 (fun _ => ?_) (fun h => absurd h (by decide))
            refine gs_iconst (v := 0) k (by decide) dX7_part_49 ?_
            refine gs_istore (lv' := [(5, .int 0), (0, .ref (E.2.2.1 65)), (1, .int f), (2, .int a), (3, .int w), (4, .int t)]) k (by decide) rfl dX7_part_50 ?_
            refine gs_lv (lv' := [(0, .ref (E.2.2.1 65)), (1, .int f), (2, .int a), (3, .int w), (4, .int t), (5, .int 0)]) [1, 2, 3, 4, 5, 0] rfl ?_
            refine gs_M (rset_same M 80).symm ?_
            refine for_up (σ := (Nat → Int32)) (fun s r => G l E K 52 [(0, .ref (E.2.2.1 65)), (1, .int f), (2, .int a), (3, .int w), (4, .int t), (5, .int (nI s))] [] (rset M 80 r)) (fun s r => upd r s (if w = 0 then V (tn f) (s &&& tn a) else V (tn f) (s ||| tn a) - V (tn f) (tn a))) (2 ^ n) (fun s r hs hGs => ?_) (2 ^ n) 0 (M 80) (by omega) ?_
            · show G l E K 52 [(0, .ref (E.2.2.1 65)), (1, .int f), (2, .int a), (3, .int w), (4, .int t), (5, .int (nI s))] [] (rset M 80 r)
              have h1 : s &&& tn a < 2 ^ n := andlt hs
              have h2 : s ||| tn a < 2 ^ n := orlt2 hs (by omega)
              refine gs_iload (q := 5) k rfl dX7_part_52 ?_
              refine gs_aload_n (q := 0) k rfl rfl dX7_part_54 ?_
              refine gs_callV (As := []) (k0 := 65) (ci := 7) (T := TX7) (N := 27) k (c_X7_sets hI (Rn_rs (by omega) hn)) cf_X7_sets im_X7_sets sl_X7_sets ml_X7_83 (hI 65 (by omega)) rfl rfl (by decide) rfl rfl (Nat.le_of_ble_eq_true rfl) dX7_part_55 (ppI ?_)
              refine gs_icmpN_ge (a := s) (b := 2 ^ n) (tgt := 112) k rfl rfl (by omega) (by omega) (by decide) dX7_part_58 (fun c6 => absurd c6 (by omega)) (fun c6 => ?_)
              refine gs_aload_n (q := 0) k rfl rfl dX7_part_61 ?_
              refine gs_get (C := RX7) (T := TX7) (N := 27) (ci := 7) (k0 := 65) (j := 9) k (hI 65 (by omega)) rfl rfl inX7 (by decide) fl_X7_42 rfl rfl dX7_part_62 ?_
              refine gs_iload (q := 5) k rfl dX7_part_65 ?_
              refine gs_iload_n (q := 3) k rfl rfl dX7_part_67 ?_
              refine gs_if_ne (tgt := 85) k (by decide) dX7_part_68 (fun c7 => ?_) (fun c7 => ?_)
              · refine gs_aload_n (q := 0) k rfl rfl dX7_part_85 ?_
                refine gs_get (C := RX7) (T := TX7) (N := 27) (ci := 7) (k0 := 65) (j := 8) k (hI 65 (by omega)) rfl rfl inX7 (by decide) fl_X7_39 rfl rfl dX7_part_86 ?_
                refine gs_iload_n (q := 1) k rfl rfl dX7_part_89 ?_
                refine gs_aaldIN (k0 := 73) (n := 6) (e := tn f) (a := E.2.2.1 (74 + (tn f))) k (hI 73 (by omega)) (fun _ => rfl) (inR_eq c1) (by omega) (by decide) rfl dX7_part_90 ?_
                refine gs_iload (q := 5) k rfl dX7_part_91 ?_
                refine gs_iload_n (q := 2) k rfl rfl dX7_part_93 ?_
                refine gs_iorN (a := s) (b := tn a) k rfl (inR_eq c3) dX7_part_94 ?_
                refine gs_ialdN (k0 := (74 + (tn f))) (n := 64) (e := s ||| (tn a)) k (hI (74 + (tn f)) (by omega)) (ent_RV (by omega)) rfl (by omega) (by decide) dX7_part_95 ?_
                refine gs_top (y := V (tn f) (s ||| (tn a))) (rdr (by omega) ((hF (tn f) (by omega)).2.2 (by assumption) (s ||| (tn a)) (by omega))) ?_
                refine gs_aload_n (q := 0) k rfl rfl dX7_part_96 ?_
                refine gs_get (C := RX7) (T := TX7) (N := 27) (ci := 7) (k0 := 65) (j := 8) k (hI 65 (by omega)) rfl rfl inX7 (by decide) fl_X7_39 rfl rfl dX7_part_97 ?_
                refine gs_iload_n (q := 1) k rfl rfl dX7_part_100 ?_
                refine gs_aaldIN (k0 := 73) (n := 6) (e := tn f) (a := E.2.2.1 (74 + (tn f))) k (hI 73 (by omega)) (fun _ => rfl) (inR_eq c1) (by omega) (by decide) rfl dX7_part_101 ?_
                refine gs_iload_n (q := 2) k rfl rfl dX7_part_102 ?_
                refine gs_ialdN (k0 := (74 + (tn f))) (n := 64) (e := tn a) k (hI (74 + (tn f)) (by omega)) (ent_RV (by omega)) (inR_eq c3) (by omega) (by decide) dX7_part_103 ?_
                refine gs_top (y := V (tn f) (tn a)) (rdr (by omega) ((hF (tn f) (by omega)).2.2 (by assumption) (tn a) (by omega))) ?_
                refine gs_isub k dX7_part_104 ?_
                refine gs_iastN (k0 := 80) (n := 64) (e := s) k (hI 80 (by omega)) (fun _ => rfl) rfl (by omega) (by decide) dX7_part_105 ?_
                refine gs_M (mw_rset _ _ _ _ _) ?_
                refine gs_iincN (q := 5) (a := s) (c := 1) (lv' := [(5, .int (nI (s + 1))), (0, .ref (E.2.2.1 65)), (1, .int f), (2, .int a), (3, .int w), (4, .int t)]) k rfl rfl (by decide) rfl dX7_part_106 ?_
                refine gs_goto (tgt := 52) k (by decide) dX7_part_109 ?_
                refine gs_lv (lv' := [(0, .ref (E.2.2.1 65)), (1, .int f), (2, .int a), (3, .int w), (4, .int t), (5, .int (nI (s + 1)))]) [1, 2, 3, 4, 5, 0] rfl ?_
                exact hGs _ (by rw [if_neg c7])
              · refine gs_aload_n (q := 0) k rfl rfl dX7_part_71 ?_
                refine gs_get (C := RX7) (T := TX7) (N := 27) (ci := 7) (k0 := 65) (j := 8) k (hI 65 (by omega)) rfl rfl inX7 (by decide) fl_X7_39 rfl rfl dX7_part_72 ?_
                refine gs_iload_n (q := 1) k rfl rfl dX7_part_75 ?_
                refine gs_aaldIN (k0 := 73) (n := 6) (e := tn f) (a := E.2.2.1 (74 + (tn f))) k (hI 73 (by omega)) (fun _ => rfl) (inR_eq c1) (by omega) (by decide) rfl dX7_part_76 ?_
                refine gs_iload (q := 5) k rfl dX7_part_77 ?_
                refine gs_iload_n (q := 2) k rfl rfl dX7_part_79 ?_
                refine gs_iandN (a := s) (b := tn a) k rfl (inR_eq c3) dX7_part_80 ?_
                refine gs_ialdN (k0 := (74 + (tn f))) (n := 64) (e := s &&& (tn a)) k (hI (74 + (tn f)) (by omega)) (ent_RV (by omega)) rfl (by omega) (by decide) dX7_part_81 ?_
                refine gs_top (y := V (tn f) (s &&& (tn a))) (rdr (by omega) ((hF (tn f) (by omega)).2.2 (by assumption) (s &&& (tn a)) (by omega))) ?_
                refine gs_goto (tgt := 105) k (by decide) dX7_part_82 ?_
                refine gs_iastN (k0 := 80) (n := 64) (e := s) k (hI 80 (by omega)) (fun _ => rfl) rfl (by omega) (by decide) dX7_part_105 ?_
                refine gs_M (mw_rset _ _ _ _ _) ?_
                refine gs_iincN (q := 5) (a := s) (c := 1) (lv' := [(5, .int (nI (s + 1))), (0, .ref (E.2.2.1 65)), (1, .int f), (2, .int a), (3, .int w), (4, .int t)]) k rfl rfl (by decide) rfl dX7_part_106 ?_
                refine gs_goto (tgt := 52) k (by decide) dX7_part_109 ?_
                refine gs_lv (lv' := [(0, .ref (E.2.2.1 65)), (1, .int f), (2, .int a), (3, .int w), (4, .int t), (5, .int (nI (s + 1)))]) [1, 2, 3, 4, 5, 0] rfl ?_
                exact hGs _ (by rw [if_pos c7])
            · show G l E K 52 [(0, .ref (E.2.2.1 65)), (1, .int f), (2, .int a), (3, .int w), (4, .int t), (5, .int (nI (2 ^ n)))] [] (rset M 80 (lp (fun s r => upd r s (if w = 0 then V (tn f) (s &&& tn a) else V (tn f) (s ||| tn a) - V (tn f) (tn a))) (2 ^ n) 0 (M 80)))
              rw [lp_setr]
              show G l E K 52 [(0, .ref (E.2.2.1 65)), (1, .int f), (2, .int a), (3, .int w), (4, .int t), (5, .int (nI (2 ^ n)))] [] (rset M 80 (setr (2 ^ n) (fun s => if w = 0 then V (tn f) (s &&& tn a) else V (tn f) (s ||| tn a) - V (tn f) (tn a)) (M 80)))
              refine gs_iload (q := 5) k rfl dX7_part_52 ?_
              refine gs_aload_n (q := 0) k rfl rfl dX7_part_54 ?_
              refine gs_callV (As := []) (k0 := 65) (ci := 7) (T := TX7) (N := 27) k (c_X7_sets hI (Rn_rs (by omega) hn)) cf_X7_sets im_X7_sets sl_X7_sets ml_X7_83 (hI 65 (by omega)) rfl rfl (by decide) rfl rfl (Nat.le_of_ble_eq_true rfl) dX7_part_55 (ppI ?_)
              refine gs_icmpN_ge (a := 2 ^ n) (b := 2 ^ n) (tgt := 112) k rfl rfl (by omega) (by omega) (by decide) dX7_part_58 (fun c6 => ?_) (fun c6 => absurd c6 (by omega))
              refine gs_aload_n (q := 0) k rfl rfl dX7_part_112 ?_
              refine gs_iload (q := 4) k rfl dX7_part_113 ?_
              refine gs_callV (As := [.int t]) (k0 := 65) (ci := 7) (T := TX7) (N := 27) k (c_X7_comes hI (Rn_rs (by omega) hn) (t := tn t) (inR_eq c2) (by omega) (g := fun s => if w = 0 then V (tn f) (s &&& tn a) else V (tn f) (s ||| tn a) - V (tn f) (tn a)) rdraft) cf_X7_comes im_X7_comes sl_X7_comes ml_X7_166 (hI 65 (by omega)) rfl rfl (by decide) rfl rfl (Nat.le_of_ble_eq_true rfl) dX7_part_115 (ppC (fun c7 => ?_) (fun c7 => ?_))
              · exact gs_iret k kt dX7_part_118 ⟨(by simp [-Int32.not_lt, A_part, U_part, ifc_T, ifc_F, c1, c2, c3, c4, c5, tc5, c7]), Same.of (X := (becR n (tn t) 5 (fun s => if w = 0 then V (tn f) (s &&& tn a) else V (tn f) (s ||| tn a) - V (tn f) (tn a)) M)) (by simp [-Int32.not_lt, A_part, U_part, ifc_T, ifc_F, c1, c2, c3, c4, c5, tc5, c7]) (bec_same (by omega) (Same.r1 Same.rf (fun j => by unfold scr; omega)) rdraft)⟩
              · exact gs_iret k kt dX7_part_118 ⟨(by simp [-Int32.not_lt, A_part, U_part, ifc_T, ifc_F, c1, c2, c3, c4, c5, tc5, c7]), Same.of (X := M) (by simp [-Int32.not_lt, A_part, U_part, ifc_T, ifc_F, c1, c2, c3, c4, c5, tc5, c7]) (Same.r1 Same.rf (fun j => by unfold scr; omega))⟩
          · have qc5 : kd (tn f) < 0 := Classical.byContradiction (fun k => c5 ⟨by assumption, k⟩)
            refine gs_if_ne (tgt := 49) k (by decide) dX7_part_43 (fun h => absurd h (by decide)) (fun _ => ?_)
            refine gs_bipush (v := -11) k (by decide) dX7_part_46 ?_
            exact gs_iret k kt dX7_part_48 ⟨(by simp [-Int32.not_lt, A_part, U_part, ifc_T, ifc_F, c1, c2, c3, c4, c5, qc5]), Same.of (X := M) (by simp [-Int32.not_lt, A_part, U_part, ifc_T, ifc_F, c1, c2, c3, c4, c5, qc5]) Same.rf⟩
        · refine gs_if_ne (tgt := 38) k (by decide) dX7_part_32 (fun h => absurd h (by decide)) (fun _ => ?_)
          refine gs_bipush (v := -2) k (by decide) dX7_part_35 ?_
          exact gs_iret k kt dX7_part_37 ⟨(by simp [-Int32.not_lt, A_part, U_part, ifc_T, ifc_F, c1, c2, c3, c4]), Same.of (X := M) (by simp [-Int32.not_lt, A_part, U_part, ifc_T, ifc_F, c1, c2, c3, c4]) Same.rf⟩
      · refine gs_if_eq (tgt := 35) k (by decide) dX7_part_22 (fun _ => ?_) (fun h => absurd h (by decide))
        refine gs_bipush (v := -2) k (by decide) dX7_part_35 ?_
        exact gs_iret k kt dX7_part_37 ⟨(by simp [-Int32.not_lt, A_part, U_part, ifc_T, ifc_F, c1, c2, c3]), Same.of (X := M) (by simp [-Int32.not_lt, A_part, U_part, ifc_T, ifc_F, c1, c2, c3]) Same.rf⟩
    · refine gs_if_ne (tgt := 17) k (by decide) dX7_part_12 (fun h => absurd h (by decide)) (fun _ => ?_)
      refine gs_iconst (v := -1) k (by decide) dX7_part_15 ?_
      exact gs_iret k kt dX7_part_16 ⟨(by simp [-Int32.not_lt, A_part, U_part, ifc_T, ifc_F, c1, c2]), Same.of (X := M) (by simp [-Int32.not_lt, A_part, U_part, ifc_T, ifc_F, c1, c2]) Same.rf⟩
  · refine gs_if_eq (tgt := 15) k (by decide) dX7_part_4 (fun _ => ?_) (fun h => absurd h (by decide))
    refine gs_iconst (v := -1) k (by decide) dX7_part_15 ?_
    exact gs_iret k kt dX7_part_16 ⟨(by simp [-Int32.not_lt, A_part, U_part, ifc_T, ifc_F, c1]), Same.of (X := M) (by simp [-Int32.not_lt, A_part, U_part, ifc_T, ifc_F, c1]) Same.rf⟩

noncomputable def A_clear (kd : Nat → Int32) (f : Int32) : Int32 := ifc (inR f 6) (ifc (¬ kd (tn f) < 0) (kd (tn f)) (-11)) (-1)
noncomputable def U_clear (c : Bool) (kd : Nat → Int32) (f : Int32) (M : Mm) : Mm := ifc (inR f 6) (ifc (¬ kd (tn f) < 0) (if c then van1 (tn f) M else mw M 72 (tn f) (-1)) M) M
theorem cf_X6_clear : CF yX6_clear cX6_clear 4 (some .int) 1 := ⟨cd_X6_clear, iz_X6, by decide, by decide +kernel, by decide +kernel, by decide +kernel⟩
set_option maxRecDepth 100000 in
set_option maxHeartbeats 4000000 in
theorem c_X6_clear {l : Launch} {E : Ev} {M : Mm} {n : Nat} {kd : Nat → Int32} {V : Nat → Nat → Int32} (hI : ∀ k, k < 108 → k ∈ E.2.1) (hn : Cn M n) (hF : CFn M n kd V) {f : Int32} : Cm l E yX6_clear cX6_clear 4 (some .int) 2 [.ref (E.2.2.1 0), .int f] M (pI (A_clear kd f) (U_clear true kd f M)) := by
  refine Cm.of (by decide) (Nat.le_of_ble_eq_true rfl) (fun K k kt => ?_)
  show G l E K 0 [(0, .ref (E.2.2.1 0)), (1, .int f)] [] M
  obtain ⟨hn0, hn1, hn6⟩ := id hn
  have hp := p2_le6 hn6
  have hp2 := p2_ge2 hn1
  refine gs_aload_n (q := 0) k rfl rfl dX6_clear_0 ?_
  refine gs_iload_n (q := 1) k rfl rfl dX6_clear_1 ?_
  refine gs_callV (As := [.int f]) (k0 := 0) (ci := 6) (T := TX6) (N := 10) k (c_X6_errorOf hI hF) cf_X6_errorOf im_X6_errorOf sl_X6_errorOf ml_X6_154 (hI 0 (by omega)) rfl rfl (by decide) rfl rfl (Nat.le_of_ble_eq_true rfl) dX6_clear_2 (ppE (fun c1 => ?_) (fun c1 c2 => ?_) (fun c1 c2 => ?_))
  · refine gs_istore_n (lv' := [(2, .int (-1)), (0, .ref (E.2.2.1 0)), (1, .int f)]) k rfl (by decide) rfl dX6_clear_5 ?_
    refine gs_iload_n (q := 0) k rfl rfl dX6_clear_6 ?_
    refine gs_if_eq (tgt := 12) k (by decide) dX6_clear_7 (fun h => absurd h (by decide)) (fun _ => ?_)
    refine gs_iload_n (q := 0) k rfl rfl dX6_clear_10 ?_
    exact gs_iret k kt dX6_clear_11 ⟨(by simp [-Int32.not_lt, A_clear, U_clear, ifc_T, ifc_F, c1]), (by simp [-Int32.not_lt, A_clear, U_clear, ifc_T, ifc_F, c1])⟩
  · have bc1 := inR_lt c1
    refine gs_istore_n (lv' := [(2, .int (-11)), (0, .ref (E.2.2.1 0)), (1, .int f)]) k rfl (by decide) rfl dX6_clear_5 ?_
    refine gs_iload_n (q := 0) k rfl rfl dX6_clear_6 ?_
    refine gs_if_eq (tgt := 12) k (by decide) dX6_clear_7 (fun h => absurd h (by decide)) (fun _ => ?_)
    refine gs_iload_n (q := 0) k rfl rfl dX6_clear_10 ?_
    exact gs_iret k kt dX6_clear_11 ⟨(by simp [-Int32.not_lt, A_clear, U_clear, ifc_T, ifc_F, c1, c2]), (by simp [-Int32.not_lt, A_clear, U_clear, ifc_T, ifc_F, c1, c2])⟩
  · have bc1 := inR_lt c1
    refine gs_istore_n (lv' := [(2, .int 0), (0, .ref (E.2.2.1 0)), (1, .int f)]) k rfl (by decide) rfl dX6_clear_5 ?_
    refine gs_iload_n (q := 0) k rfl rfl dX6_clear_6 ?_
    refine gs_if_eq (tgt := 12) k (by decide) dX6_clear_7 (fun _ => ?_) (fun h => absurd h (by decide))
    refine gs_aload_n (q := 1) k rfl rfl dX6_clear_12 ?_
    refine gs_get (C := RX6) (T := TX6) (N := 10) (ci := 6) (k0 := 0) (j := 0) k (hI 0 (by omega)) rfl rfl inX6 (by decide) fl_X6_12 rfl rfl dX6_clear_13 ?_
    refine gs_get (C := RX5) (T := TX5) (N := 9) (ci := 5) (k0 := 1) (j := 7) k (hI 1 (by omega)) rfl rfl inX5 (by decide) fl_X6_107 rfl rfl dX6_clear_16 ?_
    refine gs_iload_n (q := 2) k rfl rfl dX6_clear_19 ?_
    refine gs_aaldSN (k0 := 8) (n := 6) (e := tn f) (a := E.2.2.1 (10 + 2 * (tn f))) k (hI 8 (by omega)) (fun _ => rfl) (inR_eq c1) (by omega) (by decide) rfl dX6_clear_20 ?_
    refine gs_get (C := RX3) (T := TX3) (N := 2) (ci := 3) (k0 := (10 + 2 * (tn f))) (j := 0) k (hI (10 + 2 * (tn f)) (by omega)) (ent_F1 (by omega) _) rfl inX3 (by decide) fl_X6_116 rfl rfl dX6_clear_21 ?_
    refine gs_top (y := kd (tn f)) ((hF (tn f) (by omega)).1) ?_
    refine gs_istore_n (lv' := [(3, .int (kd (tn f))), (2, .int 0), (0, .ref (E.2.2.1 0)), (1, .int f)]) k rfl (by decide) rfl dX6_clear_24 ?_
    refine gs_aload_n (q := 2) k rfl rfl dX6_clear_25 ?_
    refine gs_get (C := RX6) (T := TX6) (N := 10) (ci := 6) (k0 := 0) (j := 0) k (hI 0 (by omega)) rfl rfl inX6 (by decide) fl_X6_12 rfl rfl dX6_clear_26 ?_
    refine gs_get (C := RX5) (T := TX5) (N := 9) (ci := 5) (k0 := 1) (j := 7) k (hI 1 (by omega)) rfl rfl inX5 (by decide) fl_X6_107 rfl rfl dX6_clear_29 ?_
    refine gs_iload_n (q := 3) k rfl rfl dX6_clear_32 ?_
    refine gs_aaldSN (k0 := 8) (n := 6) (e := tn f) (a := E.2.2.1 (10 + 2 * (tn f))) k (hI 8 (by omega)) (fun _ => rfl) (inR_eq c1) (by omega) (by decide) rfl dX6_clear_33 ?_
    refine gs_callV (As := []) (k0 := (10 + 2 * (tn f))) (ci := 3) (T := TX3) (N := 2) k (c_X3_vanish1 (by omega) (fun k h1 h2 => hI k (by omega))) cf_X3_vanish im_X3_vanish sl_X3_vanish ml_X6_157 (hI (10 + 2 * (tn f)) (by omega)) (ent_F1 (by omega) _) rfl (by decide) rfl rfl (Nat.le_of_ble_eq_true rfl) dX6_clear_34 (ppV ?_)
    refine gs_iload_n (q := 0) k rfl rfl dX6_clear_37 ?_
    exact gs_iret k kt dX6_clear_38 ⟨(by simp [-Int32.not_lt, A_clear, U_clear, ifc_T, ifc_F, c1, c2]), (by simp [-Int32.not_lt, A_clear, U_clear, ifc_T, ifc_F, c1, c2])⟩

theorem cf_X7_clear : CF yX7_clear cX7_clear 3 (some .int) 1 := ⟨cd_X7_clear, iz_X7, by decide, by decide +kernel, by decide +kernel, by decide +kernel⟩
set_option maxRecDepth 100000 in
set_option maxHeartbeats 4000000 in
theorem c_X7_clear {l : Launch} {E : Ev} {M : Mm} {n : Nat} {kd : Nat → Int32} {V : Nat → Nat → Int32} (hI : ∀ k, k < 108 → k ∈ E.2.1) (hn : Rn M n) (hF : RFn M n kd V) {f : Int32} : Cm l E yX7_clear cX7_clear 3 (some .int) 3 [.ref (E.2.2.1 65), .int f] M (pI (A_clear kd f) (U_clear false kd f M)) := by
  refine Cm.of (by decide) (Nat.le_of_ble_eq_true rfl) (fun K k kt => ?_)
  show G l E K 0 [(0, .ref (E.2.2.1 65)), (1, .int f)] [] M
  obtain ⟨hn0, hn1, hn6⟩ := id hn
  have hp := p2_le6 hn6
  have hp2 := p2_ge2 hn1
  refine gs_iload_n (q := 1) k rfl rfl dX7_clear_0 ?_
  refine gs_callS (As := [.int f]) k c_X7_isFunction cf_X7_isFunction sm_X7_isFunction ml_X7_128 (by decide) rfl rfl (Nat.le_of_ble_eq_true rfl) dX7_clear_1 (ppB (fun c1 => ?_) (fun c1 => ?_))
  · have bc1 := inR_lt c1
    refine gs_if_ne (tgt := 9) k (by decide) dX7_clear_4 (fun _ => ?_) (fun h => absurd h (by decide))
    refine gs_aload_n (q := 0) k rfl rfl dX7_clear_9 ?_
    refine gs_iload_n (q := 1) k rfl rfl dX7_clear_10 ?_
    refine gs_callV (As := [.int f]) (k0 := 65) (ci := 7) (T := TX7) (N := 27) k (c_X7_isThere hI hF) cf_X7_isThere im_X7_isThere sl_X7_isThere ml_X7_163 (hI 65 (by omega)) rfl rfl (by decide) rfl rfl (Nat.le_of_ble_eq_true rfl) dX7_clear_11 (ppB (fun c2 => ?_) (fun c2 => ?_))
    · have bc2 := inR_lt c2.1
      have tc2 := c2.2
      refine gs_if_ne (tgt := 20) k (by decide) dX7_clear_14 (fun _ => ?_) (fun h => absurd h (by decide))
      refine gs_aload_n (q := 0) k rfl rfl dX7_clear_20 ?_
      refine gs_get (C := RX7) (T := TX7) (N := 27) (ci := 7) (k0 := 65) (j := 7) k (hI 65 (by omega)) rfl rfl inX7 (by decide) fl_X7_34 rfl rfl dX7_clear_21 ?_
      refine gs_iload_n (q := 1) k rfl rfl dX7_clear_24 ?_
      refine gs_ialdN (k0 := 72) (n := 6) (e := tn f) k (hI 72 (by omega)) (fun _ => rfl) (inR_eq c1) (by omega) (by decide) dX7_clear_25 ?_
      refine gs_top (y := kd (tn f)) ((hF (tn f) (by omega)).1) ?_
      refine gs_istore_n (lv' := [(2, .int (kd (tn f))), (0, .ref (E.2.2.1 65)), (1, .int f)]) k rfl (by decide) rfl dX7_clear_26 ?_
      refine gs_aload_n (q := 1) k rfl rfl dX7_clear_27 ?_
      refine gs_get (C := RX7) (T := TX7) (N := 27) (ci := 7) (k0 := 65) (j := 7) k (hI 65 (by omega)) rfl rfl inX7 (by decide) fl_X7_34 rfl rfl dX7_clear_28 ?_
      refine gs_iload_n (q := 2) k rfl rfl dX7_clear_31 ?_
      refine gs_iconst (v := -1) k (by decide) dX7_clear_32 ?_
      refine gs_iastN (k0 := 72) (n := 6) (e := tn f) k (hI 72 (by omega)) (fun _ => rfl) (inR_eq c1) (by omega) (by decide) dX7_clear_33 ?_
      refine gs_iload_n (q := 0) k rfl rfl dX7_clear_34 ?_
      exact gs_iret k kt dX7_clear_35 ⟨(by simp [-Int32.not_lt, A_clear, U_clear, ifc_T, ifc_F, c1, c2, tc2]), (by simp [-Int32.not_lt, A_clear, U_clear, ifc_T, ifc_F, c1, c2, tc2])⟩
    · have qc2 : kd (tn f) < 0 := Classical.byContradiction (fun k => c2 ⟨by assumption, k⟩)
      refine gs_if_ne (tgt := 20) k (by decide) dX7_clear_14 (fun h => absurd h (by decide)) (fun _ => ?_)
      refine gs_bipush (v := -11) k (by decide) dX7_clear_17 ?_
      exact gs_iret k kt dX7_clear_19 ⟨(by simp [-Int32.not_lt, A_clear, U_clear, ifc_T, ifc_F, c1, c2, qc2]), (by simp [-Int32.not_lt, A_clear, U_clear, ifc_T, ifc_F, c1, c2, qc2])⟩
  · refine gs_if_ne (tgt := 9) k (by decide) dX7_clear_4 (fun h => absurd h (by decide)) (fun _ => ?_)
    refine gs_iconst (v := -1) k (by decide) dX7_clear_7 ?_
    exact gs_iret k kt dX7_clear_8 ⟨(by simp [-Int32.not_lt, A_clear, U_clear, ifc_T, ifc_F, c1]), (by simp [-Int32.not_lt, A_clear, U_clear, ifc_T, ifc_F, c1])⟩

