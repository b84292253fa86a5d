noncomputable def A_tell (n : Nat) (V : Nat → Nat → Int32) (f w v : Int32) : Int32 := ifc (inR f 6) (ifc (inR w (2 ^ n) ∧ isV v) (V (tn f) (tn w)) (-1000002)) (-1000001)
noncomputable def UC_tell (n : Nat) (f w v : Int32) (M : Mm) : Mm := ifc (inR f 6) (ifc (inR w (2 ^ n) ∧ isV v) (mw (mw M (11 + 2 * tn f) (tn w) v) (10 + 2 * tn f) 0 0) M) M
noncomputable def UR_tell (n : Nat) (kd : Nat → Int32) (f w v : Int32) (M : Mm) : Mm := ifc (inR f 6) (ifc (inR w (2 ^ n) ∧ isV v) (ifc (0 ≤ kd (tn f)) (mw (mw M 72 (tn f) 0) (74 + tn f) (tn w) v) (mw (mw (rset M (74 + tn f) (setr (2 ^ n) (fun _ => 0) (M (74 + tn f)))) 72 (tn f) 0) (74 + tn f) (tn w) v)) M) M
theorem cf_X6_tell : CF yX6_tell cX6_tell 6 (some .int) 3 := ⟨cd_X6_tell, iz_X6, by decide, by decide +kernel, by decide +kernel, by decide +kernel⟩
set_option maxRecDepth 100000 in
set_option maxHeartbeats 4000000 in
theorem c_X6_tell {l : Launch} {E : Ev} {M : Mm} {n : Nat} {kd : Nat → Int32} {V : Nat → Nat → Int32} (hI : ∀ k, k < 108 → k ∈ E.2.1) (hn : Cn M n) (hF : CFn M n kd V) {f w v : Int32} : Cm l E yX6_tell cX6_tell 6 (some .int) 2 [.ref (E.2.2.1 0), .int f, .int w, .int v] M (pI (A_tell n V f w v) (UC_tell n f w v M)) := by
  refine Cm.of (by decide) (Nat.le_of_ble_eq_true rfl) (fun K k kt => ?_)
  show G l E K 0 [(0, .ref (E.2.2.1 0)), (1, .int f), (2, .int w), (3, .int v)] [] M
  obtain ⟨hn0, hn1, hn6⟩ := id hn
  have hp := p2_le6 hn6
  have hp2 := p2_ge2 hn1
  refine gs_iload_n (q := 1) k rfl rfl dX6_tell_0 ?_
  refine gs_callS (As := [.int f]) k c_X6_isFunction cf_X6_isFunction sm_X6_isFunction ml_X6_101 (by decide) rfl rfl (Nat.le_of_ble_eq_true rfl) dX6_tell_1 (ppB (fun c1 => ?_) (fun c1 => ?_))
  · have bc1 := inR_lt c1
    refine gs_if_ne (tgt := 10) k (by decide) dX6_tell_4 (fun _ => ?_) (fun h => absurd h (by decide))
    refine gs_aload_n (q := 0) k rfl rfl dX6_tell_10 ?_
    refine gs_get (C := RX6) (T := TX6) (N := 10) (ci := 6) (k0 := 0) (j := 0) k (hI 0 (by omega)) rfl rfl inX6 (by decide) fl_X6_12 rfl rfl dX6_tell_11 ?_
    refine gs_iload_n (q := 2) k rfl rfl dX6_tell_14 ?_
    refine gs_callV (As := [.int w]) (k0 := 1) (ci := 5) (T := TX5) (N := 9) k (c_X5_hasSet hI hn) cf_X5_hasSet im_X5_hasSet sl_X5_hasSet ml_X6_78 (hI 1 (by omega)) rfl rfl (by decide) rfl rfl (Nat.le_of_ble_eq_true rfl) dX6_tell_15 (ppB (fun c2 => ?_) (fun c2 => ?_))
    · have bc2 := inR_lt c2
      refine gs_if_eq (tgt := 28) k (by decide) dX6_tell_18 (fun h => absurd h (by decide)) (fun _ => ?_)
      refine gs_iload_n (q := 3) k rfl rfl dX6_tell_21 ?_
      refine gs_callS (As := [.int v]) k c_X6_isValue cf_X6_isValue sm_X6_isValue ml_X6_104 (by decide) rfl rfl (Nat.le_of_ble_eq_true rfl) dX6_tell_22 (ppB (fun c3 => ?_) (fun c3 => ?_))
      · refine gs_if_ne (tgt := 31) k (by decide) dX6_tell_25 (fun _ => ?_) (fun h => absurd h (by decide))
        refine gs_aload_n (q := 0) k rfl rfl dX6_tell_31 ?_
        refine gs_get (C := RX6) (T := TX6) (N := 10) (ci := 6) (k0 := 0) (j := 0) k (hI 0 (by omega)) rfl rfl inX6 (by decide) fl_X6_12 rfl rfl dX6_tell_32 ?_
        refine gs_get (C := RX5) (T := TX5) (N := 9) (ci := 5) (k0 := 1) (j := 7) k (hI 1 (by omega)) rfl rfl inX5 (by decide) fl_X6_107 rfl rfl dX6_tell_35 ?_
        refine gs_iload_n (q := 1) k rfl rfl dX6_tell_38 ?_
        refine gs_aaldSN (k0 := 8) (n := 6) (e := tn f) (a := E.2.2.1 (10 + 2 * (tn f))) k (hI 8 (by omega)) (fun _ => rfl) (inR_eq c1) (by omega) (by decide) rfl dX6_tell_39 ?_
        refine gs_astore (lv' := [(4, .ref (E.2.2.1 (10 + 2 * (tn f)))), (0, .ref (E.2.2.1 0)), (1, .int f), (2, .int w), (3, .int v)]) k (by decide) rfl dX6_tell_40 ?_
        refine gs_aload (q := 0) k rfl dX6_tell_42 ?_
        refine gs_get (C := RX3) (T := TX3) (N := 2) (ci := 3) (k0 := (10 + 2 * (tn f))) (j := 1) k (hI (10 + 2 * (tn f)) (by omega)) (ent_F1 (by omega) _) rfl inX3 (by decide) fl_X6_111 rfl rfl dX6_tell_44 ?_
        refine gs_iload_n (q := 3) k rfl rfl dX6_tell_47 ?_
        refine gs_ialdN (k0 := (11 + 2 * (tn f))) (n := 64) (e := tn w) k (hI (11 + 2 * (tn f)) (by omega)) (ent_V1 (by omega)) (inR_eq c2) (by omega) (by decide) dX6_tell_48 ?_
        refine gs_top (y := V (tn f) (tn w)) ((hF (tn f) (by omega)).2.2 (tn w) (by omega)) ?_
        refine gs_istore (lv' := [(5, .int (V (tn f) (tn w))), (4, .ref (E.2.2.1 (10 + 2 * (tn f)))), (0, .ref (E.2.2.1 0)), (1, .int f), (2, .int w), (3, .int v)]) k (by decide) rfl dX6_tell_49 ?_
        refine gs_aload (q := 1) k rfl dX6_tell_51 ?_
        refine gs_get (C := RX3) (T := TX3) (N := 2) (ci := 3) (k0 := (10 + 2 * (tn f))) (j := 1) k (hI (10 + 2 * (tn f)) (by omega)) (ent_F1 (by omega) _) rfl inX3 (by decide) fl_X6_111 rfl rfl dX6_tell_53 ?_
        refine gs_iload_n (q := 4) k rfl rfl dX6_tell_56 ?_
        refine gs_iload_n (q := 5) k rfl rfl dX6_tell_57 ?_
        refine gs_iastN (k0 := (11 + 2 * (tn f))) (n := 64) (e := tn w) k (hI (11 + 2 * (tn f)) (by omega)) (ent_V1 (by omega)) (inR_eq c2) (by omega) (by decide) dX6_tell_58 ?_
        refine gs_aload (q := 1) k rfl dX6_tell_59 ?_
        refine gs_iconst (v := 0) k (by decide) dX6_tell_61 ?_
        refine gs_put (C := RX3) (T := TX3) (N := 2) (ci := 3) (k0 := (10 + 2 * (tn f))) (j := 0) (ty := .int) k (hI (10 + 2 * (tn f)) (by omega)) (ent_F1 (by omega) _) (ent_F1 (by omega) _) rfl inX3 tyX3 tyX3_ok nmX3 (by decide) fl_X6_116 rfl rfl (tyX3_ok 0 (by decide)) rfl rfl (Nat.le_of_ble_eq_true rfl) dX6_tell_62 ?_
        refine gs_iload (q := 0) k rfl dX6_tell_65 ?_
        exact gs_iret k kt dX6_tell_67 ⟨(by simp [-Int32.not_lt, A_tell, UC_tell, ifc_T, ifc_F, c1, c2, c3]), (by simp [-Int32.not_lt, A_tell, UC_tell, ifc_T, ifc_F, c1, c2, c3])⟩
      · refine gs_if_ne (tgt := 31) k (by decide) dX6_tell_25 (fun h => absurd h (by decide)) (fun _ => ?_)
        refine gs_ldc (v := -1000002) k cn_X6_97 dX6_tell_28 ?_
        exact gs_iret k kt dX6_tell_30 ⟨(by simp [-Int32.not_lt, A_tell, UC_tell, ifc_T, ifc_F, c1, c2, c3]), (by simp [-Int32.not_lt, A_tell, UC_tell, ifc_T, ifc_F, c1, c2, c3])⟩
    · refine gs_if_eq (tgt := 28) k (by decide) dX6_tell_18 (fun _ => ?_) (fun h => absurd h (by decide))
      refine gs_ldc (v := -1000002) k cn_X6_97 dX6_tell_28 ?_
      exact gs_iret k kt dX6_tell_30 ⟨(by simp [-Int32.not_lt, A_tell, UC_tell, ifc_T, ifc_F, c1, c2]), (by simp [-Int32.not_lt, A_tell, UC_tell, ifc_T, ifc_F, c1, c2])⟩
  · refine gs_if_ne (tgt := 10) k (by decide) dX6_tell_4 (fun h => absurd h (by decide)) (fun _ => ?_)
    refine gs_ldc (v := -1000001) k cn_X6_96 dX6_tell_7 ?_
    exact gs_iret k kt dX6_tell_9 ⟨(by simp [-Int32.not_lt, A_tell, UC_tell, ifc_T, ifc_F, c1]), (by simp [-Int32.not_lt, A_tell, UC_tell, ifc_T, ifc_F, c1])⟩

theorem cf_X7_tell : CF yX7_tell cX7_tell 6 (some .int) 3 := ⟨cd_X7_tell, iz_X7, by decide, by decide +kernel, by decide +kernel, by decide +kernel⟩
set_option maxRecDepth 100000 in
set_option maxHeartbeats 4000000 in
theorem c_X7_tell {l : Launch} {E : Ev} {M : Mm} {n : Nat} {kd : Nat → Int32} {V : Nat → Nat → Int32} (hI : ∀ k, k < 108 → k ∈ E.2.1) (hn : Rn M n) (hF : RFn M n kd V) (hV0 : ∀ f, f < 6 → kd f < 0 → ∀ s, s < 2 ^ n → V f s = 0) {f w v : Int32} : Cm l E yX7_tell cX7_tell 6 (some .int) 3 [.ref (E.2.2.1 65), .int f, .int w, .int v] M (pI (A_tell n V f w v) (UR_tell n kd f w v M)) := by
  refine Cm.of (by decide) (Nat.le_of_ble_eq_true rfl) (fun K k kt => ?_)
  show G l E K 0 [(0, .ref (E.2.2.1 65)), (1, .int f), (2, .int w), (3, .int v)] [] M
  obtain ⟨hn0, hn1, hn6⟩ := id hn
  have hp := p2_le6 hn6
  have hp2 := p2_ge2 hn1
  refine gs_iload_n (q := 1) k rfl rfl dX7_tell_0 ?_
  refine gs_callS (As := [.int f]) k c_X7_isFunction cf_X7_isFunction sm_X7_isFunction ml_X7_128 (by decide) rfl rfl (Nat.le_of_ble_eq_true rfl) dX7_tell_1 (ppB (fun c1 => ?_) (fun c1 => ?_))
  · have bc1 := inR_lt c1
    refine gs_if_ne (tgt := 10) k (by decide) dX7_tell_4 (fun _ => ?_) (fun h => absurd h (by decide))
    refine gs_aload_n (q := 0) k rfl rfl dX7_tell_10 ?_
    refine gs_iload_n (q := 2) k rfl rfl dX7_tell_11 ?_
    refine gs_callV (As := [.int w]) (k0 := 65) (ci := 7) (T := TX7) (N := 27) k (c_X7_isSet hI hn) cf_X7_isSet im_X7_isSet sl_X7_isSet ml_X7_106 (hI 65 (by omega)) rfl rfl (by decide) rfl rfl (Nat.le_of_ble_eq_true rfl) dX7_tell_12 (ppB (fun c2 => ?_) (fun c2 => ?_))
    · have bc2 := inR_lt c2
      refine gs_if_eq (tgt := 26) k (by decide) dX7_tell_15 (fun h => absurd h (by decide)) (fun _ => ?_)
      refine gs_iload_n (q := 3) k rfl rfl dX7_tell_18 ?_
      refine gs_i2l k dX7_tell_19 ?_
      refine gs_callS (As := [.long (v.toInt64)]) k (Cm.iff (isBL (a := -999999) (b := 999999) (by decide) (by decide)) c_X7_isValue) cf_X7_isValue sm_X7_isValue ml_X7_135 (by decide) rfl rfl (Nat.le_of_ble_eq_true rfl) dX7_tell_20 (ppB (fun c3 => ?_) (fun c3 => ?_))
      · refine gs_if_ne (tgt := 29) k (by decide) dX7_tell_23 (fun _ => ?_) (fun h => absurd h (by decide))
        refine gs_aload_n (q := 0) k rfl rfl dX7_tell_29 ?_
        refine gs_get (C := RX7) (T := TX7) (N := 27) (ci := 7) (k0 := 65) (j := 7) k (hI 65 (by omega)) rfl rfl inX7 (by decide) fl_X7_34 rfl rfl dX7_tell_30 ?_
        refine gs_iload_n (q := 1) k rfl rfl dX7_tell_33 ?_
        refine gs_ialdN (k0 := 72) (n := 6) (e := tn f) k (hI 72 (by omega)) (fun _ => rfl) (inR_eq c1) (by omega) (by decide) dX7_tell_34 ?_
        refine gs_top (y := kd (tn f)) ((hF (tn f) (by omega)).1) ?_
        refine gs_if_ge (tgt := 42) k (by decide) dX7_tell_35 (fun c4 => ?_) (fun c4 => ?_)
        · refine gs_aload_n (q := 0) k rfl rfl dX7_tell_42 ?_
          refine gs_get (C := RX7) (T := TX7) (N := 27) (ci := 7) (k0 := 65) (j := 8) k (hI 65 (by omega)) rfl rfl inX7 (by decide) fl_X7_39 rfl rfl dX7_tell_43 ?_
          refine gs_iload_n (q := 1) k rfl rfl dX7_tell_46 ?_
          refine gs_aaldIN (k0 := 73) (n := 6) (e := tn f) (a := E.2.2.1 (74 + (tn f))) k (hI 73 (by omega)) (fun _ => rfl) (inR_eq c1) (by omega) (by decide) rfl dX7_tell_47 ?_
          refine gs_iload_n (q := 2) k rfl rfl dX7_tell_48 ?_
          refine gs_ialdN (k0 := (74 + (tn f))) (n := 64) (e := tn w) k (hI (74 + (tn f)) (by omega)) (ent_RV (by omega)) (inR_eq c2) (by omega) (by decide) dX7_tell_49 ?_
          refine gs_top (y := V (tn f) (tn w)) ((hF (tn f) (by omega)).2.2 (Int32.not_lt.mpr (by assumption)) (tn w) (by omega)) ?_
          refine gs_istore (lv' := [(4, .int (V (tn f) (tn w))), (0, .ref (E.2.2.1 65)), (1, .int f), (2, .int w), (3, .int v)]) k (by decide) rfl dX7_tell_50 ?_
          refine gs_iconst (v := 0) k (by decide) dX7_tell_52 ?_
          refine gs_istore (lv' := [(5, .int 0), (4, .int (V (tn f) (tn w))), (0, .ref (E.2.2.1 65)), (1, .int f), (2, .int w), (3, .int v)]) k (by decide) rfl dX7_tell_53 ?_
          refine gs_iload (q := 0) k rfl dX7_tell_55 ?_
          refine gs_aload_n (q := 2) k rfl rfl dX7_tell_57 ?_
          refine gs_callV (As := []) (k0 := 65) (ci := 7) (T := TX7) (N := 27) k (c_X7_sets hI hn) cf_X7_sets im_X7_sets sl_X7_sets ml_X7_83 (hI 65 (by omega)) rfl rfl (by decide) rfl rfl (Nat.le_of_ble_eq_true rfl) dX7_tell_58 (ppI ?_)
          refine gs_icmpN_ge (a := 0) (b := 2 ^ n) (tgt := 89) k rfl rfl (by omega) (by omega) (by decide) dX7_tell_61 (fun c5 => absurd c5 (by omega)) (fun c5 => ?_)
          refine gs_aload_n (q := 2) k rfl rfl dX7_tell_64 ?_
          refine gs_get (C := RX7) (T := TX7) (N := 27) (ci := 7) (k0 := 65) (j := 7) k (hI 65 (by omega)) rfl rfl inX7 (by decide) fl_X7_34 rfl rfl dX7_tell_65 ?_
          refine gs_iload_n (q := 3) k rfl rfl dX7_tell_68 ?_
          refine gs_ialdN (k0 := 72) (n := 6) (e := tn f) k (hI 72 (by omega)) (fun _ => rfl) (inR_eq c1) (by omega) (by decide) dX7_tell_69 ?_
          refine gs_top (y := kd (tn f)) ((hF (tn f) (by omega)).1) ?_
          refine gs_if_ge (tgt := 89) k (by decide) dX7_tell_70 (fun c6 => ?_) (fun c6 => absurd c4 c6)
          refine gs_aload_n (q := 2) k rfl rfl dX7_tell_89 ?_
          refine gs_get (C := RX7) (T := TX7) (N := 27) (ci := 7) (k0 := 65) (j := 7) k (hI 65 (by omega)) rfl rfl inX7 (by decide) fl_X7_34 rfl rfl dX7_tell_90 ?_
          refine gs_iload_n (q := 3) k rfl rfl dX7_tell_93 ?_
          refine gs_iconst (v := 0) k (by decide) dX7_tell_94 ?_
          refine gs_iastN (k0 := 72) (n := 6) (e := tn f) k (hI 72 (by omega)) (fun _ => rfl) (inR_eq c1) (by omega) (by decide) dX7_tell_95 ?_
          refine gs_aload_n (q := 2) k rfl rfl dX7_tell_96 ?_
          refine gs_get (C := RX7) (T := TX7) (N := 27) (ci := 7) (k0 := 65) (j := 8) k (hI 65 (by omega)) rfl rfl inX7 (by decide) fl_X7_39 rfl rfl dX7_tell_97 ?_
          refine gs_iload_n (q := 3) k rfl rfl dX7_tell_100 ?_
          refine gs_aaldIN (k0 := 73) (n := 6) (e := tn f) (a := E.2.2.1 (74 + (tn f))) k (hI 73 (by omega)) (fun _ => rfl) (inR_eq c1) (by omega) (by decide) rfl dX7_tell_101 ?_
          refine gs_iload_n (q := 4) k rfl rfl dX7_tell_102 ?_
          refine gs_iload_n (q := 5) k rfl rfl dX7_tell_103 ?_
          refine gs_iastN (k0 := (74 + (tn f))) (n := 64) (e := tn w) k (hI (74 + (tn f)) (by omega)) (ent_RV (by omega)) (inR_eq c2) (by omega) (by decide) dX7_tell_104 ?_
          refine gs_iload (q := 1) k rfl dX7_tell_105 ?_
          exact gs_iret k kt dX7_tell_107 ⟨(by simp [A_tell, UR_tell, ifc_T, ifc_F, c1, c2, c3, c4]), (by simp [A_tell, UR_tell, ifc_T, ifc_F, c1, c2, c3, c4])⟩
        · refine gs_iconst (v := 0) k (by decide) dX7_tell_38 ?_
          refine gs_goto (tgt := 50) k (by decide) dX7_tell_39 ?_
          refine gs_istore (lv' := [(4, .int 0), (0, .ref (E.2.2.1 65)), (1, .int f), (2, .int w), (3, .int v)]) k (by decide) rfl dX7_tell_50 ?_
          refine gs_iconst (v := 0) k (by decide) dX7_tell_52 ?_
          refine gs_istore (lv' := [(5, .int 0), (4, .int 0), (0, .ref (E.2.2.1 65)), (1, .int f), (2, .int w), (3, .int v)]) k (by decide) rfl dX7_tell_53 ?_
          refine gs_lv (lv' := [(0, .ref (E.2.2.1 65)), (1, .int f), (2, .int w), (3, .int v), (4, .int 0), (5, .int 0)]) [2, 3, 4, 5, 1, 0] rfl ?_
          refine gs_M (rset_same M (74 + (tn f))).symm ?_
          refine for_up (σ := (Nat → Int32)) (fun s r => G l E K 55 [(0, .ref (E.2.2.1 65)), (1, .int f), (2, .int w), (3, .int v), (4, .int 0), (5, .int (nI s))] [] (rset M (74 + (tn f)) r)) (fun s r => upd r s 0) (2 ^ n) (fun s r hs hGs => ?_) (2 ^ n) 0 (M (74 + (tn f))) (by omega) ?_
          · show G l E K 55 [(0, .ref (E.2.2.1 65)), (1, .int f), (2, .int w), (3, .int v), (4, .int 0), (5, .int (nI s))] [] (rset M (74 + (tn f)) r)
            refine gs_iload (q := 5) k rfl dX7_tell_55 ?_
            refine gs_aload_n (q := 0) k rfl rfl dX7_tell_57 ?_
            refine gs_callV (As := []) (k0 := 65) (ci := 7) (T := TX7) (N := 27) k (c_X7_sets hI (Rn_rs (by omega) hn)) cf_X7_sets im_X7_sets sl_X7_sets ml_X7_83 (hI 65 (by omega)) rfl rfl (by decide) rfl rfl (Nat.le_of_ble_eq_true rfl) dX7_tell_58 (ppI ?_)
            refine gs_icmpN_ge (a := s) (b := 2 ^ n) (tgt := 89) k rfl rfl (by omega) (by omega) (by decide) dX7_tell_61 (fun c5 => absurd c5 (by omega)) (fun c5 => ?_)
            refine gs_aload_n (q := 0) k rfl rfl dX7_tell_64 ?_
            refine gs_get (C := RX7) (T := TX7) (N := 27) (ci := 7) (k0 := 65) (j := 7) k (hI 65 (by omega)) rfl rfl inX7 (by decide) fl_X7_34 rfl rfl dX7_tell_65 ?_
            refine gs_iload_n (q := 1) k rfl rfl dX7_tell_68 ?_
            refine gs_ialdN (k0 := 72) (n := 6) (e := tn f) k (hI 72 (by omega)) (fun _ => rfl) (inR_eq c1) (by omega) (by decide) dX7_tell_69 ?_
            refine gs_top (y := kd (tn f)) (rdr (by omega) ((hF (tn f) (by omega)).1)) ?_
            refine gs_if_ge (tgt := 89) k (by decide) dX7_tell_70 (fun c6 => absurd c6 c4) (fun c6 => ?_)
            refine gs_aload_n (q := 0) k rfl rfl dX7_tell_73 ?_
            refine gs_get (C := RX7) (T := TX7) (N := 27) (ci := 7) (k0 := 65) (j := 8) k (hI 65 (by omega)) rfl rfl inX7 (by decide) fl_X7_39 rfl rfl dX7_tell_74 ?_
            refine gs_iload_n (q := 1) k rfl rfl dX7_tell_77 ?_
            refine gs_aaldIN (k0 := 73) (n := 6) (e := tn f) (a := E.2.2.1 (74 + (tn f))) k (hI 73 (by omega)) (fun _ => rfl) (inR_eq c1) (by omega) (by decide) rfl dX7_tell_78 ?_
            refine gs_iload (q := 5) k rfl dX7_tell_79 ?_
            refine gs_iconst (v := 0) k (by decide) dX7_tell_81 ?_
            refine gs_iastN (k0 := (74 + (tn f))) (n := 64) (e := s) k (hI (74 + (tn f)) (by omega)) (ent_RV (by omega)) rfl (by omega) (by decide) dX7_tell_82 ?_
            refine gs_M (mw_rset _ _ _ _ _) ?_
            refine gs_iincN (q := 5) (a := s) (c := 1) (lv' := [(5, .int (nI (s + 1))), (0, .ref (E.2.2.1 65)), (1, .int f), (2, .int w), (3, .int v), (4, .int 0)]) k rfl rfl (by decide) rfl dX7_tell_83 ?_
            refine gs_goto (tgt := 55) k (by decide) dX7_tell_86 ?_
            refine gs_lv (lv' := [(0, .ref (E.2.2.1 65)), (1, .int f), (2, .int w), (3, .int v), (4, .int 0), (5, .int (nI (s + 1)))]) [1, 2, 3, 4, 5, 0] rfl ?_
            exact hGs _ rfl
          · show G l E K 55 [(0, .ref (E.2.2.1 65)), (1, .int f), (2, .int w), (3, .int v), (4, .int 0), (5, .int (nI (2 ^ n)))] [] (rset M (74 + (tn f)) (lp (fun s r => upd r s 0) (2 ^ n) 0 (M (74 + (tn f)))))
            rw [lp_setr _ (fun _ => 0)]
            show G l E K 55 [(0, .ref (E.2.2.1 65)), (1, .int f), (2, .int w), (3, .int v), (4, .int 0), (5, .int (nI (2 ^ n)))] [] (rset M (74 + (tn f)) (setr (2 ^ n) (fun _ => 0) (M (74 + tn f))))
            refine gs_iload (q := 5) k rfl dX7_tell_55 ?_
            refine gs_aload_n (q := 0) k rfl rfl dX7_tell_57 ?_
            refine gs_callV (As := []) (k0 := 65) (ci := 7) (T := TX7) (N := 27) k (c_X7_sets hI (Rn_rs (by omega) hn)) cf_X7_sets im_X7_sets sl_X7_sets ml_X7_83 (hI 65 (by omega)) rfl rfl (by decide) rfl rfl (Nat.le_of_ble_eq_true rfl) dX7_tell_58 (ppI ?_)
            refine gs_icmpN_ge (a := 2 ^ n) (b := 2 ^ n) (tgt := 89) k rfl rfl (by omega) (by omega) (by decide) dX7_tell_61 (fun c5 => ?_) (fun c5 => absurd c5 (by omega))
            refine gs_aload_n (q := 0) k rfl rfl dX7_tell_89 ?_
            refine gs_get (C := RX7) (T := TX7) (N := 27) (ci := 7) (k0 := 65) (j := 7) k (hI 65 (by omega)) rfl rfl inX7 (by decide) fl_X7_34 rfl rfl dX7_tell_90 ?_
            refine gs_iload_n (q := 1) k rfl rfl dX7_tell_93 ?_
            refine gs_iconst (v := 0) k (by decide) dX7_tell_94 ?_
            refine gs_iastN (k0 := 72) (n := 6) (e := tn f) k (hI 72 (by omega)) (fun _ => rfl) (inR_eq c1) (by omega) (by decide) dX7_tell_95 ?_
            refine gs_aload_n (q := 0) k rfl rfl dX7_tell_96 ?_
            refine gs_get (C := RX7) (T := TX7) (N := 27) (ci := 7) (k0 := 65) (j := 8) k (hI 65 (by omega)) rfl rfl inX7 (by decide) fl_X7_39 rfl rfl dX7_tell_97 ?_
            refine gs_iload_n (q := 1) k rfl rfl dX7_tell_100 ?_
            refine gs_aaldIN (k0 := 73) (n := 6) (e := tn f) (a := E.2.2.1 (74 + (tn f))) k (hI 73 (by omega)) (fun _ => rfl) (inR_eq c1) (by omega) (by decide) rfl dX7_tell_101 ?_
            refine gs_iload_n (q := 2) k rfl rfl dX7_tell_102 ?_
            refine gs_iload_n (q := 3) k rfl rfl dX7_tell_103 ?_
            refine gs_iastN (k0 := (74 + (tn f))) (n := 64) (e := tn w) k (hI (74 + (tn f)) (by omega)) (ent_RV (by omega)) (inR_eq c2) (by omega) (by decide) dX7_tell_104 ?_
            refine gs_iload (q := 4) k rfl dX7_tell_105 ?_
            exact gs_iret k kt dX7_tell_107 ⟨(by simp [A_tell, UR_tell, ifc_T, ifc_F, c1, c2, c3, c4, hV0 (tn f) (by omega) (Int32.not_le.mp c4) (tn w) (by omega)]), (by simp [A_tell, UR_tell, ifc_T, ifc_F, c1, c2, c3, c4])⟩
      · refine gs_if_ne (tgt := 29) k (by decide) dX7_tell_23 (fun h => absurd h (by decide)) (fun _ => ?_)
        refine gs_ldc (v := -1000002) k cn_X7_117 dX7_tell_26 ?_
        exact gs_iret k kt dX7_tell_28 ⟨(by simp [A_tell, UR_tell, ifc_T, ifc_F, c1, c2, c3]), (by simp [A_tell, UR_tell, ifc_T, ifc_F, c1, c2, c3])⟩
    · refine gs_if_eq (tgt := 26) k (by decide) dX7_tell_15 (fun _ => ?_) (fun h => absurd h (by decide))
      refine gs_ldc (v := -1000002) k cn_X7_117 dX7_tell_26 ?_
      exact gs_iret k kt dX7_tell_28 ⟨(by simp [A_tell, UR_tell, ifc_T, ifc_F, c1, c2]), (by simp [A_tell, UR_tell, ifc_T, ifc_F, c1, c2])⟩
  · refine gs_if_ne (tgt := 10) k (by decide) dX7_tell_4 (fun h => absurd h (by decide)) (fun _ => ?_)
    refine gs_ldc (v := -1000001) k cn_X7_114 dX7_tell_7 ?_
    exact gs_iret k kt dX7_tell_9 ⟨(by simp [A_tell, UR_tell, ifc_T, ifc_F, c1]), (by simp [A_tell, UR_tell, ifc_T, ifc_F, c1])⟩

def pQ (k : Nat) (v : Int32) (M : Mm) : Option Value → Mm → Prop := fun r M' => r = some (.int v) ∧ ∃ q, M' = rset M k q
theorem ppQ {l : Launch} {E : Ev} {K : Kt} {pc k : Nat} {lv : List (Nat × Value)} {st : List Value} {v : Int32} {M : Mm} (h : ∀ q, G l E K pc lv (.int v :: st) (rset M k q)) : ∀ r M', pQ k v M r M' → G l E K pc lv (r.toList ++ st) M' := fun r M' hp => by
  obtain ⟨rfl, q, rfl⟩ := hp
  exact h q
def hst (bl : Nat → Int32) (n S : Nat) (q : Nat → Int32) : Nat → Int32 := lp (fun p q => if S.testBit p = true then upd q (tn (bl p)) (q (tn (bl p)) + 1) else q) n 0 q
theorem hst_ok {bl : Nat → Int32} {S : Nat} {q : Nat → Int32} (hq : ∀ b, b < 6 → q b = 0) : ∀ (n : Nat), n ≤ 6 → (∀ p, p < n → inR (bl p) 6) → ∀ b, b < 6 → hst bl n S q b = nI (bcnt bl n S b) := by
  intro n
  induction n with
  | zero => intro _ _ b hb; exact hq b hb
  | succ n ih =>
    intro hn hb b hb6
    have e1 : hst bl (n + 1) S q = (fun p q => if S.testBit p = true then upd q (tn (bl p)) (q (tn (bl p)) + 1) else q) (0 + n) (hst bl n S q) := lp_end _ _ _ _
    have e2 : bcnt bl (n + 1) S b = (fun j c => if S.testBit j = true ∧ bl j = nI b then c + 1 else c) (0 + n) (bcnt bl n S b) := lp_end _ _ _ _
    rw [e1, e2, Nat.zero_add]
    have ih' := ih (by omega) (fun p hp => hb p (by omega))
    dsimp only
    have hr := hb n (by omega)
    by_cases c : S.testBit n = true
    · rw [if_pos c]
      by_cases d : bl n = nI b
      · rw [if_pos ⟨c, d⟩, d, tn_nI (by omega), pk_us, ih' b hb6, nI_1]
      · rw [if_neg (fun z => d z.2), pk_un (fun z => d (by rw [inR_eq hr, ← z])), ih' b hb6]
    · rw [if_neg c, if_neg (fun z => c z.1), ih' b hb6]
theorem ksum_hst {bl cp : Nat → Int32} {S n : Nat} {q : Nat → Int32} (hn : n ≤ 6) (hq : ∀ b, b < 6 → q b = 0) (hb : ∀ p, p < n → inR (bl p) 6) : lp (fun b t => t + imin (hst bl n S q b) (cp b)) 6 0 0 = ksum bl cp n S := by
  unfold ksum
  exact lp_congr 6 0 0 (fun b t _ hb6 => by rw [hst_ok hq n hn hb b (by omega)])
theorem cf_X5_cappedSize : CF yX5_cappedSize cX5_cappedSize 4 (some .int) 1 := ⟨cd_X5_cappedSize, iz_X5, by decide, by decide +kernel, by decide +kernel, by decide +kernel⟩
set_option maxRecDepth 100000 in
set_option maxHeartbeats 4000000 in
theorem c_X5_cappedSize {l : Launch} {E : Ev} {M : Mm} {n : Nat} (hI : ∀ k, k < 108 → k ∈ E.2.1) (hn : Cn M n) (hbl : ∀ p, p < 6 → inR (M 5 p) 6) {x : Int32} {S : Nat} (hx : x = nI S) (hS : S < 2 ^ n) : Cm l E yX5_cappedSize cX5_cappedSize 4 (some .int) 1 [.ref (E.2.2.1 1), .int x] M (pQ 9 (ksum (M 5) (M 6) n S) M) := by
  refine Cm.of (by decide) (Nat.le_of_ble_eq_true rfl) (fun K k kt => ?_)
  show G l E K 0 [(0, .ref (E.2.2.1 1)), (1, .int x)] [] M
  obtain ⟨hn0, hn1, hn6⟩ := id hn
  have hp := p2_le6 hn6
  have hp2 := p2_ge2 hn1
  refine gs_aload_n (q := 0) k rfl rfl dX5_cappedSize_0 ?_
  refine gs_get (C := RX5) (T := TX5) (N := 9) (ci := 5) (k0 := 1) (j := 8) k (hI 1 (by omega)) rfl rfl inX5 (by decide) fl_X5_36 rfl rfl dX5_cappedSize_1 ?_
  refine gs_iconst (v := 0) k (by decide) dX5_cappedSize_4 ?_
  refine gs_callS (As := [.ref (E.2.2.1 9), .int 0]) k (c_J7_fill_53178 (k0 := 9) (n := 6) (hI 9 (by omega)) (fun _ => rfl) (by decide)) cf_J7_fill_53178 sm_J7_fill_53178 ml_X5_48 (by decide) rfl rfl (Nat.le_of_ble_eq_true rfl) dX5_cappedSize_5 (ppV ?_)
  refine gs_iconst (v := 0) k (by decide) dX5_cappedSize_8 ?_
  refine gs_istore_n (lv' := [(2, .int 0), (0, .ref (E.2.2.1 1)), (1, .int x)]) k rfl (by decide) rfl dX5_cappedSize_9 ?_
  refine gs_lv (lv' := [(0, .ref (E.2.2.1 1)), (1, .int x), (2, .int 0)]) [1, 2, 0] rfl ?_
  refine for_up (σ := (Nat → Int32)) (fun p q => G l E K 10 [(0, .ref (E.2.2.1 1)), (1, .int x), (2, .int (nI p))] [] (rset M 9 q)) (fun p q => if S.testBit p = true then upd q (tn (M 5 p)) (q (tn (M 5 p)) + 1) else q) n (fun p q hp hGp => ?_) n 0 (setr 6 (fun _ => 0) (M 9)) (by omega) ?_
  · show G l E K 10 [(0, .ref (E.2.2.1 1)), (1, .int x), (2, .int (nI p))] [] (rset M 9 q)
    refine gs_iload_n (q := 2) k rfl rfl dX5_cappedSize_10 ?_
    refine gs_aload_n (q := 0) k rfl rfl dX5_cappedSize_11 ?_
    refine gs_get (C := RX5) (T := TX5) (N := 9) (ci := 5) (k0 := 1) (j := 0) k (hI 1 (by omega)) rfl rfl inX5 (by decide) fl_X5_44 rfl rfl dX5_cappedSize_12 ?_
    refine gs_top (y := M 1 0) (rdr (by omega) (rfl)) ?_
    refine gs_icmpN_ge (a := p) (b := n) (tgt := 47) k rfl hn0 (by omega) (by omega) (by decide) dX5_cappedSize_15 (fun c1 => absurd c1 (by omega)) (fun c1 => ?_)
    refine gs_iload_n (q := 1) k rfl rfl dX5_cappedSize_18 ?_
    refine gs_iload_n (q := 2) k rfl rfl dX5_cappedSize_19 ?_
    refine gs_callH5 (As := [.int x, .int (nI p)]) k (c_X6_holds (S := S) (P := p) hx rfl (by omega) (by omega)) cf_X6_holds sm_X6_holds (by decide) rfl rfl (Nat.le_of_ble_eq_true rfl) dX5_cappedSize_20 (ppB (fun c2 => ?_) (fun c2 => ?_))
    · refine gs_if_eq (tgt := 41) k (by decide) dX5_cappedSize_23 (fun h => absurd h (by decide)) (fun _ => ?_)
      refine gs_aload_n (q := 0) k rfl rfl dX5_cappedSize_26 ?_
      refine gs_get (C := RX5) (T := TX5) (N := 9) (ci := 5) (k0 := 1) (j := 8) k (hI 1 (by omega)) rfl rfl inX5 (by decide) fl_X5_36 rfl rfl dX5_cappedSize_27 ?_
      refine gs_aload_n (q := 0) k rfl rfl dX5_cappedSize_30 ?_
      refine gs_get (C := RX5) (T := TX5) (N := 9) (ci := 5) (k0 := 1) (j := 4) k (hI 1 (by omega)) rfl rfl inX5 (by decide) fl_X5_21 rfl rfl dX5_cappedSize_31 ?_
      refine gs_iload_n (q := 2) k rfl rfl dX5_cappedSize_34 ?_
      refine gs_ialdN (k0 := 5) (n := 6) (e := p) k (hI 5 (by omega)) (fun _ => rfl) rfl (by omega) (by decide) dX5_cappedSize_35 ?_
      refine gs_top (y := M 5 p) (rdr (by omega) (rfl)) ?_
      refine gs_dup2 k rfl rfl dX5_cappedSize_36 ?_
      refine gs_ialdN (k0 := 9) (n := 6) (e := tn (M 5 p)) k (hI 9 (by omega)) (fun _ => rfl) (inR_eq (hbl p (by omega))) (inR_lt (hbl p (by omega))) (by decide) dX5_cappedSize_37 ?_
      refine gs_top (y := q (tn (M 5 p))) (congrFun (rset_eq _ _ _) _) ?_
      refine gs_iconst (v := 1) k (by decide) dX5_cappedSize_38 ?_
      refine gs_iadd k dX5_cappedSize_39 ?_
      refine gs_iastN (k0 := 9) (n := 6) (e := tn (M 5 p)) k (hI 9 (by omega)) (fun _ => rfl) (inR_eq (hbl p (by omega))) (inR_lt (hbl p (by omega))) (by decide) dX5_cappedSize_40 ?_
      refine gs_M (mw_rset _ _ _ _ _) ?_
      refine gs_iincN (q := 2) (a := p) (c := 1) (lv' := [(2, .int (nI (p + 1))), (0, .ref (E.2.2.1 1)), (1, .int x)]) k rfl rfl (by decide) rfl dX5_cappedSize_41 ?_
      refine gs_goto (tgt := 10) k (by decide) dX5_cappedSize_44 ?_
      refine gs_lv (lv' := [(0, .ref (E.2.2.1 1)), (1, .int x), (2, .int (nI (p + 1)))]) [1, 2, 0] rfl ?_
      exact hGp _ (by simp [c2])
    · refine gs_if_eq (tgt := 41) k (by decide) dX5_cappedSize_23 (fun _ => ?_) (fun h => absurd h (by decide))
      refine gs_iincN (q := 2) (a := p) (c := 1) (lv' := [(2, .int (nI (p + 1))), (0, .ref (E.2.2.1 1)), (1, .int x)]) k rfl rfl (by decide) rfl dX5_cappedSize_41 ?_
      refine gs_goto (tgt := 10) k (by decide) dX5_cappedSize_44 ?_
      refine gs_lv (lv' := [(0, .ref (E.2.2.1 1)), (1, .int x), (2, .int (nI (p + 1)))]) [1, 2, 0] rfl ?_
      exact hGp _ (by simp [c2])
  · show G l E K 10 [(0, .ref (E.2.2.1 1)), (1, .int x), (2, .int (nI n))] [] (rset M 9 (hst (M 5) n S (setr 6 (fun _ => 0) (M 9))))
    refine gs_iload_n (q := 2) k rfl rfl dX5_cappedSize_10 ?_
    refine gs_aload_n (q := 0) k rfl rfl dX5_cappedSize_11 ?_
    refine gs_get (C := RX5) (T := TX5) (N := 9) (ci := 5) (k0 := 1) (j := 0) k (hI 1 (by omega)) rfl rfl inX5 (by decide) fl_X5_44 rfl rfl dX5_cappedSize_12 ?_
    refine gs_top (y := M 1 0) (rdr (by omega) (rfl)) ?_
    refine gs_icmpN_ge (a := n) (b := n) (tgt := 47) k rfl hn0 (by omega) (by omega) (by decide) dX5_cappedSize_15 (fun c1 => ?_) (fun c1 => absurd c1 (by omega))
    refine gs_iconst (v := 0) k (by decide) dX5_cappedSize_47 ?_
    refine gs_istore_n (lv' := [(2, .int 0), (0, .ref (E.2.2.1 1)), (1, .int x)]) k rfl (by decide) rfl dX5_cappedSize_48 ?_
    refine gs_iconst (v := 0) k (by decide) dX5_cappedSize_49 ?_
    refine gs_istore_n (lv' := [(3, .int 0), (2, .int 0), (0, .ref (E.2.2.1 1)), (1, .int x)]) k rfl (by decide) rfl dX5_cappedSize_50 ?_
    refine gs_lv (lv' := [(0, .ref (E.2.2.1 1)), (1, .int x), (2, .int 0), (3, .int 0)]) [2, 3, 1, 0] rfl ?_
    refine for_up (σ := Int32) (fun b t => G l E K 51 [(0, .ref (E.2.2.1 1)), (1, .int x), (2, .int t), (3, .int (nI b))] [] (rset M 9 (hst (M 5) n S (setr 6 (fun _ => 0) (M 9))))) (fun b t => t + imin (hst (M 5) n S (setr 6 (fun _ => 0) (M 9)) b) (M 6 b)) 6 (fun b t hb hGb => ?_) 6 0 0 (by omega) ?_
    · show G l E K 51 [(0, .ref (E.2.2.1 1)), (1, .int x), (2, .int t), (3, .int (nI b))] [] (rset M 9 (hst (M 5) n S (setr 6 (fun _ => 0) (M 9))))
      refine gs_iload_n (q := 3) k rfl rfl dX5_cappedSize_51 ?_
      refine gs_bipush (v := 6) k (by decide) dX5_cappedSize_52 ?_
      refine gs_icmpN_ge (a := b) (b := 6) (tgt := 81) k rfl rfl (by omega) (by omega) (by decide) dX5_cappedSize_54 (fun c2 => absurd c2 (by omega)) (fun c2 => ?_)
      refine gs_iload_n (q := 2) k rfl rfl dX5_cappedSize_57 ?_
      refine gs_aload_n (q := 0) k rfl rfl dX5_cappedSize_58 ?_
      refine gs_get (C := RX5) (T := TX5) (N := 9) (ci := 5) (k0 := 1) (j := 8) k (hI 1 (by omega)) rfl rfl inX5 (by decide) fl_X5_36 rfl rfl dX5_cappedSize_59 ?_
      refine gs_iload_n (q := 3) k rfl rfl dX5_cappedSize_62 ?_
      refine gs_ialdN (k0 := 9) (n := 6) (e := b) k (hI 9 (by omega)) (fun _ => rfl) rfl (by omega) (by decide) dX5_cappedSize_63 ?_
      refine gs_top (y := (hst (M 5) n S (setr 6 (fun _ => 0) (M 9))) b) (congrFun (rset_eq _ _ _) _) ?_
      refine gs_aload_n (q := 0) k rfl rfl dX5_cappedSize_64 ?_
      refine gs_get (C := RX5) (T := TX5) (N := 9) (ci := 5) (k0 := 1) (j := 5) k (hI 1 (by omega)) rfl rfl inX5 (by decide) fl_X5_24 rfl rfl dX5_cappedSize_65 ?_
      refine gs_iload_n (q := 3) k rfl rfl dX5_cappedSize_68 ?_
      refine gs_ialdN (k0 := 6) (n := 6) (e := b) k (hI 6 (by omega)) (fun _ => rfl) rfl (by omega) (by decide) dX5_cappedSize_69 ?_
      refine gs_top (y := M 6 b) (rdr (by omega) (rfl)) ?_
      refine gs_min k ml_X5_92 (by decide) (Nat.le_of_ble_eq_true rfl) dX5_cappedSize_70 ?_
      refine gs_iadd k dX5_cappedSize_73 ?_
      refine gs_istore_n (lv' := [(2, .int (t + (imin ((hst (M 5) n S (setr 6 (fun _ => 0) (M 9))) b) (M 6 b)))), (0, .ref (E.2.2.1 1)), (1, .int x), (3, .int (nI b))]) k rfl (by decide) rfl dX5_cappedSize_74 ?_
      refine gs_iincN (q := 3) (a := b) (c := 1) (lv' := [(3, .int (nI (b + 1))), (2, .int (t + (imin ((hst (M 5) n S (setr 6 (fun _ => 0) (M 9))) b) (M 6 b)))), (0, .ref (E.2.2.1 1)), (1, .int x)]) k rfl rfl (by decide) rfl dX5_cappedSize_75 ?_
      refine gs_goto (tgt := 51) k (by decide) dX5_cappedSize_78 ?_
      refine gs_lv (lv' := [(0, .ref (E.2.2.1 1)), (1, .int x), (2, .int (t + (imin ((hst (M 5) n S (setr 6 (fun _ => 0) (M 9))) b) (M 6 b)))), (3, .int (nI (b + 1)))]) [2, 3, 1, 0] rfl ?_
      exact hGb _ rfl
    · show G l E K 51 [(0, .ref (E.2.2.1 1)), (1, .int x), (2, .int (lp (fun b t => t + imin (hst (M 5) n S (setr 6 (fun _ => 0) (M 9)) b) (M 6 b)) 6 0 0)), (3, .int (nI 6))] [] (rset M 9 (hst (M 5) n S (setr 6 (fun _ => 0) (M 9))))
      refine gs_iload_n (q := 3) k rfl rfl dX5_cappedSize_51 ?_
      refine gs_bipush (v := 6) k (by decide) dX5_cappedSize_52 ?_
      refine gs_icmpN_ge (a := 6) (b := 6) (tgt := 81) k rfl rfl (by omega) (by omega) (by decide) dX5_cappedSize_54 (fun c2 => ?_) (fun c2 => absurd c2 (by omega))
      refine gs_iload_n (q := 2) k rfl rfl dX5_cappedSize_81 ?_
      exact gs_iret k kt dX5_cappedSize_82 ⟨(by rw [ksum_hst hn6 (fun b hb => setr_in hb) (fun p hp => hbl p (by omega))]), _, rfl⟩

theorem cf_X5_valueFromData : CF yX5_valueFromData cX5_valueFromData 3 (some .int) 2 := ⟨cd_X5_valueFromData, iz_X5, by decide, by decide +kernel, by decide +kernel, by decide +kernel⟩
set_option maxRecDepth 100000 in
set_option maxHeartbeats 4000000 in
theorem c_X5_valueFromData1 {l : Launch} {E : Ev} {M : Mm} {n : Nat} (hI : ∀ k, k < 108 → k ∈ E.2.1) (hn : Cn M n) {S : Nat} (hS : S < 2 ^ n) : Cm l E yX5_valueFromData cX5_valueFromData 3 (some .int) 2 [.ref (E.2.2.1 1), .int 1, .int (nI S)] M (pI (csum (M 2) n S) M) := by
  refine Cm.of (by decide) (Nat.le_of_ble_eq_true rfl) (fun K k kt => ?_)
  show G l E K 0 [(0, .ref (E.2.2.1 1)), (1, .int 1), (2, .int (nI S))] [] M
  obtain ⟨hn0, hn1, hn6⟩ := id hn
  have hp := p2_le6 hn6
  have hp2 := p2_ge2 hn1
  refine gs_iload_n (q := 1) k rfl rfl dX5_valueFromData_0 ?_
  refine gs_tableIn (off := 27) (tgt := 28) k (by decide) (by decide) (by decide) (by decide) dX5_valueFromData_1 ?_
  refine gs_aload_n (q := 0) k rfl rfl dX5_valueFromData_28 ?_
  refine gs_iload_n (q := 2) k rfl rfl dX5_valueFromData_29 ?_
  refine gs_callV (As := [.int (nI S)]) (k0 := 1) (ci := 5) (T := TX5) (N := 9) k (c_X5_loadOut (S := S) hI hn rfl (by omega)) cf_X5_loadOut im_X5_loadOut sl_X5_loadOut ml_X5_75 (hI 1 (by omega)) rfl rfl (by decide) rfl rfl (Nat.le_of_ble_eq_true rfl) dX5_valueFromData_30 (ppI ?_)
  refine gs_top (y := csum (M 2) n S) rfl ?_
  exact gs_iret k kt dX5_valueFromData_33 ⟨rfl, rfl⟩

set_option maxRecDepth 100000 in
set_option maxHeartbeats 4000000 in
theorem c_X5_valueFromData2 {l : Launch} {E : Ev} {M : Mm} {n : Nat} (hI : ∀ k, k < 108 → k ∈ E.2.1) (hn : Cn M n) {S : Nat} (hS : S < 2 ^ n) : Cm l E yX5_valueFromData cX5_valueFromData 3 (some .int) 2 [.ref (E.2.2.1 1), .int 2, .int (nI S)] M (pI (vsum (M 4) (M 3) (nI S)) M) := by
  refine Cm.of (by decide) (Nat.le_of_ble_eq_true rfl) (fun K k kt => ?_)
  show G l E K 0 [(0, .ref (E.2.2.1 1)), (1, .int 2), (2, .int (nI S))] [] M
  obtain ⟨hn0, hn1, hn6⟩ := id hn
  have hp := p2_le6 hn6
  have hp2 := p2_ge2 hn1
  refine gs_iload_n (q := 1) k rfl rfl dX5_valueFromData_0 ?_
  refine gs_tableIn (off := 33) (tgt := 34) k (by decide) (by decide) (by decide) (by decide) dX5_valueFromData_1 ?_
  refine gs_aload_n (q := 0) k rfl rfl dX5_valueFromData_34 ?_
  refine gs_iload_n (q := 2) k rfl rfl dX5_valueFromData_35 ?_
  refine gs_callV (As := [.int (nI S)]) (k0 := 1) (ci := 5) (T := TX5) (N := 9) k (c_X5_worthMet hI) cf_X5_worthMet im_X5_worthMet sl_X5_worthMet ml_X5_79 (hI 1 (by omega)) rfl rfl (by decide) rfl rfl (Nat.le_of_ble_eq_true rfl) dX5_valueFromData_36 (ppI ?_)
  refine gs_top (y := vsum (M 4) (M 3) (nI S)) rfl ?_
  exact gs_iret k kt dX5_valueFromData_39 ⟨rfl, rfl⟩

set_option maxRecDepth 100000 in
set_option maxHeartbeats 4000000 in
theorem c_X5_valueFromData4 {l : Launch} {E : Ev} {M : Mm} {n : Nat} (hI : ∀ k, k < 108 → k ∈ E.2.1) (hn : Cn M n) {S : Nat} (hS : S < 2 ^ n) : Cm l E yX5_valueFromData cX5_valueFromData 3 (some .int) 2 [.ref (E.2.2.1 1), .int 4, .int (nI S)] M (pI (wsum (M 7) n S) M) := by
  refine Cm.of (by decide) (Nat.le_of_ble_eq_true rfl) (fun K k kt => ?_)
  show G l E K 0 [(0, .ref (E.2.2.1 1)), (1, .int 4), (2, .int (nI S))] [] M
  obtain ⟨hn0, hn1, hn6⟩ := id hn
  have hp := p2_le6 hn6
  have hp2 := p2_ge2 hn1
  refine gs_iload_n (q := 1) k rfl rfl dX5_valueFromData_0 ?_
  refine gs_tableOut (tgt := 46) k (by decide) (by decide) dX5_valueFromData_1 ?_
  refine gs_aload_n (q := 0) k rfl rfl dX5_valueFromData_46 ?_
  refine gs_iload_n (q := 2) k rfl rfl dX5_valueFromData_47 ?_
  refine gs_callV (As := [.int (nI S)]) (k0 := 1) (ci := 5) (T := TX5) (N := 9) k (c_X5_totalWeight (S := S) hI hn rfl (by omega)) cf_X5_totalWeight im_X5_totalWeight sl_X5_totalWeight ml_X5_85 (hI 1 (by omega)) rfl rfl (by decide) rfl rfl (Nat.le_of_ble_eq_true rfl) dX5_valueFromData_48 (ppI ?_)
  refine gs_top (y := wsum (M 7) n S) rfl ?_
  exact gs_iret k kt dX5_valueFromData_51 ⟨rfl, rfl⟩

set_option maxRecDepth 100000 in
set_option maxHeartbeats 4000000 in
theorem c_X5_valueFromData3 {l : Launch} {E : Ev} {M : Mm} {n : Nat} (hI : ∀ k, k < 108 → k ∈ E.2.1) (hn : Cn M n) (hbl : ∀ p, p < 6 → inR (M 5 p) 6) {S : Nat} (hS : S < 2 ^ n) : Cm l E yX5_valueFromData cX5_valueFromData 3 (some .int) 2 [.ref (E.2.2.1 1), .int 3, .int (nI S)] M (pQ 9 (ksum (M 5) (M 6) n S) M) := by
  refine Cm.of (by decide) (Nat.le_of_ble_eq_true rfl) (fun K k kt => ?_)
  show G l E K 0 [(0, .ref (E.2.2.1 1)), (1, .int 3), (2, .int (nI S))] [] M
  obtain ⟨hn0, hn1, hn6⟩ := id hn
  have hp := p2_le6 hn6
  have hp2 := p2_ge2 hn1
  refine gs_iload_n (q := 1) k rfl rfl dX5_valueFromData_0 ?_
  refine gs_tableIn (off := 39) (tgt := 40) k (by decide) (by decide) (by decide) (by decide) dX5_valueFromData_1 ?_
  refine gs_aload_n (q := 0) k rfl rfl dX5_valueFromData_40 ?_
  refine gs_iload_n (q := 2) k rfl rfl dX5_valueFromData_41 ?_
  refine gs_callV (As := [.int (nI S)]) (k0 := 1) (ci := 5) (T := TX5) (N := 9) k (c_X5_cappedSize (S := S) hI hn (fun p hp => by exact hbl p hp) rfl (by omega)) cf_X5_cappedSize im_X5_cappedSize sl_X5_cappedSize ml_X5_82 (hI 1 (by omega)) rfl rfl (by decide) rfl rfl (Nat.le_of_ble_eq_true rfl) dX5_valueFromData_42 (ppQ (fun q1 => ?_))
  show G l E K 45 [(0, .ref (E.2.2.1 1)), (1, .int 3), (2, .int (nI S))] [.int (ksum (M 5) (M 6) n S)] (rset M 9 q1)
  exact gs_iret k kt dX5_valueFromData_45 ⟨rfl, _, rfl⟩

theorem stlC_62 {n t j : Nat} {k : Int32} {M : Mm} (ht : t < 6) : stlC n t k M 62 j = M 62 j := rdn (by omega) (rdr (by omega) rfl)
theorem mw_rset2 (M : Mm) {k k' : Nat} (j : Nat) (r q : Nat → Int32) (x : Int32) (h : k ≠ k') : mw (rset (rset M k r) k' q) k j x = rset (rset M k (upd r j x)) k' q := by
  unfold mw
  rw [rset_ne _ _ h, rset_eq, rset_comm _ _ _ (Ne.symm h), rset_rset]
theorem cf_X6_setFromData : CF yX6_setFromData cX6_setFromData 5 (some .int) 3 := ⟨cd_X6_setFromData, iz_X6, by decide, by decide +kernel, by decide +kernel, by decide +kernel⟩
set_option maxRecDepth 100000 in
set_option maxHeartbeats 4000000 in
theorem c_X6_setFromData1 {l : Launch} {E : Ev} {M : Mm} {n : Nat} (hI : ∀ k, k < 108 → k ∈ E.2.1) (hn : Cn M n) {x : Int32} {t : Nat} (hx : x = nI t) (ht : t < 6) {A : Nat} (hA : A < 2 ^ n) : Cm l E yX6_setFromData cX6_setFromData 5 (some .int) 3 [.ref (E.2.2.1 0), .int x, .int 1, .int (nI A)] M (pR (.int (csum (M 2) n A)) (fsetC n t 1 (fun s => csum (M 2) n s) M)) := by
  refine Cm.of (by decide) (Nat.le_of_ble_eq_true rfl) (fun K k kt => ?_)
  show G l E K 0 [(0, .ref (E.2.2.1 0)), (1, .int x), (2, .int 1), (3, .int (nI A))] [] M
  obtain ⟨hn0, hn1, hn6⟩ := id hn
  have hp := p2_le6 hn6
  have hp2 := p2_ge2 hn1
  refine gs_iconst (v := 0) k (by decide) dX6_setFromData_0 ?_
  refine gs_istore (lv' := [(4, .int 0), (0, .ref (E.2.2.1 0)), (1, .int x), (2, .int 1), (3, .int (nI A))]) k (by decide) rfl dX6_setFromData_1 ?_
  refine gs_lv (lv' := [(0, .ref (E.2.2.1 0)), (1, .int x), (2, .int 1), (3, .int (nI A)), (4, .int 0)]) [1, 2, 3, 4, 0] rfl ?_
  refine gs_M (rset_same M 62).symm ?_
  refine for_up (σ := (Nat → Int32)) (fun s r => G l E K 3 [(0, .ref (E.2.2.1 0)), (1, .int x), (2, .int 1), (3, .int (nI A)), (4, .int (nI s))] [] (rset M 62 r)) (fun s r => upd r s (csum (M 2) n s)) (2 ^ n) (fun s r hs hGs => ?_) (2 ^ n) 0 (M 62) (by omega) ?_
  · show G l E K 3 [(0, .ref (E.2.2.1 0)), (1, .int x), (2, .int 1), (3, .int (nI A)), (4, .int (nI s))] [] (rset M 62 r)
    refine gs_iload (q := 4) k rfl dX6_setFromData_3 ?_
    refine gs_aload_n (q := 0) k rfl rfl dX6_setFromData_5 ?_
    refine gs_get (C := RX6) (T := TX6) (N := 10) (ci := 6) (k0 := 0) (j := 0) k (hI 0 (by omega)) rfl rfl inX6 (by decide) fl_X6_12 rfl rfl dX6_setFromData_6 ?_
    refine gs_callV (As := []) (k0 := 1) (ci := 5) (T := TX5) (N := 9) k (c_X5_sets hI (Cn_rs (by omega) hn)) cf_X5_sets im_X5_sets sl_X5_sets ml_X6_131 (hI 1 (by omega)) rfl rfl (by decide) rfl rfl (Nat.le_of_ble_eq_true rfl) dX6_setFromData_9 (ppI ?_)
    refine gs_icmpN_ge (a := s) (b := 2 ^ n) (tgt := 38) k rfl rfl (by omega) (by omega) (by decide) dX6_setFromData_12 (fun c1 => absurd c1 (by omega)) (fun c1 => ?_)
    refine gs_aload_n (q := 0) k rfl rfl dX6_setFromData_15 ?_
    refine gs_get (C := RX6) (T := TX6) (N := 10) (ci := 6) (k0 := 0) (j := 7) k (hI 0 (by omega)) rfl rfl inX6 (by decide) fl_X6_53 rfl rfl dX6_setFromData_16 ?_
    refine gs_iload (q := 4) k rfl dX6_setFromData_19 ?_
    refine gs_aload_n (q := 0) k rfl rfl dX6_setFromData_21 ?_
    refine gs_get (C := RX6) (T := TX6) (N := 10) (ci := 6) (k0 := 0) (j := 0) k (hI 0 (by omega)) rfl rfl inX6 (by decide) fl_X6_12 rfl rfl dX6_setFromData_22 ?_
    refine gs_iload_n (q := 2) k rfl rfl dX6_setFromData_25 ?_
    refine gs_iload (q := 4) k rfl dX6_setFromData_26 ?_
    refine gs_callV (As := [.int 1, .int (nI s)]) (k0 := 1) (ci := 5) (T := TX5) (N := 9) k (c_X5_valueFromData1 (S := s) hI (Cn_rs (by omega) hn) (by omega)) cf_X5_valueFromData im_X5_valueFromData sl_X5_valueFromData ml_X6_306 (hI 1 (by omega)) rfl rfl (by decide) rfl rfl (Nat.le_of_ble_eq_true rfl) dX6_setFromData_28 (ppI ?_)
    refine gs_top (y := csum (M 2) n s) rfl ?_
    refine gs_iastN (k0 := 62) (n := 64) (e := s) k (hI 62 (by omega)) (fun _ => rfl) rfl (by omega) (by decide) dX6_setFromData_31 ?_
    refine gs_M (mw_rset _ _ _ _ _) ?_
    refine gs_iincN (q := 4) (a := s) (c := 1) (lv' := [(4, .int (nI (s + 1))), (0, .ref (E.2.2.1 0)), (1, .int x), (2, .int 1), (3, .int (nI A))]) k rfl rfl (by decide) rfl dX6_setFromData_32 ?_
    refine gs_goto (tgt := 3) k (by decide) dX6_setFromData_35 ?_
    refine gs_lv (lv' := [(0, .ref (E.2.2.1 0)), (1, .int x), (2, .int 1), (3, .int (nI A)), (4, .int (nI (s + 1)))]) [1, 2, 3, 4, 0] rfl ?_
    exact hGs _ rfl
  · show G l E K 3 [(0, .ref (E.2.2.1 0)), (1, .int x), (2, .int 1), (3, .int (nI A)), (4, .int (nI (2 ^ n)))] [] (rset M 62 (lp (fun s r => upd r s (csum (M 2) n s)) (2 ^ n) 0 (M 62)))
    rw [lp_setr]
    show G l E K 3 [(0, .ref (E.2.2.1 0)), (1, .int x), (2, .int 1), (3, .int (nI A)), (4, .int (nI (2 ^ n)))] [] (rset M 62 (setr (2 ^ n) (fun s => csum (M 2) n s) (M 62)))
    refine gs_iload (q := 4) k rfl dX6_setFromData_3 ?_
    refine gs_aload_n (q := 0) k rfl rfl dX6_setFromData_5 ?_
    refine gs_get (C := RX6) (T := TX6) (N := 10) (ci := 6) (k0 := 0) (j := 0) k (hI 0 (by omega)) rfl rfl inX6 (by decide) fl_X6_12 rfl rfl dX6_setFromData_6 ?_
    refine gs_callV (As := []) (k0 := 1) (ci := 5) (T := TX5) (N := 9) k (c_X5_sets hI (Cn_rs (by omega) hn)) cf_X5_sets im_X5_sets sl_X5_sets ml_X6_131 (hI 1 (by omega)) rfl rfl (by decide) rfl rfl (Nat.le_of_ble_eq_true rfl) dX6_setFromData_9 (ppI ?_)
    refine gs_icmpN_ge (a := 2 ^ n) (b := 2 ^ n) (tgt := 38) k rfl rfl (by omega) (by omega) (by decide) dX6_setFromData_12 (fun c1 => ?_) (fun c1 => absurd c1 (by omega))
    refine gs_aload_n (q := 0) k rfl rfl dX6_setFromData_38 ?_
    refine gs_iload_n (q := 1) k rfl rfl dX6_setFromData_39 ?_
    refine gs_iload_n (q := 2) k rfl rfl dX6_setFromData_40 ?_
    refine gs_callV (As := [.int x, .int 1]) (k0 := 0) (ci := 6) (T := TX6) (N := 10) k (c_X6_settle hI (Cn_rs (by omega) hn) (t := t) hx (by omega)) cf_X6_settle im_X6_settle sl_X6_settle ml_X6_286 (hI 0 (by omega)) rfl rfl (by decide) rfl rfl (Nat.le_of_ble_eq_true rfl) dX6_setFromData_41 (ppV ?_)
    refine gs_aload_n (q := 0) k rfl rfl dX6_setFromData_44 ?_
    refine gs_get (C := RX6) (T := TX6) (N := 10) (ci := 6) (k0 := 0) (j := 7) k (hI 0 (by omega)) rfl rfl inX6 (by decide) fl_X6_53 rfl rfl dX6_setFromData_45 ?_
    refine gs_iload_n (q := 3) k rfl rfl dX6_setFromData_48 ?_
    refine gs_ialdN (k0 := 62) (n := 64) (e := A) k (hI 62 (by omega)) (fun _ => rfl) rfl (by omega) (by decide) dX6_setFromData_49 ?_
    refine gs_top (y := csum (M 2) n A) ((stlC_62 (by omega)).trans (rdraft A hA)) ?_
    exact gs_iret k kt dX6_setFromData_50 ⟨rfl, stl_same (by omega) (Same.r1 Same.rf (fun j => by unfold scr; omega)) rdraft⟩

set_option maxRecDepth 100000 in
set_option maxHeartbeats 4000000 in
theorem c_X6_setFromData2 {l : Launch} {E : Ev} {M : Mm} {n : Nat} (hI : ∀ k, k < 108 → k ∈ E.2.1) (hn : Cn M n) {x : Int32} {t : Nat} (hx : x = nI t) (ht : t < 6) {A : Nat} (hA : A < 2 ^ n) : Cm l E yX6_setFromData cX6_setFromData 5 (some .int) 3 [.ref (E.2.2.1 0), .int x, .int 2, .int (nI A)] M (pR (.int (vsum (M 4) (M 3) (nI A))) (fsetC n t 2 (fun s => vsum (M 4) (M 3) (nI s)) M)) := by
  refine Cm.of (by decide) (Nat.le_of_ble_eq_true rfl) (fun K k kt => ?_)
  show G l E K 0 [(0, .ref (E.2.2.1 0)), (1, .int x), (2, .int 2), (3, .int (nI A))] [] M
  obtain ⟨hn0, hn1, hn6⟩ := id hn
  have hp := p2_le6 hn6
  have hp2 := p2_ge2 hn1
  refine gs_iconst (v := 0) k (by decide) dX6_setFromData_0 ?_
  refine gs_istore (lv' := [(4, .int 0), (0, .ref (E.2.2.1 0)), (1, .int x), (2, .int 2), (3, .int (nI A))]) k (by decide) rfl dX6_setFromData_1 ?_
  refine gs_lv (lv' := [(0, .ref (E.2.2.1 0)), (1, .int x), (2, .int 2), (3, .int (nI A)), (4, .int 0)]) [1, 2, 3, 4, 0] rfl ?_
  refine gs_M (rset_same M 62).symm ?_
  refine for_up (σ := (Nat → Int32)) (fun s r => G l E K 3 [(0, .ref (E.2.2.1 0)), (1, .int x), (2, .int 2), (3, .int (nI A)), (4, .int (nI s))] [] (rset M 62 r)) (fun s r => upd r s (vsum (M 4) (M 3) (nI s))) (2 ^ n) (fun s r hs hGs => ?_) (2 ^ n) 0 (M 62) (by omega) ?_
  · show G l E K 3 [(0, .ref (E.2.2.1 0)), (1, .int x), (2, .int 2), (3, .int (nI A)), (4, .int (nI s))] [] (rset M 62 r)
    refine gs_iload (q := 4) k rfl dX6_setFromData_3 ?_
    refine gs_aload_n (q := 0) k rfl rfl dX6_setFromData_5 ?_
    refine gs_get (C := RX6) (T := TX6) (N := 10) (ci := 6) (k0 := 0) (j := 0) k (hI 0 (by omega)) rfl rfl inX6 (by decide) fl_X6_12 rfl rfl dX6_setFromData_6 ?_
    refine gs_callV (As := []) (k0 := 1) (ci := 5) (T := TX5) (N := 9) k (c_X5_sets hI (Cn_rs (by omega) hn)) cf_X5_sets im_X5_sets sl_X5_sets ml_X6_131 (hI 1 (by omega)) rfl rfl (by decide) rfl rfl (Nat.le_of_ble_eq_true rfl) dX6_setFromData_9 (ppI ?_)
    refine gs_icmpN_ge (a := s) (b := 2 ^ n) (tgt := 38) k rfl rfl (by omega) (by omega) (by decide) dX6_setFromData_12 (fun c1 => absurd c1 (by omega)) (fun c1 => ?_)
    refine gs_aload_n (q := 0) k rfl rfl dX6_setFromData_15 ?_
    refine gs_get (C := RX6) (T := TX6) (N := 10) (ci := 6) (k0 := 0) (j := 7) k (hI 0 (by omega)) rfl rfl inX6 (by decide) fl_X6_53 rfl rfl dX6_setFromData_16 ?_
    refine gs_iload (q := 4) k rfl dX6_setFromData_19 ?_
    refine gs_aload_n (q := 0) k rfl rfl dX6_setFromData_21 ?_
    refine gs_get (C := RX6) (T := TX6) (N := 10) (ci := 6) (k0 := 0) (j := 0) k (hI 0 (by omega)) rfl rfl inX6 (by decide) fl_X6_12 rfl rfl dX6_setFromData_22 ?_
    refine gs_iload_n (q := 2) k rfl rfl dX6_setFromData_25 ?_
    refine gs_iload (q := 4) k rfl dX6_setFromData_26 ?_
    refine gs_callV (As := [.int 2, .int (nI s)]) (k0 := 1) (ci := 5) (T := TX5) (N := 9) k (c_X5_valueFromData2 (S := s) hI (Cn_rs (by omega) hn) (by omega)) cf_X5_valueFromData im_X5_valueFromData sl_X5_valueFromData ml_X6_306 (hI 1 (by omega)) rfl rfl (by decide) rfl rfl (Nat.le_of_ble_eq_true rfl) dX6_setFromData_28 (ppI ?_)
    refine gs_top (y := vsum (M 4) (M 3) (nI s)) rfl ?_
    refine gs_iastN (k0 := 62) (n := 64) (e := s) k (hI 62 (by omega)) (fun _ => rfl) rfl (by omega) (by decide) dX6_setFromData_31 ?_
    refine gs_M (mw_rset _ _ _ _ _) ?_
    refine gs_iincN (q := 4) (a := s) (c := 1) (lv' := [(4, .int (nI (s + 1))), (0, .ref (E.2.2.1 0)), (1, .int x), (2, .int 2), (3, .int (nI A))]) k rfl rfl (by decide) rfl dX6_setFromData_32 ?_
    refine gs_goto (tgt := 3) k (by decide) dX6_setFromData_35 ?_
    refine gs_lv (lv' := [(0, .ref (E.2.2.1 0)), (1, .int x), (2, .int 2), (3, .int (nI A)), (4, .int (nI (s + 1)))]) [1, 2, 3, 4, 0] rfl ?_
    exact hGs _ rfl
  · show G l E K 3 [(0, .ref (E.2.2.1 0)), (1, .int x), (2, .int 2), (3, .int (nI A)), (4, .int (nI (2 ^ n)))] [] (rset M 62 (lp (fun s r => upd r s (vsum (M 4) (M 3) (nI s))) (2 ^ n) 0 (M 62)))
    rw [lp_setr]
    show G l E K 3 [(0, .ref (E.2.2.1 0)), (1, .int x), (2, .int 2), (3, .int (nI A)), (4, .int (nI (2 ^ n)))] [] (rset M 62 (setr (2 ^ n) (fun s => vsum (M 4) (M 3) (nI s)) (M 62)))
    refine gs_iload (q := 4) k rfl dX6_setFromData_3 ?_
    refine gs_aload_n (q := 0) k rfl rfl dX6_setFromData_5 ?_
    refine gs_get (C := RX6) (T := TX6) (N := 10) (ci := 6) (k0 := 0) (j := 0) k (hI 0 (by omega)) rfl rfl inX6 (by decide) fl_X6_12 rfl rfl dX6_setFromData_6 ?_
    refine gs_callV (As := []) (k0 := 1) (ci := 5) (T := TX5) (N := 9) k (c_X5_sets hI (Cn_rs (by omega) hn)) cf_X5_sets im_X5_sets sl_X5_sets ml_X6_131 (hI 1 (by omega)) rfl rfl (by decide) rfl rfl (Nat.le_of_ble_eq_true rfl) dX6_setFromData_9 (ppI ?_)
    refine gs_icmpN_ge (a := 2 ^ n) (b := 2 ^ n) (tgt := 38) k rfl rfl (by omega) (by omega) (by decide) dX6_setFromData_12 (fun c1 => ?_) (fun c1 => absurd c1 (by omega))
    refine gs_aload_n (q := 0) k rfl rfl dX6_setFromData_38 ?_
    refine gs_iload_n (q := 1) k rfl rfl dX6_setFromData_39 ?_
    refine gs_iload_n (q := 2) k rfl rfl dX6_setFromData_40 ?_
    refine gs_callV (As := [.int x, .int 2]) (k0 := 0) (ci := 6) (T := TX6) (N := 10) k (c_X6_settle hI (Cn_rs (by omega) hn) (t := t) hx (by omega)) cf_X6_settle im_X6_settle sl_X6_settle ml_X6_286 (hI 0 (by omega)) rfl rfl (by decide) rfl rfl (Nat.le_of_ble_eq_true rfl) dX6_setFromData_41 (ppV ?_)
    refine gs_aload_n (q := 0) k rfl rfl dX6_setFromData_44 ?_
    refine gs_get (C := RX6) (T := TX6) (N := 10) (ci := 6) (k0 := 0) (j := 7) k (hI 0 (by omega)) rfl rfl inX6 (by decide) fl_X6_53 rfl rfl dX6_setFromData_45 ?_
    refine gs_iload_n (q := 3) k rfl rfl dX6_setFromData_48 ?_
    refine gs_ialdN (k0 := 62) (n := 64) (e := A) k (hI 62 (by omega)) (fun _ => rfl) rfl (by omega) (by decide) dX6_setFromData_49 ?_
    refine gs_top (y := vsum (M 4) (M 3) (nI A)) ((stlC_62 (by omega)).trans (rdraft A hA)) ?_
    exact gs_iret k kt dX6_setFromData_50 ⟨rfl, stl_same (by omega) (Same.r1 Same.rf (fun j => by unfold scr; omega)) rdraft⟩

set_option maxRecDepth 100000 in
set_option maxHeartbeats 4000000 in
theorem c_X6_setFromData4 {l : Launch} {E : Ev} {M : Mm} {n : Nat} (hI : ∀ k, k < 108 → k ∈ E.2.1) (hn : Cn M n) {x : Int32} {t : Nat} (hx : x = nI t) (ht : t < 6) {A : Nat} (hA : A < 2 ^ n) : Cm l E yX6_setFromData cX6_setFromData 5 (some .int) 3 [.ref (E.2.2.1 0), .int x, .int 4, .int (nI A)] M (pR (.int (wsum (M 7) n A)) (fsetC n t 4 (fun s => wsum (M 7) n s) M)) := by
  refine Cm.of (by decide) (Nat.le_of_ble_eq_true rfl) (fun K k kt => ?_)
  show G l E K 0 [(0, .ref (E.2.2.1 0)), (1, .int x), (2, .int 4), (3, .int (nI A))] [] M
  obtain ⟨hn0, hn1, hn6⟩ := id hn
  have hp := p2_le6 hn6
  have hp2 := p2_ge2 hn1
  refine gs_iconst (v := 0) k (by decide) dX6_setFromData_0 ?_
  refine gs_istore (lv' := [(4, .int 0), (0, .ref (E.2.2.1 0)), (1, .int x), (2, .int 4), (3, .int (nI A))]) k (by decide) rfl dX6_setFromData_1 ?_
  refine gs_lv (lv' := [(0, .ref (E.2.2.1 0)), (1, .int x), (2, .int 4), (3, .int (nI A)), (4, .int 0)]) [1, 2, 3, 4, 0] rfl ?_
  refine gs_M (rset_same M 62).symm ?_
  refine for_up (σ := (Nat → Int32)) (fun s r => G l E K 3 [(0, .ref (E.2.2.1 0)), (1, .int x), (2, .int 4), (3, .int (nI A)), (4, .int (nI s))] [] (rset M 62 r)) (fun s r => upd r s (wsum (M 7) n s)) (2 ^ n) (fun s r hs hGs => ?_) (2 ^ n) 0 (M 62) (by omega) ?_
  · show G l E K 3 [(0, .ref (E.2.2.1 0)), (1, .int x), (2, .int 4), (3, .int (nI A)), (4, .int (nI s))] [] (rset M 62 r)
    refine gs_iload (q := 4) k rfl dX6_setFromData_3 ?_
    refine gs_aload_n (q := 0) k rfl rfl dX6_setFromData_5 ?_
    refine gs_get (C := RX6) (T := TX6) (N := 10) (ci := 6) (k0 := 0) (j := 0) k (hI 0 (by omega)) rfl rfl inX6 (by decide) fl_X6_12 rfl rfl dX6_setFromData_6 ?_
    refine gs_callV (As := []) (k0 := 1) (ci := 5) (T := TX5) (N := 9) k (c_X5_sets hI (Cn_rs (by omega) hn)) cf_X5_sets im_X5_sets sl_X5_sets ml_X6_131 (hI 1 (by omega)) rfl rfl (by decide) rfl rfl (Nat.le_of_ble_eq_true rfl) dX6_setFromData_9 (ppI ?_)
    refine gs_icmpN_ge (a := s) (b := 2 ^ n) (tgt := 38) k rfl rfl (by omega) (by omega) (by decide) dX6_setFromData_12 (fun c1 => absurd c1 (by omega)) (fun c1 => ?_)
    refine gs_aload_n (q := 0) k rfl rfl dX6_setFromData_15 ?_
    refine gs_get (C := RX6) (T := TX6) (N := 10) (ci := 6) (k0 := 0) (j := 7) k (hI 0 (by omega)) rfl rfl inX6 (by decide) fl_X6_53 rfl rfl dX6_setFromData_16 ?_
    refine gs_iload (q := 4) k rfl dX6_setFromData_19 ?_
    refine gs_aload_n (q := 0) k rfl rfl dX6_setFromData_21 ?_
    refine gs_get (C := RX6) (T := TX6) (N := 10) (ci := 6) (k0 := 0) (j := 0) k (hI 0 (by omega)) rfl rfl inX6 (by decide) fl_X6_12 rfl rfl dX6_setFromData_22 ?_
    refine gs_iload_n (q := 2) k rfl rfl dX6_setFromData_25 ?_
    refine gs_iload (q := 4) k rfl dX6_setFromData_26 ?_
    refine gs_callV (As := [.int 4, .int (nI s)]) (k0 := 1) (ci := 5) (T := TX5) (N := 9) k (c_X5_valueFromData4 (S := s) hI (Cn_rs (by omega) hn) (by omega)) cf_X5_valueFromData im_X5_valueFromData sl_X5_valueFromData ml_X6_306 (hI 1 (by omega)) rfl rfl (by decide) rfl rfl (Nat.le_of_ble_eq_true rfl) dX6_setFromData_28 (ppI ?_)
    refine gs_top (y := wsum (M 7) n s) rfl ?_
    refine gs_iastN (k0 := 62) (n := 64) (e := s) k (hI 62 (by omega)) (fun _ => rfl) rfl (by omega) (by decide) dX6_setFromData_31 ?_
    refine gs_M (mw_rset _ _ _ _ _) ?_
    refine gs_iincN (q := 4) (a := s) (c := 1) (lv' := [(4, .int (nI (s + 1))), (0, .ref (E.2.2.1 0)), (1, .int x), (2, .int 4), (3, .int (nI A))]) k rfl rfl (by decide) rfl dX6_setFromData_32 ?_
    refine gs_goto (tgt := 3) k (by decide) dX6_setFromData_35 ?_
    refine gs_lv (lv' := [(0, .ref (E.2.2.1 0)), (1, .int x), (2, .int 4), (3, .int (nI A)), (4, .int (nI (s + 1)))]) [1, 2, 3, 4, 0] rfl ?_
    exact hGs _ rfl
  · show G l E K 3 [(0, .ref (E.2.2.1 0)), (1, .int x), (2, .int 4), (3, .int (nI A)), (4, .int (nI (2 ^ n)))] [] (rset M 62 (lp (fun s r => upd r s (wsum (M 7) n s)) (2 ^ n) 0 (M 62)))
    rw [lp_setr]
    show G l E K 3 [(0, .ref (E.2.2.1 0)), (1, .int x), (2, .int 4), (3, .int (nI A)), (4, .int (nI (2 ^ n)))] [] (rset M 62 (setr (2 ^ n) (fun s => wsum (M 7) n s) (M 62)))
    refine gs_iload (q := 4) k rfl dX6_setFromData_3 ?_
    refine gs_aload_n (q := 0) k rfl rfl dX6_setFromData_5 ?_
    refine gs_get (C := RX6) (T := TX6) (N := 10) (ci := 6) (k0 := 0) (j := 0) k (hI 0 (by omega)) rfl rfl inX6 (by decide) fl_X6_12 rfl rfl dX6_setFromData_6 ?_
    refine gs_callV (As := []) (k0 := 1) (ci := 5) (T := TX5) (N := 9) k (c_X5_sets hI (Cn_rs (by omega) hn)) cf_X5_sets im_X5_sets sl_X5_sets ml_X6_131 (hI 1 (by omega)) rfl rfl (by decide) rfl rfl (Nat.le_of_ble_eq_true rfl) dX6_setFromData_9 (ppI ?_)
    refine gs_icmpN_ge (a := 2 ^ n) (b := 2 ^ n) (tgt := 38) k rfl rfl (by omega) (by omega) (by decide) dX6_setFromData_12 (fun c1 => ?_) (fun c1 => absurd c1 (by omega))
    refine gs_aload_n (q := 0) k rfl rfl dX6_setFromData_38 ?_
    refine gs_iload_n (q := 1) k rfl rfl dX6_setFromData_39 ?_
    refine gs_iload_n (q := 2) k rfl rfl dX6_setFromData_40 ?_
    refine gs_callV (As := [.int x, .int 4]) (k0 := 0) (ci := 6) (T := TX6) (N := 10) k (c_X6_settle hI (Cn_rs (by omega) hn) (t := t) hx (by omega)) cf_X6_settle im_X6_settle sl_X6_settle ml_X6_286 (hI 0 (by omega)) rfl rfl (by decide) rfl rfl (Nat.le_of_ble_eq_true rfl) dX6_setFromData_41 (ppV ?_)
    refine gs_aload_n (q := 0) k rfl rfl dX6_setFromData_44 ?_
    refine gs_get (C := RX6) (T := TX6) (N := 10) (ci := 6) (k0 := 0) (j := 7) k (hI 0 (by omega)) rfl rfl inX6 (by decide) fl_X6_53 rfl rfl dX6_setFromData_45 ?_
    refine gs_iload_n (q := 3) k rfl rfl dX6_setFromData_48 ?_
    refine gs_ialdN (k0 := 62) (n := 64) (e := A) k (hI 62 (by omega)) (fun _ => rfl) rfl (by omega) (by decide) dX6_setFromData_49 ?_
    refine gs_top (y := wsum (M 7) n A) ((stlC_62 (by omega)).trans (rdraft A hA)) ?_
    exact gs_iret k kt dX6_setFromData_50 ⟨rfl, stl_same (by omega) (Same.r1 Same.rf (fun j => by unfold scr; omega)) rdraft⟩

set_option maxRecDepth 100000 in
set_option maxHeartbeats 4000000 in
theorem c_X6_setFromData3 {l : Launch} {E : Ev} {M : Mm} {n : Nat} (hI : ∀ k, k < 108 → k ∈ E.2.1) (hn : Cn M n) (hbl : ∀ p, p < 6 → inR (M 5 p) 6) {x : Int32} {t : Nat} (hx : x = nI t) (ht : t < 6) {A : Nat} (hA : A < 2 ^ n) : Cm l E yX6_setFromData cX6_setFromData 5 (some .int) 3 [.ref (E.2.2.1 0), .int x, .int 3, .int (nI A)] M (pR (.int (ksum (M 5) (M 6) n A)) (fsetC n t 3 (fun s => ksum (M 5) (M 6) n s) M)) := by
  refine Cm.of (by decide) (Nat.le_of_ble_eq_true rfl) (fun K k kt => ?_)
  show G l E K 0 [(0, .ref (E.2.2.1 0)), (1, .int x), (2, .int 3), (3, .int (nI A))] [] M
  obtain ⟨hn0, hn1, hn6⟩ := id hn
  have hp := p2_le6 hn6
  have hp2 := p2_ge2 hn1
  refine gs_iconst (v := 0) k (by decide) dX6_setFromData_0 ?_
  refine gs_istore (lv' := [(4, .int 0), (0, .ref (E.2.2.1 0)), (1, .int x), (2, .int 3), (3, .int (nI A))]) k (by decide) rfl dX6_setFromData_1 ?_
  refine gs_lv (lv' := [(0, .ref (E.2.2.1 0)), (1, .int x), (2, .int 3), (3, .int (nI A)), (4, .int 0)]) [1, 2, 3, 4, 0] rfl ?_
  refine for_inv (σ := Mm) (fun s m => G l E K 3 [(0, .ref (E.2.2.1 0)), (1, .int x), (2, .int 3), (3, .int (nI A)), (4, .int (nI s))] [] m) (fun s m => ∃ r q, m = rset (rset M 62 r) 9 q ∧ ∀ j, j < s → r j = ksum (M 5) (M 6) n j) (2 ^ n) (fun s m hs hJ hG => ?_) (fun m hJ => ?_) (2 ^ n) 0 M (by omega) ⟨M 62, M 9, (by rw [rset_same, rset_same]), fun j hj => absurd hj (by omega)⟩
  · obtain ⟨r, q, rfl, hr⟩ := hJ
    show G l E K 3 [(0, .ref (E.2.2.1 0)), (1, .int x), (2, .int 3), (3, .int (nI A)), (4, .int (nI s))] [] (rset (rset M 62 r) 9 q)
    refine gs_iload (q := 4) k rfl dX6_setFromData_3 ?_
    refine gs_aload_n (q := 0) k rfl rfl dX6_setFromData_5 ?_
    refine gs_get (C := RX6) (T := TX6) (N := 10) (ci := 6) (k0 := 0) (j := 0) k (hI 0 (by omega)) rfl rfl inX6 (by decide) fl_X6_12 rfl rfl dX6_setFromData_6 ?_
    refine gs_callV (As := []) (k0 := 1) (ci := 5) (T := TX5) (N := 9) k (c_X5_sets hI (Cn_rs (by omega) (Cn_rs (by omega) hn))) cf_X5_sets im_X5_sets sl_X5_sets ml_X6_131 (hI 1 (by omega)) rfl rfl (by decide) rfl rfl (Nat.le_of_ble_eq_true rfl) dX6_setFromData_9 (ppI ?_)
    refine gs_icmpN_ge (a := s) (b := 2 ^ n) (tgt := 38) k rfl rfl (by omega) (by omega) (by decide) dX6_setFromData_12 (fun c1 => absurd c1 (by omega)) (fun c1 => ?_)
    refine gs_aload_n (q := 0) k rfl rfl dX6_setFromData_15 ?_
    refine gs_get (C := RX6) (T := TX6) (N := 10) (ci := 6) (k0 := 0) (j := 7) k (hI 0 (by omega)) rfl rfl inX6 (by decide) fl_X6_53 rfl rfl dX6_setFromData_16 ?_
    refine gs_iload (q := 4) k rfl dX6_setFromData_19 ?_
    refine gs_aload_n (q := 0) k rfl rfl dX6_setFromData_21 ?_
    refine gs_get (C := RX6) (T := TX6) (N := 10) (ci := 6) (k0 := 0) (j := 0) k (hI 0 (by omega)) rfl rfl inX6 (by decide) fl_X6_12 rfl rfl dX6_setFromData_22 ?_
    refine gs_iload_n (q := 2) k rfl rfl dX6_setFromData_25 ?_
    refine gs_iload (q := 4) k rfl dX6_setFromData_26 ?_
    refine gs_callV (As := [.int 3, .int (nI s)]) (k0 := 1) (ci := 5) (T := TX5) (N := 9) k (c_X5_valueFromData3 (S := s) hI (Cn_rs (by omega) (Cn_rs (by omega) hn)) (fun p hp => by exact hbl p hp) (by omega)) cf_X5_valueFromData im_X5_valueFromData sl_X5_valueFromData ml_X6_306 (hI 1 (by omega)) rfl rfl (by decide) rfl rfl (Nat.le_of_ble_eq_true rfl) dX6_setFromData_28 (ppQ (fun q2 => ?_))
    refine gs_M (rset_rset _ _ _ _) ?_
    show G l E K 31 [(0, .ref (E.2.2.1 0)), (1, .int x), (2, .int 3), (3, .int (nI A)), (4, .int (nI s))] [.int (ksum (M 5) (M 6) n s), .int (nI s), .ref (E.2.2.1 62)] (rset (rset M 62 r) 9 q2)
    refine gs_iastN (k0 := 62) (n := 64) (e := s) k (hI 62 (by omega)) (fun _ => rfl) rfl (by omega) (by decide) dX6_setFromData_31 ?_
    refine gs_M (mw_rset2 _ _ _ _ _ (by omega)) ?_
    refine gs_iincN (q := 4) (a := s) (c := 1) (lv' := [(4, .int (nI (s + 1))), (0, .ref (E.2.2.1 0)), (1, .int x), (2, .int 3), (3, .int (nI A))]) k rfl rfl (by decide) rfl dX6_setFromData_32 ?_
    refine gs_goto (tgt := 3) k (by decide) dX6_setFromData_35 ?_
    refine gs_lv (lv' := [(0, .ref (E.2.2.1 0)), (1, .int x), (2, .int 3), (3, .int (nI A)), (4, .int (nI (s + 1)))]) [1, 2, 3, 4, 0] rfl ?_
    exact hG _ ⟨_, _, rfl, fun j hj => by
                                by_cases e : j = s
                                · subst e; rw [pk_us]
                                · rw [pk_un e]; exact hr j (by omega)⟩
  · obtain ⟨r, q, rfl, hr⟩ := hJ
    show G l E K 3 [(0, .ref (E.2.2.1 0)), (1, .int x), (2, .int 3), (3, .int (nI A)), (4, .int (nI (2 ^ n)))] [] (rset (rset M 62 r) 9 q)
    refine gs_iload (q := 4) k rfl dX6_setFromData_3 ?_
    refine gs_aload_n (q := 0) k rfl rfl dX6_setFromData_5 ?_
    refine gs_get (C := RX6) (T := TX6) (N := 10) (ci := 6) (k0 := 0) (j := 0) k (hI 0 (by omega)) rfl rfl inX6 (by decide) fl_X6_12 rfl rfl dX6_setFromData_6 ?_
    refine gs_callV (As := []) (k0 := 1) (ci := 5) (T := TX5) (N := 9) k (c_X5_sets hI (Cn_rs (by omega) (Cn_rs (by omega) hn))) cf_X5_sets im_X5_sets sl_X5_sets ml_X6_131 (hI 1 (by omega)) rfl rfl (by decide) rfl rfl (Nat.le_of_ble_eq_true rfl) dX6_setFromData_9 (ppI ?_)
    refine gs_icmpN_ge (a := 2 ^ n) (b := 2 ^ n) (tgt := 38) k rfl rfl (by omega) (by omega) (by decide) dX6_setFromData_12 (fun c1 => ?_) (fun c1 => absurd c1 (by omega))
    refine gs_aload_n (q := 0) k rfl rfl dX6_setFromData_38 ?_
    refine gs_iload_n (q := 1) k rfl rfl dX6_setFromData_39 ?_
    refine gs_iload_n (q := 2) k rfl rfl dX6_setFromData_40 ?_
    refine gs_callV (As := [.int x, .int 3]) (k0 := 0) (ci := 6) (T := TX6) (N := 10) k (c_X6_settle hI (Cn_rs (by omega) (Cn_rs (by omega) hn)) (t := t) hx (by omega)) cf_X6_settle im_X6_settle sl_X6_settle ml_X6_286 (hI 0 (by omega)) rfl rfl (by decide) rfl rfl (Nat.le_of_ble_eq_true rfl) dX6_setFromData_41 (ppV ?_)
    refine gs_aload_n (q := 0) k rfl rfl dX6_setFromData_44 ?_
    refine gs_get (C := RX6) (T := TX6) (N := 10) (ci := 6) (k0 := 0) (j := 7) k (hI 0 (by omega)) rfl rfl inX6 (by decide) fl_X6_53 rfl rfl dX6_setFromData_45 ?_
    refine gs_iload_n (q := 3) k rfl rfl dX6_setFromData_48 ?_
    refine gs_ialdN (k0 := 62) (n := 64) (e := A) k (hI 62 (by omega)) (fun _ => rfl) rfl (by omega) (by decide) dX6_setFromData_49 ?_
    refine gs_top (y := ksum (M 5) (M 6) n A) ((stlC_62 (by omega)).trans ((rdr (by omega) (congrFun (rset_eq _ _ _) _)).trans (hr A hA))) ?_
    exact gs_iret k kt dX6_setFromData_50 ⟨rfl, stl_same (by omega) (Same.r1 (Same.r1 Same.rf (fun j => by unfold scr; omega)) (fun j => by unfold scr; omega)) (fun j hj => (rdr (by omega) (congrFun (rset_eq _ _ _) _)).trans (hr j hj))⟩

