def van1 (f : Nat) (M : Mm) : Mm := rset (mw M (10 + 2 * f) 0 (-1)) (11 + 2 * f) (setr 64 (fun _ => 0) (mw M (10 + 2 * f) 0 (-1) (11 + 2 * f)))
theorem cf_X3_vanish : CF yX3_vanish cX3_vanish 1 none 0 := ⟨cd_X3_vanish, iz_X3, by decide, by decide +kernel, by decide +kernel, by decide +kernel⟩
set_option maxRecDepth 100000 in
set_option maxHeartbeats 4000000 in
theorem c_X3_vanish1 {l : Launch} {E : Ev} {M : Mm} {f : Nat} (hf : f < 6) (hI : ∀ k, 1 ≤ k → k < 22 → k ∈ E.2.1) : Cm l E yX3_vanish cX3_vanish 1 none 1 [.ref (E.2.2.1 (10 + 2 * f))] M (pV (van1 f M)) := by
  refine Cm.of (by decide) (Nat.le_of_ble_eq_true rfl) (fun K k kt => ?_)
  show G l E K 0 [(0, .ref (E.2.2.1 (10 + 2 * f)))] [] M
  refine gs_aload_n (q := 0) k rfl rfl dX3_vanish_0 ?_
  refine gs_iconst (v := -1) k (by decide) dX3_vanish_1 ?_
  refine gs_put (C := RX3) (T := TX3) (N := 2) (ci := 3) (k0 := (10 + 2 * f)) (j := 0) (ty := .int) k (hI (10 + 2 * f) (by omega) (by omega)) (ent_F1 hf _) (ent_F1 hf _) rfl inX3 tyX3 tyX3_ok nmX3 (by decide) fl_X3_9 rfl rfl (tyX3_ok 0 (by decide)) rfl rfl (Nat.le_of_ble_eq_true rfl) dX3_vanish_2 ?_
  refine gs_aload_n (q := 0) k rfl rfl dX3_vanish_5 ?_
  refine gs_get (C := RX3) (T := TX3) (N := 2) (ci := 3) (k0 := (10 + 2 * f)) (j := 1) k (hI (10 + 2 * f) (by omega) (by omega)) (ent_F1 hf _) rfl inX3 (by decide) fl_X3_15 rfl rfl dX3_vanish_6 ?_
  refine gs_iconst (v := 0) k (by decide) dX3_vanish_9 ?_
  refine gs_callS (As := [.ref (E.2.2.1 (11 + 2 * f)), .int 0]) k (c_J7_fill_53178 (k0 := (11 + 2 * f)) (n := 64) (hI (11 + 2 * f) (by omega) (by omega)) (ent_V1 hf) (by decide)) cf_J7_fill_53178 sm_J7_fill_53178 ml_X3_19 (by decide) rfl rfl (Nat.le_of_ble_eq_true rfl) dX3_vanish_10 (ppV ?_)
  exact gs_vret k kt dX3_vanish_13 ⟨rfl, rfl⟩

def sta1 (x : Int32) (M : Mm) : Mm := lp (fun f m => van1 f m) 6 0 (rset (rset (rset (rset (rset (rset (mw M 1 0 x) 2 (setr 36 (fun _ => 0) ((mw M 1 0 x) 2))) 3 (setr 8 (fun _ => 0) ((rset (mw M 1 0 x) 2 (setr 36 (fun _ => 0) ((mw M 1 0 x) 2))) 3))) 4 (setr 8 (fun _ => 0) ((rset (rset (mw M 1 0 x) 2 (setr 36 (fun _ => 0) ((mw M 1 0 x) 2))) 3 (setr 8 (fun _ => 0) ((rset (mw M 1 0 x) 2 (setr 36 (fun _ => 0) ((mw M 1 0 x) 2))) 3))) 4))) 5 (setr 6 (fun _ => 0) ((rset (rset (rset (mw M 1 0 x) 2 (setr 36 (fun _ => 0) ((mw M 1 0 x) 2))) 3 (setr 8 (fun _ => 0) ((rset (mw M 1 0 x) 2 (setr 36 (fun _ => 0) ((mw M 1 0 x) 2))) 3))) 4 (setr 8 (fun _ => 0) ((rset (rset (mw M 1 0 x) 2 (setr 36 (fun _ => 0) ((mw M 1 0 x) 2))) 3 (setr 8 (fun _ => 0) ((rset (mw M 1 0 x) 2 (setr 36 (fun _ => 0) ((mw M 1 0 x) 2))) 3))) 4))) 5))) 6 (setr 6 (fun _ => 1) ((rset (rset (rset (rset (mw M 1 0 x) 2 (setr 36 (fun _ => 0) ((mw M 1 0 x) 2))) 3 (setr 8 (fun _ => 0) ((rset (mw M 1 0 x) 2 (setr 36 (fun _ => 0) ((mw M 1 0 x) 2))) 3))) 4 (setr 8 (fun _ => 0) ((rset (rset (mw M 1 0 x) 2 (setr 36 (fun _ => 0) ((mw M 1 0 x) 2))) 3 (setr 8 (fun _ => 0) ((rset (mw M 1 0 x) 2 (setr 36 (fun _ => 0) ((mw M 1 0 x) 2))) 3))) 4))) 5 (setr 6 (fun _ => 0) ((rset (rset (rset (mw M 1 0 x) 2 (setr 36 (fun _ => 0) ((mw M 1 0 x) 2))) 3 (setr 8 (fun _ => 0) ((rset (mw M 1 0 x) 2 (setr 36 (fun _ => 0) ((mw M 1 0 x) 2))) 3))) 4 (setr 8 (fun _ => 0) ((rset (rset (mw M 1 0 x) 2 (setr 36 (fun _ => 0) ((mw M 1 0 x) 2))) 3 (setr 8 (fun _ => 0) ((rset (mw M 1 0 x) 2 (setr 36 (fun _ => 0) ((mw M 1 0 x) 2))) 3))) 4))) 5))) 6))) 7 (setr 6 (fun _ => 0) ((rset (rset (rset (rset (rset (mw M 1 0 x) 2 (setr 36 (fun _ => 0) ((mw M 1 0 x) 2))) 3 (setr 8 (fun _ => 0) ((rset (mw M 1 0 x) 2 (setr 36 (fun _ => 0) ((mw M 1 0 x) 2))) 3))) 4 (setr 8 (fun _ => 0) ((rset (rset (mw M 1 0 x) 2 (setr 36 (fun _ => 0) ((mw M 1 0 x) 2))) 3 (setr 8 (fun _ => 0) ((rset (mw M 1 0 x) 2 (setr 36 (fun _ => 0) ((mw M 1 0 x) 2))) 3))) 4))) 5 (setr 6 (fun _ => 0) ((rset (rset (rset (mw M 1 0 x) 2 (setr 36 (fun _ => 0) ((mw M 1 0 x) 2))) 3 (setr 8 (fun _ => 0) ((rset (mw M 1 0 x) 2 (setr 36 (fun _ => 0) ((mw M 1 0 x) 2))) 3))) 4 (setr 8 (fun _ => 0) ((rset (rset (mw M 1 0 x) 2 (setr 36 (fun _ => 0) ((mw M 1 0 x) 2))) 3 (setr 8 (fun _ => 0) ((rset (mw M 1 0 x) 2 (setr 36 (fun _ => 0) ((mw M 1 0 x) 2))) 3))) 4))) 5))) 6 (setr 6 (fun _ => 1) ((rset (rset (rset (rset (mw M 1 0 x) 2 (setr 36 (fun _ => 0) ((mw M 1 0 x) 2))) 3 (setr 8 (fun _ => 0) ((rset (mw M 1 0 x) 2 (setr 36 (fun _ => 0) ((mw M 1 0 x) 2))) 3))) 4 (setr 8 (fun _ => 0) ((rset (rset (mw M 1 0 x) 2 (setr 36 (fun _ => 0) ((mw M 1 0 x) 2))) 3 (setr 8 (fun _ => 0) ((rset (mw M 1 0 x) 2 (setr 36 (fun _ => 0) ((mw M 1 0 x) 2))) 3))) 4))) 5 (setr 6 (fun _ => 0) ((rset (rset (rset (mw M 1 0 x) 2 (setr 36 (fun _ => 0) ((mw M 1 0 x) 2))) 3 (setr 8 (fun _ => 0) ((rset (mw M 1 0 x) 2 (setr 36 (fun _ => 0) ((mw M 1 0 x) 2))) 3))) 4 (setr 8 (fun _ => 0) ((rset (rset (mw M 1 0 x) 2 (setr 36 (fun _ => 0) ((mw M 1 0 x) 2))) 3 (setr 8 (fun _ => 0) ((rset (mw M 1 0 x) 2 (setr 36 (fun _ => 0) ((mw M 1 0 x) 2))) 3))) 4))) 5))) 6))) 7)))
theorem cf_X5_startAnew : CF yX5_startAnew cX5_startAnew 3 none 1 := ⟨cd_X5_startAnew, iz_X5, by decide, by decide +kernel, by decide +kernel, by decide +kernel⟩
set_option maxRecDepth 100000 in
set_option maxHeartbeats 4000000 in
theorem c_X5_startAnew1 {l : Launch} {E : Ev} {M : Mm} {x : Int32} (hI : ∀ k, 1 ≤ k → k < 22 → k ∈ E.2.1) : Cm l E yX5_startAnew cX5_startAnew 3 none 2 [.ref (E.2.2.1 1), .int x] M (pV (sta1 x M)) := by
  refine Cm.of (by decide) (Nat.le_of_ble_eq_true rfl) (fun K k kt => ?_)
  show G l E K 0 [(0, .ref (E.2.2.1 1)), (1, .int x)] [] M
  refine gs_aload_n (q := 0) k rfl rfl dX5_startAnew_0 ?_
  refine gs_iload_n (q := 1) k rfl rfl dX5_startAnew_1 ?_
  refine gs_put (C := RX5) (T := TX5) (N := 9) (ci := 5) (k0 := 1) (j := 0) (ty := .int) k (hI 1 (by omega) (by omega)) rfl rfl rfl inX5 tyX5 tyX5_ok nmX5 (by decide) fl_X5_44 rfl rfl (tyX5_ok 0 (by decide)) rfl rfl (Nat.le_of_ble_eq_true rfl) dX5_startAnew_2 ?_
  refine gs_aload_n (q := 0) k rfl rfl dX5_startAnew_5 ?_
  refine gs_get (C := RX5) (T := TX5) (N := 9) (ci := 5) (k0 := 1) (j := 1) k (hI 1 (by omega) (by omega)) rfl rfl inX5 (by decide) fl_X5_9 rfl rfl dX5_startAnew_6 ?_
  refine gs_iconst (v := 0) k (by decide) dX5_startAnew_9 ?_
  refine gs_callS (As := [.ref (E.2.2.1 2), .int 0]) k (c_J7_fill_53178 (k0 := 2) (n := 36) (hI 2 (by omega) (by omega)) (fun _ => rfl) (by decide)) cf_J7_fill_53178 sm_J7_fill_53178 ml_X5_48 (by decide) rfl rfl (Nat.le_of_ble_eq_true rfl) dX5_startAnew_10 (ppV ?_)
  refine gs_aload_n (q := 0) k rfl rfl dX5_startAnew_13 ?_
  refine gs_get (C := RX5) (T := TX5) (N := 9) (ci := 5) (k0 := 1) (j := 2) k (hI 1 (by omega) (by omega)) rfl rfl inX5 (by decide) fl_X5_15 rfl rfl dX5_startAnew_14 ?_
  refine gs_iconst (v := 0) k (by decide) dX5_startAnew_17 ?_
  refine gs_callS (As := [.ref (E.2.2.1 3), .int 0]) k (c_J7_fill_53178 (k0 := 3) (n := 8) (hI 3 (by omega) (by omega)) (fun _ => rfl) (by decide)) cf_J7_fill_53178 sm_J7_fill_53178 ml_X5_48 (by decide) rfl rfl (Nat.le_of_ble_eq_true rfl) dX5_startAnew_18 (ppV ?_)
  refine gs_aload_n (q := 0) k rfl rfl dX5_startAnew_21 ?_
  refine gs_get (C := RX5) (T := TX5) (N := 9) (ci := 5) (k0 := 1) (j := 3) k (hI 1 (by omega) (by omega)) rfl rfl inX5 (by decide) fl_X5_18 rfl rfl dX5_startAnew_22 ?_
  refine gs_iconst (v := 0) k (by decide) dX5_startAnew_25 ?_
  refine gs_callS (As := [.ref (E.2.2.1 4), .int 0]) k (c_J7_fill_53178 (k0 := 4) (n := 8) (hI 4 (by omega) (by omega)) (fun _ => rfl) (by decide)) cf_J7_fill_53178 sm_J7_fill_53178 ml_X5_48 (by decide) rfl rfl (Nat.le_of_ble_eq_true rfl) dX5_startAnew_26 (ppV ?_)
  refine gs_aload_n (q := 0) k rfl rfl dX5_startAnew_29 ?_
  refine gs_get (C := RX5) (T := TX5) (N := 9) (ci := 5) (k0 := 1) (j := 4) k (hI 1 (by omega) (by omega)) rfl rfl inX5 (by decide) fl_X5_21 rfl rfl dX5_startAnew_30 ?_
  refine gs_iconst (v := 0) k (by decide) dX5_startAnew_33 ?_
  refine gs_callS (As := [.ref (E.2.2.1 5), .int 0]) k (c_J7_fill_53178 (k0 := 5) (n := 6) (hI 5 (by omega) (by omega)) (fun _ => rfl) (by decide)) cf_J7_fill_53178 sm_J7_fill_53178 ml_X5_48 (by decide) rfl rfl (Nat.le_of_ble_eq_true rfl) dX5_startAnew_34 (ppV ?_)
  refine gs_aload_n (q := 0) k rfl rfl dX5_startAnew_37 ?_
  refine gs_get (C := RX5) (T := TX5) (N := 9) (ci := 5) (k0 := 1) (j := 5) k (hI 1 (by omega) (by omega)) rfl rfl inX5 (by decide) fl_X5_24 rfl rfl dX5_startAnew_38 ?_
  refine gs_iconst (v := 1) k (by decide) dX5_startAnew_41 ?_
  refine gs_callS (As := [.ref (E.2.2.1 6), .int 1]) k (c_J7_fill_53178 (k0 := 6) (n := 6) (hI 6 (by omega) (by omega)) (fun _ => rfl) (by decide)) cf_J7_fill_53178 sm_J7_fill_53178 ml_X5_48 (by decide) rfl rfl (Nat.le_of_ble_eq_true rfl) dX5_startAnew_42 (ppV ?_)
  refine gs_aload_n (q := 0) k rfl rfl dX5_startAnew_45 ?_
  refine gs_get (C := RX5) (T := TX5) (N := 9) (ci := 5) (k0 := 1) (j := 6) k (hI 1 (by omega) (by omega)) rfl rfl inX5 (by decide) fl_X5_27 rfl rfl dX5_startAnew_46 ?_
  refine gs_iconst (v := 0) k (by decide) dX5_startAnew_49 ?_
  refine gs_callS (As := [.ref (E.2.2.1 7), .int 0]) k (c_J7_fill_53178 (k0 := 7) (n := 6) (hI 7 (by omega) (by omega)) (fun _ => rfl) (by decide)) cf_J7_fill_53178 sm_J7_fill_53178 ml_X5_48 (by decide) rfl rfl (Nat.le_of_ble_eq_true rfl) dX5_startAnew_50 (ppV ?_)
  refine gs_iconst (v := 0) k (by decide) dX5_startAnew_53 ?_
  refine gs_istore_n (lv' := [(2, .int 0), (0, .ref (E.2.2.1 1)), (1, .int x)]) k rfl (by decide) rfl dX5_startAnew_54 ?_
  refine gs_lv (lv' := [(0, .ref (E.2.2.1 1)), (1, .int x), (2, .int 0)]) [1, 2, 0] rfl ?_
  refine for_up (σ := Mm) (fun f m => G l E K 55 [(0, .ref (E.2.2.1 1)), (1, .int x), (2, .int (nI f))] [] m) (fun f m => van1 f m) 6 (fun f m hf hGf => ?_) 6 0 (rset (rset (rset (rset (rset (rset (mw M 1 0 (x)) 2 (setr 36 (fun _ => 0) ((mw M 1 0 (x)) 2))) 3 (setr 8 (fun _ => 0) ((rset (mw M 1 0 (x)) 2 (setr 36 (fun _ => 0) ((mw M 1 0 (x)) 2))) 3))) 4 (setr 8 (fun _ => 0) ((rset (rset (mw M 1 0 (x)) 2 (setr 36 (fun _ => 0) ((mw M 1 0 (x)) 2))) 3 (setr 8 (fun _ => 0) ((rset (mw M 1 0 (x)) 2 (setr 36 (fun _ => 0) ((mw M 1 0 (x)) 2))) 3))) 4))) 5 (setr 6 (fun _ => 0) ((rset (rset (rset (mw M 1 0 (x)) 2 (setr 36 (fun _ => 0) ((mw M 1 0 (x)) 2))) 3 (setr 8 (fun _ => 0) ((rset (mw M 1 0 (x)) 2 (setr 36 (fun _ => 0) ((mw M 1 0 (x)) 2))) 3))) 4 (setr 8 (fun _ => 0) ((rset (rset (mw M 1 0 (x)) 2 (setr 36 (fun _ => 0) ((mw M 1 0 (x)) 2))) 3 (setr 8 (fun _ => 0) ((rset (mw M 1 0 (x)) 2 (setr 36 (fun _ => 0) ((mw M 1 0 (x)) 2))) 3))) 4))) 5))) 6 (setr 6 (fun _ => 1) ((rset (rset (rset (rset (mw M 1 0 (x)) 2 (setr 36 (fun _ => 0) ((mw M 1 0 (x)) 2))) 3 (setr 8 (fun _ => 0) ((rset (mw M 1 0 (x)) 2 (setr 36 (fun _ => 0) ((mw M 1 0 (x)) 2))) 3))) 4 (setr 8 (fun _ => 0) ((rset (rset (mw M 1 0 (x)) 2 (setr 36 (fun _ => 0) ((mw M 1 0 (x)) 2))) 3 (setr 8 (fun _ => 0) ((rset (mw M 1 0 (x)) 2 (setr 36 (fun _ => 0) ((mw M 1 0 (x)) 2))) 3))) 4))) 5 (setr 6 (fun _ => 0) ((rset (rset (rset (mw M 1 0 (x)) 2 (setr 36 (fun _ => 0) ((mw M 1 0 (x)) 2))) 3 (setr 8 (fun _ => 0) ((rset (mw M 1 0 (x)) 2 (setr 36 (fun _ => 0) ((mw M 1 0 (x)) 2))) 3))) 4 (setr 8 (fun _ => 0) ((rset (rset (mw M 1 0 (x)) 2 (setr 36 (fun _ => 0) ((mw M 1 0 (x)) 2))) 3 (setr 8 (fun _ => 0) ((rset (mw M 1 0 (x)) 2 (setr 36 (fun _ => 0) ((mw M 1 0 (x)) 2))) 3))) 4))) 5))) 6))) 7 (setr 6 (fun _ => 0) ((rset (rset (rset (rset (rset (mw M 1 0 (x)) 2 (setr 36 (fun _ => 0) ((mw M 1 0 (x)) 2))) 3 (setr 8 (fun _ => 0) ((rset (mw M 1 0 (x)) 2 (setr 36 (fun _ => 0) ((mw M 1 0 (x)) 2))) 3))) 4 (setr 8 (fun _ => 0) ((rset (rset (mw M 1 0 (x)) 2 (setr 36 (fun _ => 0) ((mw M 1 0 (x)) 2))) 3 (setr 8 (fun _ => 0) ((rset (mw M 1 0 (x)) 2 (setr 36 (fun _ => 0) ((mw M 1 0 (x)) 2))) 3))) 4))) 5 (setr 6 (fun _ => 0) ((rset (rset (rset (mw M 1 0 (x)) 2 (setr 36 (fun _ => 0) ((mw M 1 0 (x)) 2))) 3 (setr 8 (fun _ => 0) ((rset (mw M 1 0 (x)) 2 (setr 36 (fun _ => 0) ((mw M 1 0 (x)) 2))) 3))) 4 (setr 8 (fun _ => 0) ((rset (rset (mw M 1 0 (x)) 2 (setr 36 (fun _ => 0) ((mw M 1 0 (x)) 2))) 3 (setr 8 (fun _ => 0) ((rset (mw M 1 0 (x)) 2 (setr 36 (fun _ => 0) ((mw M 1 0 (x)) 2))) 3))) 4))) 5))) 6 (setr 6 (fun _ => 1) ((rset (rset (rset (rset (mw M 1 0 (x)) 2 (setr 36 (fun _ => 0) ((mw M 1 0 (x)) 2))) 3 (setr 8 (fun _ => 0) ((rset (mw M 1 0 (x)) 2 (setr 36 (fun _ => 0) ((mw M 1 0 (x)) 2))) 3))) 4 (setr 8 (fun _ => 0) ((rset (rset (mw M 1 0 (x)) 2 (setr 36 (fun _ => 0) ((mw M 1 0 (x)) 2))) 3 (setr 8 (fun _ => 0) ((rset (mw M 1 0 (x)) 2 (setr 36 (fun _ => 0) ((mw M 1 0 (x)) 2))) 3))) 4))) 5 (setr 6 (fun _ => 0) ((rset (rset (rset (mw M 1 0 (x)) 2 (setr 36 (fun _ => 0) ((mw M 1 0 (x)) 2))) 3 (setr 8 (fun _ => 0) ((rset (mw M 1 0 (x)) 2 (setr 36 (fun _ => 0) ((mw M 1 0 (x)) 2))) 3))) 4 (setr 8 (fun _ => 0) ((rset (rset (mw M 1 0 (x)) 2 (setr 36 (fun _ => 0) ((mw M 1 0 (x)) 2))) 3 (setr 8 (fun _ => 0) ((rset (mw M 1 0 (x)) 2 (setr 36 (fun _ => 0) ((mw M 1 0 (x)) 2))) 3))) 4))) 5))) 6))) 7))) (by omega) ?_
  · show G l E K 55 [(0, .ref (E.2.2.1 1)), (1, .int x), (2, .int (nI f))] [] m
    refine gs_iload_n (q := 2) k rfl rfl dX5_startAnew_55 ?_
    refine gs_bipush (v := 6) k (by decide) dX5_startAnew_56 ?_
    refine gs_icmpN_ge (a := f) (b := 6) (tgt := 76) k rfl rfl (by omega) (by omega) (by decide) dX5_startAnew_58 (fun c1 => absurd c1 (by omega)) (fun c1 => ?_)
    refine gs_aload_n (q := 0) k rfl rfl dX5_startAnew_61 ?_
    refine gs_get (C := RX5) (T := TX5) (N := 9) (ci := 5) (k0 := 1) (j := 7) k (hI 1 (by omega) (by omega)) rfl rfl inX5 (by decide) fl_X5_32 rfl rfl dX5_startAnew_62 ?_
    refine gs_iload_n (q := 2) k rfl rfl dX5_startAnew_65 ?_
    refine gs_aaldSN (k0 := 8) (n := 6) (e := f) (a := E.2.2.1 (10 + 2 * f)) k (hI 8 (by omega) (by omega)) (fun _ => rfl) rfl (by omega) (by decide) rfl dX5_startAnew_66 ?_
    refine gs_callV (As := []) (k0 := (10 + 2 * f)) (ci := 3) (T := TX3) (N := 2) k (c_X3_vanish1 (by omega) hI) cf_X3_vanish im_X3_vanish sl_X3_vanish ml_X5_54 (hI (10 + 2 * f) (by omega) (by omega)) (ent_F1 (by omega) _) rfl (by decide) rfl rfl (Nat.le_of_ble_eq_true rfl) dX5_startAnew_67 (ppV ?_)
    refine gs_iincN (q := 2) (a := f) (c := 1) (lv' := [(2, .int (nI (f + 1))), (0, .ref (E.2.2.1 1)), (1, .int x)]) k rfl rfl (by decide) rfl dX5_startAnew_70 ?_
    refine gs_goto (tgt := 55) k (by decide) dX5_startAnew_73 ?_
    refine gs_lv (lv' := [(0, .ref (E.2.2.1 1)), (1, .int x), (2, .int (nI (f + 1)))]) [1, 2, 0] rfl ?_
    exact hGf _ rfl
  · show G l E K 55 [(0, .ref (E.2.2.1 1)), (1, .int x), (2, .int (nI 6))] [] (sta1 x M)
    refine gs_iload_n (q := 2) k rfl rfl dX5_startAnew_55 ?_
    refine gs_bipush (v := 6) k (by decide) dX5_startAnew_56 ?_
    refine gs_icmpN_ge (a := 6) (b := 6) (tgt := 76) k rfl rfl (by omega) (by omega) (by decide) dX5_startAnew_58 (fun c1 => ?_) (fun c1 => absurd c1 (by omega))
    exact gs_vret k kt dX5_startAnew_76 ⟨rfl, rfl⟩

def van22 (f : Nat) (M : Mm) : Mm := rset (mw M (31 + 2 * f) 0 (-1)) (32 + 2 * f) (setr 64 (fun _ => 0) (mw M (31 + 2 * f) 0 (-1) (32 + 2 * f)))
set_option maxRecDepth 100000 in
set_option maxHeartbeats 4000000 in
theorem c_X3_vanish22 {l : Launch} {E : Ev} {M : Mm} {f : Nat} (hf : f < 6) (hI : ∀ k, 22 ≤ k → k < 43 → k ∈ E.2.1) : Cm l E yX3_vanish cX3_vanish 1 none 1 [.ref (E.2.2.1 (31 + 2 * f))] M (pV (van22 f M)) := by
  refine Cm.of (by decide) (Nat.le_of_ble_eq_true rfl) (fun K k kt => ?_)
  show G l E K 0 [(0, .ref (E.2.2.1 (31 + 2 * f)))] [] M
  refine gs_aload_n (q := 0) k rfl rfl dX3_vanish_0 ?_
  refine gs_iconst (v := -1) k (by decide) dX3_vanish_1 ?_
  refine gs_put (C := RX3) (T := TX3) (N := 2) (ci := 3) (k0 := (31 + 2 * f)) (j := 0) (ty := .int) k (hI (31 + 2 * f) (by omega) (by omega)) (ent_F22 hf _) (ent_F22 hf _) rfl inX3 tyX3 tyX3_ok nmX3 (by decide) fl_X3_9 rfl rfl (tyX3_ok 0 (by decide)) rfl rfl (Nat.le_of_ble_eq_true rfl) dX3_vanish_2 ?_
  refine gs_aload_n (q := 0) k rfl rfl dX3_vanish_5 ?_
  refine gs_get (C := RX3) (T := TX3) (N := 2) (ci := 3) (k0 := (31 + 2 * f)) (j := 1) k (hI (31 + 2 * f) (by omega) (by omega)) (ent_F22 hf _) rfl inX3 (by decide) fl_X3_15 rfl rfl dX3_vanish_6 ?_
  refine gs_iconst (v := 0) k (by decide) dX3_vanish_9 ?_
  refine gs_callS (As := [.ref (E.2.2.1 (32 + 2 * f)), .int 0]) k (c_J7_fill_53178 (k0 := (32 + 2 * f)) (n := 64) (hI (32 + 2 * f) (by omega) (by omega)) (ent_V22 hf) (by decide)) cf_J7_fill_53178 sm_J7_fill_53178 ml_X3_19 (by decide) rfl rfl (Nat.le_of_ble_eq_true rfl) dX3_vanish_10 (ppV ?_)
  exact gs_vret k kt dX3_vanish_13 ⟨rfl, rfl⟩

def sta22 (x : Int32) (M : Mm) : Mm := lp (fun f m => van22 f m) 6 0 (rset (rset (rset (rset (rset (rset (mw M 22 0 x) 23 (setr 36 (fun _ => 0) ((mw M 22 0 x) 23))) 24 (setr 8 (fun _ => 0) ((rset (mw M 22 0 x) 23 (setr 36 (fun _ => 0) ((mw M 22 0 x) 23))) 24))) 25 (setr 8 (fun _ => 0) ((rset (rset (mw M 22 0 x) 23 (setr 36 (fun _ => 0) ((mw M 22 0 x) 23))) 24 (setr 8 (fun _ => 0) ((rset (mw M 22 0 x) 23 (setr 36 (fun _ => 0) ((mw M 22 0 x) 23))) 24))) 25))) 26 (setr 6 (fun _ => 0) ((rset (rset (rset (mw M 22 0 x) 23 (setr 36 (fun _ => 0) ((mw M 22 0 x) 23))) 24 (setr 8 (fun _ => 0) ((rset (mw M 22 0 x) 23 (setr 36 (fun _ => 0) ((mw M 22 0 x) 23))) 24))) 25 (setr 8 (fun _ => 0) ((rset (rset (mw M 22 0 x) 23 (setr 36 (fun _ => 0) ((mw M 22 0 x) 23))) 24 (setr 8 (fun _ => 0) ((rset (mw M 22 0 x) 23 (setr 36 (fun _ => 0) ((mw M 22 0 x) 23))) 24))) 25))) 26))) 27 (setr 6 (fun _ => 1) ((rset (rset (rset (rset (mw M 22 0 x) 23 (setr 36 (fun _ => 0) ((mw M 22 0 x) 23))) 24 (setr 8 (fun _ => 0) ((rset (mw M 22 0 x) 23 (setr 36 (fun _ => 0) ((mw M 22 0 x) 23))) 24))) 25 (setr 8 (fun _ => 0) ((rset (rset (mw M 22 0 x) 23 (setr 36 (fun _ => 0) ((mw M 22 0 x) 23))) 24 (setr 8 (fun _ => 0) ((rset (mw M 22 0 x) 23 (setr 36 (fun _ => 0) ((mw M 22 0 x) 23))) 24))) 25))) 26 (setr 6 (fun _ => 0) ((rset (rset (rset (mw M 22 0 x) 23 (setr 36 (fun _ => 0) ((mw M 22 0 x) 23))) 24 (setr 8 (fun _ => 0) ((rset (mw M 22 0 x) 23 (setr 36 (fun _ => 0) ((mw M 22 0 x) 23))) 24))) 25 (setr 8 (fun _ => 0) ((rset (rset (mw M 22 0 x) 23 (setr 36 (fun _ => 0) ((mw M 22 0 x) 23))) 24 (setr 8 (fun _ => 0) ((rset (mw M 22 0 x) 23 (setr 36 (fun _ => 0) ((mw M 22 0 x) 23))) 24))) 25))) 26))) 27))) 28 (setr 6 (fun _ => 0) ((rset (rset (rset (rset (rset (mw M 22 0 x) 23 (setr 36 (fun _ => 0) ((mw M 22 0 x) 23))) 24 (setr 8 (fun _ => 0) ((rset (mw M 22 0 x) 23 (setr 36 (fun _ => 0) ((mw M 22 0 x) 23))) 24))) 25 (setr 8 (fun _ => 0) ((rset (rset (mw M 22 0 x) 23 (setr 36 (fun _ => 0) ((mw M 22 0 x) 23))) 24 (setr 8 (fun _ => 0) ((rset (mw M 22 0 x) 23 (setr 36 (fun _ => 0) ((mw M 22 0 x) 23))) 24))) 25))) 26 (setr 6 (fun _ => 0) ((rset (rset (rset (mw M 22 0 x) 23 (setr 36 (fun _ => 0) ((mw M 22 0 x) 23))) 24 (setr 8 (fun _ => 0) ((rset (mw M 22 0 x) 23 (setr 36 (fun _ => 0) ((mw M 22 0 x) 23))) 24))) 25 (setr 8 (fun _ => 0) ((rset (rset (mw M 22 0 x) 23 (setr 36 (fun _ => 0) ((mw M 22 0 x) 23))) 24 (setr 8 (fun _ => 0) ((rset (mw M 22 0 x) 23 (setr 36 (fun _ => 0) ((mw M 22 0 x) 23))) 24))) 25))) 26))) 27 (setr 6 (fun _ => 1) ((rset (rset (rset (rset (mw M 22 0 x) 23 (setr 36 (fun _ => 0) ((mw M 22 0 x) 23))) 24 (setr 8 (fun _ => 0) ((rset (mw M 22 0 x) 23 (setr 36 (fun _ => 0) ((mw M 22 0 x) 23))) 24))) 25 (setr 8 (fun _ => 0) ((rset (rset (mw M 22 0 x) 23 (setr 36 (fun _ => 0) ((mw M 22 0 x) 23))) 24 (setr 8 (fun _ => 0) ((rset (mw M 22 0 x) 23 (setr 36 (fun _ => 0) ((mw M 22 0 x) 23))) 24))) 25))) 26 (setr 6 (fun _ => 0) ((rset (rset (rset (mw M 22 0 x) 23 (setr 36 (fun _ => 0) ((mw M 22 0 x) 23))) 24 (setr 8 (fun _ => 0) ((rset (mw M 22 0 x) 23 (setr 36 (fun _ => 0) ((mw M 22 0 x) 23))) 24))) 25 (setr 8 (fun _ => 0) ((rset (rset (mw M 22 0 x) 23 (setr 36 (fun _ => 0) ((mw M 22 0 x) 23))) 24 (setr 8 (fun _ => 0) ((rset (mw M 22 0 x) 23 (setr 36 (fun _ => 0) ((mw M 22 0 x) 23))) 24))) 25))) 26))) 27))) 28)))
set_option maxRecDepth 100000 in
set_option maxHeartbeats 4000000 in
theorem c_X5_startAnew22 {l : Launch} {E : Ev} {M : Mm} {x : Int32} (hI : ∀ k, 22 ≤ k → k < 43 → k ∈ E.2.1) : Cm l E yX5_startAnew cX5_startAnew 3 none 2 [.ref (E.2.2.1 22), .int x] M (pV (sta22 x M)) := by
  refine Cm.of (by decide) (Nat.le_of_ble_eq_true rfl) (fun K k kt => ?_)
  show G l E K 0 [(0, .ref (E.2.2.1 22)), (1, .int x)] [] M
  refine gs_aload_n (q := 0) k rfl rfl dX5_startAnew_0 ?_
  refine gs_iload_n (q := 1) k rfl rfl dX5_startAnew_1 ?_
  refine gs_put (C := RX5) (T := TX5) (N := 9) (ci := 5) (k0 := 22) (j := 0) (ty := .int) k (hI 22 (by omega) (by omega)) rfl rfl rfl inX5 tyX5 tyX5_ok nmX5 (by decide) fl_X5_44 rfl rfl (tyX5_ok 0 (by decide)) rfl rfl (Nat.le_of_ble_eq_true rfl) dX5_startAnew_2 ?_
  refine gs_aload_n (q := 0) k rfl rfl dX5_startAnew_5 ?_
  refine gs_get (C := RX5) (T := TX5) (N := 9) (ci := 5) (k0 := 22) (j := 1) k (hI 22 (by omega) (by omega)) rfl rfl inX5 (by decide) fl_X5_9 rfl rfl dX5_startAnew_6 ?_
  refine gs_iconst (v := 0) k (by decide) dX5_startAnew_9 ?_
  refine gs_callS (As := [.ref (E.2.2.1 23), .int 0]) k (c_J7_fill_53178 (k0 := 23) (n := 36) (hI 23 (by omega) (by omega)) (fun _ => rfl) (by decide)) cf_J7_fill_53178 sm_J7_fill_53178 ml_X5_48 (by decide) rfl rfl (Nat.le_of_ble_eq_true rfl) dX5_startAnew_10 (ppV ?_)
  refine gs_aload_n (q := 0) k rfl rfl dX5_startAnew_13 ?_
  refine gs_get (C := RX5) (T := TX5) (N := 9) (ci := 5) (k0 := 22) (j := 2) k (hI 22 (by omega) (by omega)) rfl rfl inX5 (by decide) fl_X5_15 rfl rfl dX5_startAnew_14 ?_
  refine gs_iconst (v := 0) k (by decide) dX5_startAnew_17 ?_
  refine gs_callS (As := [.ref (E.2.2.1 24), .int 0]) k (c_J7_fill_53178 (k0 := 24) (n := 8) (hI 24 (by omega) (by omega)) (fun _ => rfl) (by decide)) cf_J7_fill_53178 sm_J7_fill_53178 ml_X5_48 (by decide) rfl rfl (Nat.le_of_ble_eq_true rfl) dX5_startAnew_18 (ppV ?_)
  refine gs_aload_n (q := 0) k rfl rfl dX5_startAnew_21 ?_
  refine gs_get (C := RX5) (T := TX5) (N := 9) (ci := 5) (k0 := 22) (j := 3) k (hI 22 (by omega) (by omega)) rfl rfl inX5 (by decide) fl_X5_18 rfl rfl dX5_startAnew_22 ?_
  refine gs_iconst (v := 0) k (by decide) dX5_startAnew_25 ?_
  refine gs_callS (As := [.ref (E.2.2.1 25), .int 0]) k (c_J7_fill_53178 (k0 := 25) (n := 8) (hI 25 (by omega) (by omega)) (fun _ => rfl) (by decide)) cf_J7_fill_53178 sm_J7_fill_53178 ml_X5_48 (by decide) rfl rfl (Nat.le_of_ble_eq_true rfl) dX5_startAnew_26 (ppV ?_)
  refine gs_aload_n (q := 0) k rfl rfl dX5_startAnew_29 ?_
  refine gs_get (C := RX5) (T := TX5) (N := 9) (ci := 5) (k0 := 22) (j := 4) k (hI 22 (by omega) (by omega)) rfl rfl inX5 (by decide) fl_X5_21 rfl rfl dX5_startAnew_30 ?_
  refine gs_iconst (v := 0) k (by decide) dX5_startAnew_33 ?_
  refine gs_callS (As := [.ref (E.2.2.1 26), .int 0]) k (c_J7_fill_53178 (k0 := 26) (n := 6) (hI 26 (by omega) (by omega)) (fun _ => rfl) (by decide)) cf_J7_fill_53178 sm_J7_fill_53178 ml_X5_48 (by decide) rfl rfl (Nat.le_of_ble_eq_true rfl) dX5_startAnew_34 (ppV ?_)
  refine gs_aload_n (q := 0) k rfl rfl dX5_startAnew_37 ?_
  refine gs_get (C := RX5) (T := TX5) (N := 9) (ci := 5) (k0 := 22) (j := 5) k (hI 22 (by omega) (by omega)) rfl rfl inX5 (by decide) fl_X5_24 rfl rfl dX5_startAnew_38 ?_
  refine gs_iconst (v := 1) k (by decide) dX5_startAnew_41 ?_
  refine gs_callS (As := [.ref (E.2.2.1 27), .int 1]) k (c_J7_fill_53178 (k0 := 27) (n := 6) (hI 27 (by omega) (by omega)) (fun _ => rfl) (by decide)) cf_J7_fill_53178 sm_J7_fill_53178 ml_X5_48 (by decide) rfl rfl (Nat.le_of_ble_eq_true rfl) dX5_startAnew_42 (ppV ?_)
  refine gs_aload_n (q := 0) k rfl rfl dX5_startAnew_45 ?_
  refine gs_get (C := RX5) (T := TX5) (N := 9) (ci := 5) (k0 := 22) (j := 6) k (hI 22 (by omega) (by omega)) rfl rfl inX5 (by decide) fl_X5_27 rfl rfl dX5_startAnew_46 ?_
  refine gs_iconst (v := 0) k (by decide) dX5_startAnew_49 ?_
  refine gs_callS (As := [.ref (E.2.2.1 28), .int 0]) k (c_J7_fill_53178 (k0 := 28) (n := 6) (hI 28 (by omega) (by omega)) (fun _ => rfl) (by decide)) cf_J7_fill_53178 sm_J7_fill_53178 ml_X5_48 (by decide) rfl rfl (Nat.le_of_ble_eq_true rfl) dX5_startAnew_50 (ppV ?_)
  refine gs_iconst (v := 0) k (by decide) dX5_startAnew_53 ?_
  refine gs_istore_n (lv' := [(2, .int 0), (0, .ref (E.2.2.1 22)), (1, .int x)]) k rfl (by decide) rfl dX5_startAnew_54 ?_
  refine gs_lv (lv' := [(0, .ref (E.2.2.1 22)), (1, .int x), (2, .int 0)]) [1, 2, 0] rfl ?_
  refine for_up (σ := Mm) (fun f m => G l E K 55 [(0, .ref (E.2.2.1 22)), (1, .int x), (2, .int (nI f))] [] m) (fun f m => van22 f m) 6 (fun f m hf hGf => ?_) 6 0 (rset (rset (rset (rset (rset (rset (mw M 22 0 (x)) 23 (setr 36 (fun _ => 0) ((mw M 22 0 (x)) 23))) 24 (setr 8 (fun _ => 0) ((rset (mw M 22 0 (x)) 23 (setr 36 (fun _ => 0) ((mw M 22 0 (x)) 23))) 24))) 25 (setr 8 (fun _ => 0) ((rset (rset (mw M 22 0 (x)) 23 (setr 36 (fun _ => 0) ((mw M 22 0 (x)) 23))) 24 (setr 8 (fun _ => 0) ((rset (mw M 22 0 (x)) 23 (setr 36 (fun _ => 0) ((mw M 22 0 (x)) 23))) 24))) 25))) 26 (setr 6 (fun _ => 0) ((rset (rset (rset (mw M 22 0 (x)) 23 (setr 36 (fun _ => 0) ((mw M 22 0 (x)) 23))) 24 (setr 8 (fun _ => 0) ((rset (mw M 22 0 (x)) 23 (setr 36 (fun _ => 0) ((mw M 22 0 (x)) 23))) 24))) 25 (setr 8 (fun _ => 0) ((rset (rset (mw M 22 0 (x)) 23 (setr 36 (fun _ => 0) ((mw M 22 0 (x)) 23))) 24 (setr 8 (fun _ => 0) ((rset (mw M 22 0 (x)) 23 (setr 36 (fun _ => 0) ((mw M 22 0 (x)) 23))) 24))) 25))) 26))) 27 (setr 6 (fun _ => 1) ((rset (rset (rset (rset (mw M 22 0 (x)) 23 (setr 36 (fun _ => 0) ((mw M 22 0 (x)) 23))) 24 (setr 8 (fun _ => 0) ((rset (mw M 22 0 (x)) 23 (setr 36 (fun _ => 0) ((mw M 22 0 (x)) 23))) 24))) 25 (setr 8 (fun _ => 0) ((rset (rset (mw M 22 0 (x)) 23 (setr 36 (fun _ => 0) ((mw M 22 0 (x)) 23))) 24 (setr 8 (fun _ => 0) ((rset (mw M 22 0 (x)) 23 (setr 36 (fun _ => 0) ((mw M 22 0 (x)) 23))) 24))) 25))) 26 (setr 6 (fun _ => 0) ((rset (rset (rset (mw M 22 0 (x)) 23 (setr 36 (fun _ => 0) ((mw M 22 0 (x)) 23))) 24 (setr 8 (fun _ => 0) ((rset (mw M 22 0 (x)) 23 (setr 36 (fun _ => 0) ((mw M 22 0 (x)) 23))) 24))) 25 (setr 8 (fun _ => 0) ((rset (rset (mw M 22 0 (x)) 23 (setr 36 (fun _ => 0) ((mw M 22 0 (x)) 23))) 24 (setr 8 (fun _ => 0) ((rset (mw M 22 0 (x)) 23 (setr 36 (fun _ => 0) ((mw M 22 0 (x)) 23))) 24))) 25))) 26))) 27))) 28 (setr 6 (fun _ => 0) ((rset (rset (rset (rset (rset (mw M 22 0 (x)) 23 (setr 36 (fun _ => 0) ((mw M 22 0 (x)) 23))) 24 (setr 8 (fun _ => 0) ((rset (mw M 22 0 (x)) 23 (setr 36 (fun _ => 0) ((mw M 22 0 (x)) 23))) 24))) 25 (setr 8 (fun _ => 0) ((rset (rset (mw M 22 0 (x)) 23 (setr 36 (fun _ => 0) ((mw M 22 0 (x)) 23))) 24 (setr 8 (fun _ => 0) ((rset (mw M 22 0 (x)) 23 (setr 36 (fun _ => 0) ((mw M 22 0 (x)) 23))) 24))) 25))) 26 (setr 6 (fun _ => 0) ((rset (rset (rset (mw M 22 0 (x)) 23 (setr 36 (fun _ => 0) ((mw M 22 0 (x)) 23))) 24 (setr 8 (fun _ => 0) ((rset (mw M 22 0 (x)) 23 (setr 36 (fun _ => 0) ((mw M 22 0 (x)) 23))) 24))) 25 (setr 8 (fun _ => 0) ((rset (rset (mw M 22 0 (x)) 23 (setr 36 (fun _ => 0) ((mw M 22 0 (x)) 23))) 24 (setr 8 (fun _ => 0) ((rset (mw M 22 0 (x)) 23 (setr 36 (fun _ => 0) ((mw M 22 0 (x)) 23))) 24))) 25))) 26))) 27 (setr 6 (fun _ => 1) ((rset (rset (rset (rset (mw M 22 0 (x)) 23 (setr 36 (fun _ => 0) ((mw M 22 0 (x)) 23))) 24 (setr 8 (fun _ => 0) ((rset (mw M 22 0 (x)) 23 (setr 36 (fun _ => 0) ((mw M 22 0 (x)) 23))) 24))) 25 (setr 8 (fun _ => 0) ((rset (rset (mw M 22 0 (x)) 23 (setr 36 (fun _ => 0) ((mw M 22 0 (x)) 23))) 24 (setr 8 (fun _ => 0) ((rset (mw M 22 0 (x)) 23 (setr 36 (fun _ => 0) ((mw M 22 0 (x)) 23))) 24))) 25))) 26 (setr 6 (fun _ => 0) ((rset (rset (rset (mw M 22 0 (x)) 23 (setr 36 (fun _ => 0) ((mw M 22 0 (x)) 23))) 24 (setr 8 (fun _ => 0) ((rset (mw M 22 0 (x)) 23 (setr 36 (fun _ => 0) ((mw M 22 0 (x)) 23))) 24))) 25 (setr 8 (fun _ => 0) ((rset (rset (mw M 22 0 (x)) 23 (setr 36 (fun _ => 0) ((mw M 22 0 (x)) 23))) 24 (setr 8 (fun _ => 0) ((rset (mw M 22 0 (x)) 23 (setr 36 (fun _ => 0) ((mw M 22 0 (x)) 23))) 24))) 25))) 26))) 27))) 28))) (by omega) ?_
  · show G l E K 55 [(0, .ref (E.2.2.1 22)), (1, .int x), (2, .int (nI f))] [] m
    refine gs_iload_n (q := 2) k rfl rfl dX5_startAnew_55 ?_
    refine gs_bipush (v := 6) k (by decide) dX5_startAnew_56 ?_
    refine gs_icmpN_ge (a := f) (b := 6) (tgt := 76) k rfl rfl (by omega) (by omega) (by decide) dX5_startAnew_58 (fun c1 => absurd c1 (by omega)) (fun c1 => ?_)
    refine gs_aload_n (q := 0) k rfl rfl dX5_startAnew_61 ?_
    refine gs_get (C := RX5) (T := TX5) (N := 9) (ci := 5) (k0 := 22) (j := 7) k (hI 22 (by omega) (by omega)) rfl rfl inX5 (by decide) fl_X5_32 rfl rfl dX5_startAnew_62 ?_
    refine gs_iload_n (q := 2) k rfl rfl dX5_startAnew_65 ?_
    refine gs_aaldSN (k0 := 29) (n := 6) (e := f) (a := E.2.2.1 (31 + 2 * f)) k (hI 29 (by omega) (by omega)) (fun _ => rfl) rfl (by omega) (by decide) rfl dX5_startAnew_66 ?_
    refine gs_callV (As := []) (k0 := (31 + 2 * f)) (ci := 3) (T := TX3) (N := 2) k (c_X3_vanish22 (by omega) hI) cf_X3_vanish im_X3_vanish sl_X3_vanish ml_X5_54 (hI (31 + 2 * f) (by omega) (by omega)) (ent_F22 (by omega) _) rfl (by decide) rfl rfl (Nat.le_of_ble_eq_true rfl) dX5_startAnew_67 (ppV ?_)
    refine gs_iincN (q := 2) (a := f) (c := 1) (lv' := [(2, .int (nI (f + 1))), (0, .ref (E.2.2.1 22)), (1, .int x)]) k rfl rfl (by decide) rfl dX5_startAnew_70 ?_
    refine gs_goto (tgt := 55) k (by decide) dX5_startAnew_73 ?_
    refine gs_lv (lv' := [(0, .ref (E.2.2.1 22)), (1, .int x), (2, .int (nI (f + 1)))]) [1, 2, 0] rfl ?_
    exact hGf _ rfl
  · show G l E K 55 [(0, .ref (E.2.2.1 22)), (1, .int x), (2, .int (nI 6))] [] (sta22 x M)
    refine gs_iload_n (q := 2) k rfl rfl dX5_startAnew_55 ?_
    refine gs_bipush (v := 6) k (by decide) dX5_startAnew_56 ?_
    refine gs_icmpN_ge (a := 6) (b := 6) (tgt := 76) k rfl rfl (by omega) (by omega) (by decide) dX5_startAnew_58 (fun c1 => ?_) (fun c1 => absurd c1 (by omega))
    exact gs_vret k kt dX5_startAnew_76 ⟨rfl, rfl⟩

noncomputable def A_points (n : Nat) (x : Int32) : Int32 := ifc (isB 1 6 x) (nI n) (-2)
theorem cf_X6_points : CF yX6_points cX6_points 3 (some .int) 1 := ⟨cd_X6_points, iz_X6, by decide, by decide +kernel, by decide +kernel, by decide +kernel⟩
set_option maxRecDepth 100000 in
set_option maxHeartbeats 4000000 in
theorem c_X6_points {l : Launch} {E : Ev} {M : Mm} {n : Nat} (hI : ∀ k, k < 108 → k ∈ E.2.1) (hn : Cn M n) {x : Int32} : Cm l E yX6_points cX6_points 3 (some .int) 3 [.ref (E.2.2.1 0), .int x] M (pI (A_points n x) (ifc (isB 1 6 x) (sta1 x M) M)) := by
  refine Cm.of (by decide) (Nat.le_of_ble_eq_true rfl) (fun K k kt => ?_)
  show G l E K 0 [(0, .ref (E.2.2.1 0)), (1, .int x)] [] M
  obtain ⟨hn0, hn1, hn6⟩ := hn
  refine gs_iload_n (q := 1) k rfl rfl dX6_points_0 ?_
  refine gs_iconst (v := 1) k (by decide) dX6_points_1 ?_
  refine gs_icmp_lt (tgt := 11) k (by decide) dX6_points_2 (fun c1 => ?_) (fun c1 => ?_)
  · have ec1 : ¬ isB (1) 6 x := fun h => h.1 c1
    refine gs_bipush (v := -2) k (by decide) dX6_points_11 ?_
    exact gs_iret k kt dX6_points_13 ⟨(by simp [-Int32.not_lt, A_points, ifc_T, ifc_F, c1, ec1, hn0]), (by simp [-Int32.not_lt, A_points, ifc_T, ifc_F, c1, ec1, hn0])⟩
  · refine gs_iload_n (q := 1) k rfl rfl dX6_points_5 ?_
    refine gs_bipush (v := 6) k (by decide) dX6_points_6 ?_
    refine gs_icmp_le (tgt := 14) k (by decide) dX6_points_8 (fun c2 => ?_) (fun c2 => ?_)
    · have ec2 : isB (1) 6 x := ⟨c1, Int32.not_lt.mpr c2⟩
      refine gs_aload_n (q := 0) k rfl rfl dX6_points_14 ?_
      refine gs_get (C := RX6) (T := TX6) (N := 10) (ci := 6) (k0 := 0) (j := 0) k (hI 0 (by omega)) rfl rfl inX6 (by decide) fl_X6_12 rfl rfl dX6_points_15 ?_
      refine gs_get (C := RX5) (T := TX5) (N := 9) (ci := 5) (k0 := 1) (j := 0) k (hI 1 (by omega)) rfl rfl inX5 (by decide) fl_X6_63 rfl rfl dX6_points_18 ?_
      refine gs_istore_n (lv' := [(2, .int (M 1 0)), (0, .ref (E.2.2.1 0)), (1, .int x)]) k rfl (by decide) rfl dX6_points_21 ?_
      refine gs_aload_n (q := 1) k rfl rfl dX6_points_22 ?_
      refine gs_get (C := RX6) (T := TX6) (N := 10) (ci := 6) (k0 := 0) (j := 0) k (hI 0 (by omega)) rfl rfl inX6 (by decide) fl_X6_12 rfl rfl dX6_points_23 ?_
      refine gs_iload_n (q := 2) k rfl rfl dX6_points_26 ?_
      refine gs_callV (As := [.int x]) (k0 := 1) (ci := 5) (T := TX5) (N := 9) k (c_X5_startAnew1 (fun k h1 h2 => hI k (by omega))) cf_X5_startAnew im_X5_startAnew sl_X5_startAnew ml_X6_67 (hI 1 (by omega)) rfl rfl (by decide) rfl rfl (Nat.le_of_ble_eq_true rfl) dX6_points_27 (ppV ?_)
      refine gs_iload_n (q := 0) k rfl rfl dX6_points_30 ?_
      exact gs_iret k kt dX6_points_31 ⟨(by simp [-Int32.not_lt, A_points, ifc_T, ifc_F, c1, c2, ec2, hn0]), (by simp [-Int32.not_lt, A_points, ifc_T, ifc_F, c1, c2, ec2, hn0])⟩
    · have ec2 : ¬ isB (1) 6 x := fun h => h.2 (Int32.not_le.mp c2)
      refine gs_bipush (v := -2) k (by decide) dX6_points_11 ?_
      exact gs_iret k kt dX6_points_13 ⟨(by simp [-Int32.not_lt, A_points, ifc_T, ifc_F, c1, c2, ec2, hn0]), (by simp [-Int32.not_lt, A_points, ifc_T, ifc_F, c1, c2, ec2, hn0])⟩

def emp1 (M : Mm) : Mm := lp (fun j m => mw m 66 j 0) 36 0 M
def emp2 (M : Mm) : Mm := lp (fun j m => mw (mw m 67 j 0) 68 j 0) 8 0 M
def emp3 (M : Mm) : Mm := lp (fun j m => mw (mw (mw m 69 j 0) 71 j 0) 70 j 1) 6 0 M
def emp4 (M : Mm) : Mm := lp (fun j m => mw m 72 j (-1)) 6 0 M
def emp (M : Mm) : Mm := emp4 (emp3 (emp2 (emp1 M)))
theorem cf_X7_empties : CF yX7_empties cX7_empties 2 none 0 := ⟨cd_X7_empties, iz_X7, by decide, by decide +kernel, by decide +kernel, by decide +kernel⟩
set_option maxRecDepth 100000 in
set_option maxHeartbeats 4000000 in
theorem c_X7_empties {l : Launch} {E : Ev} {M : Mm} (hI : ∀ k, k < 108 → k ∈ E.2.1) : Cm l E yX7_empties cX7_empties 2 none 0 [.ref (E.2.2.1 65)] M (pV (emp M)) := by
  refine Cm.of (by decide) (Nat.le_of_ble_eq_true rfl) (fun K k kt => ?_)
  show G l E K 0 [(0, .ref (E.2.2.1 65))] [] M
  refine gs_iconst (v := 0) k (by decide) dX7_empties_0 ?_
  refine gs_istore_n (lv' := [(1, .int 0), (0, .ref (E.2.2.1 65))]) k rfl (by decide) rfl dX7_empties_1 ?_
  refine gs_lv (lv' := [(0, .ref (E.2.2.1 65)), (1, .int 0)]) [1, 0] rfl ?_
  refine for_up (σ := Mm) (fun j m => G l E K 2 [(0, .ref (E.2.2.1 65)), (1, .int (nI j))] [] m) (fun j m => mw m 66 j 0) 36 (fun j m hj hGj => ?_) 36 0 M (by omega) ?_
  · show G l E K 2 [(0, .ref (E.2.2.1 65)), (1, .int (nI j))] [] m
    refine gs_iload_n (q := 1) k rfl rfl dX7_empties_2 ?_
    refine gs_bipush (v := 36) k (by decide) dX7_empties_3 ?_
    refine gs_icmpN_ge (a := j) (b := 36) (tgt := 21) k rfl rfl (by omega) (by omega) (by decide) dX7_empties_5 (fun c1 => absurd c1 (by omega)) (fun c1 => ?_)
    refine gs_aload_n (q := 0) k rfl rfl dX7_empties_8 ?_
    refine gs_get (C := RX7) (T := TX7) (N := 27) (ci := 7) (k0 := 65) (j := 1) k (hI 65 (by omega)) rfl rfl inX7 (by decide) fl_X7_15 rfl rfl dX7_empties_9 ?_
    refine gs_iload_n (q := 1) k rfl rfl dX7_empties_12 ?_
    refine gs_iconst (v := 0) k (by decide) dX7_empties_13 ?_
    refine gs_iastN (k0 := 66) (n := 36) (e := j) k (hI 66 (by omega)) (fun _ => rfl) rfl (by omega) (by decide) dX7_empties_14 ?_
    refine gs_iincN (q := 1) (a := j) (c := 1) (lv' := [(1, .int (nI (j + 1))), (0, .ref (E.2.2.1 65))]) k rfl rfl (by decide) rfl dX7_empties_15 ?_
    refine gs_goto (tgt := 2) k (by decide) dX7_empties_18 ?_
    refine gs_lv (lv' := [(0, .ref (E.2.2.1 65)), (1, .int (nI (j + 1)))]) [1, 0] rfl ?_
    exact hGj _ rfl
  · show G l E K 2 [(0, .ref (E.2.2.1 65)), (1, .int (nI 36))] [] (emp1 M)
    refine gs_iload_n (q := 1) k rfl rfl dX7_empties_2 ?_
    refine gs_bipush (v := 36) k (by decide) dX7_empties_3 ?_
    refine gs_icmpN_ge (a := 36) (b := 36) (tgt := 21) k rfl rfl (by omega) (by omega) (by decide) dX7_empties_5 (fun c1 => ?_) (fun c1 => absurd c1 (by omega))
    refine gs_iconst (v := 0) k (by decide) dX7_empties_21 ?_
    refine gs_istore_n (lv' := [(1, .int 0), (0, .ref (E.2.2.1 65))]) k rfl (by decide) rfl dX7_empties_22 ?_
    refine gs_lv (lv' := [(0, .ref (E.2.2.1 65)), (1, .int 0)]) [1, 0] rfl ?_
    refine for_up (σ := Mm) (fun j m => G l E K 23 [(0, .ref (E.2.2.1 65)), (1, .int (nI j))] [] m) (fun j m => mw (mw m 67 j 0) 68 j 0) 8 (fun j m hj hGj => ?_) 8 0 (emp1 M) (by omega) ?_
    · show G l E K 23 [(0, .ref (E.2.2.1 65)), (1, .int (nI j))] [] m
      refine gs_iload_n (q := 1) k rfl rfl dX7_empties_23 ?_
      refine gs_bipush (v := 8) k (by decide) dX7_empties_24 ?_
      refine gs_icmpN_ge (a := j) (b := 8) (tgt := 49) k rfl rfl (by omega) (by omega) (by decide) dX7_empties_26 (fun c2 => absurd c2 (by omega)) (fun c2 => ?_)
      refine gs_aload_n (q := 0) k rfl rfl dX7_empties_29 ?_
      refine gs_get (C := RX7) (T := TX7) (N := 27) (ci := 7) (k0 := 65) (j := 2) k (hI 65 (by omega)) rfl rfl inX7 (by decide) fl_X7_19 rfl rfl dX7_empties_30 ?_
      refine gs_iload_n (q := 1) k rfl rfl dX7_empties_33 ?_
      refine gs_iconst (v := 0) k (by decide) dX7_empties_34 ?_
      refine gs_iastN (k0 := 67) (n := 8) (e := j) k (hI 67 (by omega)) (fun _ => rfl) rfl (by omega) (by decide) dX7_empties_35 ?_
      refine gs_aload_n (q := 0) k rfl rfl dX7_empties_36 ?_
      refine gs_get (C := RX7) (T := TX7) (N := 27) (ci := 7) (k0 := 65) (j := 3) k (hI 65 (by omega)) rfl rfl inX7 (by decide) fl_X7_22 rfl rfl dX7_empties_37 ?_
      refine gs_iload_n (q := 1) k rfl rfl dX7_empties_40 ?_
      refine gs_iconst (v := 0) k (by decide) dX7_empties_41 ?_
      refine gs_iastN (k0 := 68) (n := 8) (e := j) k (hI 68 (by omega)) (fun _ => rfl) rfl (by omega) (by decide) dX7_empties_42 ?_
      refine gs_iincN (q := 1) (a := j) (c := 1) (lv' := [(1, .int (nI (j + 1))), (0, .ref (E.2.2.1 65))]) k rfl rfl (by decide) rfl dX7_empties_43 ?_
      refine gs_goto (tgt := 23) k (by decide) dX7_empties_46 ?_
      refine gs_lv (lv' := [(0, .ref (E.2.2.1 65)), (1, .int (nI (j + 1)))]) [1, 0] rfl ?_
      exact hGj _ rfl
    · show G l E K 23 [(0, .ref (E.2.2.1 65)), (1, .int (nI 8))] [] (emp2 (emp1 M))
      refine gs_iload_n (q := 1) k rfl rfl dX7_empties_23 ?_
      refine gs_bipush (v := 8) k (by decide) dX7_empties_24 ?_
      refine gs_icmpN_ge (a := 8) (b := 8) (tgt := 49) k rfl rfl (by omega) (by omega) (by decide) dX7_empties_26 (fun c2 => ?_) (fun c2 => absurd c2 (by omega))
      refine gs_iconst (v := 0) k (by decide) dX7_empties_49 ?_
      refine gs_istore_n (lv' := [(1, .int 0), (0, .ref (E.2.2.1 65))]) k rfl (by decide) rfl dX7_empties_50 ?_
      refine gs_lv (lv' := [(0, .ref (E.2.2.1 65)), (1, .int 0)]) [1, 0] rfl ?_
      refine for_up (σ := Mm) (fun j m => G l E K 51 [(0, .ref (E.2.2.1 65)), (1, .int (nI j))] [] m) (fun j m => mw (mw (mw m 69 j 0) 71 j 0) 70 j 1) 6 (fun j m hj hGj => ?_) 6 0 (emp2 (emp1 M)) (by omega) ?_
      · show G l E K 51 [(0, .ref (E.2.2.1 65)), (1, .int (nI j))] [] m
        refine gs_iload_n (q := 1) k rfl rfl dX7_empties_51 ?_
        refine gs_bipush (v := 6) k (by decide) dX7_empties_52 ?_
        refine gs_icmpN_ge (a := j) (b := 6) (tgt := 84) k rfl rfl (by omega) (by omega) (by decide) dX7_empties_54 (fun c3 => absurd c3 (by omega)) (fun c3 => ?_)
        refine gs_aload_n (q := 0) k rfl rfl dX7_empties_57 ?_
        refine gs_get (C := RX7) (T := TX7) (N := 27) (ci := 7) (k0 := 65) (j := 4) k (hI 65 (by omega)) rfl rfl inX7 (by decide) fl_X7_25 rfl rfl dX7_empties_58 ?_
        refine gs_iload_n (q := 1) k rfl rfl dX7_empties_61 ?_
        refine gs_iconst (v := 0) k (by decide) dX7_empties_62 ?_
        refine gs_iastN (k0 := 69) (n := 6) (e := j) k (hI 69 (by omega)) (fun _ => rfl) rfl (by omega) (by decide) dX7_empties_63 ?_
        refine gs_aload_n (q := 0) k rfl rfl dX7_empties_64 ?_
        refine gs_get (C := RX7) (T := TX7) (N := 27) (ci := 7) (k0 := 65) (j := 6) k (hI 65 (by omega)) rfl rfl inX7 (by decide) fl_X7_31 rfl rfl dX7_empties_65 ?_
        refine gs_iload_n (q := 1) k rfl rfl dX7_empties_68 ?_
        refine gs_iconst (v := 0) k (by decide) dX7_empties_69 ?_
        refine gs_iastN (k0 := 71) (n := 6) (e := j) k (hI 71 (by omega)) (fun _ => rfl) rfl (by omega) (by decide) dX7_empties_70 ?_
        refine gs_aload_n (q := 0) k rfl rfl dX7_empties_71 ?_
        refine gs_get (C := RX7) (T := TX7) (N := 27) (ci := 7) (k0 := 65) (j := 5) k (hI 65 (by omega)) rfl rfl inX7 (by decide) fl_X7_28 rfl rfl dX7_empties_72 ?_
        refine gs_iload_n (q := 1) k rfl rfl dX7_empties_75 ?_
        refine gs_iconst (v := 1) k (by decide) dX7_empties_76 ?_
        refine gs_iastN (k0 := 70) (n := 6) (e := j) k (hI 70 (by omega)) (fun _ => rfl) rfl (by omega) (by decide) dX7_empties_77 ?_
        refine gs_iincN (q := 1) (a := j) (c := 1) (lv' := [(1, .int (nI (j + 1))), (0, .ref (E.2.2.1 65))]) k rfl rfl (by decide) rfl dX7_empties_78 ?_
        refine gs_goto (tgt := 51) k (by decide) dX7_empties_81 ?_
        refine gs_lv (lv' := [(0, .ref (E.2.2.1 65)), (1, .int (nI (j + 1)))]) [1, 0] rfl ?_
        exact hGj _ rfl
      · show G l E K 51 [(0, .ref (E.2.2.1 65)), (1, .int (nI 6))] [] (emp3 (emp2 (emp1 M)))
        refine gs_iload_n (q := 1) k rfl rfl dX7_empties_51 ?_
        refine gs_bipush (v := 6) k (by decide) dX7_empties_52 ?_
        refine gs_icmpN_ge (a := 6) (b := 6) (tgt := 84) k rfl rfl (by omega) (by omega) (by decide) dX7_empties_54 (fun c3 => ?_) (fun c3 => absurd c3 (by omega))
        refine gs_iconst (v := 0) k (by decide) dX7_empties_84 ?_
        refine gs_istore_n (lv' := [(1, .int 0), (0, .ref (E.2.2.1 65))]) k rfl (by decide) rfl dX7_empties_85 ?_
        refine gs_lv (lv' := [(0, .ref (E.2.2.1 65)), (1, .int 0)]) [1, 0] rfl ?_
        refine for_up (σ := Mm) (fun j m => G l E K 86 [(0, .ref (E.2.2.1 65)), (1, .int (nI j))] [] m) (fun j m => mw m 72 j (-1)) 6 (fun j m hj hGj => ?_) 6 0 (emp3 (emp2 (emp1 M))) (by omega) ?_
        · show G l E K 86 [(0, .ref (E.2.2.1 65)), (1, .int (nI j))] [] m
          refine gs_iload_n (q := 1) k rfl rfl dX7_empties_86 ?_
          refine gs_bipush (v := 6) k (by decide) dX7_empties_87 ?_
          refine gs_icmpN_ge (a := j) (b := 6) (tgt := 105) k rfl rfl (by omega) (by omega) (by decide) dX7_empties_89 (fun c4 => absurd c4 (by omega)) (fun c4 => ?_)
          refine gs_aload_n (q := 0) k rfl rfl dX7_empties_92 ?_
          refine gs_get (C := RX7) (T := TX7) (N := 27) (ci := 7) (k0 := 65) (j := 7) k (hI 65 (by omega)) rfl rfl inX7 (by decide) fl_X7_34 rfl rfl dX7_empties_93 ?_
          refine gs_iload_n (q := 1) k rfl rfl dX7_empties_96 ?_
          refine gs_iconst (v := -1) k (by decide) dX7_empties_97 ?_
          refine gs_iastN (k0 := 72) (n := 6) (e := j) k (hI 72 (by omega)) (fun _ => rfl) rfl (by omega) (by decide) dX7_empties_98 ?_
          refine gs_iincN (q := 1) (a := j) (c := 1) (lv' := [(1, .int (nI (j + 1))), (0, .ref (E.2.2.1 65))]) k rfl rfl (by decide) rfl dX7_empties_99 ?_
          refine gs_goto (tgt := 86) k (by decide) dX7_empties_102 ?_
          refine gs_lv (lv' := [(0, .ref (E.2.2.1 65)), (1, .int (nI (j + 1)))]) [1, 0] rfl ?_
          exact hGj _ rfl
        · show G l E K 86 [(0, .ref (E.2.2.1 65)), (1, .int (nI 6))] [] (emp M)
          refine gs_iload_n (q := 1) k rfl rfl dX7_empties_86 ?_
          refine gs_bipush (v := 6) k (by decide) dX7_empties_87 ?_
          refine gs_icmpN_ge (a := 6) (b := 6) (tgt := 105) k rfl rfl (by omega) (by omega) (by decide) dX7_empties_89 (fun c4 => ?_) (fun c4 => absurd c4 (by omega))
          exact gs_vret k kt dX7_empties_105 ⟨rfl, rfl⟩

theorem cf_X7_points : CF yX7_points cX7_points 3 (some .int) 1 := ⟨cd_X7_points, iz_X7, by decide, by decide +kernel, by decide +kernel, by decide +kernel⟩
set_option maxRecDepth 100000 in
set_option maxHeartbeats 4000000 in
theorem c_X7_points {l : Launch} {E : Ev} {M : Mm} {n : Nat} (hI : ∀ k, k < 108 → k ∈ E.2.1) (hn : Rn M n) {x : Int32} : Cm l E yX7_points cX7_points 3 (some .int) 1 [.ref (E.2.2.1 65), .int x] M (pI (A_points n x) (ifc (isB 1 6 x) (emp (mw M 65 0 x)) M)) := by
  refine Cm.of (by decide) (Nat.le_of_ble_eq_true rfl) (fun K k kt => ?_)
  show G l E K 0 [(0, .ref (E.2.2.1 65)), (1, .int x)] [] M
  obtain ⟨hn0, hn1, hn6⟩ := hn
  refine gs_iload_n (q := 1) k rfl rfl dX7_points_0 ?_
  refine gs_i2l k dX7_points_1 ?_
  refine gs_lconst (v := 1) k (by decide) dX7_points_2 ?_
  refine gs_ldc2 (v := 6) k cl_X7_96 dX7_points_3 ?_
  refine gs_callS (As := [.long (x.toInt64), .long (1), .long (6)]) k (Cm.iff (isBL (a := 1) (b := 6) (by decide) (by decide)) c_X7_in) cf_X7_in sm_X7_in ml_X7_79 (by decide) rfl rfl (Nat.le_of_ble_eq_true rfl) dX7_points_6 (ppB (fun c1 => ?_) (fun c1 => ?_))
  · refine gs_if_ne (tgt := 15) k (by decide) dX7_points_9 (fun _ => ?_) (fun h => absurd h (by decide))
    refine gs_aload_n (q := 0) k rfl rfl dX7_points_15 ?_
    refine gs_get (C := RX7) (T := TX7) (N := 27) (ci := 7) (k0 := 65) (j := 0) k (hI 65 (by omega)) rfl rfl inX7 (by decide) fl_X7_9 rfl rfl dX7_points_16 ?_
    refine gs_istore_n (lv' := [(2, .int (M 65 0)), (0, .ref (E.2.2.1 65)), (1, .int x)]) k rfl (by decide) rfl dX7_points_19 ?_
    refine gs_aload_n (q := 1) k rfl rfl dX7_points_20 ?_
    refine gs_iload_n (q := 2) k rfl rfl dX7_points_21 ?_
    refine gs_put (C := RX7) (T := TX7) (N := 27) (ci := 7) (k0 := 65) (j := 0) (ty := .int) k (hI 65 (by omega)) rfl rfl rfl inX7 tyX7 tyX7_ok nmX7 (by decide) fl_X7_9 rfl rfl (tyX7_ok 0 (by decide)) rfl rfl (Nat.le_of_ble_eq_true rfl) dX7_points_22 ?_
    refine gs_aload_n (q := 1) k rfl rfl dX7_points_25 ?_
    refine gs_callV (As := []) (k0 := 65) (ci := 7) (T := TX7) (N := 27) k (c_X7_empties hI) cf_X7_empties im_X7_empties sl_X7_empties ml_X7_76 (hI 65 (by omega)) rfl rfl (by decide) rfl rfl (Nat.le_of_ble_eq_true rfl) dX7_points_26 (ppV ?_)
    refine gs_iload_n (q := 0) k rfl rfl dX7_points_29 ?_
    exact gs_iret k kt dX7_points_30 ⟨(by simp [-Int32.not_lt, A_points, ifc_T, ifc_F, c1, hn0]), (by simp [-Int32.not_lt, A_points, ifc_T, ifc_F, c1, hn0])⟩
  · refine gs_if_ne (tgt := 15) k (by decide) dX7_points_9 (fun h => absurd h (by decide)) (fun _ => ?_)
    refine gs_bipush (v := -2) k (by decide) dX7_points_12 ?_
    exact gs_iret k kt dX7_points_14 ⟨(by simp [-Int32.not_lt, A_points, ifc_T, ifc_F, c1, hn0]), (by simp [-Int32.not_lt, A_points, ifc_T, ifc_F, c1, hn0])⟩

def okArc (n : Nat) (i j : Int32) : Prop := inR i n ∧ inR j n ∧ ¬ i = j
noncomputable def A_arc (n : Nat) (ld : Nat → Int32) (i j v : Int32) : Int32 := ifc (okArc n i j) (ifc (inR v 100) (ld (tn i * 6 + tn j)) (-2)) (-1)
noncomputable def U_arc (k n : Nat) (i j v : Int32) (M : Mm) : Mm := ifc (okArc n i j) (ifc (inR v 100) (mw M k (tn i * 6 + tn j) v) M) M
theorem cf_X6_arc : CF yX6_arc cX6_arc 6 (some .int) 3 := ⟨cd_X6_arc, iz_X6, by decide, by decide +kernel, by decide +kernel, by decide +kernel⟩
set_option maxRecDepth 100000 in
set_option maxHeartbeats 4000000 in
theorem c_X6_arc {l : Launch} {E : Ev} {M : Mm} {n : Nat} (hI : ∀ k, k < 108 → k ∈ E.2.1) (hn : Cn M n) {i j v : Int32} : Cm l E yX6_arc cX6_arc 6 (some .int) 1 [.ref (E.2.2.1 0), .int i, .int j, .int v] M (pI (A_arc n (M 2) i j v) (U_arc 2 n i j v M)) := by
  refine Cm.of (by decide) (Nat.le_of_ble_eq_true rfl) (fun K k kt => ?_)
  show G l E K 0 [(0, .ref (E.2.2.1 0)), (1, .int i), (2, .int j), (3, .int v)] [] M
  obtain ⟨hn0, hn1, hn6⟩ := id hn
  have hp := p2_le6 hn6
  have hp2 := p2_ge2 hn1
  refine gs_aload_n (q := 0) k rfl rfl dX6_arc_0 ?_
  refine gs_get (C := RX6) (T := TX6) (N := 10) (ci := 6) (k0 := 0) (j := 0) k (hI 0 (by omega)) rfl rfl inX6 (by decide) fl_X6_12 rfl rfl dX6_arc_1 ?_
  refine gs_iload_n (q := 1) k rfl rfl dX6_arc_4 ?_
  refine gs_callV (As := [.int i]) (k0 := 1) (ci := 5) (T := TX5) (N := 9) k (c_X5_hasPoint hI hn) cf_X5_hasPoint im_X5_hasPoint sl_X5_hasPoint ml_X6_71 (hI 1 (by omega)) rfl rfl (by decide) rfl rfl (Nat.le_of_ble_eq_true rfl) dX6_arc_5 (ppB (fun c1 => ?_) (fun c1 => ?_))
  · have bc1 := inR_lt c1
    refine gs_if_eq (tgt := 27) k (by decide) dX6_arc_8 (fun h => absurd h (by decide)) (fun _ => ?_)
    refine gs_aload_n (q := 0) k rfl rfl dX6_arc_11 ?_
    refine gs_get (C := RX6) (T := TX6) (N := 10) (ci := 6) (k0 := 0) (j := 0) k (hI 0 (by omega)) rfl rfl inX6 (by decide) fl_X6_12 rfl rfl dX6_arc_12 ?_
    refine gs_iload_n (q := 2) k rfl rfl dX6_arc_15 ?_
    refine gs_callV (As := [.int j]) (k0 := 1) (ci := 5) (T := TX5) (N := 9) k (c_X5_hasPoint hI hn) cf_X5_hasPoint im_X5_hasPoint sl_X5_hasPoint ml_X6_71 (hI 1 (by omega)) rfl rfl (by decide) rfl rfl (Nat.le_of_ble_eq_true rfl) dX6_arc_16 (ppB (fun c2 => ?_) (fun c2 => ?_))
    · have bc2 := inR_lt c2
      refine gs_if_eq (tgt := 27) k (by decide) dX6_arc_19 (fun h => absurd h (by decide)) (fun _ => ?_)
      refine gs_iload_n (q := 1) k rfl rfl dX6_arc_22 ?_
      refine gs_iload_n (q := 2) k rfl rfl dX6_arc_23 ?_
      refine gs_icmp_ne (tgt := 29) k (by decide) dX6_arc_24 (fun c3 => ?_) (fun c3 => ?_)
      · refine gs_iload_n (q := 3) k rfl rfl dX6_arc_29 ?_
        refine gs_if_lt (tgt := 39) k (by decide) dX6_arc_30 (fun c4 => ?_) (fun c4 => ?_)
        · have ec4 : ¬ inR v 100 := inR_n1 c4
          refine gs_bipush (v := -2) k (by decide) dX6_arc_39 ?_
          exact gs_iret k kt dX6_arc_41 ⟨(by simp [-Int32.not_lt, A_arc, U_arc, okArc, ifc_T, ifc_F, c1, c2, c3, c4, ec4]), (by simp [-Int32.not_lt, A_arc, U_arc, okArc, ifc_T, ifc_F, c1, c2, c3, c4, ec4])⟩
        · refine gs_iload_n (q := 3) k rfl rfl dX6_arc_33 ?_
          refine gs_bipush (v := 99) k (by decide) dX6_arc_34 ?_
          refine gs_icmp_le (tgt := 42) k (by decide) dX6_arc_36 (fun c5 => ?_) (fun c5 => ?_)
          · have ec5 : inR v 100 := inR_of' rfl (by decide) (by decide) c4 (Int32.not_lt.mpr c5)
            have fc5 := inR_lt ec5
            refine gs_iload_n (q := 1) k rfl rfl dX6_arc_42 ?_
            refine gs_bipush (v := 6) k (by decide) dX6_arc_43 ?_
            refine gs_imulN (a := tn i) (b := 6) k (inR_eq c1) rfl dX6_arc_45 ?_
            refine gs_iload_n (q := 2) k rfl rfl dX6_arc_46 ?_
            refine gs_iaddN (a := (tn i) * 6) (b := tn j) k rfl (inR_eq c2) dX6_arc_47 ?_
            refine gs_istore (lv' := [(4, .int (nI (((tn i) * 6) + (tn j)))), (0, .ref (E.2.2.1 0)), (1, .int i), (2, .int j), (3, .int v)]) k (by decide) rfl dX6_arc_48 ?_
            refine gs_aload_n (q := 1) k rfl rfl dX6_arc_50 ?_
            refine gs_get (C := RX6) (T := TX6) (N := 10) (ci := 6) (k0 := 0) (j := 0) k (hI 0 (by omega)) rfl rfl inX6 (by decide) fl_X6_12 rfl rfl dX6_arc_51 ?_
            refine gs_get (C := RX5) (T := TX5) (N := 9) (ci := 5) (k0 := 1) (j := 1) k (hI 1 (by omega)) rfl rfl inX5 (by decide) fl_X6_75 rfl rfl dX6_arc_54 ?_
            refine gs_iload (q := 0) k rfl dX6_arc_57 ?_
            refine gs_ialdN (k0 := 2) (n := 36) (e := ((tn i) * 6) + (tn j)) k (hI 2 (by omega)) (fun _ => rfl) rfl (by omega) (by decide) dX6_arc_59 ?_
            refine gs_istore (lv' := [(5, .int (M 2 (((tn i) * 6) + (tn j)))), (4, .int (nI (((tn i) * 6) + (tn j)))), (0, .ref (E.2.2.1 0)), (1, .int i), (2, .int j), (3, .int v)]) k (by decide) rfl dX6_arc_60 ?_
            refine gs_aload_n (q := 2) k rfl rfl dX6_arc_62 ?_
            refine gs_get (C := RX6) (T := TX6) (N := 10) (ci := 6) (k0 := 0) (j := 0) k (hI 0 (by omega)) rfl rfl inX6 (by decide) fl_X6_12 rfl rfl dX6_arc_63 ?_
            refine gs_get (C := RX5) (T := TX5) (N := 9) (ci := 5) (k0 := 1) (j := 1) k (hI 1 (by omega)) rfl rfl inX5 (by decide) fl_X6_75 rfl rfl dX6_arc_66 ?_
            refine gs_iload (q := 1) k rfl dX6_arc_69 ?_
            refine gs_iload_n (q := 5) k rfl rfl dX6_arc_71 ?_
            refine gs_iastN (k0 := 2) (n := 36) (e := ((tn i) * 6) + (tn j)) k (hI 2 (by omega)) (fun _ => rfl) rfl (by omega) (by decide) dX6_arc_72 ?_
            refine gs_iload (q := 0) k rfl dX6_arc_73 ?_
            exact gs_iret k kt dX6_arc_75 ⟨(by simp [-Int32.not_lt, A_arc, U_arc, okArc, ifc_T, ifc_F, c1, c2, c3, c4, c5, ec5]), (by simp [-Int32.not_lt, A_arc, U_arc, okArc, ifc_T, ifc_F, c1, c2, c3, c4, c5, ec5])⟩
          · have ec5 : ¬ inR v 100 := inR_n2' rfl (by decide) (by decide) (Int32.not_le.mp c5)
            refine gs_bipush (v := -2) k (by decide) dX6_arc_39 ?_
            exact gs_iret k kt dX6_arc_41 ⟨(by simp [-Int32.not_lt, A_arc, U_arc, okArc, ifc_T, ifc_F, c1, c2, c3, c4, c5, ec5]), (by simp [-Int32.not_lt, A_arc, U_arc, okArc, ifc_T, ifc_F, c1, c2, c3, c4, c5, ec5])⟩
      · refine gs_iconst (v := -1) k (by decide) dX6_arc_27 ?_
        exact gs_iret k kt dX6_arc_28 ⟨(by simp [-Int32.not_lt, A_arc, U_arc, okArc, ifc_T, ifc_F, c1, c2, c3]), (by simp [-Int32.not_lt, A_arc, U_arc, okArc, ifc_T, ifc_F, c1, c2, c3])⟩
    · refine gs_if_eq (tgt := 27) k (by decide) dX6_arc_19 (fun _ => ?_) (fun h => absurd h (by decide))
      refine gs_iconst (v := -1) k (by decide) dX6_arc_27 ?_
      exact gs_iret k kt dX6_arc_28 ⟨(by simp [-Int32.not_lt, A_arc, U_arc, okArc, ifc_T, ifc_F, c1, c2]), (by simp [-Int32.not_lt, A_arc, U_arc, okArc, ifc_T, ifc_F, c1, c2])⟩
  · refine gs_if_eq (tgt := 27) k (by decide) dX6_arc_8 (fun _ => ?_) (fun h => absurd h (by decide))
    refine gs_iconst (v := -1) k (by decide) dX6_arc_27 ?_
    exact gs_iret k kt dX6_arc_28 ⟨(by simp [-Int32.not_lt, A_arc, U_arc, okArc, ifc_T, ifc_F, c1]), (by simp [-Int32.not_lt, A_arc, U_arc, okArc, ifc_T, ifc_F, c1])⟩

theorem cf_X7_arc : CF yX7_arc cX7_arc 5 (some .int) 3 := ⟨cd_X7_arc, iz_X7, by decide, by decide +kernel, by decide +kernel, by decide +kernel⟩
set_option maxRecDepth 100000 in
set_option maxHeartbeats 4000000 in
theorem c_X7_arc {l : Launch} {E : Ev} {M : Mm} {n : Nat} (hI : ∀ k, k < 108 → k ∈ E.2.1) (hn : Rn M n) {i j v : Int32} : Cm l E yX7_arc cX7_arc 5 (some .int) 2 [.ref (E.2.2.1 65), .int i, .int j, .int v] M (pI (A_arc n (M 66) i j v) (U_arc 66 n i j v M)) := by
  refine Cm.of (by decide) (Nat.le_of_ble_eq_true rfl) (fun K k kt => ?_)
  show G l E K 0 [(0, .ref (E.2.2.1 65)), (1, .int i), (2, .int j), (3, .int v)] [] M
  obtain ⟨hn0, hn1, hn6⟩ := id hn
  have hp := p2_le6 hn6
  have hp2 := p2_ge2 hn1
  refine gs_aload_n (q := 0) k rfl rfl dX7_arc_0 ?_
  refine gs_iload_n (q := 1) k rfl rfl dX7_arc_1 ?_
  refine gs_callV (As := [.int i]) (k0 := 65) (ci := 7) (T := TX7) (N := 27) k (c_X7_isPoint hI hn) cf_X7_isPoint im_X7_isPoint sl_X7_isPoint ml_X7_98 (hI 65 (by omega)) rfl rfl (by decide) rfl rfl (Nat.le_of_ble_eq_true rfl) dX7_arc_2 (ppB (fun c1 => ?_) (fun c1 => ?_))
  · have bc1 := inR_lt c1
    refine gs_if_eq (tgt := 21) k (by decide) dX7_arc_5 (fun h => absurd h (by decide)) (fun _ => ?_)
    refine gs_aload_n (q := 0) k rfl rfl dX7_arc_8 ?_
    refine gs_iload_n (q := 2) k rfl rfl dX7_arc_9 ?_
    refine gs_callV (As := [.int j]) (k0 := 65) (ci := 7) (T := TX7) (N := 27) k (c_X7_isPoint hI hn) cf_X7_isPoint im_X7_isPoint sl_X7_isPoint ml_X7_98 (hI 65 (by omega)) rfl rfl (by decide) rfl rfl (Nat.le_of_ble_eq_true rfl) dX7_arc_10 (ppB (fun c2 => ?_) (fun c2 => ?_))
    · have bc2 := inR_lt c2
      refine gs_if_eq (tgt := 21) k (by decide) dX7_arc_13 (fun h => absurd h (by decide)) (fun _ => ?_)
      refine gs_iload_n (q := 1) k rfl rfl dX7_arc_16 ?_
      refine gs_iload_n (q := 2) k rfl rfl dX7_arc_17 ?_
      refine gs_icmp_ne (tgt := 23) k (by decide) dX7_arc_18 (fun c3 => ?_) (fun c3 => ?_)
      · refine gs_iload_n (q := 3) k rfl rfl dX7_arc_23 ?_
        refine gs_i2l k dX7_arc_24 ?_
        refine gs_lconst (v := 0) k (by decide) dX7_arc_25 ?_
        refine gs_ldc2 (v := 99) k cl_X7_102 dX7_arc_26 ?_
        refine gs_callS (As := [.long (v.toInt64), .long (0), .long (99)]) k (Cm.iff (inL (n := 100) (by decide) (by decide)) c_X7_in) cf_X7_in sm_X7_in ml_X7_79 (by decide) rfl rfl (Nat.le_of_ble_eq_true rfl) dX7_arc_29 (ppB (fun c4 => ?_) (fun c4 => ?_))
        · have bc4 := inR_lt c4
          refine gs_if_ne (tgt := 38) k (by decide) dX7_arc_32 (fun _ => ?_) (fun h => absurd h (by decide))
          refine gs_aload_n (q := 0) k rfl rfl dX7_arc_38 ?_
          refine gs_get (C := RX7) (T := TX7) (N := 27) (ci := 7) (k0 := 65) (j := 1) k (hI 65 (by omega)) rfl rfl inX7 (by decide) fl_X7_15 rfl rfl dX7_arc_39 ?_
          refine gs_bipush (v := 6) k (by decide) dX7_arc_42 ?_
          refine gs_iload_n (q := 1) k rfl rfl dX7_arc_44 ?_
          refine gs_imulN (a := 6) (b := tn i) k rfl (inR_eq c1) dX7_arc_45 ?_
          refine gs_iload_n (q := 2) k rfl rfl dX7_arc_46 ?_
          refine gs_iaddN (a := 6 * (tn i)) (b := tn j) k rfl (inR_eq c2) dX7_arc_47 ?_
          refine gs_ialdN (k0 := 66) (n := 36) (e := (6 * (tn i)) + (tn j)) k (hI 66 (by omega)) (fun _ => rfl) rfl (by omega) (by decide) dX7_arc_48 ?_
          refine gs_istore (lv' := [(4, .int (M 66 ((6 * (tn i)) + (tn j)))), (0, .ref (E.2.2.1 65)), (1, .int i), (2, .int j), (3, .int v)]) k (by decide) rfl dX7_arc_49 ?_
          refine gs_aload_n (q := 1) k rfl rfl dX7_arc_51 ?_
          refine gs_get (C := RX7) (T := TX7) (N := 27) (ci := 7) (k0 := 65) (j := 1) k (hI 65 (by omega)) rfl rfl inX7 (by decide) fl_X7_15 rfl rfl dX7_arc_52 ?_
          refine gs_bipush (v := 6) k (by decide) dX7_arc_55 ?_
          refine gs_iload_n (q := 2) k rfl rfl dX7_arc_57 ?_
          refine gs_imulN (a := 6) (b := tn i) k rfl (inR_eq c1) dX7_arc_58 ?_
          refine gs_iload_n (q := 3) k rfl rfl dX7_arc_59 ?_
          refine gs_iaddN (a := 6 * (tn i)) (b := tn j) k rfl (inR_eq c2) dX7_arc_60 ?_
          refine gs_iload_n (q := 4) k rfl rfl dX7_arc_61 ?_
          refine gs_iastN (k0 := 66) (n := 36) (e := (6 * (tn i)) + (tn j)) k (hI 66 (by omega)) (fun _ => rfl) rfl (by omega) (by decide) dX7_arc_62 ?_
          refine gs_iload (q := 0) k rfl dX7_arc_63 ?_
          exact gs_iret k kt dX7_arc_65 ⟨(by simp [-Int32.not_lt, A_arc, U_arc, okArc, ifc_T, ifc_F, c1, c2, c3, c4, Nat.mul_comm]), (by simp [-Int32.not_lt, A_arc, U_arc, okArc, ifc_T, ifc_F, c1, c2, c3, c4, Nat.mul_comm])⟩
        · refine gs_if_ne (tgt := 38) k (by decide) dX7_arc_32 (fun h => absurd h (by decide)) (fun _ => ?_)
          refine gs_bipush (v := -2) k (by decide) dX7_arc_35 ?_
          exact gs_iret k kt dX7_arc_37 ⟨(by simp [-Int32.not_lt, A_arc, U_arc, okArc, ifc_T, ifc_F, c1, c2, c3, c4, Nat.mul_comm]), (by simp [-Int32.not_lt, A_arc, U_arc, okArc, ifc_T, ifc_F, c1, c2, c3, c4, Nat.mul_comm])⟩
      · refine gs_iconst (v := -1) k (by decide) dX7_arc_21 ?_
        exact gs_iret k kt dX7_arc_22 ⟨(by simp [-Int32.not_lt, A_arc, U_arc, okArc, ifc_T, ifc_F, c1, c2, c3, Nat.mul_comm]), (by simp [-Int32.not_lt, A_arc, U_arc, okArc, ifc_T, ifc_F, c1, c2, c3, Nat.mul_comm])⟩
    · refine gs_if_eq (tgt := 21) k (by decide) dX7_arc_13 (fun _ => ?_) (fun h => absurd h (by decide))
      refine gs_iconst (v := -1) k (by decide) dX7_arc_21 ?_
      exact gs_iret k kt dX7_arc_22 ⟨(by simp [-Int32.not_lt, A_arc, U_arc, okArc, ifc_T, ifc_F, c1, c2, Nat.mul_comm]), (by simp [-Int32.not_lt, A_arc, U_arc, okArc, ifc_T, ifc_F, c1, c2, Nat.mul_comm])⟩
  · refine gs_if_eq (tgt := 21) k (by decide) dX7_arc_5 (fun _ => ?_) (fun h => absurd h (by decide))
    refine gs_iconst (v := -1) k (by decide) dX7_arc_21 ?_
    exact gs_iret k kt dX7_arc_22 ⟨(by simp [-Int32.not_lt, A_arc, U_arc, okArc, ifc_T, ifc_F, c1, Nat.mul_comm]), (by simp [-Int32.not_lt, A_arc, U_arc, okArc, ifc_T, ifc_F, c1, Nat.mul_comm])⟩

noncomputable def A_item (n : Nat) (w : Nat → Int32) (i v s : Int32) : Int32 := ifc (inR i 8) (ifc (inR v 100 ∧ inR s (2 ^ n)) (w (tn i)) (-2)) (-1)
noncomputable def U_item (k k' n : Nat) (i v s : Int32) (M : Mm) : Mm := ifc (inR i 8) (ifc (inR v 100 ∧ inR s (2 ^ n)) (mw (mw M k (tn i) v) k' (tn i) s) M) M
theorem cf_X6_item : CF yX6_item cX6_item 5 (some .int) 3 := ⟨cd_X6_item, iz_X6, by decide, by decide +kernel, by decide +kernel, by decide +kernel⟩
set_option maxRecDepth 100000 in
set_option maxHeartbeats 4000000 in
theorem c_X6_item {l : Launch} {E : Ev} {M : Mm} {n : Nat} (hI : ∀ k, k < 108 → k ∈ E.2.1) (hn : Cn M n) {i v s : Int32} : Cm l E yX6_item cX6_item 5 (some .int) 2 [.ref (E.2.2.1 0), .int i, .int v, .int s] M (pI (A_item n (M 3) i v s) (U_item 3 4 n i v s M)) := by
  refine Cm.of (by decide) (Nat.le_of_ble_eq_true rfl) (fun K k kt => ?_)
  show G l E K 0 [(0, .ref (E.2.2.1 0)), (1, .int i), (2, .int v), (3, .int s)] [] M
  obtain ⟨hn0, hn1, hn6⟩ := id hn
  have hp := p2_le6 hn6
  have hp2 := p2_ge2 hn1
  refine gs_iload_n (q := 1) k rfl rfl dX6_item_0 ?_
  refine gs_if_lt (tgt := 10) k (by decide) dX6_item_1 (fun c1 => ?_) (fun c1 => ?_)
  · have ec1 : ¬ inR i 8 := inR_n1 c1
    refine gs_iconst (v := -1) k (by decide) dX6_item_10 ?_
    exact gs_iret k kt dX6_item_11 ⟨(by simp [-Int32.not_lt, A_item, U_item, ifc_T, ifc_F, c1, ec1]), (by simp [-Int32.not_lt, A_item, U_item, ifc_T, ifc_F, c1, ec1])⟩
  · refine gs_iload_n (q := 1) k rfl rfl dX6_item_4 ?_
    refine gs_bipush (v := 8) k (by decide) dX6_item_5 ?_
    refine gs_icmp_lt (tgt := 12) k (by decide) dX6_item_7 (fun c2 => ?_) (fun c2 => ?_)
    · have ec2 : inR i 8 := inR_of rfl (by decide) c1 (Int32.not_le.mpr c2)
      have fc2 := inR_lt ec2
      refine gs_iload_n (q := 2) k rfl rfl dX6_item_12 ?_
      refine gs_if_lt (tgt := 33) k (by decide) dX6_item_13 (fun c3 => ?_) (fun c3 => ?_)
      · have ec3 : ¬ inR v 100 := inR_n1 c3
        refine gs_bipush (v := -2) k (by decide) dX6_item_33 ?_
        exact gs_iret k kt dX6_item_35 ⟨(by simp [-Int32.not_lt, A_item, U_item, ifc_T, ifc_F, c1, c2, ec2, c3, ec3]), (by simp [-Int32.not_lt, A_item, U_item, ifc_T, ifc_F, c1, c2, ec2, c3, ec3])⟩
      · refine gs_iload_n (q := 2) k rfl rfl dX6_item_16 ?_
        refine gs_bipush (v := 99) k (by decide) dX6_item_17 ?_
        refine gs_icmp_gt (tgt := 33) k (by decide) dX6_item_19 (fun c4 => ?_) (fun c4 => ?_)
        · have ec4 : ¬ inR v 100 := inR_n2' rfl (by decide) (by decide) c4
          refine gs_bipush (v := -2) k (by decide) dX6_item_33 ?_
          exact gs_iret k kt dX6_item_35 ⟨(by simp [-Int32.not_lt, A_item, U_item, ifc_T, ifc_F, c1, c2, ec2, c3, c4, ec4]), (by simp [-Int32.not_lt, A_item, U_item, ifc_T, ifc_F, c1, c2, ec2, c3, c4, ec4])⟩
        · have ec4 : inR v 100 := inR_of' rfl (by decide) (by decide) c3 c4
          have fc4 := inR_lt ec4
          refine gs_aload_n (q := 0) k rfl rfl dX6_item_22 ?_
          refine gs_get (C := RX6) (T := TX6) (N := 10) (ci := 6) (k0 := 0) (j := 0) k (hI 0 (by omega)) rfl rfl inX6 (by decide) fl_X6_12 rfl rfl dX6_item_23 ?_
          refine gs_iload_n (q := 3) k rfl rfl dX6_item_26 ?_
          refine gs_callV (As := [.int s]) (k0 := 1) (ci := 5) (T := TX5) (N := 9) k (c_X5_hasSet hI hn) cf_X5_hasSet im_X5_hasSet sl_X5_hasSet ml_X6_78 (hI 1 (by omega)) rfl rfl (by decide) rfl rfl (Nat.le_of_ble_eq_true rfl) dX6_item_27 (ppB (fun c5 => ?_) (fun c5 => ?_))
          · have bc5 := inR_lt c5
            refine gs_if_ne (tgt := 36) k (by decide) dX6_item_30 (fun _ => ?_) (fun h => absurd h (by decide))
            refine gs_aload_n (q := 0) k rfl rfl dX6_item_36 ?_
            refine gs_get (C := RX6) (T := TX6) (N := 10) (ci := 6) (k0 := 0) (j := 0) k (hI 0 (by omega)) rfl rfl inX6 (by decide) fl_X6_12 rfl rfl dX6_item_37 ?_
            refine gs_get (C := RX5) (T := TX5) (N := 9) (ci := 5) (k0 := 1) (j := 2) k (hI 1 (by omega)) rfl rfl inX5 (by decide) fl_X6_81 rfl rfl dX6_item_40 ?_
            refine gs_iload_n (q := 1) k rfl rfl dX6_item_43 ?_
            refine gs_ialdN (k0 := 3) (n := 8) (e := tn i) k (hI 3 (by omega)) (fun _ => rfl) (inR_eq ec2) (by omega) (by decide) dX6_item_44 ?_
            refine gs_istore (lv' := [(4, .int (M 3 (tn i))), (0, .ref (E.2.2.1 0)), (1, .int i), (2, .int v), (3, .int s)]) k (by decide) rfl dX6_item_45 ?_
            refine gs_aload_n (q := 1) k rfl rfl dX6_item_47 ?_
            refine gs_get (C := RX6) (T := TX6) (N := 10) (ci := 6) (k0 := 0) (j := 0) k (hI 0 (by omega)) rfl rfl inX6 (by decide) fl_X6_12 rfl rfl dX6_item_48 ?_
            refine gs_get (C := RX5) (T := TX5) (N := 9) (ci := 5) (k0 := 1) (j := 2) k (hI 1 (by omega)) rfl rfl inX5 (by decide) fl_X6_81 rfl rfl dX6_item_51 ?_
            refine gs_iload_n (q := 2) k rfl rfl dX6_item_54 ?_
            refine gs_iload_n (q := 3) k rfl rfl dX6_item_55 ?_
            refine gs_iastN (k0 := 3) (n := 8) (e := tn i) k (hI 3 (by omega)) (fun _ => rfl) (inR_eq ec2) (by omega) (by decide) dX6_item_56 ?_
            refine gs_aload_n (q := 1) k rfl rfl dX6_item_57 ?_
            refine gs_get (C := RX6) (T := TX6) (N := 10) (ci := 6) (k0 := 0) (j := 0) k (hI 0 (by omega)) rfl rfl inX6 (by decide) fl_X6_12 rfl rfl dX6_item_58 ?_
            refine gs_get (C := RX5) (T := TX5) (N := 9) (ci := 5) (k0 := 1) (j := 3) k (hI 1 (by omega)) rfl rfl inX5 (by decide) fl_X6_84 rfl rfl dX6_item_61 ?_
            refine gs_iload_n (q := 2) k rfl rfl dX6_item_64 ?_
            refine gs_iload_n (q := 4) k rfl rfl dX6_item_65 ?_
            refine gs_iastN (k0 := 4) (n := 8) (e := tn i) k (hI 4 (by omega)) (fun _ => rfl) (inR_eq ec2) (by omega) (by decide) dX6_item_66 ?_
            refine gs_iload (q := 0) k rfl dX6_item_67 ?_
            exact gs_iret k kt dX6_item_69 ⟨(by simp [-Int32.not_lt, A_item, U_item, ifc_T, ifc_F, c1, c2, ec2, c3, c4, ec4, c5]), (by simp [-Int32.not_lt, A_item, U_item, ifc_T, ifc_F, c1, c2, ec2, c3, c4, ec4, c5])⟩
          · refine gs_if_ne (tgt := 36) k (by decide) dX6_item_30 (fun h => absurd h (by decide)) (fun _ => ?_)
            refine gs_bipush (v := -2) k (by decide) dX6_item_33 ?_
            exact gs_iret k kt dX6_item_35 ⟨(by simp [-Int32.not_lt, A_item, U_item, ifc_T, ifc_F, c1, c2, ec2, c3, c4, ec4, c5]), (by simp [-Int32.not_lt, A_item, U_item, ifc_T, ifc_F, c1, c2, ec2, c3, c4, ec4, c5])⟩
    · have ec2 : ¬ inR i 8 := inR_n2 rfl (by decide) (Int32.not_lt.mp c2)
      refine gs_iconst (v := -1) k (by decide) dX6_item_10 ?_
      exact gs_iret k kt dX6_item_11 ⟨(by simp [-Int32.not_lt, A_item, U_item, ifc_T, ifc_F, c1, c2, ec2]), (by simp [-Int32.not_lt, A_item, U_item, ifc_T, ifc_F, c1, c2, ec2])⟩

theorem cf_X7_item : CF yX7_item cX7_item 5 (some .int) 3 := ⟨cd_X7_item, iz_X7, by decide, by decide +kernel, by decide +kernel, by decide +kernel⟩
set_option maxRecDepth 100000 in
set_option maxHeartbeats 4000000 in
theorem c_X7_item {l : Launch} {E : Ev} {M : Mm} {n : Nat} (hI : ∀ k, k < 108 → k ∈ E.2.1) (hn : Rn M n) {i v s : Int32} : Cm l E yX7_item cX7_item 5 (some .int) 3 [.ref (E.2.2.1 65), .int i, .int v, .int s] M (pI (A_item n (M 67) i v s) (U_item 67 68 n i v s M)) := by
  refine Cm.of (by decide) (Nat.le_of_ble_eq_true rfl) (fun K k kt => ?_)
  show G l E K 0 [(0, .ref (E.2.2.1 65)), (1, .int i), (2, .int v), (3, .int s)] [] M
  obtain ⟨hn0, hn1, hn6⟩ := id hn
  have hp := p2_le6 hn6
  have hp2 := p2_ge2 hn1
  refine gs_iload_n (q := 1) k rfl rfl dX7_item_0 ?_
  refine gs_i2l k dX7_item_1 ?_
  refine gs_lconst (v := 0) k (by decide) dX7_item_2 ?_
  refine gs_ldc2 (v := 7) k cl_X7_104 dX7_item_3 ?_
  refine gs_callS (As := [.long (i.toInt64), .long (0), .long (7)]) k (Cm.iff (inL (n := 8) (by decide) (by decide)) c_X7_in) cf_X7_in sm_X7_in ml_X7_79 (by decide) rfl rfl (Nat.le_of_ble_eq_true rfl) dX7_item_6 (ppB (fun c1 => ?_) (fun c1 => ?_))
  · have bc1 := inR_lt c1
    refine gs_if_ne (tgt := 14) k (by decide) dX7_item_9 (fun _ => ?_) (fun h => absurd h (by decide))
    refine gs_iload_n (q := 2) k rfl rfl dX7_item_14 ?_
    refine gs_i2l k dX7_item_15 ?_
    refine gs_lconst (v := 0) k (by decide) dX7_item_16 ?_
    refine gs_ldc2 (v := 99) k cl_X7_102 dX7_item_17 ?_
    refine gs_callS (As := [.long (v.toInt64), .long (0), .long (99)]) k (Cm.iff (inL (n := 100) (by decide) (by decide)) c_X7_in) cf_X7_in sm_X7_in ml_X7_79 (by decide) rfl rfl (Nat.le_of_ble_eq_true rfl) dX7_item_20 (ppB (fun c2 => ?_) (fun c2 => ?_))
    · have bc2 := inR_lt c2
      refine gs_if_eq (tgt := 34) k (by decide) dX7_item_23 (fun h => absurd h (by decide)) (fun _ => ?_)
      refine gs_aload_n (q := 0) k rfl rfl dX7_item_26 ?_
      refine gs_iload_n (q := 3) k rfl rfl dX7_item_27 ?_
      refine gs_callV (As := [.int s]) (k0 := 65) (ci := 7) (T := TX7) (N := 27) k (c_X7_isSet hI hn) cf_X7_isSet im_X7_isSet sl_X7_isSet ml_X7_106 (hI 65 (by omega)) rfl rfl (by decide) rfl rfl (Nat.le_of_ble_eq_true rfl) dX7_item_28 (ppB (fun c3 => ?_) (fun c3 => ?_))
      · have bc3 := inR_lt c3
        refine gs_if_ne (tgt := 37) k (by decide) dX7_item_31 (fun _ => ?_) (fun h => absurd h (by decide))
        refine gs_aload_n (q := 0) k rfl rfl dX7_item_37 ?_
        refine gs_get (C := RX7) (T := TX7) (N := 27) (ci := 7) (k0 := 65) (j := 2) k (hI 65 (by omega)) rfl rfl inX7 (by decide) fl_X7_19 rfl rfl dX7_item_38 ?_
        refine gs_iload_n (q := 1) k rfl rfl dX7_item_41 ?_
        refine gs_ialdN (k0 := 67) (n := 8) (e := tn i) k (hI 67 (by omega)) (fun _ => rfl) (inR_eq c1) (by omega) (by decide) dX7_item_42 ?_
        refine gs_istore (lv' := [(4, .int (M 67 (tn i))), (0, .ref (E.2.2.1 65)), (1, .int i), (2, .int v), (3, .int s)]) k (by decide) rfl dX7_item_43 ?_
        refine gs_aload_n (q := 1) k rfl rfl dX7_item_45 ?_
        refine gs_get (C := RX7) (T := TX7) (N := 27) (ci := 7) (k0 := 65) (j := 2) k (hI 65 (by omega)) rfl rfl inX7 (by decide) fl_X7_19 rfl rfl dX7_item_46 ?_
        refine gs_iload_n (q := 2) k rfl rfl dX7_item_49 ?_
        refine gs_iload_n (q := 3) k rfl rfl dX7_item_50 ?_
        refine gs_iastN (k0 := 67) (n := 8) (e := tn i) k (hI 67 (by omega)) (fun _ => rfl) (inR_eq c1) (by omega) (by decide) dX7_item_51 ?_
        refine gs_aload_n (q := 1) k rfl rfl dX7_item_52 ?_
        refine gs_get (C := RX7) (T := TX7) (N := 27) (ci := 7) (k0 := 65) (j := 3) k (hI 65 (by omega)) rfl rfl inX7 (by decide) fl_X7_22 rfl rfl dX7_item_53 ?_
        refine gs_iload_n (q := 2) k rfl rfl dX7_item_56 ?_
        refine gs_iload_n (q := 4) k rfl rfl dX7_item_57 ?_
        refine gs_iastN (k0 := 68) (n := 8) (e := tn i) k (hI 68 (by omega)) (fun _ => rfl) (inR_eq c1) (by omega) (by decide) dX7_item_58 ?_
        refine gs_iload (q := 0) k rfl dX7_item_59 ?_
        exact gs_iret k kt dX7_item_61 ⟨(by simp [-Int32.not_lt, A_item, U_item, ifc_T, ifc_F, c1, c2, c3]), (by simp [-Int32.not_lt, A_item, U_item, ifc_T, ifc_F, c1, c2, c3])⟩
      · refine gs_if_ne (tgt := 37) k (by decide) dX7_item_31 (fun h => absurd h (by decide)) (fun _ => ?_)
        refine gs_bipush (v := -2) k (by decide) dX7_item_34 ?_
        exact gs_iret k kt dX7_item_36 ⟨(by simp [-Int32.not_lt, A_item, U_item, ifc_T, ifc_F, c1, c2, c3]), (by simp [-Int32.not_lt, A_item, U_item, ifc_T, ifc_F, c1, c2, c3])⟩
    · refine gs_if_eq (tgt := 34) k (by decide) dX7_item_23 (fun _ => ?_) (fun h => absurd h (by decide))
      refine gs_bipush (v := -2) k (by decide) dX7_item_34 ?_
      exact gs_iret k kt dX7_item_36 ⟨(by simp [-Int32.not_lt, A_item, U_item, ifc_T, ifc_F, c1, c2]), (by simp [-Int32.not_lt, A_item, U_item, ifc_T, ifc_F, c1, c2])⟩
  · refine gs_if_ne (tgt := 14) k (by decide) dX7_item_9 (fun h => absurd h (by decide)) (fun _ => ?_)
    refine gs_iconst (v := -1) k (by decide) dX7_item_12 ?_
    exact gs_iret k kt dX7_item_13 ⟨(by simp [-Int32.not_lt, A_item, U_item, ifc_T, ifc_F, c1]), (by simp [-Int32.not_lt, A_item, U_item, ifc_T, ifc_F, c1])⟩

noncomputable def A_block (n : Nat) (w : Nat → Int32) (p b : Int32) : Int32 := ifc (inR p n ∧ inR b 6) (w (tn p)) (-1)
noncomputable def U_block (k n : Nat) (p b : Int32) (M : Mm) : Mm := ifc (inR p n ∧ inR b 6) (mw M k (tn p) b) M
noncomputable def A_cap (w : Nat → Int32) (b v : Int32) : Int32 := ifc (inR b 6) (ifc (inR v 7) (w (tn b)) (-2)) (-1)
noncomputable def U_cap (k : Nat) (b v : Int32) (M : Mm) : Mm := ifc (inR b 6) (ifc (inR v 7) (mw M k (tn b) v) M) M
noncomputable def A_weight (n : Nat) (w : Nat → Int32) (p v : Int32) : Int32 := ifc (inR p n) (ifc (isB (-99) 99 v) (w (tn p)) (-1000002)) (-1000001)
noncomputable def U_weight (k n : Nat) (p v : Int32) (M : Mm) : Mm := ifc (inR p n) (ifc (isB (-99) 99 v) (mw M k (tn p) v) M) M
theorem cf_X6_block : CF yX6_block cX6_block 4 (some .int) 2 := ⟨cd_X6_block, iz_X6, by decide, by decide +kernel, by decide +kernel, by decide +kernel⟩
set_option maxRecDepth 100000 in
set_option maxHeartbeats 4000000 in
theorem c_X6_block {l : Launch} {E : Ev} {M : Mm} {n : Nat} (hI : ∀ k, k < 108 → k ∈ E.2.1) (hn : Cn M n) {p b : Int32} : Cm l E yX6_block cX6_block 4 (some .int) 1 [.ref (E.2.2.1 0), .int p, .int b] M (pI (A_block n (M 5) p b) (U_block 5 n p b M)) := by
  refine Cm.of (by decide) (Nat.le_of_ble_eq_true rfl) (fun K k kt => ?_)
  show G l E K 0 [(0, .ref (E.2.2.1 0)), (1, .int p), (2, .int b)] [] M
  obtain ⟨hn0, hn1, hn6⟩ := id hn
  have hp := p2_le6 hn6
  have hp2 := p2_ge2 hn1
  refine gs_aload_n (q := 0) k rfl rfl dX6_block_0 ?_
  refine gs_get (C := RX6) (T := TX6) (N := 10) (ci := 6) (k0 := 0) (j := 0) k (hI 0 (by omega)) rfl rfl inX6 (by decide) fl_X6_12 rfl rfl dX6_block_1 ?_
  refine gs_iload_n (q := 1) k rfl rfl dX6_block_4 ?_
  refine gs_callV (As := [.int p]) (k0 := 1) (ci := 5) (T := TX5) (N := 9) k (c_X5_hasPoint hI hn) cf_X5_hasPoint im_X5_hasPoint sl_X5_hasPoint ml_X6_71 (hI 1 (by omega)) rfl rfl (by decide) rfl rfl (Nat.le_of_ble_eq_true rfl) dX6_block_5 (ppB (fun c1 => ?_) (fun c1 => ?_))
  · have bc1 := inR_lt c1
    refine gs_if_eq (tgt := 18) k (by decide) dX6_block_8 (fun h => absurd h (by decide)) (fun _ => ?_)
    refine gs_iload_n (q := 2) k rfl rfl dX6_block_11 ?_
    refine gs_callS (As := [.int b]) k c_X6_isBlock cf_X6_isBlock sm_X6_isBlock ml_X6_87 (by decide) rfl rfl (Nat.le_of_ble_eq_true rfl) dX6_block_12 (ppB (fun c2 => ?_) (fun c2 => ?_))
    · have bc2 := inR_lt c2
      refine gs_if_ne (tgt := 20) k (by decide) dX6_block_15 (fun _ => ?_) (fun h => absurd h (by decide))
      refine gs_aload_n (q := 0) k rfl rfl dX6_block_20 ?_
      refine gs_get (C := RX6) (T := TX6) (N := 10) (ci := 6) (k0 := 0) (j := 0) k (hI 0 (by omega)) rfl rfl inX6 (by decide) fl_X6_12 rfl rfl dX6_block_21 ?_
      refine gs_get (C := RX5) (T := TX5) (N := 9) (ci := 5) (k0 := 1) (j := 4) k (hI 1 (by omega)) rfl rfl inX5 (by decide) fl_X6_90 rfl rfl dX6_block_24 ?_
      refine gs_iload_n (q := 1) k rfl rfl dX6_block_27 ?_
      refine gs_ialdN (k0 := 5) (n := 6) (e := tn p) k (hI 5 (by omega)) (fun _ => rfl) (inR_eq c1) (by omega) (by decide) dX6_block_28 ?_
      refine gs_istore_n (lv' := [(3, .int (M 5 (tn p))), (0, .ref (E.2.2.1 0)), (1, .int p), (2, .int b)]) k rfl (by decide) rfl dX6_block_29 ?_
      refine gs_aload_n (q := 1) k rfl rfl dX6_block_30 ?_
      refine gs_get (C := RX6) (T := TX6) (N := 10) (ci := 6) (k0 := 0) (j := 0) k (hI 0 (by omega)) rfl rfl inX6 (by decide) fl_X6_12 rfl rfl dX6_block_31 ?_
      refine gs_get (C := RX5) (T := TX5) (N := 9) (ci := 5) (k0 := 1) (j := 4) k (hI 1 (by omega)) rfl rfl inX5 (by decide) fl_X6_90 rfl rfl dX6_block_34 ?_
      refine gs_iload_n (q := 2) k rfl rfl dX6_block_37 ?_
      refine gs_iload_n (q := 3) k rfl rfl dX6_block_38 ?_
      refine gs_iastN (k0 := 5) (n := 6) (e := tn p) k (hI 5 (by omega)) (fun _ => rfl) (inR_eq c1) (by omega) (by decide) dX6_block_39 ?_
      refine gs_iload_n (q := 0) k rfl rfl dX6_block_40 ?_
      exact gs_iret k kt dX6_block_41 ⟨(by simp [-Int32.not_lt, A_block, U_block, ifc_T, ifc_F, c1, c2]), (by simp [-Int32.not_lt, A_block, U_block, ifc_T, ifc_F, c1, c2])⟩
    · refine gs_if_ne (tgt := 20) k (by decide) dX6_block_15 (fun h => absurd h (by decide)) (fun _ => ?_)
      refine gs_iconst (v := -1) k (by decide) dX6_block_18 ?_
      exact gs_iret k kt dX6_block_19 ⟨(by simp [-Int32.not_lt, A_block, U_block, ifc_T, ifc_F, c1, c2]), (by simp [-Int32.not_lt, A_block, U_block, ifc_T, ifc_F, c1, c2])⟩
  · refine gs_if_eq (tgt := 18) k (by decide) dX6_block_8 (fun _ => ?_) (fun h => absurd h (by decide))
    refine gs_iconst (v := -1) k (by decide) dX6_block_18 ?_
    exact gs_iret k kt dX6_block_19 ⟨(by simp [-Int32.not_lt, A_block, U_block, ifc_T, ifc_F, c1]), (by simp [-Int32.not_lt, A_block, U_block, ifc_T, ifc_F, c1])⟩

theorem cf_X7_block : CF yX7_block cX7_block 4 (some .int) 2 := ⟨cd_X7_block, iz_X7, by decide, by decide +kernel, by decide +kernel, by decide +kernel⟩
set_option maxRecDepth 100000 in
set_option maxHeartbeats 4000000 in
theorem c_X7_block {l : Launch} {E : Ev} {M : Mm} {n : Nat} (hI : ∀ k, k < 108 → k ∈ E.2.1) (hn : Rn M n) {p b : Int32} : Cm l E yX7_block cX7_block 4 (some .int) 2 [.ref (E.2.2.1 65), .int p, .int b] M (pI (A_block n (M 69) p b) (U_block 69 n p b M)) := by
  refine Cm.of (by decide) (Nat.le_of_ble_eq_true rfl) (fun K k kt => ?_)
  show G l E K 0 [(0, .ref (E.2.2.1 65)), (1, .int p), (2, .int b)] [] M
  obtain ⟨hn0, hn1, hn6⟩ := id hn
  have hp := p2_le6 hn6
  have hp2 := p2_ge2 hn1
  refine gs_aload_n (q := 0) k rfl rfl dX7_block_0 ?_
  refine gs_iload_n (q := 1) k rfl rfl dX7_block_1 ?_
  refine gs_callV (As := [.int p]) (k0 := 65) (ci := 7) (T := TX7) (N := 27) k (c_X7_isPoint hI hn) cf_X7_isPoint im_X7_isPoint sl_X7_isPoint ml_X7_98 (hI 65 (by omega)) rfl rfl (by decide) rfl rfl (Nat.le_of_ble_eq_true rfl) dX7_block_2 (ppB (fun c1 => ?_) (fun c1 => ?_))
  · have bc1 := inR_lt c1
    refine gs_if_eq (tgt := 15) k (by decide) dX7_block_5 (fun h => absurd h (by decide)) (fun _ => ?_)
    refine gs_iload_n (q := 2) k rfl rfl dX7_block_8 ?_
    refine gs_callS (As := [.int b]) k c_X7_isBlock cf_X7_isBlock sm_X7_isBlock ml_X7_111 (by decide) rfl rfl (Nat.le_of_ble_eq_true rfl) dX7_block_9 (ppB (fun c2 => ?_) (fun c2 => ?_))
    · have bc2 := inR_lt c2
      refine gs_if_ne (tgt := 17) k (by decide) dX7_block_12 (fun _ => ?_) (fun h => absurd h (by decide))
      refine gs_aload_n (q := 0) k rfl rfl dX7_block_17 ?_
      refine gs_get (C := RX7) (T := TX7) (N := 27) (ci := 7) (k0 := 65) (j := 4) k (hI 65 (by omega)) rfl rfl inX7 (by decide) fl_X7_25 rfl rfl dX7_block_18 ?_
      refine gs_iload_n (q := 1) k rfl rfl dX7_block_21 ?_
      refine gs_ialdN (k0 := 69) (n := 6) (e := tn p) k (hI 69 (by omega)) (fun _ => rfl) (inR_eq c1) (by omega) (by decide) dX7_block_22 ?_
      refine gs_istore_n (lv' := [(3, .int (M 69 (tn p))), (0, .ref (E.2.2.1 65)), (1, .int p), (2, .int b)]) k rfl (by decide) rfl dX7_block_23 ?_
      refine gs_aload_n (q := 1) k rfl rfl dX7_block_24 ?_
      refine gs_get (C := RX7) (T := TX7) (N := 27) (ci := 7) (k0 := 65) (j := 4) k (hI 65 (by omega)) rfl rfl inX7 (by decide) fl_X7_25 rfl rfl dX7_block_25 ?_
      refine gs_iload_n (q := 2) k rfl rfl dX7_block_28 ?_
      refine gs_iload_n (q := 3) k rfl rfl dX7_block_29 ?_
      refine gs_iastN (k0 := 69) (n := 6) (e := tn p) k (hI 69 (by omega)) (fun _ => rfl) (inR_eq c1) (by omega) (by decide) dX7_block_30 ?_
      refine gs_iload_n (q := 0) k rfl rfl dX7_block_31 ?_
      exact gs_iret k kt dX7_block_32 ⟨(by simp [-Int32.not_lt, A_block, U_block, ifc_T, ifc_F, c1, c2]), (by simp [-Int32.not_lt, A_block, U_block, ifc_T, ifc_F, c1, c2])⟩
    · refine gs_if_ne (tgt := 17) k (by decide) dX7_block_12 (fun h => absurd h (by decide)) (fun _ => ?_)
      refine gs_iconst (v := -1) k (by decide) dX7_block_15 ?_
      exact gs_iret k kt dX7_block_16 ⟨(by simp [-Int32.not_lt, A_block, U_block, ifc_T, ifc_F, c1, c2]), (by simp [-Int32.not_lt, A_block, U_block, ifc_T, ifc_F, c1, c2])⟩
  · refine gs_if_eq (tgt := 15) k (by decide) dX7_block_5 (fun _ => ?_) (fun h => absurd h (by decide))
    refine gs_iconst (v := -1) k (by decide) dX7_block_15 ?_
    exact gs_iret k kt dX7_block_16 ⟨(by simp [-Int32.not_lt, A_block, U_block, ifc_T, ifc_F, c1]), (by simp [-Int32.not_lt, A_block, U_block, ifc_T, ifc_F, c1])⟩

theorem cf_X6_cap : CF yX6_cap cX6_cap 4 (some .int) 2 := ⟨cd_X6_cap, iz_X6, by decide, by decide +kernel, by decide +kernel, by decide +kernel⟩
set_option maxRecDepth 100000 in
set_option maxHeartbeats 4000000 in
theorem c_X6_cap {l : Launch} {E : Ev} {M : Mm} (hI : ∀ k, k < 108 → k ∈ E.2.1) {b v : Int32} : Cm l E yX6_cap cX6_cap 4 (some .int) 1 [.ref (E.2.2.1 0), .int b, .int v] M (pI (A_cap (M 6) b v) (U_cap 6 b v M)) := by
  refine Cm.of (by decide) (Nat.le_of_ble_eq_true rfl) (fun K k kt => ?_)
  show G l E K 0 [(0, .ref (E.2.2.1 0)), (1, .int b), (2, .int v)] [] M
  refine gs_iload_n (q := 1) k rfl rfl dX6_cap_0 ?_
  refine gs_callS (As := [.int b]) k c_X6_isBlock cf_X6_isBlock sm_X6_isBlock ml_X6_87 (by decide) rfl rfl (Nat.le_of_ble_eq_true rfl) dX6_cap_1 (ppB (fun c1 => ?_) (fun c1 => ?_))
  · have bc1 := inR_lt c1
    refine gs_if_ne (tgt := 9) k (by decide) dX6_cap_4 (fun _ => ?_) (fun h => absurd h (by decide))
    refine gs_iload_n (q := 2) k rfl rfl dX6_cap_9 ?_
    refine gs_if_lt (tgt := 19) k (by decide) dX6_cap_10 (fun c2 => ?_) (fun c2 => ?_)
    · have ec2 : ¬ inR v 7 := inR_n1 c2
      refine gs_bipush (v := -2) k (by decide) dX6_cap_19 ?_
      exact gs_iret k kt dX6_cap_21 ⟨(by simp [-Int32.not_lt, A_cap, U_cap, ifc_T, ifc_F, c1, c2, ec2]), (by simp [-Int32.not_lt, A_cap, U_cap, ifc_T, ifc_F, c1, c2, ec2])⟩
    · refine gs_iload_n (q := 2) k rfl rfl dX6_cap_13 ?_
      refine gs_bipush (v := 6) k (by decide) dX6_cap_14 ?_
      refine gs_icmp_le (tgt := 22) k (by decide) dX6_cap_16 (fun c3 => ?_) (fun c3 => ?_)
      · have ec3 : inR v 7 := inR_of' rfl (by decide) (by decide) c2 (Int32.not_lt.mpr c3)
        have fc3 := inR_lt ec3
        refine gs_aload_n (q := 0) k rfl rfl dX6_cap_22 ?_
        refine gs_get (C := RX6) (T := TX6) (N := 10) (ci := 6) (k0 := 0) (j := 0) k (hI 0 (by omega)) rfl rfl inX6 (by decide) fl_X6_12 rfl rfl dX6_cap_23 ?_
        refine gs_get (C := RX5) (T := TX5) (N := 9) (ci := 5) (k0 := 1) (j := 5) k (hI 1 (by omega)) rfl rfl inX5 (by decide) fl_X6_93 rfl rfl dX6_cap_26 ?_
        refine gs_iload_n (q := 1) k rfl rfl dX6_cap_29 ?_
        refine gs_ialdN (k0 := 6) (n := 6) (e := tn b) k (hI 6 (by omega)) (fun _ => rfl) (inR_eq c1) (by omega) (by decide) dX6_cap_30 ?_
        refine gs_istore_n (lv' := [(3, .int (M 6 (tn b))), (0, .ref (E.2.2.1 0)), (1, .int b), (2, .int v)]) k rfl (by decide) rfl dX6_cap_31 ?_
        refine gs_aload_n (q := 1) k rfl rfl dX6_cap_32 ?_
        refine gs_get (C := RX6) (T := TX6) (N := 10) (ci := 6) (k0 := 0) (j := 0) k (hI 0 (by omega)) rfl rfl inX6 (by decide) fl_X6_12 rfl rfl dX6_cap_33 ?_
        refine gs_get (C := RX5) (T := TX5) (N := 9) (ci := 5) (k0 := 1) (j := 5) k (hI 1 (by omega)) rfl rfl inX5 (by decide) fl_X6_93 rfl rfl dX6_cap_36 ?_
        refine gs_iload_n (q := 2) k rfl rfl dX6_cap_39 ?_
        refine gs_iload_n (q := 3) k rfl rfl dX6_cap_40 ?_
        refine gs_iastN (k0 := 6) (n := 6) (e := tn b) k (hI 6 (by omega)) (fun _ => rfl) (inR_eq c1) (by omega) (by decide) dX6_cap_41 ?_
        refine gs_iload_n (q := 0) k rfl rfl dX6_cap_42 ?_
        exact gs_iret k kt dX6_cap_43 ⟨(by simp [-Int32.not_lt, A_cap, U_cap, ifc_T, ifc_F, c1, c2, c3, ec3]), (by simp [-Int32.not_lt, A_cap, U_cap, ifc_T, ifc_F, c1, c2, c3, ec3])⟩
      · have ec3 : ¬ inR v 7 := inR_n2' rfl (by decide) (by decide) (Int32.not_le.mp c3)
        refine gs_bipush (v := -2) k (by decide) dX6_cap_19 ?_
        exact gs_iret k kt dX6_cap_21 ⟨(by simp [-Int32.not_lt, A_cap, U_cap, ifc_T, ifc_F, c1, c2, c3, ec3]), (by simp [-Int32.not_lt, A_cap, U_cap, ifc_T, ifc_F, c1, c2, c3, ec3])⟩
  · refine gs_if_ne (tgt := 9) k (by decide) dX6_cap_4 (fun h => absurd h (by decide)) (fun _ => ?_)
    refine gs_iconst (v := -1) k (by decide) dX6_cap_7 ?_
    exact gs_iret k kt dX6_cap_8 ⟨(by simp [-Int32.not_lt, A_cap, U_cap, ifc_T, ifc_F, c1]), (by simp [-Int32.not_lt, A_cap, U_cap, ifc_T, ifc_F, c1])⟩

theorem cf_X7_cap : CF yX7_cap cX7_cap 4 (some .int) 2 := ⟨cd_X7_cap, iz_X7, by decide, by decide +kernel, by decide +kernel, by decide +kernel⟩
set_option maxRecDepth 100000 in
set_option maxHeartbeats 4000000 in
theorem c_X7_cap {l : Launch} {E : Ev} {M : Mm} (hI : ∀ k, k < 108 → k ∈ E.2.1) {b v : Int32} : Cm l E yX7_cap cX7_cap 4 (some .int) 2 [.ref (E.2.2.1 65), .int b, .int v] M (pI (A_cap (M 70) b v) (U_cap 70 b v M)) := by
  refine Cm.of (by decide) (Nat.le_of_ble_eq_true rfl) (fun K k kt => ?_)
  show G l E K 0 [(0, .ref (E.2.2.1 65)), (1, .int b), (2, .int v)] [] M
  refine gs_iload_n (q := 1) k rfl rfl dX7_cap_0 ?_
  refine gs_callS (As := [.int b]) k c_X7_isBlock cf_X7_isBlock sm_X7_isBlock ml_X7_111 (by decide) rfl rfl (Nat.le_of_ble_eq_true rfl) dX7_cap_1 (ppB (fun c1 => ?_) (fun c1 => ?_))
  · have bc1 := inR_lt c1
    refine gs_if_ne (tgt := 9) k (by decide) dX7_cap_4 (fun _ => ?_) (fun h => absurd h (by decide))
    refine gs_iload_n (q := 2) k rfl rfl dX7_cap_9 ?_
    refine gs_i2l k dX7_cap_10 ?_
    refine gs_lconst (v := 0) k (by decide) dX7_cap_11 ?_
    refine gs_ldc2 (v := 6) k cl_X7_96 dX7_cap_12 ?_
    refine gs_callS (As := [.long (v.toInt64), .long (0), .long (6)]) k (Cm.iff (inL (n := 7) (by decide) (by decide)) c_X7_in) cf_X7_in sm_X7_in ml_X7_79 (by decide) rfl rfl (Nat.le_of_ble_eq_true rfl) dX7_cap_15 (ppB (fun c2 => ?_) (fun c2 => ?_))
    · have bc2 := inR_lt c2
      refine gs_if_ne (tgt := 24) k (by decide) dX7_cap_18 (fun _ => ?_) (fun h => absurd h (by decide))
      refine gs_aload_n (q := 0) k rfl rfl dX7_cap_24 ?_
      refine gs_get (C := RX7) (T := TX7) (N := 27) (ci := 7) (k0 := 65) (j := 5) k (hI 65 (by omega)) rfl rfl inX7 (by decide) fl_X7_28 rfl rfl dX7_cap_25 ?_
      refine gs_iload_n (q := 1) k rfl rfl dX7_cap_28 ?_
      refine gs_ialdN (k0 := 70) (n := 6) (e := tn b) k (hI 70 (by omega)) (fun _ => rfl) (inR_eq c1) (by omega) (by decide) dX7_cap_29 ?_
      refine gs_istore_n (lv' := [(3, .int (M 70 (tn b))), (0, .ref (E.2.2.1 65)), (1, .int b), (2, .int v)]) k rfl (by decide) rfl dX7_cap_30 ?_
      refine gs_aload_n (q := 1) k rfl rfl dX7_cap_31 ?_
      refine gs_get (C := RX7) (T := TX7) (N := 27) (ci := 7) (k0 := 65) (j := 5) k (hI 65 (by omega)) rfl rfl inX7 (by decide) fl_X7_28 rfl rfl dX7_cap_32 ?_
      refine gs_iload_n (q := 2) k rfl rfl dX7_cap_35 ?_
      refine gs_iload_n (q := 3) k rfl rfl dX7_cap_36 ?_
      refine gs_iastN (k0 := 70) (n := 6) (e := tn b) k (hI 70 (by omega)) (fun _ => rfl) (inR_eq c1) (by omega) (by decide) dX7_cap_37 ?_
      refine gs_iload_n (q := 0) k rfl rfl dX7_cap_38 ?_
      exact gs_iret k kt dX7_cap_39 ⟨(by simp [-Int32.not_lt, A_cap, U_cap, ifc_T, ifc_F, c1, c2]), (by simp [-Int32.not_lt, A_cap, U_cap, ifc_T, ifc_F, c1, c2])⟩
    · refine gs_if_ne (tgt := 24) k (by decide) dX7_cap_18 (fun h => absurd h (by decide)) (fun _ => ?_)
      refine gs_bipush (v := -2) k (by decide) dX7_cap_21 ?_
      exact gs_iret k kt dX7_cap_23 ⟨(by simp [-Int32.not_lt, A_cap, U_cap, ifc_T, ifc_F, c1, c2]), (by simp [-Int32.not_lt, A_cap, U_cap, ifc_T, ifc_F, c1, c2])⟩
  · refine gs_if_ne (tgt := 9) k (by decide) dX7_cap_4 (fun h => absurd h (by decide)) (fun _ => ?_)
    refine gs_iconst (v := -1) k (by decide) dX7_cap_7 ?_
    exact gs_iret k kt dX7_cap_8 ⟨(by simp [-Int32.not_lt, A_cap, U_cap, ifc_T, ifc_F, c1]), (by simp [-Int32.not_lt, A_cap, U_cap, ifc_T, ifc_F, c1])⟩

theorem cf_X6_weight : CF yX6_weight cX6_weight 4 (some .int) 2 := ⟨cd_X6_weight, iz_X6, by decide, by decide +kernel, by decide +kernel, by decide +kernel⟩
set_option maxRecDepth 100000 in
set_option maxHeartbeats 4000000 in
theorem c_X6_weight {l : Launch} {E : Ev} {M : Mm} {n : Nat} (hI : ∀ k, k < 108 → k ∈ E.2.1) (hn : Cn M n) {p v : Int32} : Cm l E yX6_weight cX6_weight 4 (some .int) 1 [.ref (E.2.2.1 0), .int p, .int v] M (pI (A_weight n (M 7) p v) (U_weight 7 n p v M)) := by
  refine Cm.of (by decide) (Nat.le_of_ble_eq_true rfl) (fun K k kt => ?_)
  show G l E K 0 [(0, .ref (E.2.2.1 0)), (1, .int p), (2, .int v)] [] M
  obtain ⟨hn0, hn1, hn6⟩ := id hn
  have hp := p2_le6 hn6
  have hp2 := p2_ge2 hn1
  refine gs_aload_n (q := 0) k rfl rfl dX6_weight_0 ?_
  refine gs_get (C := RX6) (T := TX6) (N := 10) (ci := 6) (k0 := 0) (j := 0) k (hI 0 (by omega)) rfl rfl inX6 (by decide) fl_X6_12 rfl rfl dX6_weight_1 ?_
  refine gs_iload_n (q := 1) k rfl rfl dX6_weight_4 ?_
  refine gs_callV (As := [.int p]) (k0 := 1) (ci := 5) (T := TX5) (N := 9) k (c_X5_hasPoint hI hn) cf_X5_hasPoint im_X5_hasPoint sl_X5_hasPoint ml_X6_71 (hI 1 (by omega)) rfl rfl (by decide) rfl rfl (Nat.le_of_ble_eq_true rfl) dX6_weight_5 (ppB (fun c1 => ?_) (fun c1 => ?_))
  · have bc1 := inR_lt c1
    refine gs_if_ne (tgt := 14) k (by decide) dX6_weight_8 (fun _ => ?_) (fun h => absurd h (by decide))
    refine gs_iload_n (q := 2) k rfl rfl dX6_weight_14 ?_
    refine gs_bipush (v := -99) k (by decide) dX6_weight_15 ?_
    refine gs_icmp_lt (tgt := 26) k (by decide) dX6_weight_17 (fun c2 => ?_) (fun c2 => ?_)
    · have ec2 : ¬ isB (-99) 99 v := fun h => h.1 c2
      refine gs_ldc (v := -1000002) k cn_X6_97 dX6_weight_26 ?_
      exact gs_iret k kt dX6_weight_28 ⟨(by simp [-Int32.not_lt, A_weight, U_weight, ifc_T, ifc_F, c1, c2, ec2]), (by simp [-Int32.not_lt, A_weight, U_weight, ifc_T, ifc_F, c1, c2, ec2])⟩
    · refine gs_iload_n (q := 2) k rfl rfl dX6_weight_20 ?_
      refine gs_bipush (v := 99) k (by decide) dX6_weight_21 ?_
      refine gs_icmp_le (tgt := 29) k (by decide) dX6_weight_23 (fun c3 => ?_) (fun c3 => ?_)
      · have ec3 : isB (-99) 99 v := ⟨c2, Int32.not_lt.mpr c3⟩
        refine gs_aload_n (q := 0) k rfl rfl dX6_weight_29 ?_
        refine gs_get (C := RX6) (T := TX6) (N := 10) (ci := 6) (k0 := 0) (j := 0) k (hI 0 (by omega)) rfl rfl inX6 (by decide) fl_X6_12 rfl rfl dX6_weight_30 ?_
        refine gs_get (C := RX5) (T := TX5) (N := 9) (ci := 5) (k0 := 1) (j := 6) k (hI 1 (by omega)) rfl rfl inX5 (by decide) fl_X6_98 rfl rfl dX6_weight_33 ?_
        refine gs_iload_n (q := 1) k rfl rfl dX6_weight_36 ?_
        refine gs_ialdN (k0 := 7) (n := 6) (e := tn p) k (hI 7 (by omega)) (fun _ => rfl) (inR_eq c1) (by omega) (by decide) dX6_weight_37 ?_
        refine gs_istore_n (lv' := [(3, .int (M 7 (tn p))), (0, .ref (E.2.2.1 0)), (1, .int p), (2, .int v)]) k rfl (by decide) rfl dX6_weight_38 ?_
        refine gs_aload_n (q := 1) k rfl rfl dX6_weight_39 ?_
        refine gs_get (C := RX6) (T := TX6) (N := 10) (ci := 6) (k0 := 0) (j := 0) k (hI 0 (by omega)) rfl rfl inX6 (by decide) fl_X6_12 rfl rfl dX6_weight_40 ?_
        refine gs_get (C := RX5) (T := TX5) (N := 9) (ci := 5) (k0 := 1) (j := 6) k (hI 1 (by omega)) rfl rfl inX5 (by decide) fl_X6_98 rfl rfl dX6_weight_43 ?_
        refine gs_iload_n (q := 2) k rfl rfl dX6_weight_46 ?_
        refine gs_iload_n (q := 3) k rfl rfl dX6_weight_47 ?_
        refine gs_iastN (k0 := 7) (n := 6) (e := tn p) k (hI 7 (by omega)) (fun _ => rfl) (inR_eq c1) (by omega) (by decide) dX6_weight_48 ?_
        refine gs_iload_n (q := 0) k rfl rfl dX6_weight_49 ?_
        exact gs_iret k kt dX6_weight_50 ⟨(by simp [-Int32.not_lt, A_weight, U_weight, ifc_T, ifc_F, c1, c2, c3, ec3]), (by simp [-Int32.not_lt, A_weight, U_weight, ifc_T, ifc_F, c1, c2, c3, ec3])⟩
      · have ec3 : ¬ isB (-99) 99 v := fun h => h.2 (Int32.not_le.mp c3)
        refine gs_ldc (v := -1000002) k cn_X6_97 dX6_weight_26 ?_
        exact gs_iret k kt dX6_weight_28 ⟨(by simp [-Int32.not_lt, A_weight, U_weight, ifc_T, ifc_F, c1, c2, c3, ec3]), (by simp [-Int32.not_lt, A_weight, U_weight, ifc_T, ifc_F, c1, c2, c3, ec3])⟩
  · refine gs_if_ne (tgt := 14) k (by decide) dX6_weight_8 (fun h => absurd h (by decide)) (fun _ => ?_)
    refine gs_ldc (v := -1000001) k cn_X6_96 dX6_weight_11 ?_
    exact gs_iret k kt dX6_weight_13 ⟨(by simp [-Int32.not_lt, A_weight, U_weight, ifc_T, ifc_F, c1]), (by simp [-Int32.not_lt, A_weight, U_weight, ifc_T, ifc_F, c1])⟩

theorem cf_X7_weight : CF yX7_weight cX7_weight 4 (some .int) 2 := ⟨cd_X7_weight, iz_X7, by decide, by decide +kernel, by decide +kernel, by decide +kernel⟩
set_option maxRecDepth 100000 in
set_option maxHeartbeats 4000000 in
theorem c_X7_weight {l : Launch} {E : Ev} {M : Mm} {n : Nat} (hI : ∀ k, k < 108 → k ∈ E.2.1) (hn : Rn M n) {p v : Int32} : Cm l E yX7_weight cX7_weight 4 (some .int) 2 [.ref (E.2.2.1 65), .int p, .int v] M (pI (A_weight n (M 71) p v) (U_weight 71 n p v M)) := by
  refine Cm.of (by decide) (Nat.le_of_ble_eq_true rfl) (fun K k kt => ?_)
  show G l E K 0 [(0, .ref (E.2.2.1 65)), (1, .int p), (2, .int v)] [] M
  obtain ⟨hn0, hn1, hn6⟩ := id hn
  have hp := p2_le6 hn6
  have hp2 := p2_ge2 hn1
  refine gs_aload_n (q := 0) k rfl rfl dX7_weight_0 ?_
  refine gs_iload_n (q := 1) k rfl rfl dX7_weight_1 ?_
  refine gs_callV (As := [.int p]) (k0 := 65) (ci := 7) (T := TX7) (N := 27) k (c_X7_isPoint hI hn) cf_X7_isPoint im_X7_isPoint sl_X7_isPoint ml_X7_98 (hI 65 (by omega)) rfl rfl (by decide) rfl rfl (Nat.le_of_ble_eq_true rfl) dX7_weight_2 (ppB (fun c1 => ?_) (fun c1 => ?_))
  · have bc1 := inR_lt c1
    refine gs_if_ne (tgt := 11) k (by decide) dX7_weight_5 (fun _ => ?_) (fun h => absurd h (by decide))
    refine gs_iload_n (q := 2) k rfl rfl dX7_weight_11 ?_
    refine gs_i2l k dX7_weight_12 ?_
    refine gs_ldc2 (v := -99) k cl_X7_115 dX7_weight_13 ?_
    refine gs_ldc2 (v := 99) k cl_X7_102 dX7_weight_16 ?_
    refine gs_callS (As := [.long (v.toInt64), .long (-99), .long (99)]) k (Cm.iff (isBL (a := -99) (b := 99) (by decide) (by decide)) c_X7_in) cf_X7_in sm_X7_in ml_X7_79 (by decide) rfl rfl (Nat.le_of_ble_eq_true rfl) dX7_weight_19 (ppB (fun c2 => ?_) (fun c2 => ?_))
    · refine gs_if_ne (tgt := 28) k (by decide) dX7_weight_22 (fun _ => ?_) (fun h => absurd h (by decide))
      refine gs_aload_n (q := 0) k rfl rfl dX7_weight_28 ?_
      refine gs_get (C := RX7) (T := TX7) (N := 27) (ci := 7) (k0 := 65) (j := 6) k (hI 65 (by omega)) rfl rfl inX7 (by decide) fl_X7_31 rfl rfl dX7_weight_29 ?_
      refine gs_iload_n (q := 1) k rfl rfl dX7_weight_32 ?_
      refine gs_ialdN (k0 := 71) (n := 6) (e := tn p) k (hI 71 (by omega)) (fun _ => rfl) (inR_eq c1) (by omega) (by decide) dX7_weight_33 ?_
      refine gs_istore_n (lv' := [(3, .int (M 71 (tn p))), (0, .ref (E.2.2.1 65)), (1, .int p), (2, .int v)]) k rfl (by decide) rfl dX7_weight_34 ?_
      refine gs_aload_n (q := 1) k rfl rfl dX7_weight_35 ?_
      refine gs_get (C := RX7) (T := TX7) (N := 27) (ci := 7) (k0 := 65) (j := 6) k (hI 65 (by omega)) rfl rfl inX7 (by decide) fl_X7_31 rfl rfl dX7_weight_36 ?_
      refine gs_iload_n (q := 2) k rfl rfl dX7_weight_39 ?_
      refine gs_iload_n (q := 3) k rfl rfl dX7_weight_40 ?_
      refine gs_iastN (k0 := 71) (n := 6) (e := tn p) k (hI 71 (by omega)) (fun _ => rfl) (inR_eq c1) (by omega) (by decide) dX7_weight_41 ?_
      refine gs_iload_n (q := 0) k rfl rfl dX7_weight_42 ?_
      exact gs_iret k kt dX7_weight_43 ⟨(by simp [-Int32.not_lt, A_weight, U_weight, ifc_T, ifc_F, c1, c2]), (by simp [-Int32.not_lt, A_weight, U_weight, ifc_T, ifc_F, c1, c2])⟩
    · refine gs_if_ne (tgt := 28) k (by decide) dX7_weight_22 (fun h => absurd h (by decide)) (fun _ => ?_)
      refine gs_ldc (v := -1000002) k cn_X7_117 dX7_weight_25 ?_
      exact gs_iret k kt dX7_weight_27 ⟨(by simp [-Int32.not_lt, A_weight, U_weight, ifc_T, ifc_F, c1, c2]), (by simp [-Int32.not_lt, A_weight, U_weight, ifc_T, ifc_F, c1, c2])⟩
  · refine gs_if_ne (tgt := 11) k (by decide) dX7_weight_5 (fun h => absurd h (by decide)) (fun _ => ?_)
    refine gs_ldc (v := -1000001) k cn_X7_114 dX7_weight_8 ?_
    exact gs_iret k kt dX7_weight_10 ⟨(by simp [-Int32.not_lt, A_weight, U_weight, ifc_T, ifc_F, c1]), (by simp [-Int32.not_lt, A_weight, U_weight, ifc_T, ifc_F, c1])⟩

