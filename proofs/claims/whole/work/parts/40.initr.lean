set_option maxRecDepth 100000 in
set_option maxHeartbeats 4000000 in
theorem c_X7_empties65 {l : Launch} {E : Ev} {M : Mm} (hI : ∀ k, 65 ≤ k → k < 108 → k ∈ E.2.1) : Cm l E yX7_empties cX7_empties 2 none 0 [.ref (E.2.2.1 65)] M (pV (emp M)) := by
  refine Cm.of (by decide) (Nat.le_of_ble_eq_true rfl) (fun K k kt => ?_)
  show G l E K 0 [(0, .ref (E.2.2.1 65))] [] M
  refine gs_iconst (v := 0) k (by decide) dX7_empties_0 ?_
  refine gs_istore_n (lv' := [(1, .int 0), (0, .ref (E.2.2.1 65))]) k rfl (by decide) rfl dX7_empties_1 ?_
  refine gs_lv (lv' := [(0, .ref (E.2.2.1 65)), (1, .int 0)]) [1, 0] rfl ?_
  refine for_up (σ := Mm) (fun j m => G l E K 2 [(0, .ref (E.2.2.1 65)), (1, .int (nI j))] [] m) (fun j m => mw m 66 j 0) 36 (fun j m hj hGj => ?_) 36 0 M (by omega) ?_
  · show G l E K 2 [(0, .ref (E.2.2.1 65)), (1, .int (nI j))] [] m
    refine gs_iload_n (q := 1) k rfl rfl dX7_empties_2 ?_
    refine gs_bipush (v := 36) k (by decide) dX7_empties_3 ?_
    refine gs_icmpN_ge (a := j) (b := 36) (tgt := 21) k rfl rfl (by omega) (by omega) (by decide) dX7_empties_5 (fun c1 => absurd c1 (by omega)) (fun c1 => ?_)
    refine gs_aload_n (q := 0) k rfl rfl dX7_empties_8 ?_
    refine gs_get (C := RX7) (T := TX7) (N := 27) (ci := 7) (k0 := 65) (j := 1) k (hI 65 (by omega) (by omega)) rfl rfl inX7 (by decide) fl_X7_15 rfl rfl dX7_empties_9 ?_
    refine gs_iload_n (q := 1) k rfl rfl dX7_empties_12 ?_
    refine gs_iconst (v := 0) k (by decide) dX7_empties_13 ?_
    refine gs_iastN (k0 := 66) (n := 36) (e := j) k (hI 66 (by omega) (by omega)) (fun _ => rfl) rfl (by omega) (by decide) dX7_empties_14 ?_
    refine gs_iincN (q := 1) (a := j) (c := 1) (lv' := [(1, .int (nI (j + 1))), (0, .ref (E.2.2.1 65))]) k rfl rfl (by decide) rfl dX7_empties_15 ?_
    refine gs_goto (tgt := 2) k (by decide) dX7_empties_18 ?_
    refine gs_lv (lv' := [(0, .ref (E.2.2.1 65)), (1, .int (nI (j + 1)))]) [1, 0] rfl ?_
    exact hGj _ rfl
  · show G l E K 2 [(0, .ref (E.2.2.1 65)), (1, .int (nI 36))] [] (emp1 M)
    refine gs_iload_n (q := 1) k rfl rfl dX7_empties_2 ?_
    refine gs_bipush (v := 36) k (by decide) dX7_empties_3 ?_
    refine gs_icmpN_ge (a := 36) (b := 36) (tgt := 21) k rfl rfl (by omega) (by omega) (by decide) dX7_empties_5 (fun c1 => ?_) (fun c1 => absurd c1 (by omega))
    refine gs_iconst (v := 0) k (by decide) dX7_empties_21 ?_
    refine gs_istore_n (lv' := [(1, .int 0), (0, .ref (E.2.2.1 65))]) k rfl (by decide) rfl dX7_empties_22 ?_
    refine gs_lv (lv' := [(0, .ref (E.2.2.1 65)), (1, .int 0)]) [1, 0] rfl ?_
    refine for_up (σ := Mm) (fun j m => G l E K 23 [(0, .ref (E.2.2.1 65)), (1, .int (nI j))] [] m) (fun j m => mw (mw m 67 j 0) 68 j 0) 8 (fun j m hj hGj => ?_) 8 0 (emp1 M) (by omega) ?_
    · show G l E K 23 [(0, .ref (E.2.2.1 65)), (1, .int (nI j))] [] m
      refine gs_iload_n (q := 1) k rfl rfl dX7_empties_23 ?_
      refine gs_bipush (v := 8) k (by decide) dX7_empties_24 ?_
      refine gs_icmpN_ge (a := j) (b := 8) (tgt := 49) k rfl rfl (by omega) (by omega) (by decide) dX7_empties_26 (fun c2 => absurd c2 (by omega)) (fun c2 => ?_)
      refine gs_aload_n (q := 0) k rfl rfl dX7_empties_29 ?_
      refine gs_get (C := RX7) (T := TX7) (N := 27) (ci := 7) (k0 := 65) (j := 2) k (hI 65 (by omega) (by omega)) rfl rfl inX7 (by decide) fl_X7_19 rfl rfl dX7_empties_30 ?_
      refine gs_iload_n (q := 1) k rfl rfl dX7_empties_33 ?_
      refine gs_iconst (v := 0) k (by decide) dX7_empties_34 ?_
      refine gs_iastN (k0 := 67) (n := 8) (e := j) k (hI 67 (by omega) (by omega)) (fun _ => rfl) rfl (by omega) (by decide) dX7_empties_35 ?_
      refine gs_aload_n (q := 0) k rfl rfl dX7_empties_36 ?_
      refine gs_get (C := RX7) (T := TX7) (N := 27) (ci := 7) (k0 := 65) (j := 3) k (hI 65 (by omega) (by omega)) rfl rfl inX7 (by decide) fl_X7_22 rfl rfl dX7_empties_37 ?_
      refine gs_iload_n (q := 1) k rfl rfl dX7_empties_40 ?_
      refine gs_iconst (v := 0) k (by decide) dX7_empties_41 ?_
      refine gs_iastN (k0 := 68) (n := 8) (e := j) k (hI 68 (by omega) (by omega)) (fun _ => rfl) rfl (by omega) (by decide) dX7_empties_42 ?_
      refine gs_iincN (q := 1) (a := j) (c := 1) (lv' := [(1, .int (nI (j + 1))), (0, .ref (E.2.2.1 65))]) k rfl rfl (by decide) rfl dX7_empties_43 ?_
      refine gs_goto (tgt := 23) k (by decide) dX7_empties_46 ?_
      refine gs_lv (lv' := [(0, .ref (E.2.2.1 65)), (1, .int (nI (j + 1)))]) [1, 0] rfl ?_
      exact hGj _ rfl
    · show G l E K 23 [(0, .ref (E.2.2.1 65)), (1, .int (nI 8))] [] (emp2 (emp1 M))
      refine gs_iload_n (q := 1) k rfl rfl dX7_empties_23 ?_
      refine gs_bipush (v := 8) k (by decide) dX7_empties_24 ?_
      refine gs_icmpN_ge (a := 8) (b := 8) (tgt := 49) k rfl rfl (by omega) (by omega) (by decide) dX7_empties_26 (fun c2 => ?_) (fun c2 => absurd c2 (by omega))
      refine gs_iconst (v := 0) k (by decide) dX7_empties_49 ?_
      refine gs_istore_n (lv' := [(1, .int 0), (0, .ref (E.2.2.1 65))]) k rfl (by decide) rfl dX7_empties_50 ?_
      refine gs_lv (lv' := [(0, .ref (E.2.2.1 65)), (1, .int 0)]) [1, 0] rfl ?_
      refine for_up (σ := Mm) (fun j m => G l E K 51 [(0, .ref (E.2.2.1 65)), (1, .int (nI j))] [] m) (fun j m => mw (mw (mw m 69 j 0) 71 j 0) 70 j 1) 6 (fun j m hj hGj => ?_) 6 0 (emp2 (emp1 M)) (by omega) ?_
      · show G l E K 51 [(0, .ref (E.2.2.1 65)), (1, .int (nI j))] [] m
        refine gs_iload_n (q := 1) k rfl rfl dX7_empties_51 ?_
        refine gs_bipush (v := 6) k (by decide) dX7_empties_52 ?_
        refine gs_icmpN_ge (a := j) (b := 6) (tgt := 84) k rfl rfl (by omega) (by omega) (by decide) dX7_empties_54 (fun c3 => absurd c3 (by omega)) (fun c3 => ?_)
        refine gs_aload_n (q := 0) k rfl rfl dX7_empties_57 ?_
        refine gs_get (C := RX7) (T := TX7) (N := 27) (ci := 7) (k0 := 65) (j := 4) k (hI 65 (by omega) (by omega)) rfl rfl inX7 (by decide) fl_X7_25 rfl rfl dX7_empties_58 ?_
        refine gs_iload_n (q := 1) k rfl rfl dX7_empties_61 ?_
        refine gs_iconst (v := 0) k (by decide) dX7_empties_62 ?_
        refine gs_iastN (k0 := 69) (n := 6) (e := j) k (hI 69 (by omega) (by omega)) (fun _ => rfl) rfl (by omega) (by decide) dX7_empties_63 ?_
        refine gs_aload_n (q := 0) k rfl rfl dX7_empties_64 ?_
        refine gs_get (C := RX7) (T := TX7) (N := 27) (ci := 7) (k0 := 65) (j := 6) k (hI 65 (by omega) (by omega)) rfl rfl inX7 (by decide) fl_X7_31 rfl rfl dX7_empties_65 ?_
        refine gs_iload_n (q := 1) k rfl rfl dX7_empties_68 ?_
        refine gs_iconst (v := 0) k (by decide) dX7_empties_69 ?_
        refine gs_iastN (k0 := 71) (n := 6) (e := j) k (hI 71 (by omega) (by omega)) (fun _ => rfl) rfl (by omega) (by decide) dX7_empties_70 ?_
        refine gs_aload_n (q := 0) k rfl rfl dX7_empties_71 ?_
        refine gs_get (C := RX7) (T := TX7) (N := 27) (ci := 7) (k0 := 65) (j := 5) k (hI 65 (by omega) (by omega)) rfl rfl inX7 (by decide) fl_X7_28 rfl rfl dX7_empties_72 ?_
        refine gs_iload_n (q := 1) k rfl rfl dX7_empties_75 ?_
        refine gs_iconst (v := 1) k (by decide) dX7_empties_76 ?_
        refine gs_iastN (k0 := 70) (n := 6) (e := j) k (hI 70 (by omega) (by omega)) (fun _ => rfl) rfl (by omega) (by decide) dX7_empties_77 ?_
        refine gs_iincN (q := 1) (a := j) (c := 1) (lv' := [(1, .int (nI (j + 1))), (0, .ref (E.2.2.1 65))]) k rfl rfl (by decide) rfl dX7_empties_78 ?_
        refine gs_goto (tgt := 51) k (by decide) dX7_empties_81 ?_
        refine gs_lv (lv' := [(0, .ref (E.2.2.1 65)), (1, .int (nI (j + 1)))]) [1, 0] rfl ?_
        exact hGj _ rfl
      · show G l E K 51 [(0, .ref (E.2.2.1 65)), (1, .int (nI 6))] [] (emp3 (emp2 (emp1 M)))
        refine gs_iload_n (q := 1) k rfl rfl dX7_empties_51 ?_
        refine gs_bipush (v := 6) k (by decide) dX7_empties_52 ?_
        refine gs_icmpN_ge (a := 6) (b := 6) (tgt := 84) k rfl rfl (by omega) (by omega) (by decide) dX7_empties_54 (fun c3 => ?_) (fun c3 => absurd c3 (by omega))
        refine gs_iconst (v := 0) k (by decide) dX7_empties_84 ?_
        refine gs_istore_n (lv' := [(1, .int 0), (0, .ref (E.2.2.1 65))]) k rfl (by decide) rfl dX7_empties_85 ?_
        refine gs_lv (lv' := [(0, .ref (E.2.2.1 65)), (1, .int 0)]) [1, 0] rfl ?_
        refine for_up (σ := Mm) (fun j m => G l E K 86 [(0, .ref (E.2.2.1 65)), (1, .int (nI j))] [] m) (fun j m => mw m 72 j (-1)) 6 (fun j m hj hGj => ?_) 6 0 (emp3 (emp2 (emp1 M))) (by omega) ?_
        · show G l E K 86 [(0, .ref (E.2.2.1 65)), (1, .int (nI j))] [] m
          refine gs_iload_n (q := 1) k rfl rfl dX7_empties_86 ?_
          refine gs_bipush (v := 6) k (by decide) dX7_empties_87 ?_
          refine gs_icmpN_ge (a := j) (b := 6) (tgt := 105) k rfl rfl (by omega) (by omega) (by decide) dX7_empties_89 (fun c4 => absurd c4 (by omega)) (fun c4 => ?_)
          refine gs_aload_n (q := 0) k rfl rfl dX7_empties_92 ?_
          refine gs_get (C := RX7) (T := TX7) (N := 27) (ci := 7) (k0 := 65) (j := 7) k (hI 65 (by omega) (by omega)) rfl rfl inX7 (by decide) fl_X7_34 rfl rfl dX7_empties_93 ?_
          refine gs_iload_n (q := 1) k rfl rfl dX7_empties_96 ?_
          refine gs_iconst (v := -1) k (by decide) dX7_empties_97 ?_
          refine gs_iastN (k0 := 72) (n := 6) (e := j) k (hI 72 (by omega) (by omega)) (fun _ => rfl) rfl (by omega) (by decide) dX7_empties_98 ?_
          refine gs_iincN (q := 1) (a := j) (c := 1) (lv' := [(1, .int (nI (j + 1))), (0, .ref (E.2.2.1 65))]) k rfl rfl (by decide) rfl dX7_empties_99 ?_
          refine gs_goto (tgt := 86) k (by decide) dX7_empties_102 ?_
          refine gs_lv (lv' := [(0, .ref (E.2.2.1 65)), (1, .int (nI (j + 1)))]) [1, 0] rfl ?_
          exact hGj _ rfl
        · show G l E K 86 [(0, .ref (E.2.2.1 65)), (1, .int (nI 6))] [] (emp M)
          refine gs_iload_n (q := 1) k rfl rfl dX7_empties_86 ?_
          refine gs_bipush (v := 6) k (by decide) dX7_empties_87 ?_
          refine gs_icmpN_ge (a := 6) (b := 6) (tgt := 105) k rfl rfl (by omega) (by omega) (by decide) dX7_empties_89 (fun c4 => ?_) (fun c4 => absurd c4 (by omega))
          exact gs_vret k kt dX7_empties_105 ⟨rfl, rfl⟩

def m7e : Mm := mw (mw (mw (mw (emp m7) 87 0 (-1)) 87 1 (-1)) 87 2 (-1)) 87 3 (-1)
theorem c_X7_init {l : Launch} {D : va_G} {cA : Nat → ClassId} {am : Am} {q : Nat} : Ci l D cA am yX7_init cX7_init 2 1 42 2468 q (.inr (7, [.int 0, .null, .null, .null, .null, .null, .null, .null, .null, .null, .null, .null, .int 0, .null, .int 0, .int 0, .int 0, .null, .null, .null, .int 0, .null, .null, .int 0, .int 0, .null, .null])) (fun u => ∃ f : Nat → Nat, f 65 = q ∧ u = wlist (D, List.range' 65 43, f, cA, am) m7e) := by
  refine Ci.of (by decide +kernel) rfl (by decide) (fun K k hni t => ?_)
  refine gi_aload_n (q := 0) k rfl rfl dX7_init_0 ?_
  refine gi_obj k ml_X7_3 (by decide) (Nat.le_of_ble_eq_true rfl) dX7_init_1 ?_
  refine gi_aload_n (q := 0) k rfl rfl dX7_init_4 ?_
  refine gi_iconst (v := 4) k (by decide) dX7_init_5 ?_
  refine gi_put (C := RX7) (T := TX7) (N := 27) (ci := 7) (q0 := 0) (j := 0) (ty := .int) k rfl rfl inX7 tyX7 tyX7_ok nmX7 (by decide) fl_X7_9 rfl rfl (tyX7_ok 0 (by decide)) rfl rfl (Nat.le_of_ble_eq_true rfl) dX7_init_6 (ws' := [(q, .inr (7, [.int 4, .null, .null, .null, .null, .null, .null, .null, .null, .null, .null, .null, .int 0, .null, .int 0, .int 0, .int 0, .null, .null, .null, .int 0, .null, .null, .int 0, .int 0, .null, .null]))]) rfl ?_
  refine gi_aload_n (q := 0) k rfl rfl dX7_init_9 ?_
  refine gi_bipush (v := 36) k (by decide) dX7_init_10 ?_
  refine gi_newI (N := 36) k (by decide) (by decide) (by decide) (by decide) (by decide) dX7_init_12 (fun a1 => ?_)
  refine gi_ws (ws' := [(q, .inr (7, [.int 4, .null, .null, .null, .null, .null, .null, .null, .null, .null, .null, .null, .int 0, .null, .int 0, .int 0, .int 0, .null, .null, .null, .int 0, .null, .null, .int 0, .int 0, .null, .null])), (a1, ai cA 36 (fun _ => 0))]) (k1 := 1) (k2 := 36) rfl rfl rfl ?_
  refine gi_putF (C := RX7) (T := TX7) (N := 27) (ci := 7) (q0 := 0) (j := 1) k hni rfl rfl rfl inX7 tyX7 tyX7_ok nmX7 (by decide) fl_X7_15 rfl rfl (tyX7_ok 1 (by decide)) rfl rfl (Nat.le_of_ble_eq_true rfl) dX7_init_14 (ws' := [(q, .inr (7, [.int 4, .ref a1, .null, .null, .null, .null, .null, .null, .null, .null, .null, .null, .int 0, .null, .int 0, .int 0, .int 0, .null, .null, .null, .int 0, .null, .null, .int 0, .int 0, .null, .null])), (a1, ai cA 36 (fun _ => 0))]) rfl ?_
  refine gi_aload_n (q := 0) k rfl rfl dX7_init_17 ?_
  refine gi_bipush (v := 8) k (by decide) dX7_init_18 ?_
  refine gi_newI (N := 8) k (by decide) (by decide) (by decide) (by decide) (by decide) dX7_init_20 (fun a2 => ?_)
  refine gi_ws (ws' := [(q, .inr (7, [.int 4, .ref a1, .null, .null, .null, .null, .null, .null, .null, .null, .null, .null, .int 0, .null, .int 0, .int 0, .int 0, .null, .null, .null, .int 0, .null, .null, .int 0, .int 0, .null, .null])), (a1, ai cA 36 (fun _ => 0)), (a2, ai cA 8 (fun _ => 0))]) (k1 := 2) (k2 := 44) rfl rfl rfl ?_
  refine gi_putF (C := RX7) (T := TX7) (N := 27) (ci := 7) (q0 := 0) (j := 2) k hni rfl rfl rfl inX7 tyX7 tyX7_ok nmX7 (by decide) fl_X7_19 rfl rfl (tyX7_ok 2 (by decide)) rfl rfl (Nat.le_of_ble_eq_true rfl) dX7_init_22 (ws' := [(q, .inr (7, [.int 4, .ref a1, .ref a2, .null, .null, .null, .null, .null, .null, .null, .null, .null, .int 0, .null, .int 0, .int 0, .int 0, .null, .null, .null, .int 0, .null, .null, .int 0, .int 0, .null, .null])), (a1, ai cA 36 (fun _ => 0)), (a2, ai cA 8 (fun _ => 0))]) rfl ?_
  refine gi_aload_n (q := 0) k rfl rfl dX7_init_25 ?_
  refine gi_bipush (v := 8) k (by decide) dX7_init_26 ?_
  refine gi_newI (N := 8) k (by decide) (by decide) (by decide) (by decide) (by decide) dX7_init_28 (fun a3 => ?_)
  refine gi_ws (ws' := [(q, .inr (7, [.int 4, .ref a1, .ref a2, .null, .null, .null, .null, .null, .null, .null, .null, .null, .int 0, .null, .int 0, .int 0, .int 0, .null, .null, .null, .int 0, .null, .null, .int 0, .int 0, .null, .null])), (a1, ai cA 36 (fun _ => 0)), (a2, ai cA 8 (fun _ => 0)), (a3, ai cA 8 (fun _ => 0))]) (k1 := 3) (k2 := 52) rfl rfl rfl ?_
  refine gi_putF (C := RX7) (T := TX7) (N := 27) (ci := 7) (q0 := 0) (j := 3) k hni rfl rfl rfl inX7 tyX7 tyX7_ok nmX7 (by decide) fl_X7_22 rfl rfl (tyX7_ok 3 (by decide)) rfl rfl (Nat.le_of_ble_eq_true rfl) dX7_init_30 (ws' := [(q, .inr (7, [.int 4, .ref a1, .ref a2, .ref a3, .null, .null, .null, .null, .null, .null, .null, .null, .int 0, .null, .int 0, .int 0, .int 0, .null, .null, .null, .int 0, .null, .null, .int 0, .int 0, .null, .null])), (a1, ai cA 36 (fun _ => 0)), (a2, ai cA 8 (fun _ => 0)), (a3, ai cA 8 (fun _ => 0))]) rfl ?_
  refine gi_aload_n (q := 0) k rfl rfl dX7_init_33 ?_
  refine gi_bipush (v := 6) k (by decide) dX7_init_34 ?_
  refine gi_newI (N := 6) k (by decide) (by decide) (by decide) (by decide) (by decide) dX7_init_36 (fun a4 => ?_)
  refine gi_ws (ws' := [(q, .inr (7, [.int 4, .ref a1, .ref a2, .ref a3, .null, .null, .null, .null, .null, .null, .null, .null, .int 0, .null, .int 0, .int 0, .int 0, .null, .null, .null, .int 0, .null, .null, .int 0, .int 0, .null, .null])), (a1, ai cA 36 (fun _ => 0)), (a2, ai cA 8 (fun _ => 0)), (a3, ai cA 8 (fun _ => 0)), (a4, ai cA 6 (fun _ => 0))]) (k1 := 4) (k2 := 58) rfl rfl rfl ?_
  refine gi_putF (C := RX7) (T := TX7) (N := 27) (ci := 7) (q0 := 0) (j := 4) k hni rfl rfl rfl inX7 tyX7 tyX7_ok nmX7 (by decide) fl_X7_25 rfl rfl (tyX7_ok 4 (by decide)) rfl rfl (Nat.le_of_ble_eq_true rfl) dX7_init_38 (ws' := [(q, .inr (7, [.int 4, .ref a1, .ref a2, .ref a3, .ref a4, .null, .null, .null, .null, .null, .null, .null, .int 0, .null, .int 0, .int 0, .int 0, .null, .null, .null, .int 0, .null, .null, .int 0, .int 0, .null, .null])), (a1, ai cA 36 (fun _ => 0)), (a2, ai cA 8 (fun _ => 0)), (a3, ai cA 8 (fun _ => 0)), (a4, ai cA 6 (fun _ => 0))]) rfl ?_
  refine gi_aload_n (q := 0) k rfl rfl dX7_init_41 ?_
  refine gi_bipush (v := 6) k (by decide) dX7_init_42 ?_
  refine gi_newI (N := 6) k (by decide) (by decide) (by decide) (by decide) (by decide) dX7_init_44 (fun a5 => ?_)
  refine gi_ws (ws' := [(q, .inr (7, [.int 4, .ref a1, .ref a2, .ref a3, .ref a4, .null, .null, .null, .null, .null, .null, .null, .int 0, .null, .int 0, .int 0, .int 0, .null, .null, .null, .int 0, .null, .null, .int 0, .int 0, .null, .null])), (a1, ai cA 36 (fun _ => 0)), (a2, ai cA 8 (fun _ => 0)), (a3, ai cA 8 (fun _ => 0)), (a4, ai cA 6 (fun _ => 0)), (a5, ai cA 6 (fun _ => 0))]) (k1 := 5) (k2 := 64) rfl rfl rfl ?_
  refine gi_putF (C := RX7) (T := TX7) (N := 27) (ci := 7) (q0 := 0) (j := 5) k hni rfl rfl rfl inX7 tyX7 tyX7_ok nmX7 (by decide) fl_X7_28 rfl rfl (tyX7_ok 5 (by decide)) rfl rfl (Nat.le_of_ble_eq_true rfl) dX7_init_46 (ws' := [(q, .inr (7, [.int 4, .ref a1, .ref a2, .ref a3, .ref a4, .ref a5, .null, .null, .null, .null, .null, .null, .int 0, .null, .int 0, .int 0, .int 0, .null, .null, .null, .int 0, .null, .null, .int 0, .int 0, .null, .null])), (a1, ai cA 36 (fun _ => 0)), (a2, ai cA 8 (fun _ => 0)), (a3, ai cA 8 (fun _ => 0)), (a4, ai cA 6 (fun _ => 0)), (a5, ai cA 6 (fun _ => 0))]) rfl ?_
  refine gi_aload_n (q := 0) k rfl rfl dX7_init_49 ?_
  refine gi_bipush (v := 6) k (by decide) dX7_init_50 ?_
  refine gi_newI (N := 6) k (by decide) (by decide) (by decide) (by decide) (by decide) dX7_init_52 (fun a6 => ?_)
  refine gi_ws (ws' := [(q, .inr (7, [.int 4, .ref a1, .ref a2, .ref a3, .ref a4, .ref a5, .null, .null, .null, .null, .null, .null, .int 0, .null, .int 0, .int 0, .int 0, .null, .null, .null, .int 0, .null, .null, .int 0, .int 0, .null, .null])), (a1, ai cA 36 (fun _ => 0)), (a2, ai cA 8 (fun _ => 0)), (a3, ai cA 8 (fun _ => 0)), (a4, ai cA 6 (fun _ => 0)), (a5, ai cA 6 (fun _ => 0)), (a6, ai cA 6 (fun _ => 0))]) (k1 := 6) (k2 := 70) rfl rfl rfl ?_
  refine gi_putF (C := RX7) (T := TX7) (N := 27) (ci := 7) (q0 := 0) (j := 6) k hni rfl rfl rfl inX7 tyX7 tyX7_ok nmX7 (by decide) fl_X7_31 rfl rfl (tyX7_ok 6 (by decide)) rfl rfl (Nat.le_of_ble_eq_true rfl) dX7_init_54 (ws' := [(q, .inr (7, [.int 4, .ref a1, .ref a2, .ref a3, .ref a4, .ref a5, .ref a6, .null, .null, .null, .null, .null, .int 0, .null, .int 0, .int 0, .int 0, .null, .null, .null, .int 0, .null, .null, .int 0, .int 0, .null, .null])), (a1, ai cA 36 (fun _ => 0)), (a2, ai cA 8 (fun _ => 0)), (a3, ai cA 8 (fun _ => 0)), (a4, ai cA 6 (fun _ => 0)), (a5, ai cA 6 (fun _ => 0)), (a6, ai cA 6 (fun _ => 0))]) rfl ?_
  refine gi_aload_n (q := 0) k rfl rfl dX7_init_57 ?_
  refine gi_bipush (v := 6) k (by decide) dX7_init_58 ?_
  refine gi_newI (N := 6) k (by decide) (by decide) (by decide) (by decide) (by decide) dX7_init_60 (fun a7 => ?_)
  refine gi_ws (ws' := [(q, .inr (7, [.int 4, .ref a1, .ref a2, .ref a3, .ref a4, .ref a5, .ref a6, .null, .null, .null, .null, .null, .int 0, .null, .int 0, .int 0, .int 0, .null, .null, .null, .int 0, .null, .null, .int 0, .int 0, .null, .null])), (a1, ai cA 36 (fun _ => 0)), (a2, ai cA 8 (fun _ => 0)), (a3, ai cA 8 (fun _ => 0)), (a4, ai cA 6 (fun _ => 0)), (a5, ai cA 6 (fun _ => 0)), (a6, ai cA 6 (fun _ => 0)), (a7, ai cA 6 (fun _ => 0))]) (k1 := 7) (k2 := 76) rfl rfl rfl ?_
  refine gi_putF (C := RX7) (T := TX7) (N := 27) (ci := 7) (q0 := 0) (j := 7) k hni rfl rfl rfl inX7 tyX7 tyX7_ok nmX7 (by decide) fl_X7_34 rfl rfl (tyX7_ok 7 (by decide)) rfl rfl (Nat.le_of_ble_eq_true rfl) dX7_init_62 (ws' := [(q, .inr (7, [.int 4, .ref a1, .ref a2, .ref a3, .ref a4, .ref a5, .ref a6, .ref a7, .null, .null, .null, .null, .int 0, .null, .int 0, .int 0, .int 0, .null, .null, .null, .int 0, .null, .null, .int 0, .int 0, .null, .null])), (a1, ai cA 36 (fun _ => 0)), (a2, ai cA 8 (fun _ => 0)), (a3, ai cA 8 (fun _ => 0)), (a4, ai cA 6 (fun _ => 0)), (a5, ai cA 6 (fun _ => 0)), (a6, ai cA 6 (fun _ => 0)), (a7, ai cA 6 (fun _ => 0))]) rfl ?_
  refine gi_aload_n (q := 0) k rfl rfl dX7_init_65 ?_
  refine gi_bipush (v := 6) k (by decide) dX7_init_66 ?_
  refine gi_bipush (v := 64) k (by decide) dX7_init_68 ?_
  refine gi_mna (N' := 6) (K' := 64) k kl_X7_37 (by decide) (by decide) (by decide) (by decide) (by decide) (by decide) (by decide) (by decide) (by decide) dX7_init_70 (fun a8 r8 => ?_)
  refine gi_ws (ws' := [(q, .inr (7, [.int 4, .ref a1, .ref a2, .ref a3, .ref a4, .ref a5, .ref a6, .ref a7, .null, .null, .null, .null, .int 0, .null, .int 0, .int 0, .int 0, .null, .null, .null, .int 0, .null, .null, .int 0, .int 0, .null, .null])), (a1, ai cA 36 (fun _ => 0)), (a2, ai cA 8 (fun _ => 0)), (a3, ai cA 8 (fun _ => 0)), (a4, ai cA 6 (fun _ => 0)), (a5, ai cA 6 (fun _ => 0)), (a6, ai cA 6 (fun _ => 0)), (a7, ai cA 6 (fun _ => 0)), (a8, ag (cA 4) 6 (fun i => if i < 6 then some (r8 i) else none)), (r8 0, ai cA 64 (fun _ => 0)), (r8 1, ai cA 64 (fun _ => 0)), (r8 2, ai cA 64 (fun _ => 0)), (r8 3, ai cA 64 (fun _ => 0)), (r8 4, ai cA 64 (fun _ => 0)), (r8 5, ai cA 64 (fun _ => 0))]) (k1 := 14) (k2 := 466) rfl rfl rfl ?_
  refine gi_putF (C := RX7) (T := TX7) (N := 27) (ci := 7) (q0 := 0) (j := 8) k hni rfl rfl rfl inX7 tyX7 tyX7_ok nmX7 (by decide) fl_X7_39 rfl rfl (tyX7_ok 8 (by decide)) rfl rfl (Nat.le_of_ble_eq_true rfl) dX7_init_74 (ws' := [(q, .inr (7, [.int 4, .ref a1, .ref a2, .ref a3, .ref a4, .ref a5, .ref a6, .ref a7, .ref a8, .null, .null, .null, .int 0, .null, .int 0, .int 0, .int 0, .null, .null, .null, .int 0, .null, .null, .int 0, .int 0, .null, .null])), (a1, ai cA 36 (fun _ => 0)), (a2, ai cA 8 (fun _ => 0)), (a3, ai cA 8 (fun _ => 0)), (a4, ai cA 6 (fun _ => 0)), (a5, ai cA 6 (fun _ => 0)), (a6, ai cA 6 (fun _ => 0)), (a7, ai cA 6 (fun _ => 0)), (a8, ag (cA 4) 6 (fun i => if i < 6 then some (r8 i) else none)), (r8 0, ai cA 64 (fun _ => 0)), (r8 1, ai cA 64 (fun _ => 0)), (r8 2, ai cA 64 (fun _ => 0)), (r8 3, ai cA 64 (fun _ => 0)), (r8 4, ai cA 64 (fun _ => 0)), (r8 5, ai cA 64 (fun _ => 0))]) rfl ?_
  refine gi_aload_n (q := 0) k rfl rfl dX7_init_77 ?_
  refine gi_bipush (v := 64) k (by decide) dX7_init_78 ?_
  refine gi_newI (N := 64) k (by decide) (by decide) (by decide) (by decide) (by decide) dX7_init_80 (fun a9 => ?_)
  refine gi_ws (ws' := [(q, .inr (7, [.int 4, .ref a1, .ref a2, .ref a3, .ref a4, .ref a5, .ref a6, .ref a7, .ref a8, .null, .null, .null, .int 0, .null, .int 0, .int 0, .int 0, .null, .null, .null, .int 0, .null, .null, .int 0, .int 0, .null, .null])), (a1, ai cA 36 (fun _ => 0)), (a2, ai cA 8 (fun _ => 0)), (a3, ai cA 8 (fun _ => 0)), (a4, ai cA 6 (fun _ => 0)), (a5, ai cA 6 (fun _ => 0)), (a6, ai cA 6 (fun _ => 0)), (a7, ai cA 6 (fun _ => 0)), (a8, ag (cA 4) 6 (fun i => if i < 6 then some (r8 i) else none)), (r8 0, ai cA 64 (fun _ => 0)), (r8 1, ai cA 64 (fun _ => 0)), (r8 2, ai cA 64 (fun _ => 0)), (r8 3, ai cA 64 (fun _ => 0)), (r8 4, ai cA 64 (fun _ => 0)), (r8 5, ai cA 64 (fun _ => 0)), (a9, ai cA 64 (fun _ => 0))]) (k1 := 15) (k2 := 530) rfl rfl rfl ?_
  refine gi_putF (C := RX7) (T := TX7) (N := 27) (ci := 7) (q0 := 0) (j := 9) k hni rfl rfl rfl inX7 tyX7 tyX7_ok nmX7 (by decide) fl_X7_42 rfl rfl (tyX7_ok 9 (by decide)) rfl rfl (Nat.le_of_ble_eq_true rfl) dX7_init_82 (ws' := [(q, .inr (7, [.int 4, .ref a1, .ref a2, .ref a3, .ref a4, .ref a5, .ref a6, .ref a7, .ref a8, .ref a9, .null, .null, .int 0, .null, .int 0, .int 0, .int 0, .null, .null, .null, .int 0, .null, .null, .int 0, .int 0, .null, .null])), (a1, ai cA 36 (fun _ => 0)), (a2, ai cA 8 (fun _ => 0)), (a3, ai cA 8 (fun _ => 0)), (a4, ai cA 6 (fun _ => 0)), (a5, ai cA 6 (fun _ => 0)), (a6, ai cA 6 (fun _ => 0)), (a7, ai cA 6 (fun _ => 0)), (a8, ag (cA 4) 6 (fun i => if i < 6 then some (r8 i) else none)), (r8 0, ai cA 64 (fun _ => 0)), (r8 1, ai cA 64 (fun _ => 0)), (r8 2, ai cA 64 (fun _ => 0)), (r8 3, ai cA 64 (fun _ => 0)), (r8 4, ai cA 64 (fun _ => 0)), (r8 5, ai cA 64 (fun _ => 0)), (a9, ai cA 64 (fun _ => 0))]) rfl ?_
  refine gi_aload_n (q := 0) k rfl rfl dX7_init_85 ?_
  refine gi_bipush (v := 6) k (by decide) dX7_init_86 ?_
  refine gi_newI (N := 6) k (by decide) (by decide) (by decide) (by decide) (by decide) dX7_init_88 (fun a10 => ?_)
  refine gi_ws (ws' := [(q, .inr (7, [.int 4, .ref a1, .ref a2, .ref a3, .ref a4, .ref a5, .ref a6, .ref a7, .ref a8, .ref a9, .null, .null, .int 0, .null, .int 0, .int 0, .int 0, .null, .null, .null, .int 0, .null, .null, .int 0, .int 0, .null, .null])), (a1, ai cA 36 (fun _ => 0)), (a2, ai cA 8 (fun _ => 0)), (a3, ai cA 8 (fun _ => 0)), (a4, ai cA 6 (fun _ => 0)), (a5, ai cA 6 (fun _ => 0)), (a6, ai cA 6 (fun _ => 0)), (a7, ai cA 6 (fun _ => 0)), (a8, ag (cA 4) 6 (fun i => if i < 6 then some (r8 i) else none)), (r8 0, ai cA 64 (fun _ => 0)), (r8 1, ai cA 64 (fun _ => 0)), (r8 2, ai cA 64 (fun _ => 0)), (r8 3, ai cA 64 (fun _ => 0)), (r8 4, ai cA 64 (fun _ => 0)), (r8 5, ai cA 64 (fun _ => 0)), (a9, ai cA 64 (fun _ => 0)), (a10, ai cA 6 (fun _ => 0))]) (k1 := 16) (k2 := 536) rfl rfl rfl ?_
  refine gi_putF (C := RX7) (T := TX7) (N := 27) (ci := 7) (q0 := 0) (j := 10) k hni rfl rfl rfl inX7 tyX7 tyX7_ok nmX7 (by decide) fl_X7_45 rfl rfl (tyX7_ok 10 (by decide)) rfl rfl (Nat.le_of_ble_eq_true rfl) dX7_init_90 (ws' := [(q, .inr (7, [.int 4, .ref a1, .ref a2, .ref a3, .ref a4, .ref a5, .ref a6, .ref a7, .ref a8, .ref a9, .ref a10, .null, .int 0, .null, .int 0, .int 0, .int 0, .null, .null, .null, .int 0, .null, .null, .int 0, .int 0, .null, .null])), (a1, ai cA 36 (fun _ => 0)), (a2, ai cA 8 (fun _ => 0)), (a3, ai cA 8 (fun _ => 0)), (a4, ai cA 6 (fun _ => 0)), (a5, ai cA 6 (fun _ => 0)), (a6, ai cA 6 (fun _ => 0)), (a7, ai cA 6 (fun _ => 0)), (a8, ag (cA 4) 6 (fun i => if i < 6 then some (r8 i) else none)), (r8 0, ai cA 64 (fun _ => 0)), (r8 1, ai cA 64 (fun _ => 0)), (r8 2, ai cA 64 (fun _ => 0)), (r8 3, ai cA 64 (fun _ => 0)), (r8 4, ai cA 64 (fun _ => 0)), (r8 5, ai cA 64 (fun _ => 0)), (a9, ai cA 64 (fun _ => 0)), (a10, ai cA 6 (fun _ => 0))]) rfl ?_
  refine gi_aload_n (q := 0) k rfl rfl dX7_init_93 ?_
  refine gi_bipush (v := 7) k (by decide) dX7_init_94 ?_
  refine gi_newI (N := 7) k (by decide) (by decide) (by decide) (by decide) (by decide) dX7_init_96 (fun a11 => ?_)
  refine gi_ws (ws' := [(q, .inr (7, [.int 4, .ref a1, .ref a2, .ref a3, .ref a4, .ref a5, .ref a6, .ref a7, .ref a8, .ref a9, .ref a10, .null, .int 0, .null, .int 0, .int 0, .int 0, .null, .null, .null, .int 0, .null, .null, .int 0, .int 0, .null, .null])), (a1, ai cA 36 (fun _ => 0)), (a2, ai cA 8 (fun _ => 0)), (a3, ai cA 8 (fun _ => 0)), (a4, ai cA 6 (fun _ => 0)), (a5, ai cA 6 (fun _ => 0)), (a6, ai cA 6 (fun _ => 0)), (a7, ai cA 6 (fun _ => 0)), (a8, ag (cA 4) 6 (fun i => if i < 6 then some (r8 i) else none)), (r8 0, ai cA 64 (fun _ => 0)), (r8 1, ai cA 64 (fun _ => 0)), (r8 2, ai cA 64 (fun _ => 0)), (r8 3, ai cA 64 (fun _ => 0)), (r8 4, ai cA 64 (fun _ => 0)), (r8 5, ai cA 64 (fun _ => 0)), (a9, ai cA 64 (fun _ => 0)), (a10, ai cA 6 (fun _ => 0)), (a11, ai cA 7 (fun _ => 0))]) (k1 := 17) (k2 := 543) rfl rfl rfl ?_
  refine gi_putF (C := RX7) (T := TX7) (N := 27) (ci := 7) (q0 := 0) (j := 11) k hni rfl rfl rfl inX7 tyX7 tyX7_ok nmX7 (by decide) fl_X7_48 rfl rfl (tyX7_ok 11 (by decide)) rfl rfl (Nat.le_of_ble_eq_true rfl) dX7_init_98 (ws' := [(q, .inr (7, [.int 4, .ref a1, .ref a2, .ref a3, .ref a4, .ref a5, .ref a6, .ref a7, .ref a8, .ref a9, .ref a10, .ref a11, .int 0, .null, .int 0, .int 0, .int 0, .null, .null, .null, .int 0, .null, .null, .int 0, .int 0, .null, .null])), (a1, ai cA 36 (fun _ => 0)), (a2, ai cA 8 (fun _ => 0)), (a3, ai cA 8 (fun _ => 0)), (a4, ai cA 6 (fun _ => 0)), (a5, ai cA 6 (fun _ => 0)), (a6, ai cA 6 (fun _ => 0)), (a7, ai cA 6 (fun _ => 0)), (a8, ag (cA 4) 6 (fun i => if i < 6 then some (r8 i) else none)), (r8 0, ai cA 64 (fun _ => 0)), (r8 1, ai cA 64 (fun _ => 0)), (r8 2, ai cA 64 (fun _ => 0)), (r8 3, ai cA 64 (fun _ => 0)), (r8 4, ai cA 64 (fun _ => 0)), (r8 5, ai cA 64 (fun _ => 0)), (a9, ai cA 64 (fun _ => 0)), (a10, ai cA 6 (fun _ => 0)), (a11, ai cA 7 (fun _ => 0))]) rfl ?_
  refine gi_aload_n (q := 0) k rfl rfl dX7_init_101 ?_
  refine gi_bipush (v := 100) k (by decide) dX7_init_102 ?_
  refine gi_newB (N := 100) k (by decide) (by decide) (by decide) (by decide) (by decide) dX7_init_104 (fun a12 => ?_)
  refine gi_ws (ws' := [(q, .inr (7, [.int 4, .ref a1, .ref a2, .ref a3, .ref a4, .ref a5, .ref a6, .ref a7, .ref a8, .ref a9, .ref a10, .ref a11, .int 0, .null, .int 0, .int 0, .int 0, .null, .null, .null, .int 0, .null, .null, .int 0, .int 0, .null, .null])), (a1, ai cA 36 (fun _ => 0)), (a2, ai cA 8 (fun _ => 0)), (a3, ai cA 8 (fun _ => 0)), (a4, ai cA 6 (fun _ => 0)), (a5, ai cA 6 (fun _ => 0)), (a6, ai cA 6 (fun _ => 0)), (a7, ai cA 6 (fun _ => 0)), (a8, ag (cA 4) 6 (fun i => if i < 6 then some (r8 i) else none)), (r8 0, ai cA 64 (fun _ => 0)), (r8 1, ai cA 64 (fun _ => 0)), (r8 2, ai cA 64 (fun _ => 0)), (r8 3, ai cA 64 (fun _ => 0)), (r8 4, ai cA 64 (fun _ => 0)), (r8 5, ai cA 64 (fun _ => 0)), (a9, ai cA 64 (fun _ => 0)), (a10, ai cA 6 (fun _ => 0)), (a11, ai cA 7 (fun _ => 0)), (a12, ab cA 100 (fun _ => 0))]) (k1 := 18) (k2 := 643) rfl rfl rfl ?_
  refine gi_putF (C := RX7) (T := TX7) (N := 27) (ci := 7) (q0 := 0) (j := 13) k hni rfl rfl rfl inX7 tyX7 tyX7_ok nmX7 (by decide) fl_X7_51 rfl rfl (tyX7_ok 13 (by decide)) rfl rfl (Nat.le_of_ble_eq_true rfl) dX7_init_106 (ws' := [(q, .inr (7, [.int 4, .ref a1, .ref a2, .ref a3, .ref a4, .ref a5, .ref a6, .ref a7, .ref a8, .ref a9, .ref a10, .ref a11, .int 0, .ref a12, .int 0, .int 0, .int 0, .null, .null, .null, .int 0, .null, .null, .int 0, .int 0, .null, .null])), (a1, ai cA 36 (fun _ => 0)), (a2, ai cA 8 (fun _ => 0)), (a3, ai cA 8 (fun _ => 0)), (a4, ai cA 6 (fun _ => 0)), (a5, ai cA 6 (fun _ => 0)), (a6, ai cA 6 (fun _ => 0)), (a7, ai cA 6 (fun _ => 0)), (a8, ag (cA 4) 6 (fun i => if i < 6 then some (r8 i) else none)), (r8 0, ai cA 64 (fun _ => 0)), (r8 1, ai cA 64 (fun _ => 0)), (r8 2, ai cA 64 (fun _ => 0)), (r8 3, ai cA 64 (fun _ => 0)), (r8 4, ai cA 64 (fun _ => 0)), (r8 5, ai cA 64 (fun _ => 0)), (a9, ai cA 64 (fun _ => 0)), (a10, ai cA 6 (fun _ => 0)), (a11, ai cA 7 (fun _ => 0)), (a12, ab cA 100 (fun _ => 0))]) rfl ?_
  refine gi_aload_n (q := 0) k rfl rfl dX7_init_109 ?_
  refine gi_bipush (v := 100) k (by decide) dX7_init_110 ?_
  refine gi_newI (N := 100) k (by decide) (by decide) (by decide) (by decide) (by decide) dX7_init_112 (fun a13 => ?_)
  refine gi_ws (ws' := [(q, .inr (7, [.int 4, .ref a1, .ref a2, .ref a3, .ref a4, .ref a5, .ref a6, .ref a7, .ref a8, .ref a9, .ref a10, .ref a11, .int 0, .ref a12, .int 0, .int 0, .int 0, .null, .null, .null, .int 0, .null, .null, .int 0, .int 0, .null, .null])), (a1, ai cA 36 (fun _ => 0)), (a2, ai cA 8 (fun _ => 0)), (a3, ai cA 8 (fun _ => 0)), (a4, ai cA 6 (fun _ => 0)), (a5, ai cA 6 (fun _ => 0)), (a6, ai cA 6 (fun _ => 0)), (a7, ai cA 6 (fun _ => 0)), (a8, ag (cA 4) 6 (fun i => if i < 6 then some (r8 i) else none)), (r8 0, ai cA 64 (fun _ => 0)), (r8 1, ai cA 64 (fun _ => 0)), (r8 2, ai cA 64 (fun _ => 0)), (r8 3, ai cA 64 (fun _ => 0)), (r8 4, ai cA 64 (fun _ => 0)), (r8 5, ai cA 64 (fun _ => 0)), (a9, ai cA 64 (fun _ => 0)), (a10, ai cA 6 (fun _ => 0)), (a11, ai cA 7 (fun _ => 0)), (a12, ab cA 100 (fun _ => 0)), (a13, ai cA 100 (fun _ => 0))]) (k1 := 19) (k2 := 743) rfl rfl rfl ?_
  refine gi_putF (C := RX7) (T := TX7) (N := 27) (ci := 7) (q0 := 0) (j := 17) k hni rfl rfl rfl inX7 tyX7 tyX7_ok nmX7 (by decide) fl_X7_55 rfl rfl (tyX7_ok 17 (by decide)) rfl rfl (Nat.le_of_ble_eq_true rfl) dX7_init_114 (ws' := [(q, .inr (7, [.int 4, .ref a1, .ref a2, .ref a3, .ref a4, .ref a5, .ref a6, .ref a7, .ref a8, .ref a9, .ref a10, .ref a11, .int 0, .ref a12, .int 0, .int 0, .int 0, .ref a13, .null, .null, .int 0, .null, .null, .int 0, .int 0, .null, .null])), (a1, ai cA 36 (fun _ => 0)), (a2, ai cA 8 (fun _ => 0)), (a3, ai cA 8 (fun _ => 0)), (a4, ai cA 6 (fun _ => 0)), (a5, ai cA 6 (fun _ => 0)), (a6, ai cA 6 (fun _ => 0)), (a7, ai cA 6 (fun _ => 0)), (a8, ag (cA 4) 6 (fun i => if i < 6 then some (r8 i) else none)), (r8 0, ai cA 64 (fun _ => 0)), (r8 1, ai cA 64 (fun _ => 0)), (r8 2, ai cA 64 (fun _ => 0)), (r8 3, ai cA 64 (fun _ => 0)), (r8 4, ai cA 64 (fun _ => 0)), (r8 5, ai cA 64 (fun _ => 0)), (a9, ai cA 64 (fun _ => 0)), (a10, ai cA 6 (fun _ => 0)), (a11, ai cA 7 (fun _ => 0)), (a12, ab cA 100 (fun _ => 0)), (a13, ai cA 100 (fun _ => 0))]) rfl ?_
  refine gi_aload_n (q := 0) k rfl rfl dX7_init_117 ?_
  refine gi_sipush (v := 300) k (by decide) dX7_init_118 ?_
  refine gi_newI (N := 300) k (by decide) (by decide) (by decide) (by decide) (by decide) dX7_init_121 (fun a14 => ?_)
  refine gi_ws (ws' := [(q, .inr (7, [.int 4, .ref a1, .ref a2, .ref a3, .ref a4, .ref a5, .ref a6, .ref a7, .ref a8, .ref a9, .ref a10, .ref a11, .int 0, .ref a12, .int 0, .int 0, .int 0, .ref a13, .null, .null, .int 0, .null, .null, .int 0, .int 0, .null, .null])), (a1, ai cA 36 (fun _ => 0)), (a2, ai cA 8 (fun _ => 0)), (a3, ai cA 8 (fun _ => 0)), (a4, ai cA 6 (fun _ => 0)), (a5, ai cA 6 (fun _ => 0)), (a6, ai cA 6 (fun _ => 0)), (a7, ai cA 6 (fun _ => 0)), (a8, ag (cA 4) 6 (fun i => if i < 6 then some (r8 i) else none)), (r8 0, ai cA 64 (fun _ => 0)), (r8 1, ai cA 64 (fun _ => 0)), (r8 2, ai cA 64 (fun _ => 0)), (r8 3, ai cA 64 (fun _ => 0)), (r8 4, ai cA 64 (fun _ => 0)), (r8 5, ai cA 64 (fun _ => 0)), (a9, ai cA 64 (fun _ => 0)), (a10, ai cA 6 (fun _ => 0)), (a11, ai cA 7 (fun _ => 0)), (a12, ab cA 100 (fun _ => 0)), (a13, ai cA 100 (fun _ => 0)), (a14, ai cA 300 (fun _ => 0))]) (k1 := 20) (k2 := 1043) rfl rfl rfl ?_
  refine gi_putF (C := RX7) (T := TX7) (N := 27) (ci := 7) (q0 := 0) (j := 18) k hni rfl rfl rfl inX7 tyX7 tyX7_ok nmX7 (by decide) fl_X7_58 rfl rfl (tyX7_ok 18 (by decide)) rfl rfl (Nat.le_of_ble_eq_true rfl) dX7_init_123 (ws' := [(q, .inr (7, [.int 4, .ref a1, .ref a2, .ref a3, .ref a4, .ref a5, .ref a6, .ref a7, .ref a8, .ref a9, .ref a10, .ref a11, .int 0, .ref a12, .int 0, .int 0, .int 0, .ref a13, .ref a14, .null, .int 0, .null, .null, .int 0, .int 0, .null, .null])), (a1, ai cA 36 (fun _ => 0)), (a2, ai cA 8 (fun _ => 0)), (a3, ai cA 8 (fun _ => 0)), (a4, ai cA 6 (fun _ => 0)), (a5, ai cA 6 (fun _ => 0)), (a6, ai cA 6 (fun _ => 0)), (a7, ai cA 6 (fun _ => 0)), (a8, ag (cA 4) 6 (fun i => if i < 6 then some (r8 i) else none)), (r8 0, ai cA 64 (fun _ => 0)), (r8 1, ai cA 64 (fun _ => 0)), (r8 2, ai cA 64 (fun _ => 0)), (r8 3, ai cA 64 (fun _ => 0)), (r8 4, ai cA 64 (fun _ => 0)), (r8 5, ai cA 64 (fun _ => 0)), (a9, ai cA 64 (fun _ => 0)), (a10, ai cA 6 (fun _ => 0)), (a11, ai cA 7 (fun _ => 0)), (a12, ab cA 100 (fun _ => 0)), (a13, ai cA 100 (fun _ => 0)), (a14, ai cA 300 (fun _ => 0))]) rfl ?_
  refine gi_aload_n (q := 0) k rfl rfl dX7_init_126 ?_
  refine gi_sipush (v := 512) k (by decide) dX7_init_127 ?_
  refine gi_newB (N := 512) k (by decide) (by decide) (by decide) (by decide) (by decide) dX7_init_130 (fun a15 => ?_)
  refine gi_ws (ws' := [(q, .inr (7, [.int 4, .ref a1, .ref a2, .ref a3, .ref a4, .ref a5, .ref a6, .ref a7, .ref a8, .ref a9, .ref a10, .ref a11, .int 0, .ref a12, .int 0, .int 0, .int 0, .ref a13, .ref a14, .null, .int 0, .null, .null, .int 0, .int 0, .null, .null])), (a1, ai cA 36 (fun _ => 0)), (a2, ai cA 8 (fun _ => 0)), (a3, ai cA 8 (fun _ => 0)), (a4, ai cA 6 (fun _ => 0)), (a5, ai cA 6 (fun _ => 0)), (a6, ai cA 6 (fun _ => 0)), (a7, ai cA 6 (fun _ => 0)), (a8, ag (cA 4) 6 (fun i => if i < 6 then some (r8 i) else none)), (r8 0, ai cA 64 (fun _ => 0)), (r8 1, ai cA 64 (fun _ => 0)), (r8 2, ai cA 64 (fun _ => 0)), (r8 3, ai cA 64 (fun _ => 0)), (r8 4, ai cA 64 (fun _ => 0)), (r8 5, ai cA 64 (fun _ => 0)), (a9, ai cA 64 (fun _ => 0)), (a10, ai cA 6 (fun _ => 0)), (a11, ai cA 7 (fun _ => 0)), (a12, ab cA 100 (fun _ => 0)), (a13, ai cA 100 (fun _ => 0)), (a14, ai cA 300 (fun _ => 0)), (a15, ab cA 512 (fun _ => 0))]) (k1 := 21) (k2 := 1555) rfl rfl rfl ?_
  refine gi_putF (C := RX7) (T := TX7) (N := 27) (ci := 7) (q0 := 0) (j := 19) k hni rfl rfl rfl inX7 tyX7 tyX7_ok nmX7 (by decide) fl_X7_61 rfl rfl (tyX7_ok 19 (by decide)) rfl rfl (Nat.le_of_ble_eq_true rfl) dX7_init_132 (ws' := [(q, .inr (7, [.int 4, .ref a1, .ref a2, .ref a3, .ref a4, .ref a5, .ref a6, .ref a7, .ref a8, .ref a9, .ref a10, .ref a11, .int 0, .ref a12, .int 0, .int 0, .int 0, .ref a13, .ref a14, .ref a15, .int 0, .null, .null, .int 0, .int 0, .null, .null])), (a1, ai cA 36 (fun _ => 0)), (a2, ai cA 8 (fun _ => 0)), (a3, ai cA 8 (fun _ => 0)), (a4, ai cA 6 (fun _ => 0)), (a5, ai cA 6 (fun _ => 0)), (a6, ai cA 6 (fun _ => 0)), (a7, ai cA 6 (fun _ => 0)), (a8, ag (cA 4) 6 (fun i => if i < 6 then some (r8 i) else none)), (r8 0, ai cA 64 (fun _ => 0)), (r8 1, ai cA 64 (fun _ => 0)), (r8 2, ai cA 64 (fun _ => 0)), (r8 3, ai cA 64 (fun _ => 0)), (r8 4, ai cA 64 (fun _ => 0)), (r8 5, ai cA 64 (fun _ => 0)), (a9, ai cA 64 (fun _ => 0)), (a10, ai cA 6 (fun _ => 0)), (a11, ai cA 7 (fun _ => 0)), (a12, ab cA 100 (fun _ => 0)), (a13, ai cA 100 (fun _ => 0)), (a14, ai cA 300 (fun _ => 0)), (a15, ab cA 512 (fun _ => 0))]) rfl ?_
  refine gi_aload_n (q := 0) k rfl rfl dX7_init_135 ?_
  refine gi_iconst (v := 4) k (by decide) dX7_init_136 ?_
  refine gi_newI (N := 4) k (by decide) (by decide) (by decide) (by decide) (by decide) dX7_init_137 (fun a16 => ?_)
  refine gi_ws (ws' := [(q, .inr (7, [.int 4, .ref a1, .ref a2, .ref a3, .ref a4, .ref a5, .ref a6, .ref a7, .ref a8, .ref a9, .ref a10, .ref a11, .int 0, .ref a12, .int 0, .int 0, .int 0, .ref a13, .ref a14, .ref a15, .int 0, .null, .null, .int 0, .int 0, .null, .null])), (a1, ai cA 36 (fun _ => 0)), (a2, ai cA 8 (fun _ => 0)), (a3, ai cA 8 (fun _ => 0)), (a4, ai cA 6 (fun _ => 0)), (a5, ai cA 6 (fun _ => 0)), (a6, ai cA 6 (fun _ => 0)), (a7, ai cA 6 (fun _ => 0)), (a8, ag (cA 4) 6 (fun i => if i < 6 then some (r8 i) else none)), (r8 0, ai cA 64 (fun _ => 0)), (r8 1, ai cA 64 (fun _ => 0)), (r8 2, ai cA 64 (fun _ => 0)), (r8 3, ai cA 64 (fun _ => 0)), (r8 4, ai cA 64 (fun _ => 0)), (r8 5, ai cA 64 (fun _ => 0)), (a9, ai cA 64 (fun _ => 0)), (a10, ai cA 6 (fun _ => 0)), (a11, ai cA 7 (fun _ => 0)), (a12, ab cA 100 (fun _ => 0)), (a13, ai cA 100 (fun _ => 0)), (a14, ai cA 300 (fun _ => 0)), (a15, ab cA 512 (fun _ => 0)), (a16, ai cA 4 (fun _ => 0))]) (k1 := 22) (k2 := 1559) rfl rfl rfl ?_
  refine gi_putF (C := RX7) (T := TX7) (N := 27) (ci := 7) (q0 := 0) (j := 21) k hni rfl rfl rfl inX7 tyX7 tyX7_ok nmX7 (by decide) fl_X7_64 rfl rfl (tyX7_ok 21 (by decide)) rfl rfl (Nat.le_of_ble_eq_true rfl) dX7_init_139 (ws' := [(q, .inr (7, [.int 4, .ref a1, .ref a2, .ref a3, .ref a4, .ref a5, .ref a6, .ref a7, .ref a8, .ref a9, .ref a10, .ref a11, .int 0, .ref a12, .int 0, .int 0, .int 0, .ref a13, .ref a14, .ref a15, .int 0, .ref a16, .null, .int 0, .int 0, .null, .null])), (a1, ai cA 36 (fun _ => 0)), (a2, ai cA 8 (fun _ => 0)), (a3, ai cA 8 (fun _ => 0)), (a4, ai cA 6 (fun _ => 0)), (a5, ai cA 6 (fun _ => 0)), (a6, ai cA 6 (fun _ => 0)), (a7, ai cA 6 (fun _ => 0)), (a8, ag (cA 4) 6 (fun i => if i < 6 then some (r8 i) else none)), (r8 0, ai cA 64 (fun _ => 0)), (r8 1, ai cA 64 (fun _ => 0)), (r8 2, ai cA 64 (fun _ => 0)), (r8 3, ai cA 64 (fun _ => 0)), (r8 4, ai cA 64 (fun _ => 0)), (r8 5, ai cA 64 (fun _ => 0)), (a9, ai cA 64 (fun _ => 0)), (a10, ai cA 6 (fun _ => 0)), (a11, ai cA 7 (fun _ => 0)), (a12, ab cA 100 (fun _ => 0)), (a13, ai cA 100 (fun _ => 0)), (a14, ai cA 300 (fun _ => 0)), (a15, ab cA 512 (fun _ => 0)), (a16, ai cA 4 (fun _ => 0))]) rfl ?_
  refine gi_aload_n (q := 0) k rfl rfl dX7_init_142 ?_
  refine gi_iconst (v := 4) k (by decide) dX7_init_143 ?_
  refine gi_bipush (v := 64) k (by decide) dX7_init_144 ?_
  refine gi_mna (N' := 4) (K' := 64) k kl_X7_37 (by decide) (by decide) (by decide) (by decide) (by decide) (by decide) (by decide) (by decide) (by decide) dX7_init_146 (fun a17 r17 => ?_)
  refine gi_ws (ws' := [(q, .inr (7, [.int 4, .ref a1, .ref a2, .ref a3, .ref a4, .ref a5, .ref a6, .ref a7, .ref a8, .ref a9, .ref a10, .ref a11, .int 0, .ref a12, .int 0, .int 0, .int 0, .ref a13, .ref a14, .ref a15, .int 0, .ref a16, .null, .int 0, .int 0, .null, .null])), (a1, ai cA 36 (fun _ => 0)), (a2, ai cA 8 (fun _ => 0)), (a3, ai cA 8 (fun _ => 0)), (a4, ai cA 6 (fun _ => 0)), (a5, ai cA 6 (fun _ => 0)), (a6, ai cA 6 (fun _ => 0)), (a7, ai cA 6 (fun _ => 0)), (a8, ag (cA 4) 6 (fun i => if i < 6 then some (r8 i) else none)), (r8 0, ai cA 64 (fun _ => 0)), (r8 1, ai cA 64 (fun _ => 0)), (r8 2, ai cA 64 (fun _ => 0)), (r8 3, ai cA 64 (fun _ => 0)), (r8 4, ai cA 64 (fun _ => 0)), (r8 5, ai cA 64 (fun _ => 0)), (a9, ai cA 64 (fun _ => 0)), (a10, ai cA 6 (fun _ => 0)), (a11, ai cA 7 (fun _ => 0)), (a12, ab cA 100 (fun _ => 0)), (a13, ai cA 100 (fun _ => 0)), (a14, ai cA 300 (fun _ => 0)), (a15, ab cA 512 (fun _ => 0)), (a16, ai cA 4 (fun _ => 0)), (a17, ag (cA 4) 4 (fun i => if i < 4 then some (r17 i) else none)), (r17 0, ai cA 64 (fun _ => 0)), (r17 1, ai cA 64 (fun _ => 0)), (r17 2, ai cA 64 (fun _ => 0)), (r17 3, ai cA 64 (fun _ => 0))]) (k1 := 27) (k2 := 1819) rfl rfl rfl ?_
  refine gi_putF (C := RX7) (T := TX7) (N := 27) (ci := 7) (q0 := 0) (j := 22) k hni rfl rfl rfl inX7 tyX7 tyX7_ok nmX7 (by decide) fl_X7_67 rfl rfl (tyX7_ok 22 (by decide)) rfl rfl (Nat.le_of_ble_eq_true rfl) dX7_init_150 (ws' := [(q, .inr (7, [.int 4, .ref a1, .ref a2, .ref a3, .ref a4, .ref a5, .ref a6, .ref a7, .ref a8, .ref a9, .ref a10, .ref a11, .int 0, .ref a12, .int 0, .int 0, .int 0, .ref a13, .ref a14, .ref a15, .int 0, .ref a16, .ref a17, .int 0, .int 0, .null, .null])), (a1, ai cA 36 (fun _ => 0)), (a2, ai cA 8 (fun _ => 0)), (a3, ai cA 8 (fun _ => 0)), (a4, ai cA 6 (fun _ => 0)), (a5, ai cA 6 (fun _ => 0)), (a6, ai cA 6 (fun _ => 0)), (a7, ai cA 6 (fun _ => 0)), (a8, ag (cA 4) 6 (fun i => if i < 6 then some (r8 i) else none)), (r8 0, ai cA 64 (fun _ => 0)), (r8 1, ai cA 64 (fun _ => 0)), (r8 2, ai cA 64 (fun _ => 0)), (r8 3, ai cA 64 (fun _ => 0)), (r8 4, ai cA 64 (fun _ => 0)), (r8 5, ai cA 64 (fun _ => 0)), (a9, ai cA 64 (fun _ => 0)), (a10, ai cA 6 (fun _ => 0)), (a11, ai cA 7 (fun _ => 0)), (a12, ab cA 100 (fun _ => 0)), (a13, ai cA 100 (fun _ => 0)), (a14, ai cA 300 (fun _ => 0)), (a15, ab cA 512 (fun _ => 0)), (a16, ai cA 4 (fun _ => 0)), (a17, ag (cA 4) 4 (fun i => if i < 4 then some (r17 i) else none)), (r17 0, ai cA 64 (fun _ => 0)), (r17 1, ai cA 64 (fun _ => 0)), (r17 2, ai cA 64 (fun _ => 0)), (r17 3, ai cA 64 (fun _ => 0))]) rfl ?_
  refine gi_aload_n (q := 0) k rfl rfl dX7_init_153 ?_
  refine gi_bipush (v := 7) k (by decide) dX7_init_154 ?_
  refine gi_bipush (v := 36) k (by decide) dX7_init_156 ?_
  refine gi_mna (N' := 7) (K' := 36) k kl_X7_37 (by decide) (by decide) (by decide) (by decide) (by decide) (by decide) (by decide) (by decide) (by decide) dX7_init_158 (fun a18 r18 => ?_)
  refine gi_ws (ws' := [(q, .inr (7, [.int 4, .ref a1, .ref a2, .ref a3, .ref a4, .ref a5, .ref a6, .ref a7, .ref a8, .ref a9, .ref a10, .ref a11, .int 0, .ref a12, .int 0, .int 0, .int 0, .ref a13, .ref a14, .ref a15, .int 0, .ref a16, .ref a17, .int 0, .int 0, .null, .null])), (a1, ai cA 36 (fun _ => 0)), (a2, ai cA 8 (fun _ => 0)), (a3, ai cA 8 (fun _ => 0)), (a4, ai cA 6 (fun _ => 0)), (a5, ai cA 6 (fun _ => 0)), (a6, ai cA 6 (fun _ => 0)), (a7, ai cA 6 (fun _ => 0)), (a8, ag (cA 4) 6 (fun i => if i < 6 then some (r8 i) else none)), (r8 0, ai cA 64 (fun _ => 0)), (r8 1, ai cA 64 (fun _ => 0)), (r8 2, ai cA 64 (fun _ => 0)), (r8 3, ai cA 64 (fun _ => 0)), (r8 4, ai cA 64 (fun _ => 0)), (r8 5, ai cA 64 (fun _ => 0)), (a9, ai cA 64 (fun _ => 0)), (a10, ai cA 6 (fun _ => 0)), (a11, ai cA 7 (fun _ => 0)), (a12, ab cA 100 (fun _ => 0)), (a13, ai cA 100 (fun _ => 0)), (a14, ai cA 300 (fun _ => 0)), (a15, ab cA 512 (fun _ => 0)), (a16, ai cA 4 (fun _ => 0)), (a17, ag (cA 4) 4 (fun i => if i < 4 then some (r17 i) else none)), (r17 0, ai cA 64 (fun _ => 0)), (r17 1, ai cA 64 (fun _ => 0)), (r17 2, ai cA 64 (fun _ => 0)), (r17 3, ai cA 64 (fun _ => 0)), (a18, ag (cA 4) 7 (fun i => if i < 7 then some (r18 i) else none)), (r18 0, ai cA 36 (fun _ => 0)), (r18 1, ai cA 36 (fun _ => 0)), (r18 2, ai cA 36 (fun _ => 0)), (r18 3, ai cA 36 (fun _ => 0)), (r18 4, ai cA 36 (fun _ => 0)), (r18 5, ai cA 36 (fun _ => 0)), (r18 6, ai cA 36 (fun _ => 0))]) (k1 := 35) (k2 := 2078) rfl rfl rfl ?_
  refine gi_putF (C := RX7) (T := TX7) (N := 27) (ci := 7) (q0 := 0) (j := 25) k hni rfl rfl rfl inX7 tyX7 tyX7_ok nmX7 (by decide) fl_X7_70 rfl rfl (tyX7_ok 25 (by decide)) rfl rfl (Nat.le_of_ble_eq_true rfl) dX7_init_162 (ws' := [(q, .inr (7, [.int 4, .ref a1, .ref a2, .ref a3, .ref a4, .ref a5, .ref a6, .ref a7, .ref a8, .ref a9, .ref a10, .ref a11, .int 0, .ref a12, .int 0, .int 0, .int 0, .ref a13, .ref a14, .ref a15, .int 0, .ref a16, .ref a17, .int 0, .int 0, .ref a18, .null])), (a1, ai cA 36 (fun _ => 0)), (a2, ai cA 8 (fun _ => 0)), (a3, ai cA 8 (fun _ => 0)), (a4, ai cA 6 (fun _ => 0)), (a5, ai cA 6 (fun _ => 0)), (a6, ai cA 6 (fun _ => 0)), (a7, ai cA 6 (fun _ => 0)), (a8, ag (cA 4) 6 (fun i => if i < 6 then some (r8 i) else none)), (r8 0, ai cA 64 (fun _ => 0)), (r8 1, ai cA 64 (fun _ => 0)), (r8 2, ai cA 64 (fun _ => 0)), (r8 3, ai cA 64 (fun _ => 0)), (r8 4, ai cA 64 (fun _ => 0)), (r8 5, ai cA 64 (fun _ => 0)), (a9, ai cA 64 (fun _ => 0)), (a10, ai cA 6 (fun _ => 0)), (a11, ai cA 7 (fun _ => 0)), (a12, ab cA 100 (fun _ => 0)), (a13, ai cA 100 (fun _ => 0)), (a14, ai cA 300 (fun _ => 0)), (a15, ab cA 512 (fun _ => 0)), (a16, ai cA 4 (fun _ => 0)), (a17, ag (cA 4) 4 (fun i => if i < 4 then some (r17 i) else none)), (r17 0, ai cA 64 (fun _ => 0)), (r17 1, ai cA 64 (fun _ => 0)), (r17 2, ai cA 64 (fun _ => 0)), (r17 3, ai cA 64 (fun _ => 0)), (a18, ag (cA 4) 7 (fun i => if i < 7 then some (r18 i) else none)), (r18 0, ai cA 36 (fun _ => 0)), (r18 1, ai cA 36 (fun _ => 0)), (r18 2, ai cA 36 (fun _ => 0)), (r18 3, ai cA 36 (fun _ => 0)), (r18 4, ai cA 36 (fun _ => 0)), (r18 5, ai cA 36 (fun _ => 0)), (r18 6, ai cA 36 (fun _ => 0))]) rfl ?_
  refine gi_aload_n (q := 0) k rfl rfl dX7_init_165 ?_
  refine gi_bipush (v := 6) k (by decide) dX7_init_166 ?_
  refine gi_bipush (v := 64) k (by decide) dX7_init_168 ?_
  refine gi_mna (N' := 6) (K' := 64) k kl_X7_37 (by decide) (by decide) (by decide) (by decide) (by decide) (by decide) (by decide) (by decide) (by decide) dX7_init_170 (fun a19 r19 => ?_)
  refine gi_ws (ws' := [(q, .inr (7, [.int 4, .ref a1, .ref a2, .ref a3, .ref a4, .ref a5, .ref a6, .ref a7, .ref a8, .ref a9, .ref a10, .ref a11, .int 0, .ref a12, .int 0, .int 0, .int 0, .ref a13, .ref a14, .ref a15, .int 0, .ref a16, .ref a17, .int 0, .int 0, .ref a18, .null])), (a1, ai cA 36 (fun _ => 0)), (a2, ai cA 8 (fun _ => 0)), (a3, ai cA 8 (fun _ => 0)), (a4, ai cA 6 (fun _ => 0)), (a5, ai cA 6 (fun _ => 0)), (a6, ai cA 6 (fun _ => 0)), (a7, ai cA 6 (fun _ => 0)), (a8, ag (cA 4) 6 (fun i => if i < 6 then some (r8 i) else none)), (r8 0, ai cA 64 (fun _ => 0)), (r8 1, ai cA 64 (fun _ => 0)), (r8 2, ai cA 64 (fun _ => 0)), (r8 3, ai cA 64 (fun _ => 0)), (r8 4, ai cA 64 (fun _ => 0)), (r8 5, ai cA 64 (fun _ => 0)), (a9, ai cA 64 (fun _ => 0)), (a10, ai cA 6 (fun _ => 0)), (a11, ai cA 7 (fun _ => 0)), (a12, ab cA 100 (fun _ => 0)), (a13, ai cA 100 (fun _ => 0)), (a14, ai cA 300 (fun _ => 0)), (a15, ab cA 512 (fun _ => 0)), (a16, ai cA 4 (fun _ => 0)), (a17, ag (cA 4) 4 (fun i => if i < 4 then some (r17 i) else none)), (r17 0, ai cA 64 (fun _ => 0)), (r17 1, ai cA 64 (fun _ => 0)), (r17 2, ai cA 64 (fun _ => 0)), (r17 3, ai cA 64 (fun _ => 0)), (a18, ag (cA 4) 7 (fun i => if i < 7 then some (r18 i) else none)), (r18 0, ai cA 36 (fun _ => 0)), (r18 1, ai cA 36 (fun _ => 0)), (r18 2, ai cA 36 (fun _ => 0)), (r18 3, ai cA 36 (fun _ => 0)), (r18 4, ai cA 36 (fun _ => 0)), (r18 5, ai cA 36 (fun _ => 0)), (r18 6, ai cA 36 (fun _ => 0)), (a19, ag (cA 4) 6 (fun i => if i < 6 then some (r19 i) else none)), (r19 0, ai cA 64 (fun _ => 0)), (r19 1, ai cA 64 (fun _ => 0)), (r19 2, ai cA 64 (fun _ => 0)), (r19 3, ai cA 64 (fun _ => 0)), (r19 4, ai cA 64 (fun _ => 0)), (r19 5, ai cA 64 (fun _ => 0))]) (k1 := 42) (k2 := 2468) rfl rfl rfl ?_
  refine gi_putF (C := RX7) (T := TX7) (N := 27) (ci := 7) (q0 := 0) (j := 26) k hni rfl rfl rfl inX7 tyX7 tyX7_ok nmX7 (by decide) fl_X7_73 rfl rfl (tyX7_ok 26 (by decide)) rfl rfl (Nat.le_of_ble_eq_true rfl) dX7_init_174 (ws' := [(q, .inr (7, [.int 4, .ref a1, .ref a2, .ref a3, .ref a4, .ref a5, .ref a6, .ref a7, .ref a8, .ref a9, .ref a10, .ref a11, .int 0, .ref a12, .int 0, .int 0, .int 0, .ref a13, .ref a14, .ref a15, .int 0, .ref a16, .ref a17, .int 0, .int 0, .ref a18, .ref a19])), (a1, ai cA 36 (fun _ => 0)), (a2, ai cA 8 (fun _ => 0)), (a3, ai cA 8 (fun _ => 0)), (a4, ai cA 6 (fun _ => 0)), (a5, ai cA 6 (fun _ => 0)), (a6, ai cA 6 (fun _ => 0)), (a7, ai cA 6 (fun _ => 0)), (a8, ag (cA 4) 6 (fun i => if i < 6 then some (r8 i) else none)), (r8 0, ai cA 64 (fun _ => 0)), (r8 1, ai cA 64 (fun _ => 0)), (r8 2, ai cA 64 (fun _ => 0)), (r8 3, ai cA 64 (fun _ => 0)), (r8 4, ai cA 64 (fun _ => 0)), (r8 5, ai cA 64 (fun _ => 0)), (a9, ai cA 64 (fun _ => 0)), (a10, ai cA 6 (fun _ => 0)), (a11, ai cA 7 (fun _ => 0)), (a12, ab cA 100 (fun _ => 0)), (a13, ai cA 100 (fun _ => 0)), (a14, ai cA 300 (fun _ => 0)), (a15, ab cA 512 (fun _ => 0)), (a16, ai cA 4 (fun _ => 0)), (a17, ag (cA 4) 4 (fun i => if i < 4 then some (r17 i) else none)), (r17 0, ai cA 64 (fun _ => 0)), (r17 1, ai cA 64 (fun _ => 0)), (r17 2, ai cA 64 (fun _ => 0)), (r17 3, ai cA 64 (fun _ => 0)), (a18, ag (cA 4) 7 (fun i => if i < 7 then some (r18 i) else none)), (r18 0, ai cA 36 (fun _ => 0)), (r18 1, ai cA 36 (fun _ => 0)), (r18 2, ai cA 36 (fun _ => 0)), (r18 3, ai cA 36 (fun _ => 0)), (r18 4, ai cA 36 (fun _ => 0)), (r18 5, ai cA 36 (fun _ => 0)), (r18 6, ai cA 36 (fun _ => 0)), (a19, ag (cA 4) 6 (fun i => if i < 6 then some (r19 i) else none)), (r19 0, ai cA 64 (fun _ => 0)), (r19 1, ai cA 64 (fun _ => 0)), (r19 2, ai cA 64 (fun _ => 0)), (r19 3, ai cA 64 (fun _ => 0)), (r19 4, ai cA 64 (fun _ => 0)), (r19 5, ai cA 64 (fun _ => 0))]) rfl ?_
  refine gi_wr (ws' := wlist (D, List.range' 65 43, adl 65 [q, a1, a2, a3, a4, a5, a6, a7, a8, r8 0, r8 1, r8 2, r8 3, r8 4, r8 5, a9, a10, a11, a12, a13, a14, a15, a16, a17, r17 0, r17 1, r17 2, r17 3, a18, r18 0, r18 1, r18 2, r18 3, r18 4, r18 5, r18 6, a19, r19 0, r19 1, r19 2, r19 3, r19 4, r19 5], cA, am) m7) ?_ ?_
  · refine Wr.cons (Or.inl rfl) ?_
    refine Wr.cons (Or.inl rfl) ?_
    refine Wr.cons (Or.inl rfl) ?_
    refine Wr.cons (Or.inl rfl) ?_
    refine Wr.cons (Or.inl rfl) ?_
    refine Wr.cons (Or.inl rfl) ?_
    refine Wr.cons (Or.inl rfl) ?_
    refine Wr.cons (Or.inl rfl) ?_
    refine Wr.cons (eqe_q (fun i hi => by rcases (show i = 0 ∨ i = 1 ∨ i = 2 ∨ i = 3 ∨ i = 4 ∨ i = 5 by omega) with rfl | rfl | rfl | rfl | rfl | rfl <;> rfl)) ?_
    refine Wr.cons (Or.inl rfl) ?_
    refine Wr.cons (Or.inl rfl) ?_
    refine Wr.cons (Or.inl rfl) ?_
    refine Wr.cons (Or.inl rfl) ?_
    refine Wr.cons (Or.inl rfl) ?_
    refine Wr.cons (Or.inl rfl) ?_
    refine Wr.cons (Or.inl rfl) ?_
    refine Wr.cons (Or.inl rfl) ?_
    refine Wr.cons (Or.inl rfl) ?_
    refine Wr.cons (Or.inl rfl) ?_
    refine Wr.cons (Or.inl rfl) ?_
    refine Wr.cons (Or.inl rfl) ?_
    refine Wr.cons (Or.inl rfl) ?_
    refine Wr.cons (Or.inl rfl) ?_
    refine Wr.cons (eqe_q (fun i hi => by rcases (show i = 0 ∨ i = 1 ∨ i = 2 ∨ i = 3 by omega) with rfl | rfl | rfl | rfl <;> rfl)) ?_
    refine Wr.cons (Or.inl rfl) ?_
    refine Wr.cons (Or.inl rfl) ?_
    refine Wr.cons (Or.inl rfl) ?_
    refine Wr.cons (Or.inl rfl) ?_
    refine Wr.cons (eqe_q (fun i hi => by rcases (show i = 0 ∨ i = 1 ∨ i = 2 ∨ i = 3 ∨ i = 4 ∨ i = 5 ∨ i = 6 by omega) with rfl | rfl | rfl | rfl | rfl | rfl | rfl <;> rfl)) ?_
    refine Wr.cons (Or.inl rfl) ?_
    refine Wr.cons (Or.inl rfl) ?_
    refine Wr.cons (Or.inl rfl) ?_
    refine Wr.cons (Or.inl rfl) ?_
    refine Wr.cons (Or.inl rfl) ?_
    refine Wr.cons (Or.inl rfl) ?_
    refine Wr.cons (Or.inl rfl) ?_
    refine Wr.cons (eqe_q (fun i hi => by rcases (show i = 0 ∨ i = 1 ∨ i = 2 ∨ i = 3 ∨ i = 4 ∨ i = 5 by omega) with rfl | rfl | rfl | rfl | rfl | rfl <;> rfl)) ?_
    refine Wr.cons (Or.inl rfl) ?_
    refine Wr.cons (Or.inl rfl) ?_
    refine Wr.cons (Or.inl rfl) ?_
    refine Wr.cons (Or.inl rfl) ?_
    refine Wr.cons (Or.inl rfl) ?_
    refine Wr.cons (Or.inl rfl) ?_
    exact Wr.nil
  refine gi_aload_n (q := 0) k rfl rfl dX7_init_177 ?_
  refine gi_G (L := List.range' 65 43) (ad := adl 65 [q, a1, a2, a3, a4, a5, a6, a7, a8, r8 0, r8 1, r8 2, r8 3, r8 4, r8 5, a9, a10, a11, a12, a13, a14, a15, a16, a17, r17 0, r17 1, r17 2, r17 3, a18, r18 0, r18 1, r18 2, r18 3, r18 4, r18 5, r18 6, a19, r19 0, r19 1, r19 2, r19 3, r19 4, r19 5]) (M := m7) k (by decide) (by decide) rfl (fun kg => ?_)
  have hI : ∀ k, 65 ≤ k → k < 108 → k ∈ List.range' 65 43 := fun k h1 h2 => List.mem_range'_1.mpr ⟨h1, h2⟩
  refine gs_callV (As := []) (k0 := 65) (ci := 7) (T := TX7) (N := 27) kg (c_X7_empties65 hI) cf_X7_empties im_X7_empties sl_X7_empties ml_X7_76 (hI 65 (by omega) (by omega)) rfl rfl (by decide) rfl rfl (Nat.le_of_ble_eq_true rfl) dX7_init_178 (ppV ?_)
  refine gs_iconst (v := 0) kg (by decide) dX7_init_181 ?_
  refine gs_istore_n (lv' := [(1, .int 0), (0, .ref q)]) kg rfl (by decide) rfl dX7_init_182 ?_
  refine gs_iload_n (q := 0) kg rfl rfl dX7_init_183 ?_
  refine gs_iconst (v := 4) kg (by decide) dX7_init_184 ?_
  refine gs_icmp_ge (tgt := 201) kg (by decide) dX7_init_185 (fun z => absurd z (by decide)) (fun _ => ?_)
  refine gs_aload_n (q := 1) kg rfl rfl dX7_init_188 ?_
  refine gs_get (C := RX7) (T := TX7) (N := 27) (ci := 7) (k0 := 65) (j := 21) kg (hI 65 (by omega) (by omega)) rfl rfl inX7 (by decide) fl_X7_64 rfl rfl dX7_init_189 ?_
  refine gs_iload_n (q := 0) kg rfl rfl dX7_init_192 ?_
  refine gs_iconst (v := -1) kg (by decide) dX7_init_193 ?_
  refine gs_iast (k0 := 87) (n := 4) kg (hI 87 (by omega) (by omega)) (fun _ => rfl) (by unfold vp_in; decide) dX7_init_194 ?_
  refine gs_iinc (q := 0) (v := 1) (lv' := [(1, .int 1), (0, .ref q)]) kg rfl (by decide) (by decide) rfl dX7_init_195 ?_
  refine gs_goto (tgt := 183) kg (by decide) dX7_init_198 ?_
  refine gs_iload_n (q := 0) kg rfl rfl dX7_init_183 ?_
  refine gs_iconst (v := 4) kg (by decide) dX7_init_184 ?_
  refine gs_icmp_ge (tgt := 201) kg (by decide) dX7_init_185 (fun z => absurd z (by decide)) (fun _ => ?_)
  refine gs_aload_n (q := 1) kg rfl rfl dX7_init_188 ?_
  refine gs_get (C := RX7) (T := TX7) (N := 27) (ci := 7) (k0 := 65) (j := 21) kg (hI 65 (by omega) (by omega)) rfl rfl inX7 (by decide) fl_X7_64 rfl rfl dX7_init_189 ?_
  refine gs_iload_n (q := 0) kg rfl rfl dX7_init_192 ?_
  refine gs_iconst (v := -1) kg (by decide) dX7_init_193 ?_
  refine gs_iast (k0 := 87) (n := 4) kg (hI 87 (by omega) (by omega)) (fun _ => rfl) (by unfold vp_in; decide) dX7_init_194 ?_
  refine gs_iinc (q := 0) (v := 2) (lv' := [(1, .int 2), (0, .ref q)]) kg rfl (by decide) (by decide) rfl dX7_init_195 ?_
  refine gs_goto (tgt := 183) kg (by decide) dX7_init_198 ?_
  refine gs_iload_n (q := 0) kg rfl rfl dX7_init_183 ?_
  refine gs_iconst (v := 4) kg (by decide) dX7_init_184 ?_
  refine gs_icmp_ge (tgt := 201) kg (by decide) dX7_init_185 (fun z => absurd z (by decide)) (fun _ => ?_)
  refine gs_aload_n (q := 1) kg rfl rfl dX7_init_188 ?_
  refine gs_get (C := RX7) (T := TX7) (N := 27) (ci := 7) (k0 := 65) (j := 21) kg (hI 65 (by omega) (by omega)) rfl rfl inX7 (by decide) fl_X7_64 rfl rfl dX7_init_189 ?_
  refine gs_iload_n (q := 0) kg rfl rfl dX7_init_192 ?_
  refine gs_iconst (v := -1) kg (by decide) dX7_init_193 ?_
  refine gs_iast (k0 := 87) (n := 4) kg (hI 87 (by omega) (by omega)) (fun _ => rfl) (by unfold vp_in; decide) dX7_init_194 ?_
  refine gs_iinc (q := 0) (v := 3) (lv' := [(1, .int 3), (0, .ref q)]) kg rfl (by decide) (by decide) rfl dX7_init_195 ?_
  refine gs_goto (tgt := 183) kg (by decide) dX7_init_198 ?_
  refine gs_iload_n (q := 0) kg rfl rfl dX7_init_183 ?_
  refine gs_iconst (v := 4) kg (by decide) dX7_init_184 ?_
  refine gs_icmp_ge (tgt := 201) kg (by decide) dX7_init_185 (fun z => absurd z (by decide)) (fun _ => ?_)
  refine gs_aload_n (q := 1) kg rfl rfl dX7_init_188 ?_
  refine gs_get (C := RX7) (T := TX7) (N := 27) (ci := 7) (k0 := 65) (j := 21) kg (hI 65 (by omega) (by omega)) rfl rfl inX7 (by decide) fl_X7_64 rfl rfl dX7_init_189 ?_
  refine gs_iload_n (q := 0) kg rfl rfl dX7_init_192 ?_
  refine gs_iconst (v := -1) kg (by decide) dX7_init_193 ?_
  refine gs_iast (k0 := 87) (n := 4) kg (hI 87 (by omega) (by omega)) (fun _ => rfl) (by unfold vp_in; decide) dX7_init_194 ?_
  refine gs_iinc (q := 0) (v := 4) (lv' := [(1, .int 4), (0, .ref q)]) kg rfl (by decide) (by decide) rfl dX7_init_195 ?_
  refine gs_goto (tgt := 183) kg (by decide) dX7_init_198 ?_
  refine gs_iload_n (q := 0) kg rfl rfl dX7_init_183 ?_
  refine gs_iconst (v := 4) kg (by decide) dX7_init_184 ?_
  refine gs_icmp_ge (tgt := 201) kg (by decide) dX7_init_185 (fun _ => ?_) (fun z => absurd (by decide) z)
  refine gi_unG ?_
  exact gi_ret (st := []) k t (by decide) (by decide) dX7_init_201 ⟨adl 65 [q, a1, a2, a3, a4, a5, a6, a7, a8, r8 0, r8 1, r8 2, r8 3, r8 4, r8 5, a9, a10, a11, a12, a13, a14, a15, a16, a17, r17 0, r17 1, r17 2, r17 3, a18, r18 0, r18 1, r18 2, r18 3, r18 4, r18 5, r18 6, a19, r19 0, r19 1, r19 2, r19 3, r19 4, r19 5], rfl, rfl⟩
