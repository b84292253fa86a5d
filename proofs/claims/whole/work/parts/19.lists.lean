/-! lists: lengths ln (-1 where missing), numbers L -/
def CLs (M : Mm) (ln : Nat → Int32) (L : Nat → Nat → Int32) : Prop := ∀ i, i < 4 → M (44 + 2 * i) 0 = ln i ∧ (ln i < 0 → ln i = -1) ∧ (¬ ln i < 0 → inR (ln i) 65) ∧ ∀ j, j < 64 → M (45 + 2 * i) j = L i j
def RLs (M : Mm) (ln : Nat → Int32) (L : Nat → Nat → Int32) : Prop := ∀ i, i < 4 → M 87 i = ln i ∧ (ln i < 0 → ln i = -1) ∧ (¬ ln i < 0 → inR (ln i) 65) ∧ ∀ j, j < 64 → M (89 + i) j = L i j
theorem CLs_rs {M : Mm} {k : Nat} {ln : Nat → Int32} {L : Nat → Nat → Int32} {r : Nat → Int32} (h : k < 44 ∨ 51 < k) (e : CLs M ln L) : CLs (rset M k r) ln L := fun i hi => by
  obtain ⟨h1, h2, h3, h4⟩ := e i hi
  exact ⟨rdr (by omega) h1, h2, h3, fun s hs => rdr (by omega) (h4 s hs)⟩
theorem RLs_rs {M : Mm} {k : Nat} {ln : Nat → Int32} {L : Nat → Nat → Int32} {r : Nat → Int32} (h : k < 87 ∨ (k = 88 ∨ 92 < k)) (e : RLs M ln L) : RLs (rset M k r) ln L := fun i hi => by
  obtain ⟨h1, h2, h3, h4⟩ := e i hi
  exact ⟨rdr (by omega) h1, h2, h3, fun s hs => rdr (by omega) (h4 s hs)⟩
theorem tn_neg {x : Int32} (h : x < 0) : tn x = 0 := by
  have h1 := Int32.lt_iff_toInt_lt.mp h
  have h0 : (0 : Int32).toInt = 0 := by decide
  unfold tn
  rw [Int32.toNatClampNeg]
  omega
theorem inR_ln {i ln : Int32} (hl : ln < 0 → ln = -1) (hr : ¬ ln < 0 → inR ln 65) : (¬ i.toInt64 < (0 : Int64) ∧ ¬ (ln - 1).toInt64 < i.toInt64) ↔ inR i (tn ln) := by
  have z : (0 : Int64).toInt = 0 := by decide
  rw [Int64.lt_iff_toInt_lt, Int64.lt_iff_toInt_lt, Int32.toInt_toInt64, Int32.toInt_toInt64, z]
  unfold inR
  by_cases c : ln < 0
  · rw [hl c, show ((-1 : Int32) - 1).toInt = -2 by decide, show tn (-1) = 0 by decide]
    omega
  · have h := hr c
    have e : (ln - 1).toInt = (tn ln : Int) - 1 := by
      have h2 := inR_lt h
      rw [inR_eq h, tn_nI (by omega)]
      generalize tn ln = m at h2
      have H : ∀ m, m < 65 → (nI m - 1).toInt = (m : Int) - 1 := by decide +kernel
      exact H m h2
    rw [e]
    omega
theorem inR_lnC {i ln : Int32} (hr : ¬ ln < 0 → inR ln 65) (hl : ln < 0 → ln = -1) (h1 : ¬ i < 0) (h2 : i < ln) : inR i (tn ln) := by
  by_cases c : ln < 0
  · rw [hl c] at h2
    have a := Int32.lt_iff_toInt_lt.mp h2
    have b : ¬ i.toInt < (0 : Int32).toInt := fun z => h1 (Int32.lt_iff_toInt_lt.mpr z)
    have : (-1 : Int32).toInt = -1 := by decide
    have : (0 : Int32).toInt = 0 := by decide
    omega
  · exact inR_of (inR_eq (hr c)) (by have := inR_lt (hr c); omega) h1 (Int32.not_le.mpr h2)
theorem inR_lnN {i ln : Int32} (hr : ¬ ln < 0 → inR ln 65) (h2 : ¬ i < ln) : ¬ inR i (tn ln) := by
  intro q
  by_cases c : ln < 0
  · rw [tn_neg c] at q
    exact absurd (inR_lt q) (by omega)
  · exact inR_n2 (inR_eq (hr c)) (by have := inR_lt (hr c); omega) (Int32.not_lt.mp h2) q

theorem cf_X0_isMissing : CF yX0_isMissing cX0_isMissing 1 (some .boolean) 0 := ⟨cd_X0_isMissing, iz_X0, by decide, by decide +kernel, by decide +kernel, by decide +kernel⟩
set_option maxRecDepth 100000 in
set_option maxHeartbeats 4000000 in
theorem c_X0_isMissing {l : Launch} {E : Ev} {M : Mm} {ln : Nat → Int32} {L : Nat → Nat → Int32} (hI : ∀ k, k < 108 → k ∈ E.2.1) (hL : CLs M ln L) {i : Nat} (hi : i < 4) : Cm l E yX0_isMissing cX0_isMissing 1 (some .boolean) 0 [.ref (E.2.2.1 (44 + 2 * i))] M (pB (ln i < 0) M) := by
  refine Cm.of (by decide) (Nat.le_of_ble_eq_true rfl) (fun K k kt => ?_)
  show G l E K 0 [(0, .ref (E.2.2.1 (44 + 2 * i)))] [] M
  refine gs_aload_n (q := 0) k rfl rfl dX0_isMissing_0 ?_
  refine gs_get (C := RX0) (T := TX0) (N := 2) (ci := 0) (k0 := (44 + 2 * i)) (j := 0) k (hI (44 + 2 * i) (by omega)) (ent_L hi _) rfl inX0 (by decide) fl_X0_11 rfl rfl dX0_isMissing_1 ?_
  refine gs_top (y := ln i) ((hL i (by omega)).1) ?_
  refine gs_iconst (v := -1) k (by decide) dX0_isMissing_4 ?_
  refine gs_icmp_ne (tgt := 12) k (by decide) dX0_isMissing_5 (fun c1 => ?_) (fun c1 => ?_)
  · refine gs_iconst (v := 0) k (by decide) dX0_isMissing_12 ?_
    exact gs_zret k kt (by decide) dX0_isMissing_13 (pB0 (fun h => c1 ((hL i hi).2.1 h)))
  · refine gs_iconst (v := 1) k (by decide) dX0_isMissing_8 ?_
    refine gs_goto (tgt := 13) k (by decide) dX0_isMissing_9 ?_
    exact gs_zret k kt (by decide) dX0_isMissing_13 (pB1 (by rw [c1]; decide))

noncomputable def A_list (a x : Int32) : Int32 := ifc (inR a 4) (ifc (x ≤ 64) (ifc (0 ≤ x) 1 (-14)) (-2)) (-1)
noncomputable def U_list (U : Mm) (a x : Int32) (M : Mm) : Mm := ifc (inR a 4) (ifc (x ≤ 64) (ifc (0 ≤ x) U M) M) M
theorem cf_X6_list : CF yX6_list cX6_list 3 (some .int) 2 := ⟨cd_X6_list, iz_X6, by decide, by decide +kernel, by decide +kernel, by decide +kernel⟩
set_option maxRecDepth 100000 in
set_option maxHeartbeats 4000000 in
theorem c_X6_list {l : Launch} {E : Ev} {M : Mm} (hI : ∀ k, k < 108 → k ∈ E.2.1) {a x : Int32} : Cm l E yX6_list cX6_list 3 (some .int) 1 [.ref (E.2.2.1 0), .int a, .int x] M (pI (A_list a x) (U_list (mw (rset M (45 + 2 * tn a) (setr 64 (fun _ => 0) (M (45 + 2 * tn a)))) (44 + 2 * tn a) 0 x) a x M)) := by
  refine Cm.of (by decide) (Nat.le_of_ble_eq_true rfl) (fun K k kt => ?_)
  show G l E K 0 [(0, .ref (E.2.2.1 0)), (1, .int a), (2, .int x)] [] M
  refine gs_iload_n (q := 1) k rfl rfl dX6_list_0 ?_
  refine gs_callS (As := [.int a]) k c_X6_isList cf_X6_isList sm_X6_isList ml_X6_269 (by decide) rfl rfl (Nat.le_of_ble_eq_true rfl) dX6_list_1 (ppB (fun c1 => ?_) (fun c1 => ?_))
  · have bc1 := inR_lt c1
    refine gs_if_ne (tgt := 9) k (by decide) dX6_list_4 (fun _ => ?_) (fun h => absurd h (by decide))
    refine gs_iload_n (q := 2) k rfl rfl dX6_list_9 ?_
    refine gs_bipush (v := 64) k (by decide) dX6_list_10 ?_
    refine gs_icmp_le (tgt := 18) k (by decide) dX6_list_12 (fun c2 => ?_) (fun c2 => ?_)
    · refine gs_iload_n (q := 2) k rfl rfl dX6_list_18 ?_
      refine gs_if_ge (tgt := 25) k (by decide) dX6_list_19 (fun c3 => ?_) (fun c3 => ?_)
      · refine gs_aload_n (q := 0) k rfl rfl dX6_list_25 ?_
        refine gs_get (C := RX6) (T := TX6) (N := 10) (ci := 6) (k0 := 0) (j := 3) k (hI 0 (by omega)) rfl rfl inX6 (by decide) fl_X6_27 rfl rfl dX6_list_26 ?_
        refine gs_iload_n (q := 1) k rfl rfl dX6_list_29 ?_
        refine gs_aaldNN (k0 := 43) (n := 4) (e := tn a) (a := E.2.2.1 (44 + 2 * (tn a))) k (hI 43 (by omega)) (fun _ => rfl) (inR_eq c1) (by omega) (by decide) rfl dX6_list_30 ?_
        refine gs_get (C := RX0) (T := TX0) (N := 2) (ci := 0) (k0 := (44 + 2 * (tn a))) (j := 1) k (hI (44 + 2 * (tn a)) (by omega)) (ent_L (by omega) _) rfl inX0 (by decide) fl_X6_272 rfl rfl dX6_list_31 ?_
        refine gs_iconst (v := 0) k (by decide) dX6_list_34 ?_
        refine gs_callS (As := [.ref (E.2.2.1 (45 + 2 * (tn a))), .int 0]) k (c_J7_fill_53178 (k0 := (45 + 2 * (tn a))) (n := 64) (hI (45 + 2 * (tn a)) (by omega)) (ent_LN (by omega)) (by decide)) cf_J7_fill_53178 sm_J7_fill_53178 ml_X6_275 (by decide) rfl rfl (Nat.le_of_ble_eq_true rfl) dX6_list_35 (ppV ?_)
        refine gs_aload_n (q := 0) k rfl rfl dX6_list_38 ?_
        refine gs_get (C := RX6) (T := TX6) (N := 10) (ci := 6) (k0 := 0) (j := 3) k (hI 0 (by omega)) rfl rfl inX6 (by decide) fl_X6_27 rfl rfl dX6_list_39 ?_
        refine gs_iload_n (q := 1) k rfl rfl dX6_list_42 ?_
        refine gs_aaldNN (k0 := 43) (n := 4) (e := tn a) (a := E.2.2.1 (44 + 2 * (tn a))) k (hI 43 (by omega)) (fun _ => rfl) (inR_eq c1) (by omega) (by decide) rfl dX6_list_43 ?_
        refine gs_iload_n (q := 2) k rfl rfl dX6_list_44 ?_
        refine gs_put (C := RX0) (T := TX0) (N := 2) (ci := 0) (k0 := (44 + 2 * (tn a))) (j := 0) (ty := .int) k (hI (44 + 2 * (tn a)) (by omega)) (ent_L (by omega) _) (ent_L (by omega) _) rfl inX0 tyX0 tyX0_ok nmX0 (by decide) fl_X6_280 rfl rfl (tyX0_ok 0 (by decide)) rfl rfl (Nat.le_of_ble_eq_true rfl) dX6_list_45 ?_
        refine gs_iconst (v := 1) k (by decide) dX6_list_48 ?_
        exact gs_iret k kt dX6_list_49 ⟨(by simp [-Int32.not_lt, A_list, U_list, ifc_T, ifc_F, c1, c2, c3]), (by simp [-Int32.not_lt, A_list, U_list, ifc_T, ifc_F, c1, c2, c3])⟩
      · refine gs_bipush (v := -14) k (by decide) dX6_list_22 ?_
        exact gs_iret k kt dX6_list_24 ⟨(by simp [-Int32.not_lt, A_list, U_list, ifc_T, ifc_F, c1, c2, c3]), (by simp [-Int32.not_lt, A_list, U_list, ifc_T, ifc_F, c1, c2, c3])⟩
    · refine gs_bipush (v := -2) k (by decide) dX6_list_15 ?_
      exact gs_iret k kt dX6_list_17 ⟨(by simp [-Int32.not_lt, A_list, U_list, ifc_T, ifc_F, c1, c2]), (by simp [-Int32.not_lt, A_list, U_list, ifc_T, ifc_F, c1, c2])⟩
  · refine gs_if_ne (tgt := 9) k (by decide) dX6_list_4 (fun h => absurd h (by decide)) (fun _ => ?_)
    refine gs_iconst (v := -1) k (by decide) dX6_list_7 ?_
    exact gs_iret k kt dX6_list_8 ⟨(by simp [-Int32.not_lt, A_list, U_list, ifc_T, ifc_F, c1]), (by simp [-Int32.not_lt, A_list, U_list, ifc_T, ifc_F, c1])⟩

theorem cf_X7_list : CF yX7_list cX7_list 4 (some .int) 2 := ⟨cd_X7_list, iz_X7, by decide, by decide +kernel, by decide +kernel, by decide +kernel⟩
set_option maxRecDepth 100000 in
set_option maxHeartbeats 4000000 in
theorem c_X7_list {l : Launch} {E : Ev} {M : Mm} (hI : ∀ k, k < 108 → k ∈ E.2.1) {a x : Int32} : Cm l E yX7_list cX7_list 4 (some .int) 2 [.ref (E.2.2.1 65), .int a, .int x] M (pI (A_list a x) (U_list (rset (mw M 87 (tn a) x) (89 + tn a) (setr 64 (fun _ => 0) (mw M 87 (tn a) x (89 + tn a)))) a x M)) := by
  refine Cm.of (by decide) (Nat.le_of_ble_eq_true rfl) (fun K k kt => ?_)
  show G l E K 0 [(0, .ref (E.2.2.1 65)), (1, .int a), (2, .int x)] [] M
  refine gs_iload_n (q := 1) k rfl rfl dX7_list_0 ?_
  refine gs_callS (As := [.int a]) k c_X7_isList cf_X7_isList sm_X7_isList ml_X7_362 (by decide) rfl rfl (Nat.le_of_ble_eq_true rfl) dX7_list_1 (ppB (fun c1 => ?_) (fun c1 => ?_))
  · have bc1 := inR_lt c1
    refine gs_if_ne (tgt := 9) k (by decide) dX7_list_4 (fun _ => ?_) (fun h => absurd h (by decide))
    refine gs_iload_n (q := 2) k rfl rfl dX7_list_9 ?_
    refine gs_bipush (v := 64) k (by decide) dX7_list_10 ?_
    refine gs_icmp_le (tgt := 18) k (by decide) dX7_list_12 (fun c2 => ?_) (fun c2 => ?_)
    · refine gs_iload_n (q := 2) k rfl rfl dX7_list_18 ?_
      refine gs_if_ge (tgt := 25) k (by decide) dX7_list_19 (fun c3 => ?_) (fun c3 => ?_)
      · refine gs_aload_n (q := 0) k rfl rfl dX7_list_25 ?_
        refine gs_get (C := RX7) (T := TX7) (N := 27) (ci := 7) (k0 := 65) (j := 21) k (hI 65 (by omega)) rfl rfl inX7 (by decide) fl_X7_64 rfl rfl dX7_list_26 ?_
        refine gs_iload_n (q := 1) k rfl rfl dX7_list_29 ?_
        refine gs_iload_n (q := 2) k rfl rfl dX7_list_30 ?_
        refine gs_iastN (k0 := 87) (n := 4) (e := tn a) k (hI 87 (by omega)) (fun _ => rfl) (inR_eq c1) (by omega) (by decide) dX7_list_31 ?_
        refine gs_iconst (v := 0) k (by decide) dX7_list_32 ?_
        refine gs_istore_n (lv' := [(3, .int 0), (0, .ref (E.2.2.1 65)), (1, .int a), (2, .int x)]) k rfl (by decide) rfl dX7_list_33 ?_
        refine gs_lv (lv' := [(0, .ref (E.2.2.1 65)), (1, .int a), (2, .int x), (3, .int 0)]) [1, 2, 3, 0] rfl ?_
        refine gs_M (rset_same (mw M 87 (tn a) (x)) (89 + (tn a))).symm ?_
        refine for_up (σ := (Nat → Int32)) (fun s r => G l E K 34 [(0, .ref (E.2.2.1 65)), (1, .int a), (2, .int x), (3, .int (nI s))] [] (rset (mw M 87 (tn a) (x)) (89 + (tn a)) r)) (fun s r => upd r s 0) 64 (fun s r hs hGs => ?_) 64 0 ((mw M 87 (tn a) (x)) (89 + (tn a))) (by omega) ?_
        · show G l E K 34 [(0, .ref (E.2.2.1 65)), (1, .int a), (2, .int x), (3, .int (nI s))] [] (rset (mw M 87 (tn a) (x)) (89 + (tn a)) r)
          refine gs_iload_n (q := 3) k rfl rfl dX7_list_34 ?_
          refine gs_bipush (v := 64) k (by decide) dX7_list_35 ?_
          refine gs_icmpN_ge (a := s) (b := 64) (tgt := 55) k rfl rfl (by omega) (by omega) (by decide) dX7_list_37 (fun c4 => absurd c4 (by omega)) (fun c4 => ?_)
          refine gs_aload_n (q := 0) k rfl rfl dX7_list_40 ?_
          refine gs_get (C := RX7) (T := TX7) (N := 27) (ci := 7) (k0 := 65) (j := 22) k (hI 65 (by omega)) rfl rfl inX7 (by decide) fl_X7_67 rfl rfl dX7_list_41 ?_
          refine gs_iload_n (q := 1) k rfl rfl dX7_list_44 ?_
          refine gs_aaldIN (k0 := 88) (n := 4) (e := tn a) (a := E.2.2.1 (89 + (tn a))) k (hI 88 (by omega)) (fun _ => rfl) (inR_eq c1) (by omega) (by decide) rfl dX7_list_45 ?_
          refine gs_iload_n (q := 3) k rfl rfl dX7_list_46 ?_
          refine gs_iconst (v := 0) k (by decide) dX7_list_47 ?_
          refine gs_iastN (k0 := (89 + (tn a))) (n := 64) (e := s) k (hI (89 + (tn a)) (by omega)) (ent_RL (by omega)) rfl (by omega) (by decide) dX7_list_48 ?_
          refine gs_M (mw_rset _ _ _ _ _) ?_
          refine gs_iincN (q := 3) (a := s) (c := 1) (lv' := [(3, .int (nI (s + 1))), (0, .ref (E.2.2.1 65)), (1, .int a), (2, .int x)]) k rfl rfl (by decide) rfl dX7_list_49 ?_
          refine gs_goto (tgt := 34) k (by decide) dX7_list_52 ?_
          refine gs_lv (lv' := [(0, .ref (E.2.2.1 65)), (1, .int a), (2, .int x), (3, .int (nI (s + 1)))]) [1, 2, 3, 0] rfl ?_
          exact hGs _ rfl
        · show G l E K 34 [(0, .ref (E.2.2.1 65)), (1, .int a), (2, .int x), (3, .int (nI 64))] [] (rset (mw M 87 (tn a) (x)) (89 + (tn a)) (lp (fun s r => upd r s 0) 64 0 ((mw M 87 (tn a) (x)) (89 + (tn a)))))
          rw [lp_setr _ (fun _ => 0)]
          show G l E K 34 [(0, .ref (E.2.2.1 65)), (1, .int a), (2, .int x), (3, .int (nI 64))] [] (rset (mw M 87 (tn a) (x)) (89 + (tn a)) (setr 64 (fun _ => 0) (mw M 87 (tn a) x (89 + tn a))))
          refine gs_iload_n (q := 3) k rfl rfl dX7_list_34 ?_
          refine gs_bipush (v := 64) k (by decide) dX7_list_35 ?_
          refine gs_icmpN_ge (a := 64) (b := 64) (tgt := 55) k rfl rfl (by omega) (by omega) (by decide) dX7_list_37 (fun c4 => ?_) (fun c4 => absurd c4 (by omega))
          refine gs_iconst (v := 1) k (by decide) dX7_list_55 ?_
          exact gs_iret k kt dX7_list_56 ⟨(by simp [-Int32.not_lt, A_list, U_list, ifc_T, ifc_F, c1, c2, c3]), (by simp [-Int32.not_lt, A_list, U_list, ifc_T, ifc_F, c1, c2, c3])⟩
      · refine gs_bipush (v := -14) k (by decide) dX7_list_22 ?_
        exact gs_iret k kt dX7_list_24 ⟨(by simp [-Int32.not_lt, A_list, U_list, ifc_T, ifc_F, c1, c2, c3]), (by simp [-Int32.not_lt, A_list, U_list, ifc_T, ifc_F, c1, c2, c3])⟩
    · refine gs_bipush (v := -2) k (by decide) dX7_list_15 ?_
      exact gs_iret k kt dX7_list_17 ⟨(by simp [-Int32.not_lt, A_list, U_list, ifc_T, ifc_F, c1, c2]), (by simp [-Int32.not_lt, A_list, U_list, ifc_T, ifc_F, c1, c2])⟩
  · refine gs_if_ne (tgt := 9) k (by decide) dX7_list_4 (fun h => absurd h (by decide)) (fun _ => ?_)
    refine gs_iconst (v := -1) k (by decide) dX7_list_7 ?_
    exact gs_iret k kt dX7_list_8 ⟨(by simp [-Int32.not_lt, A_list, U_list, ifc_T, ifc_F, c1]), (by simp [-Int32.not_lt, A_list, U_list, ifc_T, ifc_F, c1])⟩

noncomputable def A_put (ln : Nat → Int32) (a i : Int32) : Int32 := ifc (inR a 4) (ifc (¬ ln (tn a) < 0) (ifc (inR i (tn (ln (tn a)))) 1 (-13)) (-11)) (-1)
noncomputable def U_put (U : Mm) (ln : Nat → Int32) (a i : Int32) (M : Mm) : Mm := ifc (inR a 4) (ifc (¬ ln (tn a) < 0) (ifc (inR i (tn (ln (tn a)))) U M) M) M
noncomputable def A_get (ln : Nat → Int32) (L : Nat → Nat → Int32) (a i : Int32) : Int64 := ifc (inR a 4 ∧ inR i (tn (ln (tn a)))) ((L (tn a) (tn i)).toInt64) (-9223372036854775808)
theorem ln_le {ln : Int32} (hr : ¬ ln < 0 → inR ln 65) : tn ln ≤ 64 := by
  by_cases c : ln < 0
  · rw [tn_neg c]; omega
  · have := inR_lt (hr c); omega
theorem cf_X6_put : CF yX6_put cX6_put 4 (some .int) 3 := ⟨cd_X6_put, iz_X6, by decide, by decide +kernel, by decide +kernel, by decide +kernel⟩
set_option maxRecDepth 100000 in
set_option maxHeartbeats 4000000 in
theorem c_X6_put {l : Launch} {E : Ev} {M : Mm} {ln : Nat → Int32} {L : Nat → Nat → Int32} (hI : ∀ k, k < 108 → k ∈ E.2.1) (hL : CLs M ln L) {a i v : Int32} : Cm l E yX6_put cX6_put 4 (some .int) 1 [.ref (E.2.2.1 0), .int a, .int i, .int v] M (pI (A_put ln a i) (U_put (mw M (45 + 2 * tn a) (tn i) v) ln a i M)) := by
  refine Cm.of (by decide) (Nat.le_of_ble_eq_true rfl) (fun K k kt => ?_)
  show G l E K 0 [(0, .ref (E.2.2.1 0)), (1, .int a), (2, .int i), (3, .int v)] [] M
  refine gs_iload_n (q := 1) k rfl rfl dX6_put_0 ?_
  refine gs_callS (As := [.int a]) k c_X6_isList cf_X6_isList sm_X6_isList ml_X6_269 (by decide) rfl rfl (Nat.le_of_ble_eq_true rfl) dX6_put_1 (ppB (fun c1 => ?_) (fun c1 => ?_))
  · have bc1 := inR_lt c1
    refine gs_if_ne (tgt := 9) k (by decide) dX6_put_4 (fun _ => ?_) (fun h => absurd h (by decide))
    refine gs_aload_n (q := 0) k rfl rfl dX6_put_9 ?_
    refine gs_get (C := RX6) (T := TX6) (N := 10) (ci := 6) (k0 := 0) (j := 3) k (hI 0 (by omega)) rfl rfl inX6 (by decide) fl_X6_27 rfl rfl dX6_put_10 ?_
    refine gs_iload_n (q := 1) k rfl rfl dX6_put_13 ?_
    refine gs_aaldNN (k0 := 43) (n := 4) (e := tn a) (a := E.2.2.1 (44 + 2 * (tn a))) k (hI 43 (by omega)) (fun _ => rfl) (inR_eq c1) (by omega) (by decide) rfl dX6_put_14 ?_
    refine gs_callV (As := []) (k0 := (44 + 2 * (tn a))) (ci := 0) (T := TX0) (N := 2) k (c_X0_isMissing hI hL (by omega)) cf_X0_isMissing im_X0_isMissing sl_X0_isMissing ml_X6_281 (hI (44 + 2 * (tn a)) (by omega)) (ent_L (by omega) _) rfl (by decide) rfl rfl (Nat.le_of_ble_eq_true rfl) dX6_put_15 (ppB (fun c2 => ?_) (fun c2 => ?_))
    · refine gs_if_eq (tgt := 24) k (by decide) dX6_put_18 (fun h => absurd h (by decide)) (fun _ => ?_)
      refine gs_bipush (v := -11) k (by decide) dX6_put_21 ?_
      exact gs_iret k kt dX6_put_23 ⟨(by simp [-Int32.not_lt, A_put, U_put, ifc_T, ifc_F, c1, c2]), (by simp [-Int32.not_lt, A_put, U_put, ifc_T, ifc_F, c1, c2])⟩
    · refine gs_if_eq (tgt := 24) k (by decide) dX6_put_18 (fun _ => ?_) (fun h => absurd h (by decide))
      refine gs_iload_n (q := 2) k rfl rfl dX6_put_24 ?_
      refine gs_if_lt (tgt := 41) k (by decide) dX6_put_25 (fun c3 => ?_) (fun c3 => ?_)
      · have ec3 : ¬ inR i (tn (ln (tn a))) := inR_n1 c3
        refine gs_bipush (v := -13) k (by decide) dX6_put_41 ?_
        exact gs_iret k kt dX6_put_43 ⟨(by simp [-Int32.not_lt, A_put, U_put, ifc_T, ifc_F, c1, c2, c3, ec3]), (by simp [-Int32.not_lt, A_put, U_put, ifc_T, ifc_F, c1, c2, c3, ec3])⟩
      · refine gs_iload_n (q := 2) k rfl rfl dX6_put_28 ?_
        refine gs_aload_n (q := 0) k rfl rfl dX6_put_29 ?_
        refine gs_get (C := RX6) (T := TX6) (N := 10) (ci := 6) (k0 := 0) (j := 3) k (hI 0 (by omega)) rfl rfl inX6 (by decide) fl_X6_27 rfl rfl dX6_put_30 ?_
        refine gs_iload_n (q := 1) k rfl rfl dX6_put_33 ?_
        refine gs_aaldNN (k0 := 43) (n := 4) (e := tn a) (a := E.2.2.1 (44 + 2 * (tn a))) k (hI 43 (by omega)) (fun _ => rfl) (inR_eq c1) (by omega) (by decide) rfl dX6_put_34 ?_
        refine gs_get (C := RX0) (T := TX0) (N := 2) (ci := 0) (k0 := (44 + 2 * (tn a))) (j := 0) k (hI (44 + 2 * (tn a)) (by omega)) (ent_L (by omega) _) rfl inX0 (by decide) fl_X6_280 rfl rfl dX6_put_35 ?_
        refine gs_top (y := ln (tn a)) ((hL (tn a) (by omega)).1) ?_
        refine gs_icmp_lt (tgt := 44) k (by decide) dX6_put_38 (fun c4 => ?_) (fun c4 => ?_)
        · have ec4 : inR i (tn (ln (tn a))) := inR_lnC (hL (tn a) (by omega)).2.2.1 (hL (tn a) (by omega)).2.1 c3 c4
          have fc4 := inR_lt ec4
          have gc4 := ln_le (hL (tn a) (by omega)).2.2.1
          refine gs_aload_n (q := 0) k rfl rfl dX6_put_44 ?_
          refine gs_get (C := RX6) (T := TX6) (N := 10) (ci := 6) (k0 := 0) (j := 3) k (hI 0 (by omega)) rfl rfl inX6 (by decide) fl_X6_27 rfl rfl dX6_put_45 ?_
          refine gs_iload_n (q := 1) k rfl rfl dX6_put_48 ?_
          refine gs_aaldNN (k0 := 43) (n := 4) (e := tn a) (a := E.2.2.1 (44 + 2 * (tn a))) k (hI 43 (by omega)) (fun _ => rfl) (inR_eq c1) (by omega) (by decide) rfl dX6_put_49 ?_
          refine gs_get (C := RX0) (T := TX0) (N := 2) (ci := 0) (k0 := (44 + 2 * (tn a))) (j := 1) k (hI (44 + 2 * (tn a)) (by omega)) (ent_L (by omega) _) rfl inX0 (by decide) fl_X6_272 rfl rfl dX6_put_50 ?_
          refine gs_iload_n (q := 2) k rfl rfl dX6_put_53 ?_
          refine gs_iload_n (q := 3) k rfl rfl dX6_put_54 ?_
          refine gs_iastN (k0 := (45 + 2 * (tn a))) (n := 64) (e := tn i) k (hI (45 + 2 * (tn a)) (by omega)) (ent_LN (by omega)) (inR_eq ec4) (by omega) (by decide) dX6_put_55 ?_
          refine gs_iconst (v := 1) k (by decide) dX6_put_56 ?_
          exact gs_iret k kt dX6_put_57 ⟨(by simp [-Int32.not_lt, A_put, U_put, ifc_T, ifc_F, c1, c2, c3, c4, ec4]), (by simp [-Int32.not_lt, A_put, U_put, ifc_T, ifc_F, c1, c2, c3, c4, ec4])⟩
        · have ec4 : ¬ inR i (tn (ln (tn a))) := inR_lnN (hL (tn a) (by omega)).2.2.1 c4
          refine gs_bipush (v := -13) k (by decide) dX6_put_41 ?_
          exact gs_iret k kt dX6_put_43 ⟨(by simp [-Int32.not_lt, A_put, U_put, ifc_T, ifc_F, c1, c2, c3, c4, ec4]), (by simp [-Int32.not_lt, A_put, U_put, ifc_T, ifc_F, c1, c2, c3, c4, ec4])⟩
  · refine gs_if_ne (tgt := 9) k (by decide) dX6_put_4 (fun h => absurd h (by decide)) (fun _ => ?_)
    refine gs_iconst (v := -1) k (by decide) dX6_put_7 ?_
    exact gs_iret k kt dX6_put_8 ⟨(by simp [-Int32.not_lt, A_put, U_put, ifc_T, ifc_F, c1]), (by simp [-Int32.not_lt, A_put, U_put, ifc_T, ifc_F, c1])⟩

theorem cf_X7_put : CF yX7_put cX7_put 4 (some .int) 3 := ⟨cd_X7_put, iz_X7, by decide, by decide +kernel, by decide +kernel, by decide +kernel⟩
set_option maxRecDepth 100000 in
set_option maxHeartbeats 4000000 in
theorem c_X7_put {l : Launch} {E : Ev} {M : Mm} {ln : Nat → Int32} {L : Nat → Nat → Int32} (hI : ∀ k, k < 108 → k ∈ E.2.1) (hL : RLs M ln L) {a i v : Int32} : Cm l E yX7_put cX7_put 4 (some .int) 2 [.ref (E.2.2.1 65), .int a, .int i, .int v] M (pI (A_put ln a i) (U_put (mw M (89 + tn a) (tn i) v) ln a i M)) := by
  refine Cm.of (by decide) (Nat.le_of_ble_eq_true rfl) (fun K k kt => ?_)
  show G l E K 0 [(0, .ref (E.2.2.1 65)), (1, .int a), (2, .int i), (3, .int v)] [] M
  refine gs_iload_n (q := 1) k rfl rfl dX7_put_0 ?_
  refine gs_callS (As := [.int a]) k c_X7_isList cf_X7_isList sm_X7_isList ml_X7_362 (by decide) rfl rfl (Nat.le_of_ble_eq_true rfl) dX7_put_1 (ppB (fun c1 => ?_) (fun c1 => ?_))
  · have bc1 := inR_lt c1
    refine gs_if_ne (tgt := 9) k (by decide) dX7_put_4 (fun _ => ?_) (fun h => absurd h (by decide))
    refine gs_aload_n (q := 0) k rfl rfl dX7_put_9 ?_
    refine gs_get (C := RX7) (T := TX7) (N := 27) (ci := 7) (k0 := 65) (j := 21) k (hI 65 (by omega)) rfl rfl inX7 (by decide) fl_X7_64 rfl rfl dX7_put_10 ?_
    refine gs_iload_n (q := 1) k rfl rfl dX7_put_13 ?_
    refine gs_ialdN (k0 := 87) (n := 4) (e := tn a) k (hI 87 (by omega)) (fun _ => rfl) (inR_eq c1) (by omega) (by decide) dX7_put_14 ?_
    refine gs_top (y := ln (tn a)) ((hL (tn a) (by omega)).1) ?_
    refine gs_if_ge (tgt := 21) k (by decide) dX7_put_15 (fun c2 => ?_) (fun c2 => ?_)
    · refine gs_iload_n (q := 2) k rfl rfl dX7_put_21 ?_
      refine gs_i2l k dX7_put_22 ?_
      refine gs_lconst (v := 0) k (by decide) dX7_put_23 ?_
      refine gs_aload_n (q := 0) k rfl rfl dX7_put_24 ?_
      refine gs_get (C := RX7) (T := TX7) (N := 27) (ci := 7) (k0 := 65) (j := 21) k (hI 65 (by omega)) rfl rfl inX7 (by decide) fl_X7_64 rfl rfl dX7_put_25 ?_
      refine gs_iload_n (q := 1) k rfl rfl dX7_put_28 ?_
      refine gs_ialdN (k0 := 87) (n := 4) (e := tn a) k (hI 87 (by omega)) (fun _ => rfl) (inR_eq c1) (by omega) (by decide) dX7_put_29 ?_
      refine gs_top (y := ln (tn a)) ((hL (tn a) (by omega)).1) ?_
      refine gs_iconst (v := 1) k (by decide) dX7_put_30 ?_
      refine gs_isub k dX7_put_31 ?_
      refine gs_i2l k dX7_put_32 ?_
      refine gs_callS (As := [.long (i.toInt64), .long (0), .long (((ln (tn a)) - 1).toInt64)]) k (Cm.iff (inR_ln (hL (tn a) (by omega)).2.1 (hL (tn a) (by omega)).2.2.1) c_X7_in) cf_X7_in sm_X7_in ml_X7_79 (by decide) rfl rfl (Nat.le_of_ble_eq_true rfl) dX7_put_33 (ppB (fun c3 => ?_) (fun c3 => ?_))
      · have bc3 := inR_lt c3
        have gc3 := ln_le (hL (tn a) (by omega)).2.2.1
        refine gs_if_ne (tgt := 42) k (by decide) dX7_put_36 (fun _ => ?_) (fun h => absurd h (by decide))
        refine gs_aload_n (q := 0) k rfl rfl dX7_put_42 ?_
        refine gs_get (C := RX7) (T := TX7) (N := 27) (ci := 7) (k0 := 65) (j := 22) k (hI 65 (by omega)) rfl rfl inX7 (by decide) fl_X7_67 rfl rfl dX7_put_43 ?_
        refine gs_iload_n (q := 1) k rfl rfl dX7_put_46 ?_
        refine gs_aaldIN (k0 := 88) (n := 4) (e := tn a) (a := E.2.2.1 (89 + (tn a))) k (hI 88 (by omega)) (fun _ => rfl) (inR_eq c1) (by omega) (by decide) rfl dX7_put_47 ?_
        refine gs_iload_n (q := 2) k rfl rfl dX7_put_48 ?_
        refine gs_iload_n (q := 3) k rfl rfl dX7_put_49 ?_
        refine gs_iastN (k0 := (89 + (tn a))) (n := 64) (e := tn i) k (hI (89 + (tn a)) (by omega)) (ent_RL (by omega)) (inR_eq c3) (by omega) (by decide) dX7_put_50 ?_
        refine gs_iconst (v := 1) k (by decide) dX7_put_51 ?_
        exact gs_iret k kt dX7_put_52 ⟨(by simp [-Int32.not_lt, A_put, U_put, ifc_T, ifc_F, c1, Int32.not_lt.mpr c2, c3]), (by simp [-Int32.not_lt, A_put, U_put, ifc_T, ifc_F, c1, Int32.not_lt.mpr c2, c3])⟩
      · refine gs_if_ne (tgt := 42) k (by decide) dX7_put_36 (fun h => absurd h (by decide)) (fun _ => ?_)
        refine gs_bipush (v := -13) k (by decide) dX7_put_39 ?_
        exact gs_iret k kt dX7_put_41 ⟨(by simp [-Int32.not_lt, A_put, U_put, ifc_T, ifc_F, c1, Int32.not_lt.mpr c2, c3]), (by simp [-Int32.not_lt, A_put, U_put, ifc_T, ifc_F, c1, Int32.not_lt.mpr c2, c3])⟩
    · refine gs_bipush (v := -11) k (by decide) dX7_put_18 ?_
      exact gs_iret k kt dX7_put_20 ⟨(by simp [-Int32.not_lt, A_put, U_put, ifc_T, ifc_F, c1, Int32.not_le.mp c2]), (by simp [-Int32.not_lt, A_put, U_put, ifc_T, ifc_F, c1, Int32.not_le.mp c2])⟩
  · refine gs_if_ne (tgt := 9) k (by decide) dX7_put_4 (fun h => absurd h (by decide)) (fun _ => ?_)
    refine gs_iconst (v := -1) k (by decide) dX7_put_7 ?_
    exact gs_iret k kt dX7_put_8 ⟨(by simp [-Int32.not_lt, A_put, U_put, ifc_T, ifc_F, c1]), (by simp [-Int32.not_lt, A_put, U_put, ifc_T, ifc_F, c1])⟩

theorem cf_X6_get : CF yX6_get cX6_get 3 (some .long) 2 := ⟨cd_X6_get, iz_X6, by decide, by decide +kernel, by decide +kernel, by decide +kernel⟩
set_option maxRecDepth 100000 in
set_option maxHeartbeats 4000000 in
theorem c_X6_get {l : Launch} {E : Ev} {M : Mm} {ln : Nat → Int32} {L : Nat → Nat → Int32} (hI : ∀ k, k < 108 → k ∈ E.2.1) (hL : CLs M ln L) {a i : Int32} : Cm l E yX6_get cX6_get 3 (some .long) 1 [.ref (E.2.2.1 0), .int a, .int i] M (pL (A_get ln L a i) M) := by
  refine Cm.of (by decide) (Nat.le_of_ble_eq_true rfl) (fun K k kt => ?_)
  show G l E K 0 [(0, .ref (E.2.2.1 0)), (1, .int a), (2, .int i)] [] M
  refine gs_iload_n (q := 1) k rfl rfl dX6_get_0 ?_
  refine gs_callS (As := [.int a]) k c_X6_isList cf_X6_isList sm_X6_isList ml_X6_269 (by decide) rfl rfl (Nat.le_of_ble_eq_true rfl) dX6_get_1 (ppB (fun c1 => ?_) (fun c1 => ?_))
  · have bc1 := inR_lt c1
    refine gs_if_eq (tgt := 24) k (by decide) dX6_get_4 (fun h => absurd h (by decide)) (fun _ => ?_)
    refine gs_iload_n (q := 2) k rfl rfl dX6_get_7 ?_
    refine gs_if_lt (tgt := 24) k (by decide) dX6_get_8 (fun c2 => ?_) (fun c2 => ?_)
    · have ec2 : ¬ inR i (tn (ln (tn a))) := inR_n1 c2
      refine gs_ldc2 (v := -9223372036854775808) k cl_X6_184 dX6_get_24 ?_
      exact gs_lret k kt dX6_get_27 ⟨(by simp [-Int32.not_lt, A_get, ifc_T, ifc_F, c1, c2, ec2]), (by simp [-Int32.not_lt, A_get, ifc_T, ifc_F, c1, c2, ec2])⟩
    · refine gs_iload_n (q := 2) k rfl rfl dX6_get_11 ?_
      refine gs_aload_n (q := 0) k rfl rfl dX6_get_12 ?_
      refine gs_get (C := RX6) (T := TX6) (N := 10) (ci := 6) (k0 := 0) (j := 3) k (hI 0 (by omega)) rfl rfl inX6 (by decide) fl_X6_27 rfl rfl dX6_get_13 ?_
      refine gs_iload_n (q := 1) k rfl rfl dX6_get_16 ?_
      refine gs_aaldNN (k0 := 43) (n := 4) (e := tn a) (a := E.2.2.1 (44 + 2 * (tn a))) k (hI 43 (by omega)) (fun _ => rfl) (inR_eq c1) (by omega) (by decide) rfl dX6_get_17 ?_
      refine gs_get (C := RX0) (T := TX0) (N := 2) (ci := 0) (k0 := (44 + 2 * (tn a))) (j := 0) k (hI (44 + 2 * (tn a)) (by omega)) (ent_L (by omega) _) rfl inX0 (by decide) fl_X6_280 rfl rfl dX6_get_18 ?_
      refine gs_top (y := ln (tn a)) ((hL (tn a) (by omega)).1) ?_
      refine gs_icmp_lt (tgt := 28) k (by decide) dX6_get_21 (fun c3 => ?_) (fun c3 => ?_)
      · have ec3 : inR i (tn (ln (tn a))) := inR_lnC (hL (tn a) (by omega)).2.2.1 (hL (tn a) (by omega)).2.1 c2 c3
        have fc3 := inR_lt ec3
        have gc3 := ln_le (hL (tn a) (by omega)).2.2.1
        refine gs_aload_n (q := 0) k rfl rfl dX6_get_28 ?_
        refine gs_get (C := RX6) (T := TX6) (N := 10) (ci := 6) (k0 := 0) (j := 3) k (hI 0 (by omega)) rfl rfl inX6 (by decide) fl_X6_27 rfl rfl dX6_get_29 ?_
        refine gs_iload_n (q := 1) k rfl rfl dX6_get_32 ?_
        refine gs_aaldNN (k0 := 43) (n := 4) (e := tn a) (a := E.2.2.1 (44 + 2 * (tn a))) k (hI 43 (by omega)) (fun _ => rfl) (inR_eq c1) (by omega) (by decide) rfl dX6_get_33 ?_
        refine gs_get (C := RX0) (T := TX0) (N := 2) (ci := 0) (k0 := (44 + 2 * (tn a))) (j := 1) k (hI (44 + 2 * (tn a)) (by omega)) (ent_L (by omega) _) rfl inX0 (by decide) fl_X6_272 rfl rfl dX6_get_34 ?_
        refine gs_iload_n (q := 2) k rfl rfl dX6_get_37 ?_
        refine gs_ialdN (k0 := (45 + 2 * (tn a))) (n := 64) (e := tn i) k (hI (45 + 2 * (tn a)) (by omega)) (ent_LN (by omega)) (inR_eq ec3) (by omega) (by decide) dX6_get_38 ?_
        refine gs_top (y := L (tn a) (tn i)) ((hL (tn a) (by omega)).2.2.2 (tn i) (by omega)) ?_
        refine gs_i2l k dX6_get_39 ?_
        exact gs_lret k kt dX6_get_40 ⟨(by simp [-Int32.not_lt, A_get, ifc_T, ifc_F, c1, c2, c3, ec3]), (by simp [-Int32.not_lt, A_get, ifc_T, ifc_F, c1, c2, c3, ec3])⟩
      · have ec3 : ¬ inR i (tn (ln (tn a))) := inR_lnN (hL (tn a) (by omega)).2.2.1 c3
        refine gs_ldc2 (v := -9223372036854775808) k cl_X6_184 dX6_get_24 ?_
        exact gs_lret k kt dX6_get_27 ⟨(by simp [-Int32.not_lt, A_get, ifc_T, ifc_F, c1, c2, c3, ec3]), (by simp [-Int32.not_lt, A_get, ifc_T, ifc_F, c1, c2, c3, ec3])⟩
  · refine gs_if_eq (tgt := 24) k (by decide) dX6_get_4 (fun _ => ?_) (fun h => absurd h (by decide))
    refine gs_ldc2 (v := -9223372036854775808) k cl_X6_184 dX6_get_24 ?_
    exact gs_lret k kt dX6_get_27 ⟨(by simp [-Int32.not_lt, A_get, ifc_T, ifc_F, c1]), (by simp [-Int32.not_lt, A_get, ifc_T, ifc_F, c1])⟩

theorem cf_X7_get : CF yX7_get cX7_get 3 (some .long) 2 := ⟨cd_X7_get, iz_X7, by decide, by decide +kernel, by decide +kernel, by decide +kernel⟩
set_option maxRecDepth 100000 in
set_option maxHeartbeats 4000000 in
theorem c_X7_get {l : Launch} {E : Ev} {M : Mm} {ln : Nat → Int32} {L : Nat → Nat → Int32} (hI : ∀ k, k < 108 → k ∈ E.2.1) (hL : RLs M ln L) {a i : Int32} : Cm l E yX7_get cX7_get 3 (some .long) 2 [.ref (E.2.2.1 65), .int a, .int i] M (pL (A_get ln L a i) M) := by
  refine Cm.of (by decide) (Nat.le_of_ble_eq_true rfl) (fun K k kt => ?_)
  show G l E K 0 [(0, .ref (E.2.2.1 65)), (1, .int a), (2, .int i)] [] M
  refine gs_iload_n (q := 1) k rfl rfl dX7_get_0 ?_
  refine gs_callS (As := [.int a]) k c_X7_isList cf_X7_isList sm_X7_isList ml_X7_362 (by decide) rfl rfl (Nat.le_of_ble_eq_true rfl) dX7_get_1 (ppB (fun c1 => ?_) (fun c1 => ?_))
  · have bc1 := inR_lt c1
    refine gs_if_eq (tgt := 37) k (by decide) dX7_get_4 (fun h => absurd h (by decide)) (fun _ => ?_)
    refine gs_iload_n (q := 2) k rfl rfl dX7_get_7 ?_
    refine gs_i2l k dX7_get_8 ?_
    refine gs_lconst (v := 0) k (by decide) dX7_get_9 ?_
    refine gs_aload_n (q := 0) k rfl rfl dX7_get_10 ?_
    refine gs_get (C := RX7) (T := TX7) (N := 27) (ci := 7) (k0 := 65) (j := 21) k (hI 65 (by omega)) rfl rfl inX7 (by decide) fl_X7_64 rfl rfl dX7_get_11 ?_
    refine gs_iload_n (q := 1) k rfl rfl dX7_get_14 ?_
    refine gs_ialdN (k0 := 87) (n := 4) (e := tn a) k (hI 87 (by omega)) (fun _ => rfl) (inR_eq c1) (by omega) (by decide) dX7_get_15 ?_
    refine gs_top (y := ln (tn a)) ((hL (tn a) (by omega)).1) ?_
    refine gs_iconst (v := 1) k (by decide) dX7_get_16 ?_
    refine gs_isub k dX7_get_17 ?_
    refine gs_i2l k dX7_get_18 ?_
    refine gs_callS (As := [.long (i.toInt64), .long (0), .long (((ln (tn a)) - 1).toInt64)]) k (Cm.iff (inR_ln (hL (tn a) (by omega)).2.1 (hL (tn a) (by omega)).2.2.1) c_X7_in) cf_X7_in sm_X7_in ml_X7_79 (by decide) rfl rfl (Nat.le_of_ble_eq_true rfl) dX7_get_19 (ppB (fun c2 => ?_) (fun c2 => ?_))
    · have bc2 := inR_lt c2
      have gc2 := ln_le (hL (tn a) (by omega)).2.2.1
      refine gs_if_eq (tgt := 37) k (by decide) dX7_get_22 (fun h => absurd h (by decide)) (fun _ => ?_)
      refine gs_aload_n (q := 0) k rfl rfl dX7_get_25 ?_
      refine gs_get (C := RX7) (T := TX7) (N := 27) (ci := 7) (k0 := 65) (j := 22) k (hI 65 (by omega)) rfl rfl inX7 (by decide) fl_X7_67 rfl rfl dX7_get_26 ?_
      refine gs_iload_n (q := 1) k rfl rfl dX7_get_29 ?_
      refine gs_aaldIN (k0 := 88) (n := 4) (e := tn a) (a := E.2.2.1 (89 + (tn a))) k (hI 88 (by omega)) (fun _ => rfl) (inR_eq c1) (by omega) (by decide) rfl dX7_get_30 ?_
      refine gs_iload_n (q := 2) k rfl rfl dX7_get_31 ?_
      refine gs_ialdN (k0 := (89 + (tn a))) (n := 64) (e := tn i) k (hI (89 + (tn a)) (by omega)) (ent_RL (by omega)) (inR_eq c2) (by omega) (by decide) dX7_get_32 ?_
      refine gs_top (y := L (tn a) (tn i)) ((hL (tn a) (by omega)).2.2.2 (tn i) (by omega)) ?_
      refine gs_i2l k dX7_get_33 ?_
      refine gs_goto (tgt := 40) k (by decide) dX7_get_34 ?_
      exact gs_lret k kt dX7_get_40 ⟨(by simp [-Int32.not_lt, A_get, ifc_T, ifc_F, c1, c2]), (by simp [-Int32.not_lt, A_get, ifc_T, ifc_F, c1, c2])⟩
    · refine gs_if_eq (tgt := 37) k (by decide) dX7_get_22 (fun _ => ?_) (fun h => absurd h (by decide))
      refine gs_ldc2 (v := -9223372036854775808) k cl_X7_198 dX7_get_37 ?_
      exact gs_lret k kt dX7_get_40 ⟨(by simp [-Int32.not_lt, A_get, ifc_T, ifc_F, c1, c2]), (by simp [-Int32.not_lt, A_get, ifc_T, ifc_F, c1, c2])⟩
  · refine gs_if_eq (tgt := 37) k (by decide) dX7_get_4 (fun _ => ?_) (fun h => absurd h (by decide))
    refine gs_ldc2 (v := -9223372036854775808) k cl_X7_198 dX7_get_37 ?_
    exact gs_lret k kt dX7_get_40 ⟨(by simp [-Int32.not_lt, A_get, ifc_T, ifc_F, c1]), (by simp [-Int32.not_lt, A_get, ifc_T, ifc_F, c1])⟩

