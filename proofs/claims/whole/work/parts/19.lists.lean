/-! lists: lengths ln (-1 where missing), numbers L -/
def CLs (M : Mm) (ln : Nat → Int32) (L : Nat → Nat → Int32) : Prop := ∀ i, i < 4 → M (44 + 2 * i) 0 = ln i ∧ (ln i < 0 → ln i = -1) ∧ (¬ ln i < 0 → inR (ln i) 65) ∧ ∀ j, j < 64 → M (45 + 2 * i) j = L i j
def RLs (M : Mm) (ln : Nat → Int32) (L : Nat → Nat → Int32) : Prop := ∀ i, i < 4 → M 87 i = ln i ∧ (ln i < 0 → ln i = -1) ∧ (¬ ln i < 0 → inR (ln i) 65) ∧ ∀ j, j < 64 → M (89 + i) j = L i j
theorem CLs_rs {M : Mm} {k : Nat} {ln : Nat → Int32} {L : Nat → Nat → Int32} {r : Nat → Int32} (h : k < 44 ∨ 51 < k) (e : CLs M ln L) : CLs (rset M k r) ln L := fun i hi => by
  obtain ⟨h1, h2, h3, h4⟩ := e i hi
  exact ⟨rdr (by omega) h1, h2, h3, fun s hs => rdr (by omega) (h4 s hs)⟩
theorem RLs_rs {M : Mm} {k : Nat} {ln : Nat → Int32} {L : Nat → Nat → Int32} {r : Nat → Int32} (h : k < 87 ∨ (k = 88 ∨ 92 < k)) (e : RLs M ln L) : RLs (rset M k r) ln L := fun i hi => by
  obtain ⟨h1, h2, h3, h4⟩ := e i hi
  exact ⟨rdr (by omega) h1, h2, h3, fun s hs => rdr (by omega) (h4 s hs)⟩
theorem tn_neg {x : Int32} (h : x < 0) : tn x = 0 := by
  have h1 := Int32.lt_iff_toInt_lt.mp h
  have h0 : (0 : Int32).toInt = 0 := by decide
  unfold tn
  rw [Int32.toNatClampNeg]
  omega
theorem inR_ln {i ln : Int32} (hl : ln < 0 → ln = -1) (hr : ¬ ln < 0 → inR ln 65) : (¬ i.toInt64 < (0 : Int64) ∧ ¬ (ln - 1).toInt64 < i.toInt64) ↔ inR i (tn ln) := by
  have z : (0 : Int64).toInt = 0 := by decide
  rw [Int64.lt_iff_toInt_lt, Int64.lt_iff_toInt_lt, Int32.toInt_toInt64, Int32.toInt_toInt64, z]
  unfold inR
  by_cases c : ln < 0
  · rw [hl c, show ((-1 : Int32) - 1).toInt = -2 by decide, show tn (-1) = 0 by decide]
    omega
  · have h := hr c
    have e : (ln - 1).toInt = (tn ln : Int) - 1 := by
      have h2 := inR_lt h
      rw [inR_eq h, tn_nI (by omega)]
      generalize tn ln = m at h2
      have H : ∀ m, m < 65 → (nI m - 1).toInt = (m : Int) - 1 := by decide +kernel
      exact H m h2
    rw [e]
    omega
theorem inR_lnC {i ln : Int32} (hr : ¬ ln < 0 → inR ln 65) (hl : ln < 0 → ln = -1) (h1 : ¬ i < 0) (h2 : i < ln) : inR i (tn ln) := by
  by_cases c : ln < 0
  · rw [hl c] at h2
    have a := Int32.lt_iff_toInt_lt.mp h2
    have b : ¬ i.toInt < (0 : Int32).toInt := fun z => h1 (Int32.lt_iff_toInt_lt.mpr z)
    have : (-1 : Int32).toInt = -1 := by decide
    have : (0 : Int32).toInt = 0 := by decide
    omega
  · exact inR_of (inR_eq (hr c)) (by have := inR_lt (hr c); omega) h1 (Int32.not_le.mpr h2)
theorem inR_lnN {i ln : Int32} (hr : ¬ ln < 0 → inR ln 65) (h2 : ¬ i < ln) : ¬ inR i (tn ln) := by
  intro q
  by_cases c : ln < 0
  · rw [tn_neg c] at q
    exact absurd (inR_lt q) (by omega)
  · exact inR_n2 (inR_eq (hr c)) (by have := inR_lt (hr c); omega) (Int32.not_lt.mp h2) q

theorem cf_X0_isMissing : CF yX0_isMissing cX0_isMissing 1 (some .boolean) 0 := ⟨cd_X0_isMissing, iz_X0, by decide, by decide +kernel, by decide +kernel, by decide +kernel⟩
set_option maxRecDepth 100000 in
set_option maxHeartbeats 4000000 in
theorem c_X0_isMissing {l : Launch} {E : Ev} {M : Mm} {ln : Nat → Int32} {L : Nat → Nat → Int32} (hI : ∀ k, k < 108 → k ∈ E.2.1) (hL : CLs M ln L) {i : Nat} (hi : i < 4) : Cm l E yX0_isMissing cX0_isMissing 1 (some .boolean) 0 [.ref (E.2.2.1 (44 + 2 * i))] M (pB (ln i < 0) M) := by
  refine Cm.of (by decide) (Nat.le_of_ble_eq_true rfl) (fun K k kt => ?_)
  show G l E K 0 [(0, .ref (E.2.2.1 (44 + 2 * i)))] [] M
  refine gs_aload_n (q := 0) k rfl rfl dX0_isMissing_0 ?_
  refine gs_get (C := RX0) (T := TX0) (N := 2) (ci := 0) (k0 := (44 + 2 * i)) (j := 0) k (hI (44 + 2 * i) (by omega)) (ent_L hi _) rfl inX0 (by decide) fl_X0_11 rfl rfl dX0_isMissing_1 ?_
  refine gs_top (y := ln i) ((hL i (by omega)).1) ?_
  refine gs_iconst (v := -1) k (by decide) dX0_isMissing_4 ?_
  refine gs_icmp_ne (tgt := 12) k (by decide) dX0_isMissing_5 (fun c1 => ?_) (fun c1 => ?_)
  · refine gs_iconst (v := 0) k (by decide) dX0_isMissing_12 ?_
    exact gs_zret k kt (by decide) dX0_isMissing_13 (pB0 (fun h => c1 ((hL i hi).2.1 h)))
  · refine gs_iconst (v := 1) k (by decide) dX0_isMissing_8 ?_
    refine gs_goto (tgt := 13) k (by decide) dX0_isMissing_9 ?_
    exact gs_zret k kt (by decide) dX0_isMissing_13 (pB1 (by rw [c1]; decide))

noncomputable def A_list (a x : Int32) : Int32 := ifc (inR a 4) (ifc (x ≤ 64) (ifc (0 ≤ x) 1 (-14)) (-2)) (-1)
noncomputable def U_list (U : Mm) (a x : Int32) (M : Mm) : Mm := ifc (inR a 4) (ifc (x ≤ 64) (ifc (0 ≤ x) U M) M) M
theorem cf_X6_list : CF yX6_list cX6_list 3 (some .int) 2 := ⟨cd_X6_list, iz_X6, by decide, by decide +kernel, by decide +kernel, by decide +kernel⟩
set_option maxRecDepth 100000 in
set_option maxHeartbeats 4000000 in
theorem c_X6_list {l : Launch} {E : Ev} {M : Mm} (hI : ∀ k, k < 108 → k ∈ E.2.1) {a x : Int32} : Cm l E yX6_list cX6_list 3 (some .int) 1 [.ref (E.2.2.1 0), .int a, .int x] M (pI (A_list a x) (U_list (mw (rset M (45 + 2 * tn a) (setr 64 (fun _ => 0) (M (45 + 2 * tn a)))) (44 + 2 * tn a) 0 x) a x M)) := by
  refine Cm.of (by decide) (Nat.le_of_ble_eq_true rfl) (fun K k kt => ?_)
  show G l E K 0 [(0, .ref (E.2.2.1 0)), (1, .int a), (2, .int x)] [] M
  refine gs_iload_n (q := 1) k rfl rfl dX6_list_0 ?_
  refine gs_callS (As := [.int a]) k c_X6_isList cf_X6_isList sm_X6_isList ml_X6_269 (by decide) rfl rfl (Nat.le_of_ble_eq_true rfl) dX6_list_1 (ppB (fun c1 => ?_) (fun c1 => ?_))
  · have bc1 := inR_lt c1
    refine gs_if_ne (tgt := 9) k (by decide) dX6_list_4 (fun _ => ?_) (fun h => absurd h (by decide))
    refine gs_iload_n (q := 2) k rfl rfl dX6_list_9 ?_
    refine gs_bipush (v := 64) k (by decide) dX6_list_10 ?_
    refine gs_icmp_le (tgt := 18) k (by decide) dX6_list_12 (fun c2 => ?_) (fun c2 => ?_)
    · refine gs_iload_n (q := 2) k rfl rfl dX6_list_18 ?_
      refine gs_if_ge (tgt := 25) k (by decide) dX6_list_19 (fun c3 => ?_) (fun c3 => ?_)
      · refine gs_aload_n (q := 0) k rfl rfl dX6_list_25 ?_
        refine gs_get (C := RX6) (T := TX6) (N := 10) (ci := 6) (k0 := 0) (j := 3) k (hI 0 (by omega)) rfl rfl inX6 (by decide) fl_X6_27 rfl rfl dX6_list_26 ?_
        refine gs_iload_n (q := 1) k rfl rfl dX6_list_29 ?_
        refine gs_aaldNN (k0 := 43) (n := 4) (e := tn a) (a := E.2.2.1 (44 + 2 * (tn a))) k (hI 43 (by omega)) (fun _ => rfl) (inR_eq c1) (by omega) (by decide) rfl dX6_list_30 ?_
        refine gs_get (C := RX0) (T := TX0) (N := 2) (ci := 0) (k0 := (44 + 2 * (tn a))) (j := 1) k (hI (44 + 2 * (tn a)) (by omega)) (ent_L (by omega) _) rfl inX0 (by decide) fl_X6_272 rfl rfl dX6_list_31 ?_
        refine gs_iconst (v := 0) k (by decide) dX6_list_34 ?_
        refine gs_callS (As := [.ref (E.2.2.1 (45 + 2 * (tn a))), .int 0]) k (c_J7_fill_53178 (k0 := (45 + 2 * (tn a))) (n := 64) (hI (45 + 2 * (tn a)) (by omega)) (ent_LN (by omega)) (by decide)) cf_J7_fill_53178 sm_J7_fill_53178 ml_X6_275 (by decide) rfl rfl (Nat.le_of_ble_eq_true rfl) dX6_list_35 (ppV ?_)
        refine gs_aload_n (q := 0) k rfl rfl dX6_list_38 ?_
        refine gs_get (C := RX6) (T := TX6) (N := 10) (ci := 6) (k0 := 0) (j := 3) k (hI 0 (by omega)) rfl rfl inX6 (by decide) fl_X6_27 rfl rfl dX6_list_39 ?_
        refine gs_iload_n (q := 1) k rfl rfl dX6_list_42 ?_
        refine gs_aaldNN (k0 := 43) (n := 4) (e := tn a) (a := E.2.2.1 (44 + 2 * (tn a))) k (hI 43 (by omega)) (fun _ => rfl) (inR_eq c1) (by omega) (by decide) rfl dX6_list_43 ?_
        refine gs_iload_n (q := 2) k rfl rfl dX6_list_44 ?_
        refine gs_put (C := RX0) (T := TX0) (N := 2) (ci := 0) (k0 := (44 + 2 * (tn a))) (j := 0) (ty := .int) k (hI (44 + 2 * (tn a)) (by omega)) (ent_L (by omega) _) (ent_L (by omega) _) rfl inX0 tyX0 tyX0_ok nmX0 (by decide) fl_X6_280 rfl rfl (tyX0_ok 0 (by decide)) rfl rfl (Nat.le_of_ble_eq_true rfl) dX6_list_45 ?_
        refine gs_iconst (v := 1) k (by decide) dX6_list_48 ?_
        exact gs_iret k kt dX6_list_49 ⟨(by simp [-Int32.not_lt, A_list, U_list, ifc_T, ifc_F, c1, c2, c3]), (by simp [-Int32.not_lt, A_list, U_list, ifc_T, ifc_F, c1, c2, c3])⟩
      · refine gs_bipush (v := -14) k (by decide) dX6_list_22 ?_
        exact gs_iret k kt dX6_list_24 ⟨(by simp [-Int32.not_lt, A_list, U_list, ifc_T, ifc_F, c1, c2, c3]), (by simp [-Int32.not_lt, A_list, U_list, ifc_T, ifc_F, c1, c2, c3])⟩
    · refine gs_bipush (v := -2) k (by decide) dX6_list_15 ?_
      exact gs_iret k kt dX6_list_17 ⟨(by simp [-Int32.not_lt, A_list, U_list, ifc_T, ifc_F, c1, c2]), (by simp [-Int32.not_lt, A_list, U_list, ifc_T, ifc_F, c1, c2])⟩
  · refine gs_if_ne (tgt := 9) k (by decide) dX6_list_4 (fun h => absurd h (by decide)) (fun _ => ?_)
    refine gs_iconst (v := -1) k (by decide) dX6_list_7 ?_
    exact gs_iret k kt dX6_list_8 ⟨(by simp [-Int32.not_lt, A_list, U_list, ifc_T, ifc_F, c1]), (by simp [-Int32.not_lt, A_list, U_list, ifc_T, ifc_F, c1])⟩

theorem cf_X7_list : CF yX7_list cX7_list 4 (some .int) 2 := ⟨cd_X7_list, iz_X7, by decide, by decide +kernel, by decide +kernel, by decide +kernel⟩
set_option maxRecDepth 100000 in
set_option maxHeartbeats 4000000 in
theorem c_X7_list {l : Launch} {E : Ev} {M : Mm} (hI : ∀ k, k < 108 → k ∈ E.2.1) {a x : Int32} : Cm l E yX7_list cX7_list 4 (some .int) 2 [.ref (E.2.2.1 65), .int a, .int x] M (pI (A_list a x) (U_list (rset (mw M 87 (tn a) x) (89 + tn a) (setr 64 (fun _ => 0) (mw M 87 (tn a) x (89 + tn a)))) a x M)) := by
  refine Cm.of (by decide) (Nat.le_of_ble_eq_true rfl) (fun K k kt => ?_)
  show G l E K 0 [(0, .ref (E.2.2.1 65)), (1, .int a), (2, .int x)] [] M
  refine gs_iload_n (q := 1) k rfl rfl dX7_list_0 ?_
  refine gs_callS (As := [.int a]) k c_X7_isList cf_X7_isList sm_X7_isList ml_X7_362 (by decide) rfl rfl (Nat.le_of_ble_eq_true rfl) dX7_list_1 (ppB (fun c1 => ?_) (fun c1 => ?_))
  · have bc1 := inR_lt c1
    refine gs_if_ne (tgt := 9) k (by decide) dX7_list_4 (fun _ => ?_) (fun h => absurd h (by decide))
    refine gs_iload_n (q := 2) k rfl rfl dX7_list_9 ?_
    refine gs_bipush (v := 64) k (by decide) dX7_list_10 ?_
    refine gs_icmp_le (tgt := 18) k (by decide) dX7_list_12 (fun c2 => ?_) (fun c2 => ?_)
    · refine gs_iload_n (q := 2) k rfl rfl dX7_list_18 ?_
      refine gs_if_ge (tgt := 25) k (by decide) dX7_list_19 (fun c3 => ?_) (fun c3 => ?_)
      · refine gs_aload_n (q := 0) k rfl rfl dX7_list_25 ?_
        refine gs_get (C := RX7) (T := TX7) (N := 27) (ci := 7) (k0 := 65) (j := 21) k (hI 65 (by omega)) rfl rfl inX7 (by decide) fl_X7_64 rfl rfl dX7_list_26 ?_
        refine gs_iload_n (q := 1) k rfl rfl dX7_list_29 ?_
        refine gs_iload_n (q := 2) k rfl rfl dX7_list_30 ?_
        refine gs_iastN (k0 := 87) (n := 4) (e := tn a) k (hI 87 (by omega)) (fun _ => rfl) (inR_eq c1) (by omega) (by decide) dX7_list_31 ?_
        refine gs_iconst (v := 0) k (by decide) dX7_list_32 ?_
        refine gs_istore_n (lv' := [(3, .int 0), (0, .ref (E.2.2.1 65)), (1, .int a), (2, .int x)]) k rfl (by decide) rfl dX7_list_33 ?_
        refine gs_lv (lv' := [(0, .ref (E.2.2.1 65)), (1, .int a), (2, .int x), (3, .int 0)]) [1, 2, 3, 0] rfl ?_
        refine gs_M (rset_same (mw M 87 (tn a) (x)) (89 + (tn a))).symm ?_
        refine for_up (σ := (Nat → Int32)) (fun s r => G l E K 34 [(0, .ref (E.2.2.1 65)), (1, .int a), (2, .int x), (3, .int (nI s))] [] (rset (mw M 87 (tn a) (x)) (89 + (tn a)) r)) (fun s r => upd r s 0) 64 (fun s r hs hGs => ?_) 64 0 ((mw M 87 (tn a) (x)) (89 + (tn a))) (by omega) ?_
        · show G l E K 34 [(0, .ref (E.2.2.1 65)), (1, .int a), (2, .int x), (3, .int (nI s))] [] (rset (mw M 87 (tn a) (x)) (89 + (tn a)) r)
          refine gs_iload_n (q := 3) k rfl rfl dX7_list_34 ?_
          refine gs_bipush (v := 64) k (by decide) dX7_list_35 ?_
          refine gs_icmpN_ge (a := s) (b := 64) (tgt := 55) k rfl rfl (by omega) (by omega) (by decide) dX7_list_37 (fun c4 => absurd c4 (by omega)) (fun c4 => ?_)
          refine gs_aload_n (q := 0) k rfl rfl dX7_list_40 ?_
          refine gs_get (C := RX7) (T := TX7) (N := 27) (ci := 7) (k0 := 65) (j := 22) k (hI 65 (by omega)) rfl rfl inX7 (by decide) fl_X7_67 rfl rfl dX7_list_41 ?_
          refine gs_iload_n (q := 1) k rfl rfl dX7_list_44 ?_
          refine gs_aaldIN (k0 := 88) (n := 4) (e := tn a) (a := E.2.2.1 (89 + (tn a))) k (hI 88 (by omega)) (fun _ => rfl) (inR_eq c1) (by omega) (by decide) rfl dX7_list_45 ?_
          refine gs_iload_n (q := 3) k rfl rfl dX7_list_46 ?_
          refine gs_iconst (v := 0) k (by decide) dX7_list_47 ?_
          refine gs_iastN (k0 := (89 + (tn a))) (n := 64) (e := s) k (hI (89 + (tn a)) (by omega)) (ent_RL (by omega)) rfl (by omega) (by decide) dX7_list_48 ?_
          refine gs_M (mw_rset _ _ _ _ _) ?_
          refine gs_iincN (q := 3) (a := s) (c := 1) (lv' := [(3, .int (nI (s + 1))), (0, .ref (E.2.2.1 65)), (1, .int a), (2, .int x)]) k rfl rfl (by decide) rfl dX7_list_49 ?_
          refine gs_goto (tgt := 34) k (by decide) dX7_list_52 ?_
          refine gs_lv (lv' := [(0, .ref (E.2.2.1 65)), (1, .int a), (2, .int x), (3, .int (nI (s + 1)))]) [1, 2, 3, 0] rfl ?_
          exact hGs _ rfl
        · show G l E K 34 [(0, .ref (E.2.2.1 65)), (1, .int a), (2, .int x), (3, .int (nI 64))] [] (rset (mw M 87 (tn a) (x)) (89 + (tn a)) (lp (fun s r => upd r s 0) 64 0 ((mw M 87 (tn a) (x)) (89 + (tn a)))))
          rw [lp_setr _ (fun _ => 0)]
          show G l E K 34 [(0, .ref (E.2.2.1 65)), (1, .int a), (2, .int x), (3, .int (nI 64))] [] (rset (mw M 87 (tn a) (x)) (89 + (tn a)) (setr 64 (fun _ => 0) (mw M 87 (tn a) x (89 + tn a))))
          refine gs_iload_n (q := 3) k rfl rfl dX7_list_34 ?_
          refine gs_bipush (v := 64) k (by decide) dX7_list_35 ?_
          refine gs_icmpN_ge (a := 64) (b := 64) (tgt := 55) k rfl rfl (by omega) (by omega) (by decide) dX7_list_37 (fun c4 => ?_) (fun c4 => absurd c4 (by omega))
          refine gs_iconst (v := 1) k (by decide) dX7_list_55 ?_
          exact gs_iret k kt dX7_list_56 ⟨(by simp [-Int32.not_lt, A_list, U_list, ifc_T, ifc_F, c1, c2, c3]), (by simp [-Int32.not_lt, A_list, U_list, ifc_T, ifc_F, c1, c2, c3])⟩
      · refine gs_bipush (v := -14) k (by decide) dX7_list_22 ?_
        exact gs_iret k kt dX7_list_24 ⟨(by simp [-Int32.not_lt, A_list, U_list, ifc_T, ifc_F, c1, c2, c3]), (by simp [-Int32.not_lt, A_list, U_list, ifc_T, ifc_F, c1, c2, c3])⟩
    · refine gs_bipush (v := -2) k (by decide) dX7_list_15 ?_
      exact gs_iret k kt dX7_list_17 ⟨(by simp [-Int32.not_lt, A_list, U_list, ifc_T, ifc_F, c1, c2]), (by simp [-Int32.not_lt, A_list, U_list, ifc_T, ifc_F, c1, c2])⟩
  · refine gs_if_ne (tgt := 9) k (by decide) dX7_list_4 (fun h => absurd h (by decide)) (fun _ => ?_)
    refine gs_iconst (v := -1) k (by decide) dX7_list_7 ?_
    exact gs_iret k kt dX7_list_8 ⟨(by simp [-Int32.not_lt, A_list, U_list, ifc_T, ifc_F, c1]), (by simp [-Int32.not_lt, A_list, U_list, ifc_T, ifc_F, c1])⟩

noncomputable def A_put (ln : Nat → Int32) (a i : Int32) : Int32 := ifc (inR a 4) (ifc (¬ ln (tn a) < 0) (ifc (inR i (tn (ln (tn a)))) 1 (-13)) (-11)) (-1)
noncomputable def U_put (U : Mm) (ln : Nat → Int32) (a i : Int32) (M : Mm) : Mm := ifc (inR a 4) (ifc (¬ ln (tn a) < 0) (ifc (inR i (tn (ln (tn a)))) U M) M) M
noncomputable def A_get (ln : Nat → Int32) (L : Nat → Nat → Int32) (a i : Int32) : Int64 := ifc (inR a 4 ∧ inR i (tn (ln (tn a)))) ((L (tn a) (tn i)).toInt64) (-9223372036854775808)
theorem ln_le {ln : Int32} (hr : ¬ ln < 0 → inR ln 65) : tn ln ≤ 64 := by
  by_cases c : ln < 0
  · rw [tn_neg c]; omega
  · have := inR_lt (hr c); omega
theorem cf_X6_put : CF yX6_put cX6_put 4 (some .int) 3 := ⟨cd_X6_put, iz_X6, by decide, by decide +kernel, by decide +kernel, by decide +kernel⟩
set_option maxRecDepth 100000 in
set_option maxHeartbeats 4000000 in
theorem c_X6_put {l : Launch} {E : Ev} {M : Mm} {ln : Nat → Int32} {L : Nat → Nat → Int32} (hI : ∀ k, k < 108 → k ∈ E.2.1) (hL : CLs M ln L) {a i v : Int32} : Cm l E yX6_put cX6_put 4 (some .int) 1 [.ref (E.2.2.1 0), .int a, .int i, .int v] M (pI (A_put ln a i) (U_put (mw M (45 + 2 * tn a) (tn i) v) ln a i M)) := by
  refine Cm.of (by decide) (Nat.le_of_ble_eq_true rfl) (fun K k kt => ?_)
  show G l E K 0 [(0, .ref (E.2.2.1 0)), (1, .int a), (2, .int i), (3, .int v)] [] M
  refine gs_iload_n (q := 1) k rfl rfl dX6_put_0 ?_
  refine gs_callS (As := [.int a]) k c_X6_isList cf_X6_isList sm_X6_isList ml_X6_269 (by decide) rfl rfl (Nat.le_of_ble_eq_true rfl) dX6_put_1 (ppB (fun c1 => ?_) (fun c1 => ?_))
  · have bc1 := inR_lt c1
    refine gs_if_ne (tgt := 9) k (by decide) dX6_put_4 (fun _ => ?_) (fun h => absurd h (by decide))
    refine gs_aload_n (q := 0) k rfl rfl dX6_put_9 ?_
    refine gs_get (C := RX6) (T := TX6) (N := 10) (ci := 6) (k0 := 0) (j := 3) k (hI 0 (by omega)) rfl rfl inX6 (by decide) fl_X6_27 rfl rfl dX6_put_10 ?_
    refine gs_iload_n (q := 1) k rfl rfl dX6_put_13 ?_
    refine gs_aaldNN (k0 := 43) (n := 4) (e := tn a) (a := E.2.2.1 (44 + 2 * (tn a))) k (hI 43 (by omega)) (fun _ => rfl) (inR_eq c1) (by omega) (by decide) rfl dX6_put_14 ?_
    refine gs_callV (As := []) (k0 := (44 + 2 * (tn a))) (ci := 0) (T := TX0) (N := 2) k (c_X0_isMissing hI hL (by omega)) cf_X0_isMissing im_X0_isMissing sl_X0_isMissing ml_X6_281 (hI (44 + 2 * (tn a)) (by omega)) (ent_L (by omega) _) rfl (by decide) rfl rfl (Nat.le_of_ble_eq_true rfl) dX6_put_15 (ppB (fun c2 => ?_) (fun c2 => ?_))
    · refine gs_if_eq (tgt := 24) k (by decide) dX6_put_18 (fun h => absurd h (by decide)) (fun _ => ?_)
      refine gs_bipush (v := -11) k (by decide) dX6_put_21 ?_
      exact gs_iret k kt dX6_put_23 ⟨(by simp [-Int32.not_lt, A_put, U_put, ifc_T, ifc_F, c1, c2]), (by simp [-Int32.not_lt, A_put, U_put, ifc_T, ifc_F, c1, c2])⟩
    · refine gs_if_eq (tgt := 24) k (by decide) dX6_put_18 (fun _ => ?_) (fun h => absurd h (by decide))
      refine gs_iload_n (q := 2) k rfl rfl dX6_put_24 ?_
      refine gs_if_lt (tgt := 41) k (by decide) dX6_put_25 (fun c3 => ?_) (fun c3 => ?_)
      · have ec3 : ¬ inR i (tn (ln (tn a))) := inR_n1 c3
        refine gs_bipush (v := -13) k (by decide) dX6_put_41 ?_
        exact gs_iret k kt dX6_put_43 ⟨(by simp [-Int32.not_lt, A_put, U_put, ifc_T, ifc_F, c1, c2, c3, ec3]), (by simp [-Int32.not_lt, A_put, U_put, ifc_T, ifc_F, c1, c2, c3, ec3])⟩
      · refine gs_iload_n (q := 2) k rfl rfl dX6_put_28 ?_
        refine gs_aload_n (q := 0) k rfl rfl dX6_put_29 ?_
        refine gs_get (C := RX6) (T := TX6) (N := 10) (ci := 6) (k0 := 0) (j := 3) k (hI 0 (by omega)) rfl rfl inX6 (by decide) fl_X6_27 rfl rfl dX6_put_30 ?_
        refine gs_iload_n (q := 1) k rfl rfl dX6_put_33 ?_
        refine gs_aaldNN (k0 := 43) (n := 4) (e := tn a) (a := E.2.2.1 (44 + 2 * (tn a))) k (hI 43 (by omega)) (fun _ => rfl) (inR_eq c1) (by omega) (by decide) rfl dX6_put_34 ?_
        refine gs_get (C := RX0) (T := TX0) (N := 2) (ci := 0) (k0 := (44 + 2 * (tn a))) (j := 0) k (hI (44 + 2 * (tn a)) (by omega)) (ent_L (by omega) _) rfl inX0 (by decide) fl_X6_280 rfl rfl dX6_put_35 ?_
        refine gs_top (y := ln (tn a)) ((hL (tn a) (by omega)).1) ?_
        refine gs_icmp_lt (tgt := 44) k (by decide) dX6_put_38 (fun c4 => ?_) (fun c4 => ?_)
        · have ec4 : inR i (tn (ln (tn a))) := inR_lnC (hL (tn a) (by omega)).2.2.1 (hL (tn a) (by omega)).2.1 c3 c4
          have fc4 := inR_lt ec4
          have gc4 := ln_le (hL (tn a) (by omega)).2.2.1
          refine gs_aload_n (q := 0) k rfl rfl dX6_put_44 ?_
          refine gs_get (C := RX6) (T := TX6) (N := 10) (ci := 6) (k0 := 0) (j := 3) k (hI 0 (by omega)) rfl rfl inX6 (by decide) fl_X6_27 rfl rfl dX6_put_45 ?_
          refine gs_iload_n (q := 1) k rfl rfl dX6_put_48 ?_
          refine gs_aaldNN (k0 := 43) (n := 4) (e := tn a) (a := E.2.2.1 (44 + 2 * (tn a))) k (hI 43 (by omega)) (fun _ => rfl) (inR_eq c1) (by omega) (by decide) rfl dX6_put_49 ?_
          refine gs_get (C := RX0) (T := TX0) (N := 2) (ci := 0) (k0 := (44 + 2 * (tn a))) (j := 1) k (hI (44 + 2 * (tn a)) (by omega)) (ent_L (by omega) _) rfl inX0 (by decide) fl_X6_272 rfl rfl dX6_put_50 ?_
          refine gs_iload_n (q := 2) k rfl rfl dX6_put_53 ?_
          refine gs_iload_n (q := 3) k rfl rfl dX6_put_54 ?_
          refine gs_iastN (k0 := (45 + 2 * (tn a))) (n := 64) (e := tn i) k (hI (45 + 2 * (tn a)) (by omega)) (ent_LN (by omega)) (inR_eq ec4) (by omega) (by decide) dX6_put_55 ?_
          refine gs_iconst (v := 1) k (by decide) dX6_put_56 ?_
          exact gs_iret k kt dX6_put_57 ⟨(by simp [-Int32.not_lt, A_put, U_put, ifc_T, ifc_F, c1, c2, c3, c4, ec4]), (by simp [-Int32.not_lt, A_put, U_put, ifc_T, ifc_F, c1, c2, c3, c4, ec4])⟩
        · have ec4 : ¬ inR i (tn (ln (tn a))) := inR_lnN (hL (tn a) (by omega)).2.2.1 c4
          refine gs_bipush (v := -13) k (by decide) dX6_put_41 ?_
          exact gs_iret k kt dX6_put_43 ⟨(by simp [-Int32.not_lt, A_put, U_put, ifc_T, ifc_F, c1, c2, c3, c4, ec4]), (by simp [-Int32.not_lt, A_put, U_put, ifc_T, ifc_F, c1, c2, c3, c4, ec4])⟩
  · refine gs_if_ne (tgt := 9) k (by decide) dX6_put_4 (fun h => absurd h (by decide)) (fun _ => ?_)
    refine gs_iconst (v := -1) k (by decide) dX6_put_7 ?_
    exact gs_iret k kt dX6_put_8 ⟨(by simp [-Int32.not_lt, A_put, U_put, ifc_T, ifc_F, c1]), (by simp [-Int32.not_lt, A_put, U_put, ifc_T, ifc_F, c1])⟩

theorem cf_X7_put : CF yX7_put cX7_put 4 (some .int) 3 := ⟨cd_X7_put, iz_X7, by decide, by decide +kernel, by decide +kernel, by decide +kernel⟩
set_option maxRecDepth 100000 in
set_option maxHeartbeats 4000000 in
theorem c_X7_put {l : Launch} {E : Ev} {M : Mm} {ln : Nat → Int32} {L : Nat → Nat → Int32} (hI : ∀ k, k < 108 → k ∈ E.2.1) (hL : RLs M ln L) {a i v : Int32} : Cm l E yX7_put cX7_put 4 (some .int) 2 [.ref (E.2.2.1 65), .int a, .int i, .int v] M (pI (A_put ln a i) (U_put (mw M (89 + tn a) (tn i) v) ln a i M)) := by
  refine Cm.of (by decide) (Nat.le_of_ble_eq_true rfl) (fun K k kt => ?_)
  show G l E K 0 [(0, .ref (E.2.2.1 65)), (1, .int a), (2, .int i), (3, .int v)] [] M
  refine gs_iload_n (q := 1) k rfl rfl dX7_put_0 ?_
  refine gs_callS (As := [.int a]) k c_X7_isList cf_X7_isList sm_X7_isList ml_X7_362 (by decide) rfl rfl (Nat.le_of_ble_eq_true rfl) dX7_put_1 (ppB (fun c1 => ?_) (fun c1 => ?_))
  · have bc1 := inR_lt c1
    refine gs_if_ne (tgt := 9) k (by decide) dX7_put_4 (fun _ => ?_) (fun h => absurd h (by decide))
    refine gs_aload_n (q := 0) k rfl rfl dX7_put_9 ?_
    refine gs_get (C := RX7) (T := TX7) (N := 27) (ci := 7) (k0 := 65) (j := 21) k (hI 65 (by omega)) rfl rfl inX7 (by decide) fl_X7_64 rfl rfl dX7_put_10 ?_
    refine gs_iload_n (q := 1) k rfl rfl dX7_put_13 ?_
    refine gs_ialdN (k0 := 87) (n := 4) (e := tn a) k (hI 87 (by omega)) (fun _ => rfl) (inR_eq c1) (by omega) (by decide) dX7_put_14 ?_
    refine gs_top (y := ln (tn a)) ((hL (tn a) (by omega)).1) ?_
    refine gs_if_ge (tgt := 21) k (by decide) dX7_put_15 (fun c2 => ?_) (fun c2 => ?_)
    · refine gs_iload_n (q := 2) k rfl rfl dX7_put_21 ?_
      refine gs_i2l k dX7_put_22 ?_
      refine gs_lconst (v := 0) k (by decide) dX7_put_23 ?_
      refine gs_aload_n (q := 0) k rfl rfl dX7_put_24 ?_
      refine gs_get (C := RX7) (T := TX7) (N := 27) (ci := 7) (k0 := 65) (j := 21) k (hI 65 (by omega)) rfl rfl inX7 (by decide) fl_X7_64 rfl rfl dX7_put_25 ?_
      refine gs_iload_n (q := 1) k rfl rfl dX7_put_28 ?_
      refine gs_ialdN (k0 := 87) (n := 4) (e := tn a) k (hI 87 (by omega)) (fun _ => rfl) (inR_eq c1) (by omega) (by decide) dX7_put_29 ?_
      refine gs_top (y := ln (tn a)) ((hL (tn a) (by omega)).1) ?_
      refine gs_iconst (v := 1) k (by decide) dX7_put_30 ?_
      refine gs_isub k dX7_put_31 ?_
      refine gs_i2l k dX7_put_32 ?_
      refine gs_callS (As := [.long (i.toInt64), .long (0), .long (((ln (tn a)) - 1).toInt64)]) k (Cm.iff (inR_ln (hL (tn a) (by omega)).2.1 (hL (tn a) (by omega)).2.2.1) c_X7_in) cf_X7_in sm_X7_in ml_X7_79 (by decide) rfl rfl (Nat.le_of_ble_eq_true rfl) dX7_put_33 (ppB (fun c3 => ?_) (fun c3 => ?_))
      · have bc3 := inR_lt c3
        have gc3 := ln_le (hL (tn a) (by omega)).2.2.1
        refine gs_if_ne (tgt := 42) k (by decide) dX7_put_36 (fun _ => ?_) (fun h => absurd h (by decide))
        refine gs_aload_n (q := 0) k rfl rfl dX7_put_42 ?_
        refine gs_get (C := RX7) (T := TX7) (N := 27) (ci := 7) (k0 := 65) (j := 22) k (hI 65 (by omega)) rfl rfl inX7 (by decide) fl_X7_67 rfl rfl dX7_put_43 ?_
        refine gs_iload_n (q := 1) k rfl rfl dX7_put_46 ?_
        refine gs_aaldIN (k0 := 88) (n := 4) (e := tn a) (a := E.2.2.1 (89 + (tn a))) k (hI 88 (by omega)) (fun _ => rfl) (inR_eq c1) (by omega) (by decide) rfl dX7_put_47 ?_
        refine gs_iload_n (q := 2) k rfl rfl dX7_put_48 ?_
        refine gs_iload_n (q := 3) k rfl rfl dX7_put_49 ?_
        refine gs_iastN (k0 := (89 + (tn a))) (n := 64) (e := tn i) k (hI (89 + (tn a)) (by omega)) (ent_RL (by omega)) (inR_eq c3) (by omega) (by decide) dX7_put_50 ?_
        refine gs_iconst (v := 1) k (by decide) dX7_put_51 ?_
        exact gs_iret k kt dX7_put_52 ⟨(by simp [-Int32.not_lt, A_put, U_put, ifc_T, ifc_F, c1, Int32.not_lt.mpr c2, c3]), (by simp [-Int32.not_lt, A_put, U_put, ifc_T, ifc_F, c1, Int32.not_lt.mpr c2, c3])⟩
      · refine gs_if_ne (tgt := 42) k (by decide) dX7_put_36 (fun h => absurd h (by decide)) (fun _ => ?_)
        refine gs_bipush (v := -13) k (by decide) dX7_put_39 ?_
        exact gs_iret k kt dX7_put_41 ⟨(by simp [-Int32.not_lt, A_put, U_put, ifc_T, ifc_F, c1, Int32.not_lt.mpr c2, c3]), (by simp [-Int32.not_lt, A_put, U_put, ifc_T, ifc_F, c1, Int32.not_lt.mpr c2, c3])⟩
    · refine gs_bipush (v := -11) k (by decide) dX7_put_18 ?_
      exact gs_iret k kt dX7_put_20 ⟨(by simp [-Int32.not_lt, A_put, U_put, ifc_T, ifc_F, c1, Int32.not_le.mp c2]), (by simp [-Int32.not_lt, A_put, U_put, ifc_T, ifc_F, c1, Int32.not_le.mp c2])⟩
  · refine gs_if_ne (tgt := 9) k (by decide) dX7_put_4 (fun h => absurd h (by decide)) (fun _ => ?_)
    refine gs_iconst (v := -1) k (by decide) dX7_put_7 ?_
    exact gs_iret k kt dX7_put_8 ⟨(by simp [-Int32.not_lt, A_put, U_put, ifc_T, ifc_F, c1]), (by simp [-Int32.not_lt, A_put, U_put, ifc_T, ifc_F, c1])⟩

theorem cf_X6_get : CF yX6_get cX6_get 3 (some .long) 2 := ⟨cd_X6_get, iz_X6, by decide, by decide +kernel, by decide +kernel, by decide +kernel⟩
set_option maxRecDepth 100000 in
set_option maxHeartbeats 4000000 in
theorem c_X6_get {l : Launch} {E : Ev} {M : Mm} {ln : Nat → Int32} {L : Nat → Nat → Int32} (hI : ∀ k, k < 108 → k ∈ E.2.1) (hL : CLs M ln L) {a i : Int32} : Cm l E yX6_get cX6_get 3 (some .long) 1 [.ref (E.2.2.1 0), .int a, .int i] M (pL (A_get ln L a i) M) := by
  refine Cm.of (by decide) (Nat.le_of_ble_eq_true rfl) (fun K k kt => ?_)
  show G l E K 0 [(0, .ref (E.2.2.1 0)), (1, .int a), (2, .int i)] [] M
  refine gs_iload_n (q := 1) k rfl rfl dX6_get_0 ?_
  refine gs_callS (As := [.int a]) k c_X6_isList cf_X6_isList sm_X6_isList ml_X6_269 (by decide) rfl rfl (Nat.le_of_ble_eq_true rfl) dX6_get_1 (ppB (fun c1 => ?_) (fun c1 => ?_))
  · have bc1 := inR_lt c1
    refine gs_if_eq (tgt := 24) k (by decide) dX6_get_4 (fun h => absurd h (by decide)) (fun _ => ?_)
    refine gs_iload_n (q := 2) k rfl rfl dX6_get_7 ?_
    refine gs_if_lt (tgt := 24) k (by decide) dX6_get_8 (fun c2 => ?_) (fun c2 => ?_)
    · have ec2 : ¬ inR i (tn (ln (tn a))) := inR_n1 c2
      refine gs_ldc2 (v := -9223372036854775808) k cl_X6_184 dX6_get_24 ?_
      exact gs_lret k kt dX6_get_27 ⟨(by simp [-Int32.not_lt, A_get, ifc_T, ifc_F, c1, c2, ec2]), (by simp [-Int32.not_lt, A_get, ifc_T, ifc_F, c1, c2, ec2])⟩
    · refine gs_iload_n (q := 2) k rfl rfl dX6_get_11 ?_
      refine gs_aload_n (q := 0) k rfl rfl dX6_get_12 ?_
      refine gs_get (C := RX6) (T := TX6) (N := 10) (ci := 6) (k0 := 0) (j := 3) k (hI 0 (by omega)) rfl rfl inX6 (by decide) fl_X6_27 rfl rfl dX6_get_13 ?_
      refine gs_iload_n (q := 1) k rfl rfl dX6_get_16 ?_
      refine gs_aaldNN (k0 := 43) (n := 4) (e := tn a) (a := E.2.2.1 (44 + 2 * (tn a))) k (hI 43 (by omega)) (fun _ => rfl) (inR_eq c1) (by omega) (by decide) rfl dX6_get_17 ?_
      refine gs_get (C := RX0) (T := TX0) (N := 2) (ci := 0) (k0 := (44 + 2 * (tn a))) (j := 0) k (hI (44 + 2 * (tn a)) (by omega)) (ent_L (by omega) _) rfl inX0 (by decide) fl_X6_280 rfl rfl dX6_get_18 ?_
      refine gs_top (y := ln (tn a)) ((hL (tn a) (by omega)).1) ?_
      refine gs_icmp_lt (tgt := 28) k (by decide) dX6_get_21 (fun c3 => ?_) (fun c3 => ?_)
      · have ec3 : inR i (tn (ln (tn a))) := inR_lnC (hL (tn a) (by omega)).2.2.1 (hL (tn a) (by omega)).2.1 c2 c3
        have fc3 := inR_lt ec3
        have gc3 := ln_le (hL (tn a) (by omega)).2.2.1
        refine gs_aload_n (q := 0) k rfl rfl dX6_get_28 ?_
        refine gs_get (C := RX6) (T := TX6) (N := 10) (ci := 6) (k0 := 0) (j := 3) k (hI 0 (by omega)) rfl rfl inX6 (by decide) fl_X6_27 rfl rfl dX6_get_29 ?_
        refine gs_iload_n (q := 1) k rfl rfl dX6_get_32 ?_
        refine gs_aaldNN (k0 := 43) (n := 4) (e := tn a) (a := E.2.2.1 (44 + 2 * (tn a))) k (hI 43 (by omega)) (fun _ => rfl) (inR_eq c1) (by omega) (by decide) rfl dX6_get_33 ?_
        refine gs_get (C := RX0) (T := TX0) (N := 2) (ci := 0) (k0 := (44 + 2 * (tn a))) (j := 1) k (hI (44 + 2 * (tn a)) (by omega)) (ent_L (by omega) _) rfl inX0 (by decide) fl_X6_272 rfl rfl dX6_get_34 ?_
        refine gs_iload_n (q := 2) k rfl rfl dX6_get_37 ?_
        refine gs_ialdN (k0 := (45 + 2 * (tn a))) (n := 64) (e := tn i) k (hI (45 + 2 * (tn a)) (by omega)) (ent_LN (by omega)) (inR_eq ec3) (by omega) (by decide) dX6_get_38 ?_
        refine gs_top (y := L (tn a) (tn i)) ((hL (tn a) (by omega)).2.2.2 (tn i) (by omega)) ?_
        refine gs_i2l k dX6_get_39 ?_
        exact gs_lret k kt dX6_get_40 ⟨(by simp [-Int32.not_lt, A_get, ifc_T, ifc_F, c1, c2, c3, ec3]), (by simp [-Int32.not_lt, A_get, ifc_T, ifc_F, c1, c2, c3, ec3])⟩
      · have ec3 : ¬ inR i (tn (ln (tn a))) := inR_lnN (hL (tn a) (by omega)).2.2.1 c3
        refine gs_ldc2 (v := -9223372036854775808) k cl_X6_184 dX6_get_24 ?_
        exact gs_lret k kt dX6_get_27 ⟨(by simp [-Int32.not_lt, A_get, ifc_T, ifc_F, c1, c2, c3, ec3]), (by simp [-Int32.not_lt, A_get, ifc_T, ifc_F, c1, c2, c3, ec3])⟩
  · refine gs_if_eq (tgt := 24) k (by decide) dX6_get_4 (fun _ => ?_) (fun h => absurd h (by decide))
    refine gs_ldc2 (v := -9223372036854775808) k cl_X6_184 dX6_get_24 ?_
    exact gs_lret k kt dX6_get_27 ⟨(by simp [-Int32.not_lt, A_get, ifc_T, ifc_F, c1]), (by simp [-Int32.not_lt, A_get, ifc_T, ifc_F, c1])⟩

theorem cf_X7_get : CF yX7_get cX7_get 3 (some .long) 2 := ⟨cd_X7_get, iz_X7, by decide, by decide +kernel, by decide +kernel, by decide +kernel⟩
set_option maxRecDepth 100000 in
set_option maxHeartbeats 4000000 in
theorem c_X7_get {l : Launch} {E : Ev} {M : Mm} {ln : Nat → Int32} {L : Nat → Nat → Int32} (hI : ∀ k, k < 108 → k ∈ E.2.1) (hL : RLs M ln L) {a i : Int32} : Cm l E yX7_get cX7_get 3 (some .long) 2 [.ref (E.2.2.1 65), .int a, .int i] M (pL (A_get ln L a i) M) := by
  refine Cm.of (by decide) (Nat.le_of_ble_eq_true rfl) (fun K k kt => ?_)
  show G l E K 0 [(0, .ref (E.2.2.1 65)), (1, .int a), (2, .int i)] [] M
  refine gs_iload_n (q := 1) k rfl rfl dX7_get_0 ?_
  refine gs_callS (As := [.int a]) k c_X7_isList cf_X7_isList sm_X7_isList ml_X7_362 (by decide) rfl rfl (Nat.le_of_ble_eq_true rfl) dX7_get_1 (ppB (fun c1 => ?_) (fun c1 => ?_))
  · have bc1 := inR_lt c1
    refine gs_if_eq (tgt := 37) k (by decide) dX7_get_4 (fun h => absurd h (by decide)) (fun _ => ?_)
    refine gs_iload_n (q := 2) k rfl rfl dX7_get_7 ?_
    refine gs_i2l k dX7_get_8 ?_
    refine gs_lconst (v := 0) k (by decide) dX7_get_9 ?_
    refine gs_aload_n (q := 0) k rfl rfl dX7_get_10 ?_
    refine gs_get (C := RX7) (T := TX7) (N := 27) (ci := 7) (k0 := 65) (j := 21) k (hI 65 (by omega)) rfl rfl inX7 (by decide) fl_X7_64 rfl rfl dX7_get_11 ?_
    refine gs_iload_n (q := 1) k rfl rfl dX7_get_14 ?_
    refine gs_ialdN (k0 := 87) (n := 4) (e := tn a) k (hI 87 (by omega)) (fun _ => rfl) (inR_eq c1) (by omega) (by decide) dX7_get_15 ?_
    refine gs_top (y := ln (tn a)) ((hL (tn a) (by omega)).1) ?_
    refine gs_iconst (v := 1) k (by decide) dX7_get_16 ?_
    refine gs_isub k dX7_get_17 ?_
    refine gs_i2l k dX7_get_18 ?_
    refine gs_callS (As := [.long (i.toInt64), .long (0), .long (((ln (tn a)) - 1).toInt64)]) k (Cm.iff (inR_ln (hL (tn a) (by omega)).2.1 (hL (tn a) (by omega)).2.2.1) c_X7_in) cf_X7_in sm_X7_in ml_X7_79 (by decide) rfl rfl (Nat.le_of_ble_eq_true rfl) dX7_get_19 (ppB (fun c2 => ?_) (fun c2 => ?_))
    · have bc2 := inR_lt c2
      have gc2 := ln_le (hL (tn a) (by omega)).2.2.1
      refine gs_if_eq (tgt := 37) k (by decide) dX7_get_22 (fun h => absurd h (by decide)) (fun _ => ?_)
      refine gs_aload_n (q := 0) k rfl rfl dX7_get_25 ?_
      refine gs_get (C := RX7) (T := TX7) (N := 27) (ci := 7) (k0 := 65) (j := 22) k (hI 65 (by omega)) rfl rfl inX7 (by decide) fl_X7_67 rfl rfl dX7_get_26 ?_
      refine gs_iload_n (q := 1) k rfl rfl dX7_get_29 ?_
      refine gs_aaldIN (k0 := 88) (n := 4) (e := tn a) (a := E.2.2.1 (89 + (tn a))) k (hI 88 (by omega)) (fun _ => rfl) (inR_eq c1) (by omega) (by decide) rfl dX7_get_30 ?_
      refine gs_iload_n (q := 2) k rfl rfl dX7_get_31 ?_
      refine gs_ialdN (k0 := (89 + (tn a))) (n := 64) (e := tn i) k (hI (89 + (tn a)) (by omega)) (ent_RL (by omega)) (inR_eq c2) (by omega) (by decide) dX7_get_32 ?_
      refine gs_top (y := L (tn a) (tn i)) ((hL (tn a) (by omega)).2.2.2 (tn i) (by omega)) ?_
      refine gs_i2l k dX7_get_33 ?_
      refine gs_goto (tgt := 40) k (by decide) dX7_get_34 ?_
      exact gs_lret k kt dX7_get_40 ⟨(by simp [-Int32.not_lt, A_get, ifc_T, ifc_F, c1, c2]), (by simp [-Int32.not_lt, A_get, ifc_T, ifc_F, c1, c2])⟩
    · refine gs_if_eq (tgt := 37) k (by decide) dX7_get_22 (fun _ => ?_) (fun h => absurd h (by decide))
      refine gs_ldc2 (v := -9223372036854775808) k cl_X7_198 dX7_get_37 ?_
      exact gs_lret k kt dX7_get_40 ⟨(by simp [-Int32.not_lt, A_get, ifc_T, ifc_F, c1, c2]), (by simp [-Int32.not_lt, A_get, ifc_T, ifc_F, c1, c2])⟩
  · refine gs_if_eq (tgt := 37) k (by decide) dX7_get_4 (fun _ => ?_) (fun h => absurd h (by decide))
    refine gs_ldc2 (v := -9223372036854775808) k cl_X7_198 dX7_get_37 ?_
    exact gs_lret k kt dX7_get_40 ⟨(by simp [-Int32.not_lt, A_get, ifc_T, ifc_F, c1]), (by simp [-Int32.not_lt, A_get, ifc_T, ifc_F, c1])⟩

theorem isV_0 : isV 0 := by unfold isV isB; decide
theorem allV_lay {N K : Nat} {g L : Nat → Int32} (h : K ≤ N) (e : ∀ j, j < K → g j = L j) : (∀ j, j < K → isV (g j)) ↔ allV N (fun s => if s < K then L s else 0) := by
  refine ⟨fun q j hj => ?_, fun q j hj => ?_⟩
  · show isV (if j < K then L j else 0)
    by_cases c : j < K
    · rw [if_pos c, ← e j c]; exact q j c
    · rw [if_neg c]; exact isV_0
  · have z := q j (by omega)
    dsimp only at z
    rw [if_pos hj, ← e j hj] at z
    exact z
noncomputable def A_lay (n : Nat) (ln : Nat → Int32) (L : Nat → Nat → Int32) (f a : Int32) : Int32 := ifc (inR f 6 ∧ inR a 4) (ifc (¬ ln (tn a) < 0) (ifc (tn (ln (tn a)) ≤ 2 ^ n) (ifc (allV (2 ^ n) (fun s => if s < tn (ln (tn a)) then L (tn a) s else 0)) (ln (tn a)) (-3)) (-3)) (-11)) (-1)
noncomputable def U_lay (U : Mm) (n : Nat) (ln : Nat → Int32) (L : Nat → Nat → Int32) (f a : Int32) (M : Mm) : Mm := ifc (inR f 6 ∧ inR a 4) (ifc (¬ ln (tn a) < 0) (ifc (tn (ln (tn a)) ≤ 2 ^ n) (ifc (allV (2 ^ n) (fun s => if s < tn (ln (tn a)) then L (tn a) s else 0)) U M) M) M) M
def jdg (n K : Nat) (l v : Nat → Int32) : Option Nat := fnd (fun i => if 2 ^ n ≤ i ∨ ¬ l i = v i then some i else none) K 0
noncomputable def A_judge (n : Nat) (kd : Nat → Int32) (V : Nat → Nat → Int32) (ln : Nat → Int32) (L : Nat → Nat → Int32) (a f : Int32) : Int32 := ifc (inR a 4 ∧ inR f 6) (ifc (¬ ln (tn a) < 0 ∧ ¬ kd (tn f) < 0) (ob (-5) (jdg n (tn (ln (tn a))) (L (tn a)) (V (tn f)))) (-11)) (-1)
theorem cf_X6_lay : CF yX6_lay cX6_lay 5 (some .int) 2 := ⟨cd_X6_lay, iz_X6, by decide, by decide +kernel, by decide +kernel, by decide +kernel⟩
set_option maxRecDepth 100000 in
set_option maxHeartbeats 4000000 in
theorem c_X6_lay {l : Launch} {E : Ev} {M : Mm} {n : Nat} {kd : Nat → Int32} {V : Nat → Nat → Int32} {ln : Nat → Int32} {L : Nat → Nat → Int32} (hI : ∀ k, k < 108 → k ∈ E.2.1) (hn : Cn M n) (hL : CLs M ln L) {f a : Int32} : Cm l E yX6_lay cX6_lay 5 (some .int) 2 [.ref (E.2.2.1 0), .int f, .int a] M (pR (.int (A_lay n ln L f a)) (U_lay (fsetC n (tn f) 0 (fun s => if s < tn (ln (tn a)) then L (tn a) s else 0) M) n ln L f a M)) := by
  refine Cm.of (by decide) (Nat.le_of_ble_eq_true rfl) (fun K k kt => ?_)
  show G l E K 0 [(0, .ref (E.2.2.1 0)), (1, .int f), (2, .int a)] [] M
  obtain ⟨hn0, hn1, hn6⟩ := id hn
  have hp := p2_le6 hn6
  have hp2 := p2_ge2 hn1
  refine gs_iload_n (q := 1) k rfl rfl dX6_lay_0 ?_
  refine gs_callS (As := [.int f]) k c_X6_isFunction cf_X6_isFunction sm_X6_isFunction ml_X6_101 (by decide) rfl rfl (Nat.le_of_ble_eq_true rfl) dX6_lay_1 (ppB (fun c1 => ?_) (fun c1 => ?_))
  · have bc1 := inR_lt c1
    refine gs_if_eq (tgt := 14) k (by decide) dX6_lay_4 (fun h => absurd h (by decide)) (fun _ => ?_)
    refine gs_iload_n (q := 2) k rfl rfl dX6_lay_7 ?_
    refine gs_callS (As := [.int a]) k c_X6_isList cf_X6_isList sm_X6_isList ml_X6_269 (by decide) rfl rfl (Nat.le_of_ble_eq_true rfl) dX6_lay_8 (ppB (fun c2 => ?_) (fun c2 => ?_))
    · have bc2 := inR_lt c2
      refine gs_if_ne (tgt := 16) k (by decide) dX6_lay_11 (fun _ => ?_) (fun h => absurd h (by decide))
      refine gs_aload_n (q := 0) k rfl rfl dX6_lay_16 ?_
      refine gs_get (C := RX6) (T := TX6) (N := 10) (ci := 6) (k0 := 0) (j := 3) k (hI 0 (by omega)) rfl rfl inX6 (by decide) fl_X6_27 rfl rfl dX6_lay_17 ?_
      refine gs_iload_n (q := 2) k rfl rfl dX6_lay_20 ?_
      refine gs_aaldNN (k0 := 43) (n := 4) (e := tn a) (a := E.2.2.1 (44 + 2 * (tn a))) k (hI 43 (by omega)) (fun _ => rfl) (inR_eq c2) (by omega) (by decide) rfl dX6_lay_21 ?_
      refine gs_astore_n (lv' := [(3, .ref (E.2.2.1 (44 + 2 * (tn a)))), (0, .ref (E.2.2.1 0)), (1, .int f), (2, .int a)]) k rfl (by decide) rfl dX6_lay_22 ?_
      refine gs_aload_n (q := 0) k rfl rfl dX6_lay_23 ?_
      refine gs_callV (As := []) (k0 := (44 + 2 * (tn a))) (ci := 0) (T := TX0) (N := 2) k (c_X0_isMissing hI hL (by omega)) cf_X0_isMissing im_X0_isMissing sl_X0_isMissing ml_X6_281 (hI (44 + 2 * (tn a)) (by omega)) (ent_L (by omega) _) rfl (by decide) rfl rfl (Nat.le_of_ble_eq_true rfl) dX6_lay_24 (ppB (fun c3 => ?_) (fun c3 => ?_))
      · refine gs_if_eq (tgt := 33) k (by decide) dX6_lay_27 (fun h => absurd h (by decide)) (fun _ => ?_)
        refine gs_bipush (v := -11) k (by decide) dX6_lay_30 ?_
        exact gs_iret k kt dX6_lay_32 ⟨(by simp [-Int32.not_lt, A_lay, U_lay, ifc_T, ifc_F, c1, c2, c3]), Same.of (X := M) (by simp [-Int32.not_lt, A_lay, U_lay, ifc_T, ifc_F, c1, c2, c3]) Same.rf⟩
      · have hq := inR_eq ((hL (tn a) (by omega)).2.2.1 c3)
        have hq2 := inR_lt ((hL (tn a) (by omega)).2.2.1 c3)
        refine gs_if_eq (tgt := 33) k (by decide) dX6_lay_27 (fun _ => ?_) (fun h => absurd h (by decide))
        refine gs_aload_n (q := 0) k rfl rfl dX6_lay_33 ?_
        refine gs_get (C := RX0) (T := TX0) (N := 2) (ci := 0) (k0 := (44 + 2 * (tn a))) (j := 0) k (hI (44 + 2 * (tn a)) (by omega)) (ent_L (by omega) _) rfl inX0 (by decide) fl_X6_280 rfl rfl dX6_lay_34 ?_
        refine gs_top (y := ln (tn a)) ((hL (tn a) (by omega)).1) ?_
        refine gs_top (y := ln (tn a)) rfl ?_
        refine gs_aload_n (q := 1) k rfl rfl dX6_lay_37 ?_
        refine gs_get (C := RX6) (T := TX6) (N := 10) (ci := 6) (k0 := 0) (j := 0) k (hI 0 (by omega)) rfl rfl inX6 (by decide) fl_X6_12 rfl rfl dX6_lay_38 ?_
        refine gs_callV (As := []) (k0 := 1) (ci := 5) (T := TX5) (N := 9) k (c_X5_sets hI hn) cf_X5_sets im_X5_sets sl_X5_sets ml_X6_131 (hI 1 (by omega)) rfl rfl (by decide) rfl rfl (Nat.le_of_ble_eq_true rfl) dX6_lay_41 (ppI ?_)
        refine gs_icmpN_gt (a := tn (ln (tn a))) (b := 2 ^ n) (tgt := 61) k hq rfl (by omega) (by omega) (by decide) dX6_lay_44 (fun c4 => ?_) (fun c4 => ?_)
        · refine gs_bipush (v := -3) k (by decide) dX6_lay_61 ?_
          exact gs_iret k kt dX6_lay_63 ⟨(by simp [-Int32.not_lt, A_lay, U_lay, ifc_T, ifc_F, c1, c2, c3, c4, show ¬ tn (ln (tn a)) ≤ 2 ^ n from by omega]), Same.of (X := M) (by simp [-Int32.not_lt, A_lay, U_lay, ifc_T, ifc_F, c1, c2, c3, c4, show ¬ tn (ln (tn a)) ≤ 2 ^ n from by omega]) Same.rf⟩
        · refine gs_aload_n (q := 0) k rfl rfl dX6_lay_47 ?_
          refine gs_get (C := RX0) (T := TX0) (N := 2) (ci := 0) (k0 := (44 + 2 * (tn a))) (j := 1) k (hI (44 + 2 * (tn a)) (by omega)) (ent_L (by omega) _) rfl inX0 (by decide) fl_X6_272 rfl rfl dX6_lay_48 ?_
          refine gs_aload_n (q := 0) k rfl rfl dX6_lay_51 ?_
          refine gs_get (C := RX0) (T := TX0) (N := 2) (ci := 0) (k0 := (44 + 2 * (tn a))) (j := 0) k (hI (44 + 2 * (tn a)) (by omega)) (ent_L (by omega) _) rfl inX0 (by decide) fl_X6_280 rfl rfl dX6_lay_52 ?_
          refine gs_top (y := ln (tn a)) ((hL (tn a) (by omega)).1) ?_
          refine gs_top (y := ln (tn a)) rfl ?_
          refine gs_callS (As := [.ref (E.2.2.1 (45 + 2 * (tn a))), .int (ln (tn a))]) k (Cm.iff (allV_lay c4 (fun j hj => (hL (tn a) (by omega)).2.2.2 j (by omega))) (c_X6_allInRange (k0 := 45 + 2 * tn a) (N := tn (ln (tn a))) (hI _ (by omega)) (ent_LN (by omega)) hq (by omega))) cf_X6_allInRange sm_X6_allInRange ml_X6_282 (by decide) rfl rfl (Nat.le_of_ble_eq_true rfl) dX6_lay_55 (ppB (fun c5 => ?_) (fun c5 => ?_))
          · refine gs_if_ne (tgt := 64) k (by decide) dX6_lay_58 (fun _ => ?_) (fun h => absurd h (by decide))
            refine gs_iconst (v := 0) k (by decide) dX6_lay_64 ?_
            refine gs_istore (lv' := [(4, .int 0), (3, .ref (E.2.2.1 (44 + 2 * (tn a)))), (0, .ref (E.2.2.1 0)), (1, .int f), (2, .int a)]) k (by decide) rfl dX6_lay_65 ?_
            refine gs_lv (lv' := [(0, .ref (E.2.2.1 0)), (1, .int f), (2, .int a), (3, .ref (E.2.2.1 (44 + 2 * (tn a)))), (4, .int 0)]) [2, 3, 4, 1, 0] rfl ?_
            refine gs_M (rset_same M 62).symm ?_
            refine for_up (σ := (Nat → Int32)) (fun s r => G l E K 67 [(0, .ref (E.2.2.1 0)), (1, .int f), (2, .int a), (3, .ref (E.2.2.1 (44 + 2 * (tn a)))), (4, .int (nI s))] [] (rset M 62 r)) (fun s r => upd r s (if s < tn (ln (tn a)) then L (tn a) s else 0)) (2 ^ n) (fun s r hs hGs => ?_) (2 ^ n) 0 (M 62) (by omega) ?_
            · show G l E K 67 [(0, .ref (E.2.2.1 0)), (1, .int f), (2, .int a), (3, .ref (E.2.2.1 (44 + 2 * (tn a)))), (4, .int (nI s))] [] (rset M 62 r)
              refine gs_iload (q := 4) k rfl dX6_lay_67 ?_
              refine gs_aload_n (q := 0) k rfl rfl dX6_lay_69 ?_
              refine gs_get (C := RX6) (T := TX6) (N := 10) (ci := 6) (k0 := 0) (j := 0) k (hI 0 (by omega)) rfl rfl inX6 (by decide) fl_X6_12 rfl rfl dX6_lay_70 ?_
              refine gs_callV (As := []) (k0 := 1) (ci := 5) (T := TX5) (N := 9) k (c_X5_sets hI (Cn_rs (by omega) hn)) cf_X5_sets im_X5_sets sl_X5_sets ml_X6_131 (hI 1 (by omega)) rfl rfl (by decide) rfl rfl (Nat.le_of_ble_eq_true rfl) dX6_lay_73 (ppI ?_)
              refine gs_icmpN_ge (a := s) (b := 2 ^ n) (tgt := 112) k rfl rfl (by omega) (by omega) (by decide) dX6_lay_76 (fun c6 => absurd c6 (by omega)) (fun c6 => ?_)
              refine gs_aload_n (q := 0) k rfl rfl dX6_lay_79 ?_
              refine gs_get (C := RX6) (T := TX6) (N := 10) (ci := 6) (k0 := 0) (j := 7) k (hI 0 (by omega)) rfl rfl inX6 (by decide) fl_X6_53 rfl rfl dX6_lay_80 ?_
              refine gs_iload (q := 4) k rfl dX6_lay_83 ?_
              refine gs_iload (q := 4) k rfl dX6_lay_85 ?_
              refine gs_aload_n (q := 3) k rfl rfl dX6_lay_87 ?_
              refine gs_get (C := RX0) (T := TX0) (N := 2) (ci := 0) (k0 := (44 + 2 * (tn a))) (j := 0) k (hI (44 + 2 * (tn a)) (by omega)) (ent_L (by omega) _) rfl inX0 (by decide) fl_X6_280 rfl rfl dX6_lay_88 ?_
              refine gs_top (y := ln (tn a)) (rdr (by omega) ((hL (tn a) (by omega)).1)) ?_
              refine gs_top (y := ln (tn a)) rfl ?_
              refine gs_icmpN_ge (a := s) (b := tn (ln (tn a))) (tgt := 104) k rfl hq (by omega) (by omega) (by decide) dX6_lay_91 (fun c7 => ?_) (fun c7 => ?_)
              · refine gs_iconst (v := 0) k (by decide) dX6_lay_104 ?_
                refine gs_iastN (k0 := 62) (n := 64) (e := s) k (hI 62 (by omega)) (fun _ => rfl) rfl (by omega) (by decide) dX6_lay_105 ?_
                refine gs_M (mw_rset _ _ _ _ _) ?_
                refine gs_iincN (q := 4) (a := s) (c := 1) (lv' := [(4, .int (nI (s + 1))), (0, .ref (E.2.2.1 0)), (1, .int f), (2, .int a), (3, .ref (E.2.2.1 (44 + 2 * (tn a))))]) k rfl rfl (by decide) rfl dX6_lay_106 ?_
                refine gs_goto (tgt := 67) k (by decide) dX6_lay_109 ?_
                refine gs_lv (lv' := [(0, .ref (E.2.2.1 0)), (1, .int f), (2, .int a), (3, .ref (E.2.2.1 (44 + 2 * (tn a)))), (4, .int (nI (s + 1)))]) [1, 2, 3, 4, 0] rfl ?_
                exact hGs _ (by rw [if_neg (by omega)])
              · refine gs_aload_n (q := 3) k rfl rfl dX6_lay_94 ?_
                refine gs_get (C := RX0) (T := TX0) (N := 2) (ci := 0) (k0 := (44 + 2 * (tn a))) (j := 1) k (hI (44 + 2 * (tn a)) (by omega)) (ent_L (by omega) _) rfl inX0 (by decide) fl_X6_272 rfl rfl dX6_lay_95 ?_
                refine gs_iload (q := 4) k rfl dX6_lay_98 ?_
                refine gs_ialdN (k0 := (45 + 2 * (tn a))) (n := 64) (e := s) k (hI (45 + 2 * (tn a)) (by omega)) (ent_LN (by omega)) rfl (by omega) (by decide) dX6_lay_100 ?_
                refine gs_top (y := L (tn a) s) (rdr (by omega) ((hL (tn a) (by omega)).2.2.2 s (by omega))) ?_
                refine gs_goto (tgt := 105) k (by decide) dX6_lay_101 ?_
                refine gs_iastN (k0 := 62) (n := 64) (e := s) k (hI 62 (by omega)) (fun _ => rfl) rfl (by omega) (by decide) dX6_lay_105 ?_
                refine gs_M (mw_rset _ _ _ _ _) ?_
                refine gs_iincN (q := 4) (a := s) (c := 1) (lv' := [(4, .int (nI (s + 1))), (0, .ref (E.2.2.1 0)), (1, .int f), (2, .int a), (3, .ref (E.2.2.1 (44 + 2 * (tn a))))]) k rfl rfl (by decide) rfl dX6_lay_106 ?_
                refine gs_goto (tgt := 67) k (by decide) dX6_lay_109 ?_
                refine gs_lv (lv' := [(0, .ref (E.2.2.1 0)), (1, .int f), (2, .int a), (3, .ref (E.2.2.1 (44 + 2 * (tn a)))), (4, .int (nI (s + 1)))]) [1, 2, 3, 4, 0] rfl ?_
                exact hGs _ (by rw [if_pos c7])
            · show G l E K 67 [(0, .ref (E.2.2.1 0)), (1, .int f), (2, .int a), (3, .ref (E.2.2.1 (44 + 2 * (tn a)))), (4, .int (nI (2 ^ n)))] [] (rset M 62 (lp (fun s r => upd r s (if s < tn (ln (tn a)) then L (tn a) s else 0)) (2 ^ n) 0 (M 62)))
              rw [lp_setr]
              show G l E K 67 [(0, .ref (E.2.2.1 0)), (1, .int f), (2, .int a), (3, .ref (E.2.2.1 (44 + 2 * (tn a)))), (4, .int (nI (2 ^ n)))] [] (rset M 62 (setr (2 ^ n) (fun s => if s < tn (ln (tn a)) then L (tn a) s else 0) (M 62)))
              refine gs_iload (q := 4) k rfl dX6_lay_67 ?_
              refine gs_aload_n (q := 0) k rfl rfl dX6_lay_69 ?_
              refine gs_get (C := RX6) (T := TX6) (N := 10) (ci := 6) (k0 := 0) (j := 0) k (hI 0 (by omega)) rfl rfl inX6 (by decide) fl_X6_12 rfl rfl dX6_lay_70 ?_
              refine gs_callV (As := []) (k0 := 1) (ci := 5) (T := TX5) (N := 9) k (c_X5_sets hI (Cn_rs (by omega) hn)) cf_X5_sets im_X5_sets sl_X5_sets ml_X6_131 (hI 1 (by omega)) rfl rfl (by decide) rfl rfl (Nat.le_of_ble_eq_true rfl) dX6_lay_73 (ppI ?_)
              refine gs_icmpN_ge (a := 2 ^ n) (b := 2 ^ n) (tgt := 112) k rfl rfl (by omega) (by omega) (by decide) dX6_lay_76 (fun c6 => ?_) (fun c6 => absurd c6 (by omega))
              refine gs_aload_n (q := 0) k rfl rfl dX6_lay_112 ?_
              refine gs_iload_n (q := 1) k rfl rfl dX6_lay_113 ?_
              refine gs_iconst (v := 0) k (by decide) dX6_lay_114 ?_
              refine gs_callV (As := [.int f, .int 0]) (k0 := 0) (ci := 6) (T := TX6) (N := 10) k (c_X6_settle hI (Cn_rs (by omega) hn) (t := tn f) (inR_eq c1) (by omega)) cf_X6_settle im_X6_settle sl_X6_settle ml_X6_286 (hI 0 (by omega)) rfl rfl (by decide) rfl rfl (Nat.le_of_ble_eq_true rfl) dX6_lay_115 (ppV ?_)
              refine gs_aload_n (q := 3) k rfl rfl dX6_lay_118 ?_
              refine gs_get (C := RX0) (T := TX0) (N := 2) (ci := 0) (k0 := (44 + 2 * (tn a))) (j := 0) k (hI (44 + 2 * (tn a)) (by omega)) (ent_L (by omega) _) rfl inX0 (by decide) fl_X6_280 rfl rfl dX6_lay_119 ?_
              refine gs_top (y := ln (tn a)) (rdn (by omega) (rdr (by omega) (rdr (by omega) (hL (tn a) (by omega)).1))) ?_
              exact gs_iret k kt dX6_lay_122 ⟨(by simp [-Int32.not_lt, A_lay, U_lay, ifc_T, ifc_F, c1, c2, c3, c4, c5]), Same.of (X := (fsetC n (tn f) 0 (fun s => if s < tn (ln (tn a)) then L (tn a) s else 0) M)) (by simp [-Int32.not_lt, A_lay, U_lay, ifc_T, ifc_F, c1, c2, c3, c4, c5]) (stl_same (by omega) (Same.r1 Same.rf (fun j => by unfold scr; omega)) rdraft)⟩
          · refine gs_if_ne (tgt := 64) k (by decide) dX6_lay_58 (fun h => absurd h (by decide)) (fun _ => ?_)
            refine gs_bipush (v := -3) k (by decide) dX6_lay_61 ?_
            exact gs_iret k kt dX6_lay_63 ⟨(by simp [-Int32.not_lt, A_lay, U_lay, ifc_T, ifc_F, c1, c2, c3, c4, c5]), Same.of (X := M) (by simp [-Int32.not_lt, A_lay, U_lay, ifc_T, ifc_F, c1, c2, c3, c4, c5]) Same.rf⟩
    · refine gs_if_ne (tgt := 16) k (by decide) dX6_lay_11 (fun h => absurd h (by decide)) (fun _ => ?_)
      refine gs_iconst (v := -1) k (by decide) dX6_lay_14 ?_
      exact gs_iret k kt dX6_lay_15 ⟨(by simp [-Int32.not_lt, A_lay, U_lay, ifc_T, ifc_F, c1, c2]), Same.of (X := M) (by simp [-Int32.not_lt, A_lay, U_lay, ifc_T, ifc_F, c1, c2]) Same.rf⟩
  · refine gs_if_eq (tgt := 14) k (by decide) dX6_lay_4 (fun _ => ?_) (fun h => absurd h (by decide))
    refine gs_iconst (v := -1) k (by decide) dX6_lay_14 ?_
    exact gs_iret k kt dX6_lay_15 ⟨(by simp [-Int32.not_lt, A_lay, U_lay, ifc_T, ifc_F, c1]), Same.of (X := M) (by simp [-Int32.not_lt, A_lay, U_lay, ifc_T, ifc_F, c1]) Same.rf⟩

theorem cf_X7_lay : CF yX7_lay cX7_lay 5 (some .int) 2 := ⟨cd_X7_lay, iz_X7, by decide, by decide +kernel, by decide +kernel, by decide +kernel⟩
set_option maxRecDepth 100000 in
set_option maxHeartbeats 4000000 in
theorem c_X7_lay {l : Launch} {E : Ev} {M : Mm} {n : Nat} {kd : Nat → Int32} {V : Nat → Nat → Int32} {ln : Nat → Int32} {L : Nat → Nat → Int32} (hI : ∀ k, k < 108 → k ∈ E.2.1) (hn : Rn M n) (hL : RLs M ln L) {f a : Int32} : Cm l E yX7_lay cX7_lay 5 (some .int) 3 [.ref (E.2.2.1 65), .int f, .int a] M (pR (.int (A_lay n ln L f a)) (U_lay (becR n (tn f) 0 (fun s => if s < tn (ln (tn a)) then L (tn a) s else 0) M) n ln L f a M)) := by
  refine Cm.of (by decide) (Nat.le_of_ble_eq_true rfl) (fun K k kt => ?_)
  show G l E K 0 [(0, .ref (E.2.2.1 65)), (1, .int f), (2, .int a)] [] M
  obtain ⟨hn0, hn1, hn6⟩ := id hn
  have hp := p2_le6 hn6
  have hp2 := p2_ge2 hn1
  refine gs_iload_n (q := 1) k rfl rfl dX7_lay_0 ?_
  refine gs_callS (As := [.int f]) k c_X7_isFunction cf_X7_isFunction sm_X7_isFunction ml_X7_128 (by decide) rfl rfl (Nat.le_of_ble_eq_true rfl) dX7_lay_1 (ppB (fun c1 => ?_) (fun c1 => ?_))
  · have bc1 := inR_lt c1
    refine gs_if_eq (tgt := 14) k (by decide) dX7_lay_4 (fun h => absurd h (by decide)) (fun _ => ?_)
    refine gs_iload_n (q := 2) k rfl rfl dX7_lay_7 ?_
    refine gs_callS (As := [.int a]) k c_X7_isList cf_X7_isList sm_X7_isList ml_X7_362 (by decide) rfl rfl (Nat.le_of_ble_eq_true rfl) dX7_lay_8 (ppB (fun c2 => ?_) (fun c2 => ?_))
    · have bc2 := inR_lt c2
      refine gs_if_ne (tgt := 16) k (by decide) dX7_lay_11 (fun _ => ?_) (fun h => absurd h (by decide))
      refine gs_aload_n (q := 0) k rfl rfl dX7_lay_16 ?_
      refine gs_get (C := RX7) (T := TX7) (N := 27) (ci := 7) (k0 := 65) (j := 21) k (hI 65 (by omega)) rfl rfl inX7 (by decide) fl_X7_64 rfl rfl dX7_lay_17 ?_
      refine gs_iload_n (q := 2) k rfl rfl dX7_lay_20 ?_
      refine gs_ialdN (k0 := 87) (n := 4) (e := tn a) k (hI 87 (by omega)) (fun _ => rfl) (inR_eq c2) (by omega) (by decide) dX7_lay_21 ?_
      refine gs_top (y := ln (tn a)) ((hL (tn a) (by omega)).1) ?_
      refine gs_istore_n (lv' := [(3, .int (ln (tn a))), (0, .ref (E.2.2.1 65)), (1, .int f), (2, .int a)]) k rfl (by decide) rfl dX7_lay_22 ?_
      refine gs_iload_n (q := 0) k rfl rfl dX7_lay_23 ?_
      refine gs_if_ge (tgt := 30) k (by decide) dX7_lay_24 (fun c3 => ?_) (fun c3 => ?_)
      · have hq0 := Int32.not_lt.mpr c3
        have hq := inR_eq ((hL (tn a) (by omega)).2.2.1 hq0)
        have hq2 := inR_lt ((hL (tn a) (by omega)).2.2.1 hq0)
        refine gs_iload_n (q := 0) k rfl rfl dX7_lay_30 ?_
        refine gs_aload_n (q := 1) k rfl rfl dX7_lay_31 ?_
        refine gs_callV (As := []) (k0 := 65) (ci := 7) (T := TX7) (N := 27) k (c_X7_sets hI hn) cf_X7_sets im_X7_sets sl_X7_sets ml_X7_83 (hI 65 (by omega)) rfl rfl (by decide) rfl rfl (Nat.le_of_ble_eq_true rfl) dX7_lay_32 (ppI ?_)
        refine gs_icmpN_le (a := tn (ln (tn a))) (b := 2 ^ n) (tgt := 41) k hq rfl (by omega) (by omega) (by decide) dX7_lay_35 (fun c4 => ?_) (fun c4 => ?_)
        · refine gs_iconst (v := 0) k (by decide) dX7_lay_41 ?_
          refine gs_istore (lv' := [(4, .int 0), (3, .int (ln (tn a))), (0, .ref (E.2.2.1 65)), (1, .int f), (2, .int a)]) k (by decide) rfl dX7_lay_42 ?_
          refine gs_lv (lv' := [(0, .ref (E.2.2.1 65)), (1, .int f), (2, .int a), (3, .int (ln (tn a))), (4, .int 0)]) [2, 3, 4, 1, 0] rfl ?_
          refine gs_M (rset_same M 80).symm ?_
          refine for_up (σ := (Nat → Int32)) (fun s r => G l E K 44 [(0, .ref (E.2.2.1 65)), (1, .int f), (2, .int a), (3, .int (ln (tn a))), (4, .int (nI s))] [] (rset M 80 r)) (fun s r => upd r s (if s < tn (ln (tn a)) then L (tn a) s else 0)) (2 ^ n) (fun s r hs hGs => ?_) (2 ^ n) 0 (M 80) (by omega) ?_
          · show G l E K 44 [(0, .ref (E.2.2.1 65)), (1, .int f), (2, .int a), (3, .int (ln (tn a))), (4, .int (nI s))] [] (rset M 80 r)
            refine gs_iload (q := 4) k rfl dX7_lay_44 ?_
            refine gs_aload_n (q := 0) k rfl rfl dX7_lay_46 ?_
            refine gs_callV (As := []) (k0 := 65) (ci := 7) (T := TX7) (N := 27) k (c_X7_sets hI (Rn_rs (by omega) hn)) cf_X7_sets im_X7_sets sl_X7_sets ml_X7_83 (hI 65 (by omega)) rfl rfl (by decide) rfl rfl (Nat.le_of_ble_eq_true rfl) dX7_lay_47 (ppI ?_)
            refine gs_icmpN_ge (a := s) (b := 2 ^ n) (tgt := 85) k rfl rfl (by omega) (by omega) (by decide) dX7_lay_50 (fun c5 => absurd c5 (by omega)) (fun c5 => ?_)
            refine gs_aload_n (q := 0) k rfl rfl dX7_lay_53 ?_
            refine gs_get (C := RX7) (T := TX7) (N := 27) (ci := 7) (k0 := 65) (j := 9) k (hI 65 (by omega)) rfl rfl inX7 (by decide) fl_X7_42 rfl rfl dX7_lay_54 ?_
            refine gs_iload (q := 4) k rfl dX7_lay_57 ?_
            refine gs_iload (q := 4) k rfl dX7_lay_59 ?_
            refine gs_iload_n (q := 3) k rfl rfl dX7_lay_61 ?_
            refine gs_icmpN_ge (a := s) (b := tn (ln (tn a))) (tgt := 77) k rfl hq (by omega) (by omega) (by decide) dX7_lay_62 (fun c6 => ?_) (fun c6 => ?_)
            · refine gs_iconst (v := 0) k (by decide) dX7_lay_77 ?_
              refine gs_iastN (k0 := 80) (n := 64) (e := s) k (hI 80 (by omega)) (fun _ => rfl) rfl (by omega) (by decide) dX7_lay_78 ?_
              refine gs_M (mw_rset _ _ _ _ _) ?_
              refine gs_iincN (q := 4) (a := s) (c := 1) (lv' := [(4, .int (nI (s + 1))), (0, .ref (E.2.2.1 65)), (1, .int f), (2, .int a), (3, .int (ln (tn a)))]) k rfl rfl (by decide) rfl dX7_lay_79 ?_
              refine gs_goto (tgt := 44) k (by decide) dX7_lay_82 ?_
              refine gs_lv (lv' := [(0, .ref (E.2.2.1 65)), (1, .int f), (2, .int a), (3, .int (ln (tn a))), (4, .int (nI (s + 1)))]) [1, 2, 3, 4, 0] rfl ?_
              exact hGs _ (by rw [if_neg (by omega)])
            · refine gs_aload_n (q := 0) k rfl rfl dX7_lay_65 ?_
              refine gs_get (C := RX7) (T := TX7) (N := 27) (ci := 7) (k0 := 65) (j := 22) k (hI 65 (by omega)) rfl rfl inX7 (by decide) fl_X7_67 rfl rfl dX7_lay_66 ?_
              refine gs_iload_n (q := 2) k rfl rfl dX7_lay_69 ?_
              refine gs_aaldIN (k0 := 88) (n := 4) (e := tn a) (a := E.2.2.1 (89 + (tn a))) k (hI 88 (by omega)) (fun _ => rfl) (inR_eq c2) (by omega) (by decide) rfl dX7_lay_70 ?_
              refine gs_iload (q := 4) k rfl dX7_lay_71 ?_
              refine gs_ialdN (k0 := (89 + (tn a))) (n := 64) (e := s) k (hI (89 + (tn a)) (by omega)) (ent_RL (by omega)) rfl (by omega) (by decide) dX7_lay_73 ?_
              refine gs_top (y := L (tn a) s) (rdr (by omega) ((hL (tn a) (by omega)).2.2.2 s (by omega))) ?_
              refine gs_goto (tgt := 78) k (by decide) dX7_lay_74 ?_
              refine gs_iastN (k0 := 80) (n := 64) (e := s) k (hI 80 (by omega)) (fun _ => rfl) rfl (by omega) (by decide) dX7_lay_78 ?_
              refine gs_M (mw_rset _ _ _ _ _) ?_
              refine gs_iincN (q := 4) (a := s) (c := 1) (lv' := [(4, .int (nI (s + 1))), (0, .ref (E.2.2.1 65)), (1, .int f), (2, .int a), (3, .int (ln (tn a)))]) k rfl rfl (by decide) rfl dX7_lay_79 ?_
              refine gs_goto (tgt := 44) k (by decide) dX7_lay_82 ?_
              refine gs_lv (lv' := [(0, .ref (E.2.2.1 65)), (1, .int f), (2, .int a), (3, .int (ln (tn a))), (4, .int (nI (s + 1)))]) [1, 2, 3, 4, 0] rfl ?_
              exact hGs _ (by rw [if_pos c6])
          · show G l E K 44 [(0, .ref (E.2.2.1 65)), (1, .int f), (2, .int a), (3, .int (ln (tn a))), (4, .int (nI (2 ^ n)))] [] (rset M 80 (lp (fun s r => upd r s (if s < tn (ln (tn a)) then L (tn a) s else 0)) (2 ^ n) 0 (M 80)))
            rw [lp_setr]
            show G l E K 44 [(0, .ref (E.2.2.1 65)), (1, .int f), (2, .int a), (3, .int (ln (tn a))), (4, .int (nI (2 ^ n)))] [] (rset M 80 (setr (2 ^ n) (fun s => if s < tn (ln (tn a)) then L (tn a) s else 0) (M 80)))
            refine gs_iload (q := 4) k rfl dX7_lay_44 ?_
            refine gs_aload_n (q := 0) k rfl rfl dX7_lay_46 ?_
            refine gs_callV (As := []) (k0 := 65) (ci := 7) (T := TX7) (N := 27) k (c_X7_sets hI (Rn_rs (by omega) hn)) cf_X7_sets im_X7_sets sl_X7_sets ml_X7_83 (hI 65 (by omega)) rfl rfl (by decide) rfl rfl (Nat.le_of_ble_eq_true rfl) dX7_lay_47 (ppI ?_)
            refine gs_icmpN_ge (a := 2 ^ n) (b := 2 ^ n) (tgt := 85) k rfl rfl (by omega) (by omega) (by decide) dX7_lay_50 (fun c5 => ?_) (fun c5 => absurd c5 (by omega))
            refine gs_aload_n (q := 0) k rfl rfl dX7_lay_85 ?_
            refine gs_callV (As := []) (k0 := 65) (ci := 7) (T := TX7) (N := 27) k (Cm.iff (allV_iff (h := fun s => if s < tn (ln (tn a)) then L (tn a) s else 0) rdraft) (c_X7_areValues hI (Rn_rs (by omega) hn))) cf_X7_areValues im_X7_areValues sl_X7_areValues ml_X7_139 (hI 65 (by omega)) rfl rfl (by decide) rfl rfl (Nat.le_of_ble_eq_true rfl) dX7_lay_86 (ppB (fun c6 => ?_) (fun c6 => ?_))
            · refine gs_if_ne (tgt := 95) k (by decide) dX7_lay_89 (fun _ => ?_) (fun h => absurd h (by decide))
              refine gs_aload_n (q := 0) k rfl rfl dX7_lay_95 ?_
              refine gs_iload_n (q := 1) k rfl rfl dX7_lay_96 ?_
              refine gs_iconst (v := 0) k (by decide) dX7_lay_97 ?_
              refine gs_callV (As := [.int f, .int 0]) (k0 := 65) (ci := 7) (T := TX7) (N := 27) k (c_X7_becomes hI (Rn_rs (by omega) hn) (t := tn f) (inR_eq c1) (by omega)) cf_X7_becomes im_X7_becomes sl_X7_becomes ml_X7_143 (hI 65 (by omega)) rfl rfl (by decide) rfl rfl (Nat.le_of_ble_eq_true rfl) dX7_lay_98 (ppV ?_)
              refine gs_iload_n (q := 3) k rfl rfl dX7_lay_101 ?_
              exact gs_iret k kt dX7_lay_102 ⟨(by simp [-Int32.not_lt, A_lay, U_lay, ifc_T, ifc_F, c1, c2, c3, hq0, c4, c6]), Same.of (X := (becR n (tn f) 0 (fun s => if s < tn (ln (tn a)) then L (tn a) s else 0) M)) (by simp [-Int32.not_lt, A_lay, U_lay, ifc_T, ifc_F, c1, c2, c3, hq0, c4, c6]) (bec_same (by omega) (Same.r1 Same.rf (fun j => by unfold scr; omega)) rdraft)⟩
            · refine gs_if_ne (tgt := 95) k (by decide) dX7_lay_89 (fun h => absurd h (by decide)) (fun _ => ?_)
              refine gs_bipush (v := -3) k (by decide) dX7_lay_92 ?_
              exact gs_iret k kt dX7_lay_94 ⟨(by simp [-Int32.not_lt, A_lay, U_lay, ifc_T, ifc_F, c1, c2, c3, hq0, c4, c6]), Same.of (X := M) (by simp [-Int32.not_lt, A_lay, U_lay, ifc_T, ifc_F, c1, c2, c3, hq0, c4, c6]) (Same.r1 Same.rf (fun j => by unfold scr; omega))⟩
        · refine gs_bipush (v := -3) k (by decide) dX7_lay_38 ?_
          exact gs_iret k kt dX7_lay_40 ⟨(by simp [-Int32.not_lt, A_lay, U_lay, ifc_T, ifc_F, c1, c2, c3, hq0, c4, show ¬ tn (ln (tn a)) ≤ 2 ^ n from by omega]), Same.of (X := M) (by simp [-Int32.not_lt, A_lay, U_lay, ifc_T, ifc_F, c1, c2, c3, hq0, c4, show ¬ tn (ln (tn a)) ≤ 2 ^ n from by omega]) Same.rf⟩
      · have ec3 := Int32.not_le.mp c3
        refine gs_bipush (v := -11) k (by decide) dX7_lay_27 ?_
        exact gs_iret k kt dX7_lay_29 ⟨(by simp [-Int32.not_lt, A_lay, U_lay, ifc_T, ifc_F, c1, c2, c3, ec3]), Same.of (X := M) (by simp [-Int32.not_lt, A_lay, U_lay, ifc_T, ifc_F, c1, c2, c3, ec3]) Same.rf⟩
    · refine gs_if_ne (tgt := 16) k (by decide) dX7_lay_11 (fun h => absurd h (by decide)) (fun _ => ?_)
      refine gs_iconst (v := -1) k (by decide) dX7_lay_14 ?_
      exact gs_iret k kt dX7_lay_15 ⟨(by simp [-Int32.not_lt, A_lay, U_lay, ifc_T, ifc_F, c1, c2]), Same.of (X := M) (by simp [-Int32.not_lt, A_lay, U_lay, ifc_T, ifc_F, c1, c2]) Same.rf⟩
  · refine gs_if_eq (tgt := 14) k (by decide) dX7_lay_4 (fun _ => ?_) (fun h => absurd h (by decide))
    refine gs_iconst (v := -1) k (by decide) dX7_lay_14 ?_
    exact gs_iret k kt dX7_lay_15 ⟨(by simp [-Int32.not_lt, A_lay, U_lay, ifc_T, ifc_F, c1]), Same.of (X := M) (by simp [-Int32.not_lt, A_lay, U_lay, ifc_T, ifc_F, c1]) Same.rf⟩

theorem cf_X6_judge : CF yX6_judge cX6_judge 5 (some .int) 2 := ⟨cd_X6_judge, iz_X6, by decide, by decide +kernel, by decide +kernel, by decide +kernel⟩
set_option maxRecDepth 100000 in
set_option maxHeartbeats 4000000 in
theorem c_X6_judge {l : Launch} {E : Ev} {M : Mm} {n : Nat} {kd : Nat → Int32} {V : Nat → Nat → Int32} {ln : Nat → Int32} {L : Nat → Nat → Int32} (hI : ∀ k, k < 108 → k ∈ E.2.1) (hn : Cn M n) (hF : CFn M n kd V) (hL : CLs M ln L) {a f : Int32} : Cm l E yX6_judge cX6_judge 5 (some .int) 1 [.ref (E.2.2.1 0), .int a, .int f] M (pI (A_judge n kd V ln L a f) M) := by
  refine Cm.of (by decide) (Nat.le_of_ble_eq_true rfl) (fun K k kt => ?_)
  show G l E K 0 [(0, .ref (E.2.2.1 0)), (1, .int a), (2, .int f)] [] M
  obtain ⟨hn0, hn1, hn6⟩ := id hn
  have hp := p2_le6 hn6
  have hp2 := p2_ge2 hn1
  refine gs_iload_n (q := 1) k rfl rfl dX6_judge_0 ?_
  refine gs_callS (As := [.int a]) k c_X6_isList cf_X6_isList sm_X6_isList ml_X6_269 (by decide) rfl rfl (Nat.le_of_ble_eq_true rfl) dX6_judge_1 (ppB (fun c1 => ?_) (fun c1 => ?_))
  · have bc1 := inR_lt c1
    refine gs_if_eq (tgt := 14) k (by decide) dX6_judge_4 (fun h => absurd h (by decide)) (fun _ => ?_)
    refine gs_iload_n (q := 2) k rfl rfl dX6_judge_7 ?_
    refine gs_callS (As := [.int f]) k c_X6_isFunction cf_X6_isFunction sm_X6_isFunction ml_X6_101 (by decide) rfl rfl (Nat.le_of_ble_eq_true rfl) dX6_judge_8 (ppB (fun c2 => ?_) (fun c2 => ?_))
    · have bc2 := inR_lt c2
      refine gs_if_ne (tgt := 16) k (by decide) dX6_judge_11 (fun _ => ?_) (fun h => absurd h (by decide))
      refine gs_aload_n (q := 0) k rfl rfl dX6_judge_16 ?_
      refine gs_get (C := RX6) (T := TX6) (N := 10) (ci := 6) (k0 := 0) (j := 3) k (hI 0 (by omega)) rfl rfl inX6 (by decide) fl_X6_27 rfl rfl dX6_judge_17 ?_
      refine gs_iload_n (q := 1) k rfl rfl dX6_judge_20 ?_
      refine gs_aaldNN (k0 := 43) (n := 4) (e := tn a) (a := E.2.2.1 (44 + 2 * (tn a))) k (hI 43 (by omega)) (fun _ => rfl) (inR_eq c1) (by omega) (by decide) rfl dX6_judge_21 ?_
      refine gs_callV (As := []) (k0 := (44 + 2 * (tn a))) (ci := 0) (T := TX0) (N := 2) k (c_X0_isMissing hI hL (by omega)) cf_X0_isMissing im_X0_isMissing sl_X0_isMissing ml_X6_281 (hI (44 + 2 * (tn a)) (by omega)) (ent_L (by omega) _) rfl (by decide) rfl rfl (Nat.le_of_ble_eq_true rfl) dX6_judge_22 (ppB (fun c3 => ?_) (fun c3 => ?_))
      · refine gs_if_ne (tgt := 43) k (by decide) dX6_judge_25 (fun _ => ?_) (fun h => absurd h (by decide))
        refine gs_bipush (v := -11) k (by decide) dX6_judge_43 ?_
        exact gs_iret k kt dX6_judge_45 ⟨(by simp [-Int32.not_lt, A_judge, ifc_T, ifc_F, c1, c2, c3]), (by simp [-Int32.not_lt, A_judge, ifc_T, ifc_F, c1, c2, c3])⟩
      · have hq := inR_eq ((hL (tn a) (by omega)).2.2.1 c3)
        have hq2 := inR_lt ((hL (tn a) (by omega)).2.2.1 c3)
        refine gs_if_ne (tgt := 43) k (by decide) dX6_judge_25 (fun h => absurd h (by decide)) (fun _ => ?_)
        refine gs_aload_n (q := 0) k rfl rfl dX6_judge_28 ?_
        refine gs_get (C := RX6) (T := TX6) (N := 10) (ci := 6) (k0 := 0) (j := 0) k (hI 0 (by omega)) rfl rfl inX6 (by decide) fl_X6_12 rfl rfl dX6_judge_29 ?_
        refine gs_get (C := RX5) (T := TX5) (N := 9) (ci := 5) (k0 := 1) (j := 7) k (hI 1 (by omega)) rfl rfl inX5 (by decide) fl_X6_107 rfl rfl dX6_judge_32 ?_
        refine gs_iload_n (q := 2) k rfl rfl dX6_judge_35 ?_
        refine gs_aaldSN (k0 := 8) (n := 6) (e := tn f) (a := E.2.2.1 (10 + 2 * (tn f))) k (hI 8 (by omega)) (fun _ => rfl) (inR_eq c2) (by omega) (by decide) rfl dX6_judge_36 ?_
        refine gs_callV (As := []) (k0 := (10 + 2 * (tn f))) (ci := 3) (T := TX3) (N := 2) k (c_X3_isMissing hI hF (by omega)) cf_X3_isMissing im_X3_isMissing sl_X3_isMissing ml_X6_127 (hI (10 + 2 * (tn f)) (by omega)) (ent_F1 (by omega) _) rfl (by decide) rfl rfl (Nat.le_of_ble_eq_true rfl) dX6_judge_37 (ppB (fun c4 => ?_) (fun c4 => ?_))
        · refine gs_if_eq (tgt := 46) k (by decide) dX6_judge_40 (fun h => absurd h (by decide)) (fun _ => ?_)
          refine gs_bipush (v := -11) k (by decide) dX6_judge_43 ?_
          exact gs_iret k kt dX6_judge_45 ⟨(by simp [-Int32.not_lt, A_judge, ifc_T, ifc_F, c1, c2, c3, c4]), (by simp [-Int32.not_lt, A_judge, ifc_T, ifc_F, c1, c2, c3, c4])⟩
        · refine gs_if_eq (tgt := 46) k (by decide) dX6_judge_40 (fun _ => ?_) (fun h => absurd h (by decide))
          refine gs_aload_n (q := 0) k rfl rfl dX6_judge_46 ?_
          refine gs_get (C := RX6) (T := TX6) (N := 10) (ci := 6) (k0 := 0) (j := 0) k (hI 0 (by omega)) rfl rfl inX6 (by decide) fl_X6_12 rfl rfl dX6_judge_47 ?_
          refine gs_get (C := RX5) (T := TX5) (N := 9) (ci := 5) (k0 := 1) (j := 7) k (hI 1 (by omega)) rfl rfl inX5 (by decide) fl_X6_107 rfl rfl dX6_judge_50 ?_
          refine gs_iload_n (q := 2) k rfl rfl dX6_judge_53 ?_
          refine gs_aaldSN (k0 := 8) (n := 6) (e := tn f) (a := E.2.2.1 (10 + 2 * (tn f))) k (hI 8 (by omega)) (fun _ => rfl) (inR_eq c2) (by omega) (by decide) rfl dX6_judge_54 ?_
          refine gs_get (C := RX3) (T := TX3) (N := 2) (ci := 3) (k0 := (10 + 2 * (tn f))) (j := 1) k (hI (10 + 2 * (tn f)) (by omega)) (ent_F1 (by omega) _) rfl inX3 (by decide) fl_X6_111 rfl rfl dX6_judge_55 ?_
          refine gs_astore_n (lv' := [(3, .ref (E.2.2.1 (11 + 2 * (tn f)))), (0, .ref (E.2.2.1 0)), (1, .int a), (2, .int f)]) k rfl (by decide) rfl dX6_judge_58 ?_
          refine gs_iconst (v := 0) k (by decide) dX6_judge_59 ?_
          refine gs_istore (lv' := [(4, .int 0), (3, .ref (E.2.2.1 (11 + 2 * (tn f)))), (0, .ref (E.2.2.1 0)), (1, .int a), (2, .int f)]) k (by decide) rfl dX6_judge_60 ?_
          refine gs_lv (lv' := [(0, .ref (E.2.2.1 0)), (1, .int a), (2, .int f), (3, .ref (E.2.2.1 (11 + 2 * (tn f)))), (4, .int 0)]) [2, 3, 4, 1, 0] rfl ?_
          refine for_fnd (fun i => G l E K 62 [(0, .ref (E.2.2.1 0)), (1, .int a), (2, .int f), (3, .ref (E.2.2.1 (11 + 2 * (tn f)))), (4, .int (nI i))] [] M) (fun i => if 2 ^ n ≤ i ∨ ¬ L (tn a) i = V (tn f) i then some i else none) (tn (ln (tn a))) (jdg n (tn (ln (tn a))) (L (tn a)) (V (tn f))) (fun i hi hXi hNi => ?_) (fun hEi => ?_) (tn (ln (tn a))) 0 (by omega) rfl
          · show G l E K 62 [(0, .ref (E.2.2.1 0)), (1, .int a), (2, .int f), (3, .ref (E.2.2.1 (11 + 2 * (tn f)))), (4, .int (nI i))] [] M
            refine gs_iload (q := 4) k rfl dX6_judge_62 ?_
            refine gs_aload_n (q := 0) k rfl rfl dX6_judge_64 ?_
            refine gs_get (C := RX6) (T := TX6) (N := 10) (ci := 6) (k0 := 0) (j := 3) k (hI 0 (by omega)) rfl rfl inX6 (by decide) fl_X6_27 rfl rfl dX6_judge_65 ?_
            refine gs_iload_n (q := 1) k rfl rfl dX6_judge_68 ?_
            refine gs_aaldNN (k0 := 43) (n := 4) (e := tn a) (a := E.2.2.1 (44 + 2 * (tn a))) k (hI 43 (by omega)) (fun _ => rfl) (inR_eq c1) (by omega) (by decide) rfl dX6_judge_69 ?_
            refine gs_get (C := RX0) (T := TX0) (N := 2) (ci := 0) (k0 := (44 + 2 * (tn a))) (j := 0) k (hI (44 + 2 * (tn a)) (by omega)) (ent_L (by omega) _) rfl inX0 (by decide) fl_X6_280 rfl rfl dX6_judge_70 ?_
            refine gs_top (y := ln (tn a)) ((hL (tn a) (by omega)).1) ?_
            refine gs_top (y := ln (tn a)) rfl ?_
            refine gs_icmpN_ge (a := i) (b := tn (ln (tn a))) (tgt := 116) k rfl hq (by omega) (by omega) (by decide) dX6_judge_73 (fun c5 => absurd c5 (by omega)) (fun c5 => ?_)
            refine gs_iload (q := 4) k rfl dX6_judge_76 ?_
            refine gs_aload_n (q := 0) k rfl rfl dX6_judge_78 ?_
            refine gs_get (C := RX6) (T := TX6) (N := 10) (ci := 6) (k0 := 0) (j := 0) k (hI 0 (by omega)) rfl rfl inX6 (by decide) fl_X6_12 rfl rfl dX6_judge_79 ?_
            refine gs_callV (As := []) (k0 := 1) (ci := 5) (T := TX5) (N := 9) k (c_X5_sets hI hn) cf_X5_sets im_X5_sets sl_X5_sets ml_X6_131 (hI 1 (by omega)) rfl rfl (by decide) rfl rfl (Nat.le_of_ble_eq_true rfl) dX6_judge_82 (ppI ?_)
            refine gs_icmpN_ge (a := i) (b := 2 ^ n) (tgt := 107) k rfl rfl (by omega) (by omega) (by decide) dX6_judge_85 (fun c6 => ?_) (fun c6 => ?_)
            · refine gs_iload (q := 4) k rfl dX6_judge_107 ?_
              exact gs_iret k kt dX6_judge_109 ⟨(by simp [-Int32.not_lt, A_judge, ifc_T, ifc_F, c1, c2, c3, c4]; rw [hXi _ (if_pos (Or.inl c6))]; rfl), rfl⟩
            · refine gs_aload_n (q := 0) k rfl rfl dX6_judge_88 ?_
              refine gs_get (C := RX6) (T := TX6) (N := 10) (ci := 6) (k0 := 0) (j := 3) k (hI 0 (by omega)) rfl rfl inX6 (by decide) fl_X6_27 rfl rfl dX6_judge_89 ?_
              refine gs_iload_n (q := 1) k rfl rfl dX6_judge_92 ?_
              refine gs_aaldNN (k0 := 43) (n := 4) (e := tn a) (a := E.2.2.1 (44 + 2 * (tn a))) k (hI 43 (by omega)) (fun _ => rfl) (inR_eq c1) (by omega) (by decide) rfl dX6_judge_93 ?_
              refine gs_get (C := RX0) (T := TX0) (N := 2) (ci := 0) (k0 := (44 + 2 * (tn a))) (j := 1) k (hI (44 + 2 * (tn a)) (by omega)) (ent_L (by omega) _) rfl inX0 (by decide) fl_X6_272 rfl rfl dX6_judge_94 ?_
              refine gs_iload (q := 4) k rfl dX6_judge_97 ?_
              refine gs_ialdN (k0 := (45 + 2 * (tn a))) (n := 64) (e := i) k (hI (45 + 2 * (tn a)) (by omega)) (ent_LN (by omega)) rfl (by omega) (by decide) dX6_judge_99 ?_
              refine gs_top (y := L (tn a) i) ((hL (tn a) (by omega)).2.2.2 i (by omega)) ?_
              refine gs_aload_n (q := 3) k rfl rfl dX6_judge_100 ?_
              refine gs_iload (q := 4) k rfl dX6_judge_101 ?_
              refine gs_ialdN (k0 := (11 + 2 * (tn f))) (n := 64) (e := i) k (hI (11 + 2 * (tn f)) (by omega)) (ent_V1 (by omega)) rfl (by omega) (by decide) dX6_judge_103 ?_
              refine gs_top (y := V (tn f) i) ((hF (tn f) (by omega)).2.2 i (by omega)) ?_
              refine gs_icmp_eq (tgt := 110) k (by decide) dX6_judge_104 (fun c7 => ?_) (fun c7 => ?_)
              · refine gs_iincN (q := 4) (a := i) (c := 1) (lv' := [(4, .int (nI (i + 1))), (0, .ref (E.2.2.1 0)), (1, .int a), (2, .int f), (3, .ref (E.2.2.1 (11 + 2 * (tn f))))]) k rfl rfl (by decide) rfl dX6_judge_110 ?_
                refine gs_goto (tgt := 62) k (by decide) dX6_judge_113 ?_
                refine gs_lv (lv' := [(0, .ref (E.2.2.1 0)), (1, .int a), (2, .int f), (3, .ref (E.2.2.1 (11 + 2 * (tn f)))), (4, .int (nI (i + 1)))]) [1, 2, 3, 4, 0] rfl ?_
                exact hNi (if_neg (fun z => z.elim (fun z => absurd z (by omega)) (fun z => z c7)))
              · refine gs_iload (q := 4) k rfl dX6_judge_107 ?_
                exact gs_iret k kt dX6_judge_109 ⟨(by simp [-Int32.not_lt, A_judge, ifc_T, ifc_F, c1, c2, c3, c4]; rw [hXi _ (if_pos (Or.inr c7))]; rfl), rfl⟩
          · show G l E K 62 [(0, .ref (E.2.2.1 0)), (1, .int a), (2, .int f), (3, .ref (E.2.2.1 (11 + 2 * (tn f)))), (4, .int (nI (tn (ln (tn a)))))] [] M
            refine gs_iload (q := 4) k rfl dX6_judge_62 ?_
            refine gs_aload_n (q := 0) k rfl rfl dX6_judge_64 ?_
            refine gs_get (C := RX6) (T := TX6) (N := 10) (ci := 6) (k0 := 0) (j := 3) k (hI 0 (by omega)) rfl rfl inX6 (by decide) fl_X6_27 rfl rfl dX6_judge_65 ?_
            refine gs_iload_n (q := 1) k rfl rfl dX6_judge_68 ?_
            refine gs_aaldNN (k0 := 43) (n := 4) (e := tn a) (a := E.2.2.1 (44 + 2 * (tn a))) k (hI 43 (by omega)) (fun _ => rfl) (inR_eq c1) (by omega) (by decide) rfl dX6_judge_69 ?_
            refine gs_get (C := RX0) (T := TX0) (N := 2) (ci := 0) (k0 := (44 + 2 * (tn a))) (j := 0) k (hI (44 + 2 * (tn a)) (by omega)) (ent_L (by omega) _) rfl inX0 (by decide) fl_X6_280 rfl rfl dX6_judge_70 ?_
            refine gs_top (y := ln (tn a)) ((hL (tn a) (by omega)).1) ?_
            refine gs_top (y := ln (tn a)) rfl ?_
            refine gs_icmpN_ge (a := tn (ln (tn a))) (b := tn (ln (tn a))) (tgt := 116) k rfl hq (by omega) (by omega) (by decide) dX6_judge_73 (fun c5 => ?_) (fun c5 => absurd c5 (by omega))
            refine gs_bipush (v := -5) k (by decide) dX6_judge_116 ?_
            exact gs_iret k kt dX6_judge_118 ⟨(by simp [-Int32.not_lt, A_judge, ifc_T, ifc_F, c1, c2, c3, c4]; rw [hEi]; rfl), rfl⟩
    · refine gs_if_ne (tgt := 16) k (by decide) dX6_judge_11 (fun h => absurd h (by decide)) (fun _ => ?_)
      refine gs_iconst (v := -1) k (by decide) dX6_judge_14 ?_
      exact gs_iret k kt dX6_judge_15 ⟨(by simp [-Int32.not_lt, A_judge, ifc_T, ifc_F, c1, c2]), (by simp [-Int32.not_lt, A_judge, ifc_T, ifc_F, c1, c2])⟩
  · refine gs_if_eq (tgt := 14) k (by decide) dX6_judge_4 (fun _ => ?_) (fun h => absurd h (by decide))
    refine gs_iconst (v := -1) k (by decide) dX6_judge_14 ?_
    exact gs_iret k kt dX6_judge_15 ⟨(by simp [-Int32.not_lt, A_judge, ifc_T, ifc_F, c1]), (by simp [-Int32.not_lt, A_judge, ifc_T, ifc_F, c1])⟩

theorem cf_X7_judge : CF yX7_judge cX7_judge 4 (some .int) 2 := ⟨cd_X7_judge, iz_X7, by decide, by decide +kernel, by decide +kernel, by decide +kernel⟩
set_option maxRecDepth 100000 in
set_option maxHeartbeats 4000000 in
theorem c_X7_judge {l : Launch} {E : Ev} {M : Mm} {n : Nat} {kd : Nat → Int32} {V : Nat → Nat → Int32} {ln : Nat → Int32} {L : Nat → Nat → Int32} (hI : ∀ k, k < 108 → k ∈ E.2.1) (hn : Rn M n) (hF : RFn M n kd V) (hL : RLs M ln L) {a f : Int32} : Cm l E yX7_judge cX7_judge 4 (some .int) 3 [.ref (E.2.2.1 65), .int a, .int f] M (pI (A_judge n kd V ln L a f) M) := by
  refine Cm.of (by decide) (Nat.le_of_ble_eq_true rfl) (fun K k kt => ?_)
  show G l E K 0 [(0, .ref (E.2.2.1 65)), (1, .int a), (2, .int f)] [] M
  obtain ⟨hn0, hn1, hn6⟩ := id hn
  have hp := p2_le6 hn6
  have hp2 := p2_ge2 hn1
  refine gs_iload_n (q := 1) k rfl rfl dX7_judge_0 ?_
  refine gs_callS (As := [.int a]) k c_X7_isList cf_X7_isList sm_X7_isList ml_X7_362 (by decide) rfl rfl (Nat.le_of_ble_eq_true rfl) dX7_judge_1 (ppB (fun c1 => ?_) (fun c1 => ?_))
  · have bc1 := inR_lt c1
    refine gs_if_eq (tgt := 14) k (by decide) dX7_judge_4 (fun h => absurd h (by decide)) (fun _ => ?_)
    refine gs_iload_n (q := 2) k rfl rfl dX7_judge_7 ?_
    refine gs_callS (As := [.int f]) k c_X7_isFunction cf_X7_isFunction sm_X7_isFunction ml_X7_128 (by decide) rfl rfl (Nat.le_of_ble_eq_true rfl) dX7_judge_8 (ppB (fun c2 => ?_) (fun c2 => ?_))
    · have bc2 := inR_lt c2
      refine gs_if_ne (tgt := 16) k (by decide) dX7_judge_11 (fun _ => ?_) (fun h => absurd h (by decide))
      refine gs_aload_n (q := 0) k rfl rfl dX7_judge_16 ?_
      refine gs_get (C := RX7) (T := TX7) (N := 27) (ci := 7) (k0 := 65) (j := 21) k (hI 65 (by omega)) rfl rfl inX7 (by decide) fl_X7_64 rfl rfl dX7_judge_17 ?_
      refine gs_iload_n (q := 1) k rfl rfl dX7_judge_20 ?_
      refine gs_ialdN (k0 := 87) (n := 4) (e := tn a) k (hI 87 (by omega)) (fun _ => rfl) (inR_eq c1) (by omega) (by decide) dX7_judge_21 ?_
      refine gs_top (y := ln (tn a)) ((hL (tn a) (by omega)).1) ?_
      refine gs_if_lt (tgt := 33) k (by decide) dX7_judge_22 (fun c3 => ?_) (fun c3 => ?_)
      · refine gs_bipush (v := -11) k (by decide) dX7_judge_33 ?_
        exact gs_iret k kt dX7_judge_35 ⟨(by simp [-Int32.not_lt, A_judge, ifc_T, ifc_F, c1, c2, c3]), (by simp [-Int32.not_lt, A_judge, ifc_T, ifc_F, c1, c2, c3])⟩
      · have hq := inR_eq ((hL (tn a) (by omega)).2.2.1 c3)
        have hq2 := inR_lt ((hL (tn a) (by omega)).2.2.1 c3)
        refine gs_aload_n (q := 0) k rfl rfl dX7_judge_25 ?_
        refine gs_iload_n (q := 2) k rfl rfl dX7_judge_26 ?_
        refine gs_callV (As := [.int f]) (k0 := 65) (ci := 7) (T := TX7) (N := 27) k (c_X7_isThere hI hF) cf_X7_isThere im_X7_isThere sl_X7_isThere ml_X7_163 (hI 65 (by omega)) rfl rfl (by decide) rfl rfl (Nat.le_of_ble_eq_true rfl) dX7_judge_27 (ppB (fun c4 => ?_) (fun c4 => ?_))
        · have bc4 := inR_lt c4.1
          have tc4 := c4.2
          refine gs_if_ne (tgt := 36) k (by decide) dX7_judge_30 (fun _ => ?_) (fun h => absurd h (by decide))
          refine gs_iconst (v := 0) k (by decide) dX7_judge_36 ?_
          refine gs_istore_n (lv' := [(3, .int 0), (0, .ref (E.2.2.1 65)), (1, .int a), (2, .int f)]) k rfl (by decide) rfl dX7_judge_37 ?_
          refine gs_lv (lv' := [(0, .ref (E.2.2.1 65)), (1, .int a), (2, .int f), (3, .int 0)]) [1, 2, 3, 0] rfl ?_
          refine for_fnd (fun i => G l E K 38 [(0, .ref (E.2.2.1 65)), (1, .int a), (2, .int f), (3, .int (nI i))] [] M) (fun i => if 2 ^ n ≤ i ∨ ¬ L (tn a) i = V (tn f) i then some i else none) (tn (ln (tn a))) (jdg n (tn (ln (tn a))) (L (tn a)) (V (tn f))) (fun i hi hXi hNi => ?_) (fun hEi => ?_) (tn (ln (tn a))) 0 (by omega) rfl
          · show G l E K 38 [(0, .ref (E.2.2.1 65)), (1, .int a), (2, .int f), (3, .int (nI i))] [] M
            refine gs_iload_n (q := 3) k rfl rfl dX7_judge_38 ?_
            refine gs_aload_n (q := 0) k rfl rfl dX7_judge_39 ?_
            refine gs_get (C := RX7) (T := TX7) (N := 27) (ci := 7) (k0 := 65) (j := 21) k (hI 65 (by omega)) rfl rfl inX7 (by decide) fl_X7_64 rfl rfl dX7_judge_40 ?_
            refine gs_iload_n (q := 1) k rfl rfl dX7_judge_43 ?_
            refine gs_ialdN (k0 := 87) (n := 4) (e := tn a) k (hI 87 (by omega)) (fun _ => rfl) (inR_eq c1) (by omega) (by decide) dX7_judge_44 ?_
            refine gs_top (y := ln (tn a)) ((hL (tn a) (by omega)).1) ?_
            refine gs_top (y := ln (tn a)) rfl ?_
            refine gs_icmpN_ge (a := i) (b := tn (ln (tn a))) (tgt := 83) k rfl hq (by omega) (by omega) (by decide) dX7_judge_45 (fun c5 => absurd c5 (by omega)) (fun c5 => ?_)
            refine gs_iload_n (q := 3) k rfl rfl dX7_judge_48 ?_
            refine gs_aload_n (q := 0) k rfl rfl dX7_judge_49 ?_
            refine gs_callV (As := []) (k0 := 65) (ci := 7) (T := TX7) (N := 27) k (c_X7_sets hI hn) cf_X7_sets im_X7_sets sl_X7_sets ml_X7_83 (hI 65 (by omega)) rfl rfl (by decide) rfl rfl (Nat.le_of_ble_eq_true rfl) dX7_judge_50 (ppI ?_)
            refine gs_icmpN_ge (a := i) (b := 2 ^ n) (tgt := 75) k rfl rfl (by omega) (by omega) (by decide) dX7_judge_53 (fun c6 => ?_) (fun c6 => ?_)
            · refine gs_iload_n (q := 3) k rfl rfl dX7_judge_75 ?_
              exact gs_iret k kt dX7_judge_76 ⟨(by simp [-Int32.not_lt, A_judge, ifc_T, ifc_F, c1, c2, c3, c4, tc4]; rw [hXi _ (if_pos (Or.inl c6))]; rfl), rfl⟩
            · refine gs_aload_n (q := 0) k rfl rfl dX7_judge_56 ?_
              refine gs_get (C := RX7) (T := TX7) (N := 27) (ci := 7) (k0 := 65) (j := 22) k (hI 65 (by omega)) rfl rfl inX7 (by decide) fl_X7_67 rfl rfl dX7_judge_57 ?_
              refine gs_iload_n (q := 1) k rfl rfl dX7_judge_60 ?_
              refine gs_aaldIN (k0 := 88) (n := 4) (e := tn a) (a := E.2.2.1 (89 + (tn a))) k (hI 88 (by omega)) (fun _ => rfl) (inR_eq c1) (by omega) (by decide) rfl dX7_judge_61 ?_
              refine gs_iload_n (q := 3) k rfl rfl dX7_judge_62 ?_
              refine gs_ialdN (k0 := (89 + (tn a))) (n := 64) (e := i) k (hI (89 + (tn a)) (by omega)) (ent_RL (by omega)) rfl (by omega) (by decide) dX7_judge_63 ?_
              refine gs_top (y := L (tn a) i) ((hL (tn a) (by omega)).2.2.2 i (by omega)) ?_
              refine gs_aload_n (q := 0) k rfl rfl dX7_judge_64 ?_
              refine gs_get (C := RX7) (T := TX7) (N := 27) (ci := 7) (k0 := 65) (j := 8) k (hI 65 (by omega)) rfl rfl inX7 (by decide) fl_X7_39 rfl rfl dX7_judge_65 ?_
              refine gs_iload_n (q := 2) k rfl rfl dX7_judge_68 ?_
              refine gs_aaldIN (k0 := 73) (n := 6) (e := tn f) (a := E.2.2.1 (74 + (tn f))) k (hI 73 (by omega)) (fun _ => rfl) (inR_eq c2) (by omega) (by decide) rfl dX7_judge_69 ?_
              refine gs_iload_n (q := 3) k rfl rfl dX7_judge_70 ?_
              refine gs_ialdN (k0 := (74 + (tn f))) (n := 64) (e := i) k (hI (74 + (tn f)) (by omega)) (ent_RV (by omega)) rfl (by omega) (by decide) dX7_judge_71 ?_
              refine gs_top (y := V (tn f) i) ((hF (tn f) (by omega)).2.2 (by assumption) i (by omega)) ?_
              refine gs_icmp_eq (tgt := 77) k (by decide) dX7_judge_72 (fun c7 => ?_) (fun c7 => ?_)
              · refine gs_iincN (q := 3) (a := i) (c := 1) (lv' := [(3, .int (nI (i + 1))), (0, .ref (E.2.2.1 65)), (1, .int a), (2, .int f)]) k rfl rfl (by decide) rfl dX7_judge_77 ?_
                refine gs_goto (tgt := 38) k (by decide) dX7_judge_80 ?_
                refine gs_lv (lv' := [(0, .ref (E.2.2.1 65)), (1, .int a), (2, .int f), (3, .int (nI (i + 1)))]) [1, 2, 3, 0] rfl ?_
                exact hNi (if_neg (fun z => z.elim (fun z => absurd z (by omega)) (fun z => z c7)))
              · refine gs_iload_n (q := 3) k rfl rfl dX7_judge_75 ?_
                exact gs_iret k kt dX7_judge_76 ⟨(by simp [-Int32.not_lt, A_judge, ifc_T, ifc_F, c1, c2, c3, c4, tc4]; rw [hXi _ (if_pos (Or.inr c7))]; rfl), rfl⟩
          · show G l E K 38 [(0, .ref (E.2.2.1 65)), (1, .int a), (2, .int f), (3, .int (nI (tn (ln (tn a)))))] [] M
            refine gs_iload_n (q := 3) k rfl rfl dX7_judge_38 ?_
            refine gs_aload_n (q := 0) k rfl rfl dX7_judge_39 ?_
            refine gs_get (C := RX7) (T := TX7) (N := 27) (ci := 7) (k0 := 65) (j := 21) k (hI 65 (by omega)) rfl rfl inX7 (by decide) fl_X7_64 rfl rfl dX7_judge_40 ?_
            refine gs_iload_n (q := 1) k rfl rfl dX7_judge_43 ?_
            refine gs_ialdN (k0 := 87) (n := 4) (e := tn a) k (hI 87 (by omega)) (fun _ => rfl) (inR_eq c1) (by omega) (by decide) dX7_judge_44 ?_
            refine gs_top (y := ln (tn a)) ((hL (tn a) (by omega)).1) ?_
            refine gs_top (y := ln (tn a)) rfl ?_
            refine gs_icmpN_ge (a := tn (ln (tn a))) (b := tn (ln (tn a))) (tgt := 83) k rfl hq (by omega) (by omega) (by decide) dX7_judge_45 (fun c5 => ?_) (fun c5 => absurd c5 (by omega))
            refine gs_bipush (v := -5) k (by decide) dX7_judge_83 ?_
            exact gs_iret k kt dX7_judge_85 ⟨(by simp [-Int32.not_lt, A_judge, ifc_T, ifc_F, c1, c2, c3, c4, tc4]; rw [hEi]; rfl), rfl⟩
        · have qc4 : kd (tn f) < 0 := Classical.byContradiction (fun k => c4 ⟨by assumption, k⟩)
          refine gs_if_ne (tgt := 36) k (by decide) dX7_judge_30 (fun h => absurd h (by decide)) (fun _ => ?_)
          refine gs_bipush (v := -11) k (by decide) dX7_judge_33 ?_
          exact gs_iret k kt dX7_judge_35 ⟨(by simp [-Int32.not_lt, A_judge, ifc_T, ifc_F, c1, c2, c3, c4, qc4]), (by simp [-Int32.not_lt, A_judge, ifc_T, ifc_F, c1, c2, c3, c4, qc4])⟩
    · refine gs_if_ne (tgt := 16) k (by decide) dX7_judge_11 (fun h => absurd h (by decide)) (fun _ => ?_)
      refine gs_iconst (v := -1) k (by decide) dX7_judge_14 ?_
      exact gs_iret k kt dX7_judge_15 ⟨(by simp [-Int32.not_lt, A_judge, ifc_T, ifc_F, c1, c2]), (by simp [-Int32.not_lt, A_judge, ifc_T, ifc_F, c1, c2])⟩
  · refine gs_if_eq (tgt := 14) k (by decide) dX7_judge_4 (fun _ => ?_) (fun h => absurd h (by decide))
    refine gs_iconst (v := -1) k (by decide) dX7_judge_14 ?_
    exact gs_iret k kt dX7_judge_15 ⟨(by simp [-Int32.not_lt, A_judge, ifc_T, ifc_F, c1]), (by simp [-Int32.not_lt, A_judge, ifc_T, ifc_F, c1])⟩

