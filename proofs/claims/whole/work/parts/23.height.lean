def dvp (d x y : Int32) : Prop := x - x / d * d = 0 ∧ y - y / d * d = 0
noncomputable def gdv (x y : Int32) : Int32 := ifc (dvp 6 x y) 6 (ifc (dvp 5 x y) 5 (ifc (dvp 4 x y) 4 (ifc (dvp 3 x y) 3 (ifc (dvp 2 x y) 2 1))))
theorem dv_dvd {d : Nat} (h0 : 0 < d) (h6 : d ≤ 6) {x : Int32} : x - x / nI d * nI d = 0 ↔ d ∣ x.toInt.natAbs := by
  have hd : (nI d).toInt = (d : Int) := nI_toInt (by omega)
  have hne : nI d ≠ -1 := fun e => by
    have : (nI d).toInt = (-1 : Int32).toInt := by rw [e]
    rw [hd, show (-1 : Int32).toInt = -1 by decide] at this
    omega
  have e1 : (x / nI d).toInt = x.toInt.tdiv (d : Int) := by rw [Int32.toInt_div_of_ne_right _ _ hne, hd]
  have ht : x.toInt - x.toInt.tdiv (d : Int) * (d : Int) = x.toInt.tmod (d : Int) := by rw [Int.tmod_def, Int.mul_comm]
  have hb : (x.toInt.tmod (d : Int)).natAbs < d := by
    rw [Int.natAbs_tmod, Int.natAbs_natCast]
    exact Nat.mod_lt _ h0
  rw [← Int32.toInt_inj, Int32.toInt_sub, Int32.toInt_mul, e1, hd, show (0 : Int32).toInt = 0 by decide, Int.sub_bmod_bmod, ht, i_bmod (by omega) (by omega), ← Int.dvd_iff_tmod_eq_zero, Int.ofNat_dvd_left]
theorem dvp_iff {d s : Nat} (h0 : 0 < d) (h6 : d ≤ 6) (hs : s < 2 ^ 31) {x : Int32} : dvp (nI d) x (nI s) ↔ d ∣ Nat.gcd x.toInt.natAbs s := by
  unfold dvp
  rw [dv_dvd h0 h6, dv_dvd h0 h6, nI_toInt hs, Int.natAbs_natCast, Nat.dvd_gcd_iff]
theorem gdv_eq {s : Nat} (h1 : 1 ≤ s) (h6 : s ≤ 6) {x : Int32} : gdv x (nI s) = nI (Nat.gcd x.toInt.natAbs s) := by
  have d6 : dvp 6 x (nI s) ↔ 6 ∣ Nat.gcd x.toInt.natAbs s := dvp_iff (d := 6) (by omega) (by omega) (by omega)
  have d5 : dvp 5 x (nI s) ↔ 5 ∣ Nat.gcd x.toInt.natAbs s := dvp_iff (d := 5) (by omega) (by omega) (by omega)
  have d4 : dvp 4 x (nI s) ↔ 4 ∣ Nat.gcd x.toInt.natAbs s := dvp_iff (d := 4) (by omega) (by omega) (by omega)
  have d3 : dvp 3 x (nI s) ↔ 3 ∣ Nat.gcd x.toInt.natAbs s := dvp_iff (d := 3) (by omega) (by omega) (by omega)
  have d2 : dvp 2 x (nI s) ↔ 2 ∣ Nat.gcd x.toInt.natAbs s := dvp_iff (d := 2) (by omega) (by omega) (by omega)
  have g1 : 0 < Nat.gcd x.toInt.natAbs s := Nat.gcd_pos_of_pos_right _ h1
  have g2 : Nat.gcd x.toInt.natAbs s ≤ s := Nat.gcd_le_right _ h1
  generalize Nat.gcd x.toInt.natAbs s = g at *
  have hg : g = 1 ∨ g = 2 ∨ g = 3 ∨ g = 4 ∨ g = 5 ∨ g = 6 := by omega
  unfold gdv
  rcases hg with rfl | rfl | rfl | rfl | rfl | rfl
  · rw [ifc_f (show ¬ dvp 6 x (nI s) from fun z => absurd (d6.mp z) (by decide)), ifc_f (show ¬ dvp 5 x (nI s) from fun z => absurd (d5.mp z) (by decide)), ifc_f (show ¬ dvp 4 x (nI s) from fun z => absurd (d4.mp z) (by decide)), ifc_f (show ¬ dvp 3 x (nI s) from fun z => absurd (d3.mp z) (by decide)), ifc_f (show ¬ dvp 2 x (nI s) from fun z => absurd (d2.mp z) (by decide))]
    rfl
  · rw [ifc_f (show ¬ dvp 6 x (nI s) from fun z => absurd (d6.mp z) (by decide)), ifc_f (show ¬ dvp 5 x (nI s) from fun z => absurd (d5.mp z) (by decide)), ifc_f (show ¬ dvp 4 x (nI s) from fun z => absurd (d4.mp z) (by decide)), ifc_f (show ¬ dvp 3 x (nI s) from fun z => absurd (d3.mp z) (by decide)), ifc_t (d2.mpr (by decide))]
    rfl
  · rw [ifc_f (show ¬ dvp 6 x (nI s) from fun z => absurd (d6.mp z) (by decide)), ifc_f (show ¬ dvp 5 x (nI s) from fun z => absurd (d5.mp z) (by decide)), ifc_f (show ¬ dvp 4 x (nI s) from fun z => absurd (d4.mp z) (by decide)), ifc_t (d3.mpr (by decide))]
    rfl
  · rw [ifc_f (show ¬ dvp 6 x (nI s) from fun z => absurd (d6.mp z) (by decide)), ifc_f (show ¬ dvp 5 x (nI s) from fun z => absurd (d5.mp z) (by decide)), ifc_t (d4.mpr (by decide))]
    rfl
  · rw [ifc_f (show ¬ dvp 6 x (nI s) from fun z => absurd (d6.mp z) (by decide)), ifc_t (d5.mpr (by decide))]
    rfl
  · rw [ifc_t (d6.mpr (by decide))]
    rfl
theorem iabs_n {x : Int32} (h : -2147483648 < x.toInt) : iabs x = nI x.toInt.natAbs := by
  have h2 := Int32.toInt_lt x
  unfold iabs
  have z : (0 : Int32).toInt = 0 := by decide
  apply Int32.toInt_inj.mp
  rw [nI_toInt (by omega)]
  split
  · rename_i c
    have := Int32.le_iff_toInt_le.mp c
    omega
  · rename_i c
    have : ¬ (0 : Int32).toInt ≤ x.toInt := fun q => c (Int32.le_iff_toInt_le.mpr q)
    rw [Int32.toInt_sub, z, i_bmod (by omega) (by omega)]
    omega
def rsv (v : Nat → Int32) (n k : Nat) : Int32 := v (sq v n (k + 1)) - v (sq v n k)
def szv (v : Nat → Int32) (n k : Nat) : Nat := pcn (dif (sq v n (k + 1)) (sq v n k))
noncomputable def hgv (v : Nat → Int32) (n k : Nat) (p : Int32) : Int64 := (ifc (p = 0) (rsv v n k) (nI (szv v n k)) / nI (Nat.gcd (rsv v n k).toInt.natAbs (szv v n k))).toInt64
noncomputable def A_level (n : Nat) (kd : Nat → Int32) (V : Nat → Nat → Int32) (f i : Int32) : Int32 := ifc (inR f 6 ∧ -1 ≤ i) (ifc (¬ kd (tn f) < 0) (ifc (i = -1) (nI (slen (V (tn f)) n)) (ifc (inR i (slen (V (tn f)) n)) (nI (sq (V (tn f)) n (tn i + 1))) (-5))) (-11)) (-1)
noncomputable def A_height (n : Nat) (kd : Nat → Int32) (V : Nat → Nat → Int32) (f i p : Int32) : Int64 := ifc (((inR f 6 ∧ ¬ kd (tn f) < 0) ∧ inR p 2) ∧ inR i (slen (V (tn f)) n)) (hgv (V (tn f)) n (tn i) p) (-9223372036854775808)
theorem lv_pos {i : Int32} (h : -1 ≤ i) (h2 : ¬ i = -1) : ¬ i < 0 := by
  rw [Int32.lt_iff_toInt_lt]
  rw [Int32.le_iff_toInt_le] at h
  rw [← Int32.toInt_inj] at h2
  have e1 : (-1 : Int32).toInt = -1 := by decide
  have e2 : (0 : Int32).toInt = 0 := by decide
  omega
theorem lv_m1 {i : Int32} (h : -1 ≤ i) (h2 : ¬ 0 ≤ i) : i = -1 := by
  rw [← Int32.toInt_inj]
  rw [Int32.le_iff_toInt_le] at h h2
  have e1 : (-1 : Int32).toInt = -1 := by decide
  have e2 : (0 : Int32).toInt = 0 := by decide
  omega
theorem lv_n1 {i : Int32} (h : 0 ≤ i) : ¬ i = -1 := fun e => by rw [e] at h; exact absurd h (by decide)
theorem sz_ok {v : Nat → Int32} {n k : Nat} (hn : n ≤ 6) (h : ∀ i, i < k + 1 → ¬ sq v n i = 2 ^ n - 1) : sq v n k < 2 ^ n ∧ sq v n (k + 1) < 2 ^ n ∧ pcn (sq v n k) ≤ pcn (sq v n (k + 1)) ∧ szv v n k = pcn (sq v n (k + 1)) - pcn (sq v n k) ∧ 1 ≤ szv v n k ∧ szv v n k ≤ 6 := by
  have hp := p2_le6 hn
  obtain ⟨h1, -⟩ := sq_ok hn k (fun i hi => h i (by omega))
  obtain ⟨h2, h3, h4⟩ := nxt_ok (v := v) hn h1 (h k (by omega))
  obtain ⟨p1, p2, p3⟩ := pcn_dif (nxt v n (sq v n k)) (by omega) (sq v n k) (by omega) h3
  have p3 := p3 h4
  have h6 := pcn_le (sq v n (k + 1))
  have e : szv v n k = pcn (sq v n (k + 1)) - pcn (sq v n k) := p1
  have p4 : pcn (sq v n k) < pcn (sq v n (k + 1)) := p3
  exact ⟨h1, h2, by omega, e, by omega, by omega⟩
theorem rs_ok {v : Nat → Int32} {n k : Nat} (hn : n ≤ 6) (hv : ∀ s, s < 2 ^ n → isV (v s)) (h : ∀ i, i < k + 1 → ¬ sq v n i = 2 ^ n - 1) : -2147483648 < (rsv v n k).toInt ∧ (rsv v n k).toInt.natAbs < 2 ^ 31 := by
  obtain ⟨h1, h2, -⟩ := sz_ok hn h
  have i1 := isV_int (hv _ h1)
  have i2 := isV_int (hv _ h2)
  have e : (rsv v n k).toInt = _ := i_sub (hv _ h2) (hv _ h1)
  omega
theorem cf_X6_level : CF yX6_level cX6_level 3 (some .int) 2 := ⟨cd_X6_level, iz_X6, by decide, by decide +kernel, by decide +kernel, by decide +kernel⟩
set_option maxRecDepth 100000 in
set_option maxHeartbeats 4000000 in
theorem c_X6_level {l : Launch} {E : Ev} {M : Mm} {n : Nat} {kd : Nat → Int32} {V : Nat → Nat → Int32} (hI : ∀ k, k < 108 → k ∈ E.2.1) (hn : Cn M n) (hF : CFn M n kd V) (hv : ∀ f, f < 6 → ∀ s, s < 2 ^ n → isV (V f s)) {f i : Int32} : Cm l E yX6_level cX6_level 3 (some .int) 4 [.ref (E.2.2.1 0), .int f, .int i] M (pR (.int (A_level n kd V f i)) M) := by
  refine Cm.of (by decide) (Nat.le_of_ble_eq_true rfl) (fun K k kt => ?_)
  show G l E K 0 [(0, .ref (E.2.2.1 0)), (1, .int f), (2, .int i)] [] M
  obtain ⟨hn0, hn1, hn6⟩ := id hn
  have hp := p2_le6 hn6
  have hp2 := p2_ge2 hn1
  refine gs_iload_n (q := 1) k rfl rfl dX6_level_0 ?_
  refine gs_callS (As := [.int f]) k c_X6_isFunction cf_X6_isFunction sm_X6_isFunction ml_X6_101 (by decide) rfl rfl (Nat.le_of_ble_eq_true rfl) dX6_level_1 (ppB (fun c1 => ?_) (fun c1 => ?_))
  · have bc1 := inR_lt c1
    refine gs_if_eq (tgt := 12) k (by decide) dX6_level_4 (fun h => absurd h (by decide)) (fun _ => ?_)
    refine gs_iload_n (q := 2) k rfl rfl dX6_level_7 ?_
    refine gs_iconst (v := -1) k (by decide) dX6_level_8 ?_
    refine gs_icmp_ge (tgt := 14) k (by decide) dX6_level_9 (fun c2 => ?_) (fun c2 => ?_)
    · refine gs_aload_n (q := 0) k rfl rfl dX6_level_14 ?_
      refine gs_get (C := RX6) (T := TX6) (N := 10) (ci := 6) (k0 := 0) (j := 0) k (hI 0 (by omega)) rfl rfl inX6 (by decide) fl_X6_12 rfl rfl dX6_level_15 ?_
      refine gs_get (C := RX5) (T := TX5) (N := 9) (ci := 5) (k0 := 1) (j := 7) k (hI 1 (by omega)) rfl rfl inX5 (by decide) fl_X6_107 rfl rfl dX6_level_18 ?_
      refine gs_iload_n (q := 1) k rfl rfl dX6_level_21 ?_
      refine gs_aaldSN (k0 := 8) (n := 6) (e := tn f) (a := E.2.2.1 (10 + 2 * (tn f))) k (hI 8 (by omega)) (fun _ => rfl) (inR_eq c1) (by omega) (by decide) rfl dX6_level_22 ?_
      refine gs_callV (As := []) (k0 := (10 + 2 * (tn f))) (ci := 3) (T := TX3) (N := 2) k (c_X3_isMissing hI hF (by omega)) cf_X3_isMissing im_X3_isMissing sl_X3_isMissing ml_X6_127 (hI (10 + 2 * (tn f)) (by omega)) (ent_F1 (by omega) _) rfl (by decide) rfl rfl (Nat.le_of_ble_eq_true rfl) dX6_level_23 (ppB (fun c3 => ?_) (fun c3 => ?_))
      · refine gs_if_eq (tgt := 32) k (by decide) dX6_level_26 (fun h => absurd h (by decide)) (fun _ => ?_)
        refine gs_bipush (v := -11) k (by decide) dX6_level_29 ?_
        exact gs_iret k kt dX6_level_31 ⟨(by simp [-Int32.not_lt, A_level, ifc_T, ifc_F, c1, c2, c3]), Same.rf⟩
      · refine gs_if_eq (tgt := 32) k (by decide) dX6_level_26 (fun _ => ?_) (fun h => absurd h (by decide))
        refine gs_aload_n (q := 0) k rfl rfl dX6_level_32 ?_
        refine gs_get (C := RX6) (T := TX6) (N := 10) (ci := 6) (k0 := 0) (j := 6) k (hI 0 (by omega)) rfl rfl inX6 (by decide) fl_X6_49 rfl rfl dX6_level_33 ?_
        refine gs_aload_n (q := 0) k rfl rfl dX6_level_36 ?_
        refine gs_get (C := RX6) (T := TX6) (N := 10) (ci := 6) (k0 := 0) (j := 0) k (hI 0 (by omega)) rfl rfl inX6 (by decide) fl_X6_12 rfl rfl dX6_level_37 ?_
        refine gs_get (C := RX5) (T := TX5) (N := 9) (ci := 5) (k0 := 1) (j := 7) k (hI 1 (by omega)) rfl rfl inX5 (by decide) fl_X6_107 rfl rfl dX6_level_40 ?_
        refine gs_iload_n (q := 1) k rfl rfl dX6_level_43 ?_
        refine gs_aaldSN (k0 := 8) (n := 6) (e := tn f) (a := E.2.2.1 (10 + 2 * (tn f))) k (hI 8 (by omega)) (fun _ => rfl) (inR_eq c1) (by omega) (by decide) rfl dX6_level_44 ?_
        refine gs_get (C := RX3) (T := TX3) (N := 2) (ci := 3) (k0 := (10 + 2 * (tn f))) (j := 1) k (hI (10 + 2 * (tn f)) (by omega)) (ent_F1 (by omega) _) rfl inX3 (by decide) fl_X6_111 rfl rfl dX6_level_45 ?_
        refine gs_aload_n (q := 0) k rfl rfl dX6_level_48 ?_
        refine gs_get (C := RX6) (T := TX6) (N := 10) (ci := 6) (k0 := 0) (j := 0) k (hI 0 (by omega)) rfl rfl inX6 (by decide) fl_X6_12 rfl rfl dX6_level_49 ?_
        refine gs_get (C := RX5) (T := TX5) (N := 9) (ci := 5) (k0 := 1) (j := 0) k (hI 1 (by omega)) rfl rfl inX5 (by decide) fl_X6_63 rfl rfl dX6_level_52 ?_
        refine gs_callV (As := [.ref (E.2.2.1 (11 + 2 * (tn f))), .int (M 1 0)]) (k0 := 58) (ci := 2) (T := TX2) (N := 4) k (c_X2_follow hI hF (by omega) hn6 (hv _ (by omega)) hn1 hn0) cf_X2_follow im_X2_follow sl_X2_follow ml_X6_213 (hI 58 (by omega)) rfl rfl (by decide) rfl rfl (Nat.le_of_ble_eq_true rfl) dX6_level_55 (ppP (fun m hm => ?_))
        refine gs_iload_n (q := 2) k rfl rfl dX6_level_58 ?_
        refine gs_iconst (v := -1) k (by decide) dX6_level_59 ?_
        refine gs_icmp_ne (tgt := 71) k (by decide) dX6_level_60 (fun c4 => ?_) (fun c4 => ?_)
        · have hk6 := hm.1.2.1
          have hpos := lv_pos c2 c4
          refine gs_iload_n (q := 2) k rfl rfl dX6_level_71 ?_
          refine gs_aload_n (q := 0) k rfl rfl dX6_level_72 ?_
          refine gs_get (C := RX6) (T := TX6) (N := 10) (ci := 6) (k0 := 0) (j := 6) k (hI 0 (by omega)) rfl rfl inX6 (by decide) fl_X6_49 rfl rfl dX6_level_73 ?_
          refine gs_get (C := RX2) (T := TX2) (N := 4) (ci := 2) (k0 := 58) (j := 0) k (hI 58 (by omega)) rfl rfl inX2 (by decide) fl_X6_217 rfl rfl dX6_level_76 ?_
          refine gs_top (y := nI (slen (V (tn f)) n)) hm.1.2.2.1 ?_
          refine gs_icmp_ge (tgt := 94) k (by decide) dX6_level_79 (fun c5 => ?_) (fun c5 => ?_)
          · have ec5 : ¬ inR i (slen (V (tn f)) n) := inR_n2 rfl (by omega) c5
            refine gs_bipush (v := -5) k (by decide) dX6_level_94 ?_
            exact gs_iret k kt dX6_level_96 ⟨(by simp [-Int32.not_lt, A_level, ifc_T, ifc_F, c1, c2, c3, c4, hpos, c5, ec5]), hm.1.1⟩
          · have ec5 : inR i (slen (V (tn f)) n) := inR_of rfl (by omega) hpos c5
            have fc5 := inR_lt ec5
            refine gs_aload_n (q := 0) k rfl rfl dX6_level_82 ?_
            refine gs_get (C := RX6) (T := TX6) (N := 10) (ci := 6) (k0 := 0) (j := 6) k (hI 0 (by omega)) rfl rfl inX6 (by decide) fl_X6_49 rfl rfl dX6_level_83 ?_
            refine gs_get (C := RX2) (T := TX2) (N := 4) (ci := 2) (k0 := 58) (j := 1) k (hI 58 (by omega)) rfl rfl inX2 (by decide) fl_X6_220 rfl rfl dX6_level_86 ?_
            refine gs_iload_n (q := 2) k rfl rfl dX6_level_89 ?_
            refine gs_ialdN (k0 := 59) (n := 6) (e := tn i) k (hI 59 (by omega)) (fun _ => rfl) (inR_eq ec5) (by omega) (by decide) dX6_level_90 ?_
            refine gs_top (y := nI (sq (V (tn f)) n (tn i + 1))) (hm.1.2.2.2 (tn i) (by omega)).2.1 ?_
            refine gs_goto (tgt := 96) k (by decide) dX6_level_91 ?_
            exact gs_iret k kt dX6_level_96 ⟨(by simp [-Int32.not_lt, A_level, ifc_T, ifc_F, c1, c2, c3, c4, hpos, c5, ec5]), hm.1.1⟩
        · refine gs_aload_n (q := 0) k rfl rfl dX6_level_63 ?_
          refine gs_get (C := RX6) (T := TX6) (N := 10) (ci := 6) (k0 := 0) (j := 6) k (hI 0 (by omega)) rfl rfl inX6 (by decide) fl_X6_49 rfl rfl dX6_level_64 ?_
          refine gs_get (C := RX2) (T := TX2) (N := 4) (ci := 2) (k0 := 58) (j := 0) k (hI 58 (by omega)) rfl rfl inX2 (by decide) fl_X6_217 rfl rfl dX6_level_67 ?_
          refine gs_top (y := nI (slen (V (tn f)) n)) hm.1.2.2.1 ?_
          exact gs_iret k kt dX6_level_70 ⟨(by simp [-Int32.not_lt, A_level, ifc_T, ifc_F, c1, c2, c3, c4]), hm.1.1⟩
    · refine gs_iconst (v := -1) k (by decide) dX6_level_12 ?_
      exact gs_iret k kt dX6_level_13 ⟨(by simp [-Int32.not_lt, A_level, ifc_T, ifc_F, c1, c2]), Same.rf⟩
  · refine gs_if_eq (tgt := 12) k (by decide) dX6_level_4 (fun _ => ?_) (fun h => absurd h (by decide))
    refine gs_iconst (v := -1) k (by decide) dX6_level_12 ?_
    exact gs_iret k kt dX6_level_13 ⟨(by simp [-Int32.not_lt, A_level, ifc_T, ifc_F, c1]), Same.rf⟩

theorem cf_X7_level : CF yX7_level cX7_level 3 (some .int) 2 := ⟨cd_X7_level, iz_X7, by decide, by decide +kernel, by decide +kernel, by decide +kernel⟩
set_option maxRecDepth 100000 in
set_option maxHeartbeats 4000000 in
theorem c_X7_level {l : Launch} {E : Ev} {M : Mm} {n : Nat} {kd : Nat → Int32} {V : Nat → Nat → Int32} (hI : ∀ k, k < 108 → k ∈ E.2.1) (hn : Rn M n) (hF : RFn M n kd V) (hv : ∀ f, f < 6 → ∀ s, s < 2 ^ n → isV (V f s)) {f i : Int32} : Cm l E yX7_level cX7_level 3 (some .int) 4 [.ref (E.2.2.1 65), .int f, .int i] M (pR (.int (A_level n kd V f i)) M) := by
  refine Cm.of (by decide) (Nat.le_of_ble_eq_true rfl) (fun K k kt => ?_)
  show G l E K 0 [(0, .ref (E.2.2.1 65)), (1, .int f), (2, .int i)] [] M
  obtain ⟨hn0, hn1, hn6⟩ := id hn
  have hp := p2_le6 hn6
  have hp2 := p2_ge2 hn1
  refine gs_iload_n (q := 1) k rfl rfl dX7_level_0 ?_
  refine gs_callS (As := [.int f]) k c_X7_isFunction cf_X7_isFunction sm_X7_isFunction ml_X7_128 (by decide) rfl rfl (Nat.le_of_ble_eq_true rfl) dX7_level_1 (ppB (fun c1 => ?_) (fun c1 => ?_))
  · have bc1 := inR_lt c1
    refine gs_if_eq (tgt := 12) k (by decide) dX7_level_4 (fun h => absurd h (by decide)) (fun _ => ?_)
    refine gs_iload_n (q := 2) k rfl rfl dX7_level_7 ?_
    refine gs_iconst (v := -1) k (by decide) dX7_level_8 ?_
    refine gs_icmp_ge (tgt := 14) k (by decide) dX7_level_9 (fun c2 => ?_) (fun c2 => ?_)
    · refine gs_aload_n (q := 0) k rfl rfl dX7_level_14 ?_
      refine gs_iload_n (q := 1) k rfl rfl dX7_level_15 ?_
      refine gs_callV (As := [.int f]) (k0 := 65) (ci := 7) (T := TX7) (N := 27) k (c_X7_isThere hI hF) cf_X7_isThere im_X7_isThere sl_X7_isThere ml_X7_163 (hI 65 (by omega)) rfl rfl (by decide) rfl rfl (Nat.le_of_ble_eq_true rfl) dX7_level_16 (ppB (fun c3 => ?_) (fun c3 => ?_))
      · have bc3 := inR_lt c3.1
        have tc3 := c3.2
        refine gs_if_ne (tgt := 25) k (by decide) dX7_level_19 (fun _ => ?_) (fun h => absurd h (by decide))
        refine gs_aload_n (q := 0) k rfl rfl dX7_level_25 ?_
        refine gs_iload_n (q := 1) k rfl rfl dX7_level_26 ?_
        refine gs_callV (As := [.int f]) (k0 := 65) (ci := 7) (T := TX7) (N := 27) k (c_X7_layLevels (f := tn f) hI hn hF (inR_eq c1) (by omega) (by assumption) (hv _ (by omega))) cf_X7_layLevels im_X7_layLevels sl_X7_layLevels ml_X7_238 (hI 65 (by omega)) rfl rfl (by decide) rfl rfl (Nat.le_of_ble_eq_true rfl) dX7_level_27 (ppP (fun m hm => ?_))
        refine gs_iload_n (q := 2) k rfl rfl dX7_level_30 ?_
        refine gs_if_ge (tgt := 41) k (by decide) dX7_level_31 (fun c4 => ?_) (fun c4 => ?_)
        · have hk6 := hm.1.2.1
          have hpos := Int32.not_lt.mpr c4
          have ec4 := lv_n1 c4
          refine gs_iload_n (q := 2) k rfl rfl dX7_level_41 ?_
          refine gs_aload_n (q := 0) k rfl rfl dX7_level_42 ?_
          refine gs_get (C := RX7) (T := TX7) (N := 27) (ci := 7) (k0 := 65) (j := 12) k (hI 65 (by omega)) rfl rfl inX7 (by decide) fl_X7_232 rfl rfl dX7_level_43 ?_
          refine gs_top (y := nI (slen (V (tn f)) n)) hm.1.2.2.1 ?_
          refine gs_icmp_ge (tgt := 60) k (by decide) dX7_level_46 (fun c5 => ?_) (fun c5 => ?_)
          · have ec5 : ¬ inR i (slen (V (tn f)) n) := inR_n2 rfl (by omega) c5
            refine gs_bipush (v := -5) k (by decide) dX7_level_60 ?_
            exact gs_iret k kt dX7_level_62 ⟨(by simp [-Int32.not_lt, A_level, ifc_T, ifc_F, c1, c2, c3, tc3, c4, ec4, c5, ec5]), hm.1.1⟩
          · have ec5 : inR i (slen (V (tn f)) n) := inR_of rfl (by omega) hpos c5
            have fc5 := inR_lt ec5
            refine gs_aload_n (q := 0) k rfl rfl dX7_level_49 ?_
            refine gs_get (C := RX7) (T := TX7) (N := 27) (ci := 7) (k0 := 65) (j := 11) k (hI 65 (by omega)) rfl rfl inX7 (by decide) fl_X7_48 rfl rfl dX7_level_50 ?_
            refine gs_iload_n (q := 2) k rfl rfl dX7_level_53 ?_
            refine gs_iconst (v := 1) k (by decide) dX7_level_54 ?_
            refine gs_iaddN (a := tn i) (b := 1) k (inR_eq ec5) rfl dX7_level_55 ?_
            refine gs_ialdN (k0 := 82) (n := 7) (e := (tn i) + 1) k (hI 82 (by omega)) (fun _ => rfl) rfl (by omega) (by decide) dX7_level_56 ?_
            refine gs_top (y := nI (sq (V (tn f)) n (tn i + 1))) (hm.1.2.2.2.1 (tn i + 1) (by omega)) ?_
            refine gs_goto (tgt := 62) k (by decide) dX7_level_57 ?_
            exact gs_iret k kt dX7_level_62 ⟨(by simp [-Int32.not_lt, A_level, ifc_T, ifc_F, c1, c2, c3, tc3, c4, ec4, c5, ec5]), hm.1.1⟩
        · have ec4 := lv_m1 c2 c4
          refine gs_aload_n (q := 0) k rfl rfl dX7_level_34 ?_
          refine gs_get (C := RX7) (T := TX7) (N := 27) (ci := 7) (k0 := 65) (j := 12) k (hI 65 (by omega)) rfl rfl inX7 (by decide) fl_X7_232 rfl rfl dX7_level_35 ?_
          refine gs_top (y := nI (slen (V (tn f)) n)) hm.1.2.2.1 ?_
          refine gs_goto (tgt := 62) k (by decide) dX7_level_38 ?_
          exact gs_iret k kt dX7_level_62 ⟨(by simp [-Int32.not_lt, A_level, ifc_T, ifc_F, c1, c2, c3, tc3, c4, ec4]), hm.1.1⟩
      · have qc3 : kd (tn f) < 0 := Classical.byContradiction (fun k => c3 ⟨by assumption, k⟩)
        refine gs_if_ne (tgt := 25) k (by decide) dX7_level_19 (fun h => absurd h (by decide)) (fun _ => ?_)
        refine gs_bipush (v := -11) k (by decide) dX7_level_22 ?_
        exact gs_iret k kt dX7_level_24 ⟨(by simp [-Int32.not_lt, A_level, ifc_T, ifc_F, c1, c2, c3, qc3]), Same.rf⟩
    · refine gs_iconst (v := -1) k (by decide) dX7_level_12 ?_
      exact gs_iret k kt dX7_level_13 ⟨(by simp [-Int32.not_lt, A_level, ifc_T, ifc_F, c1, c2]), Same.rf⟩
  · refine gs_if_eq (tgt := 12) k (by decide) dX7_level_4 (fun _ => ?_) (fun h => absurd h (by decide))
    refine gs_iconst (v := -1) k (by decide) dX7_level_12 ?_
    exact gs_iret k kt dX7_level_13 ⟨(by simp [-Int32.not_lt, A_level, ifc_T, ifc_F, c1]), Same.rf⟩

theorem gdv_ne {x y : Int32} : ¬ gdv x y = 0 := by
  unfold gdv
  by_cases c6 : dvp 6 x y
  · rw [ifc_t c6]; decide
  · rw [ifc_f c6]
    by_cases c5 : dvp 5 x y
    · rw [ifc_t c5]; decide
    · rw [ifc_f c5]
      by_cases c4 : dvp 4 x y
      · rw [ifc_t c4]; decide
      · rw [ifc_f c4]
        by_cases c3 : dvp 3 x y
        · rw [ifc_t c3]; decide
        · rw [ifc_f c3]
          by_cases c2 : dvp 2 x y
          · rw [ifc_t c2]; decide
          · rw [ifc_f c2]; decide
theorem cf_X2_commonDivisor : CF yX2_commonDivisor cX2_commonDivisor 3 (some .int) 1 := ⟨cd_X2_commonDivisor, iz_X2, by decide, by decide +kernel, by decide +kernel, by decide +kernel⟩
set_option maxRecDepth 100000 in
set_option maxHeartbeats 4000000 in
theorem c_X2_commonDivisor {l : Launch} {E : Ev} {M : Mm} {y : Int32} {j : Nat} (hI : ∀ k, k < 108 → k ∈ E.2.1) (hy : y = nI j) (hj : j < 6) : Cm l E yX2_commonDivisor cX2_commonDivisor 3 (some .int) 0 [.ref (E.2.2.1 58), .int y] M (pI (gdv (M 60 j) (M 61 j)) M) := by
  refine Cm.of (by decide) (Nat.le_of_ble_eq_true rfl) (fun K k kt => ?_)
  show G l E K 0 [(0, .ref (E.2.2.1 58)), (1, .int y)] [] M
  refine gs_bipush (v := 6) k (by decide) dX2_commonDivisor_0 ?_
  refine gs_istore_n (lv' := [(2, .int 6), (0, .ref (E.2.2.1 58)), (1, .int y)]) k rfl (by decide) rfl dX2_commonDivisor_2 ?_
  refine gs_iload_n (q := 0) k rfl rfl dX2_commonDivisor_3 ?_
  refine gs_iconst (v := 1) k (by decide) dX2_commonDivisor_4 ?_
  refine gs_icmp_le (tgt := 38) k (by decide) dX2_commonDivisor_5 (fun h => absurd h (by decide)) (fun _ => ?_)
  refine gs_aload_n (q := 1) k rfl rfl dX2_commonDivisor_8 ?_
  refine gs_get (C := RX2) (T := TX2) (N := 4) (ci := 2) (k0 := 58) (j := 2) k (hI 58 (by omega)) rfl rfl inX2 (by decide) fl_X2_15 rfl rfl dX2_commonDivisor_9 ?_
  refine gs_iload_n (q := 2) k rfl rfl dX2_commonDivisor_12 ?_
  refine gs_ialdN (k0 := 60) (n := 6) (e := j) k (hI 60 (by omega)) (fun _ => rfl) hy (by omega) (by decide) dX2_commonDivisor_13 ?_
  refine gs_iload_n (q := 0) k rfl rfl dX2_commonDivisor_14 ?_
  refine gs_irem k (by decide) dX2_commonDivisor_15 ?_
  refine gs_if_ne (tgt := 32) k (by decide) dX2_commonDivisor_16 (fun c1 => ?_) (fun c1 => ?_)
  · refine gs_iinc (q := 0) (v := 5) (lv' := [(2, .int 5), (0, .ref (E.2.2.1 58)), (1, .int y)]) k rfl (by decide) (by decide) rfl dX2_commonDivisor_32 ?_
    refine gs_goto (tgt := 3) k (by decide) dX2_commonDivisor_35 ?_
    refine gs_iload_n (q := 0) k rfl rfl dX2_commonDivisor_3 ?_
    refine gs_iconst (v := 1) k (by decide) dX2_commonDivisor_4 ?_
    refine gs_icmp_le (tgt := 38) k (by decide) dX2_commonDivisor_5 (fun h => absurd h (by decide)) (fun _ => ?_)
    refine gs_aload_n (q := 1) k rfl rfl dX2_commonDivisor_8 ?_
    refine gs_get (C := RX2) (T := TX2) (N := 4) (ci := 2) (k0 := 58) (j := 2) k (hI 58 (by omega)) rfl rfl inX2 (by decide) fl_X2_15 rfl rfl dX2_commonDivisor_9 ?_
    refine gs_iload_n (q := 2) k rfl rfl dX2_commonDivisor_12 ?_
    refine gs_ialdN (k0 := 60) (n := 6) (e := j) k (hI 60 (by omega)) (fun _ => rfl) hy (by omega) (by decide) dX2_commonDivisor_13 ?_
    refine gs_iload_n (q := 0) k rfl rfl dX2_commonDivisor_14 ?_
    refine gs_irem k (by decide) dX2_commonDivisor_15 ?_
    refine gs_if_ne (tgt := 32) k (by decide) dX2_commonDivisor_16 (fun c2 => ?_) (fun c2 => ?_)
    · refine gs_iinc (q := 0) (v := 4) (lv' := [(2, .int 4), (0, .ref (E.2.2.1 58)), (1, .int y)]) k rfl (by decide) (by decide) rfl dX2_commonDivisor_32 ?_
      refine gs_goto (tgt := 3) k (by decide) dX2_commonDivisor_35 ?_
      refine gs_iload_n (q := 0) k rfl rfl dX2_commonDivisor_3 ?_
      refine gs_iconst (v := 1) k (by decide) dX2_commonDivisor_4 ?_
      refine gs_icmp_le (tgt := 38) k (by decide) dX2_commonDivisor_5 (fun h => absurd h (by decide)) (fun _ => ?_)
      refine gs_aload_n (q := 1) k rfl rfl dX2_commonDivisor_8 ?_
      refine gs_get (C := RX2) (T := TX2) (N := 4) (ci := 2) (k0 := 58) (j := 2) k (hI 58 (by omega)) rfl rfl inX2 (by decide) fl_X2_15 rfl rfl dX2_commonDivisor_9 ?_
      refine gs_iload_n (q := 2) k rfl rfl dX2_commonDivisor_12 ?_
      refine gs_ialdN (k0 := 60) (n := 6) (e := j) k (hI 60 (by omega)) (fun _ => rfl) hy (by omega) (by decide) dX2_commonDivisor_13 ?_
      refine gs_iload_n (q := 0) k rfl rfl dX2_commonDivisor_14 ?_
      refine gs_irem k (by decide) dX2_commonDivisor_15 ?_
      refine gs_if_ne (tgt := 32) k (by decide) dX2_commonDivisor_16 (fun c3 => ?_) (fun c3 => ?_)
      · refine gs_iinc (q := 0) (v := 3) (lv' := [(2, .int 3), (0, .ref (E.2.2.1 58)), (1, .int y)]) k rfl (by decide) (by decide) rfl dX2_commonDivisor_32 ?_
        refine gs_goto (tgt := 3) k (by decide) dX2_commonDivisor_35 ?_
        refine gs_iload_n (q := 0) k rfl rfl dX2_commonDivisor_3 ?_
        refine gs_iconst (v := 1) k (by decide) dX2_commonDivisor_4 ?_
        refine gs_icmp_le (tgt := 38) k (by decide) dX2_commonDivisor_5 (fun h => absurd h (by decide)) (fun _ => ?_)
        refine gs_aload_n (q := 1) k rfl rfl dX2_commonDivisor_8 ?_
        refine gs_get (C := RX2) (T := TX2) (N := 4) (ci := 2) (k0 := 58) (j := 2) k (hI 58 (by omega)) rfl rfl inX2 (by decide) fl_X2_15 rfl rfl dX2_commonDivisor_9 ?_
        refine gs_iload_n (q := 2) k rfl rfl dX2_commonDivisor_12 ?_
        refine gs_ialdN (k0 := 60) (n := 6) (e := j) k (hI 60 (by omega)) (fun _ => rfl) hy (by omega) (by decide) dX2_commonDivisor_13 ?_
        refine gs_iload_n (q := 0) k rfl rfl dX2_commonDivisor_14 ?_
        refine gs_irem k (by decide) dX2_commonDivisor_15 ?_
        refine gs_if_ne (tgt := 32) k (by decide) dX2_commonDivisor_16 (fun c4 => ?_) (fun c4 => ?_)
        · refine gs_iinc (q := 0) (v := 2) (lv' := [(2, .int 2), (0, .ref (E.2.2.1 58)), (1, .int y)]) k rfl (by decide) (by decide) rfl dX2_commonDivisor_32 ?_
          refine gs_goto (tgt := 3) k (by decide) dX2_commonDivisor_35 ?_
          refine gs_iload_n (q := 0) k rfl rfl dX2_commonDivisor_3 ?_
          refine gs_iconst (v := 1) k (by decide) dX2_commonDivisor_4 ?_
          refine gs_icmp_le (tgt := 38) k (by decide) dX2_commonDivisor_5 (fun h => absurd h (by decide)) (fun _ => ?_)
          refine gs_aload_n (q := 1) k rfl rfl dX2_commonDivisor_8 ?_
          refine gs_get (C := RX2) (T := TX2) (N := 4) (ci := 2) (k0 := 58) (j := 2) k (hI 58 (by omega)) rfl rfl inX2 (by decide) fl_X2_15 rfl rfl dX2_commonDivisor_9 ?_
          refine gs_iload_n (q := 2) k rfl rfl dX2_commonDivisor_12 ?_
          refine gs_ialdN (k0 := 60) (n := 6) (e := j) k (hI 60 (by omega)) (fun _ => rfl) hy (by omega) (by decide) dX2_commonDivisor_13 ?_
          refine gs_iload_n (q := 0) k rfl rfl dX2_commonDivisor_14 ?_
          refine gs_irem k (by decide) dX2_commonDivisor_15 ?_
          refine gs_if_ne (tgt := 32) k (by decide) dX2_commonDivisor_16 (fun c5 => ?_) (fun c5 => ?_)
          · refine gs_iinc (q := 0) (v := 1) (lv' := [(2, .int 1), (0, .ref (E.2.2.1 58)), (1, .int y)]) k rfl (by decide) (by decide) rfl dX2_commonDivisor_32 ?_
            refine gs_goto (tgt := 3) k (by decide) dX2_commonDivisor_35 ?_
            refine gs_iload_n (q := 0) k rfl rfl dX2_commonDivisor_3 ?_
            refine gs_iconst (v := 1) k (by decide) dX2_commonDivisor_4 ?_
            refine gs_icmp_le (tgt := 38) k (by decide) dX2_commonDivisor_5 (fun _ => ?_) (fun h => absurd h (by decide))
            refine gs_iconst (v := 1) k (by decide) dX2_commonDivisor_38 ?_
            exact gs_iret k kt dX2_commonDivisor_39 ⟨(by rw [gdv, ifc_f (fun q => c1 q.1), ifc_f (fun q => c2 q.1), ifc_f (fun q => c3 q.1), ifc_f (fun q => c4 q.1), ifc_f (fun q => c5 q.1)]), rfl⟩
          · refine gs_aload_n (q := 1) k rfl rfl dX2_commonDivisor_19 ?_
            refine gs_get (C := RX2) (T := TX2) (N := 4) (ci := 2) (k0 := 58) (j := 3) k (hI 58 (by omega)) rfl rfl inX2 (by decide) fl_X2_18 rfl rfl dX2_commonDivisor_20 ?_
            refine gs_iload_n (q := 2) k rfl rfl dX2_commonDivisor_23 ?_
            refine gs_ialdN (k0 := 61) (n := 6) (e := j) k (hI 61 (by omega)) (fun _ => rfl) hy (by omega) (by decide) dX2_commonDivisor_24 ?_
            refine gs_iload_n (q := 0) k rfl rfl dX2_commonDivisor_25 ?_
            refine gs_irem k (by decide) dX2_commonDivisor_26 ?_
            refine gs_if_ne (tgt := 32) k (by decide) dX2_commonDivisor_27 (fun c6 => ?_) (fun c6 => ?_)
            · refine gs_iinc (q := 0) (v := 1) (lv' := [(2, .int 1), (0, .ref (E.2.2.1 58)), (1, .int y)]) k rfl (by decide) (by decide) rfl dX2_commonDivisor_32 ?_
              refine gs_goto (tgt := 3) k (by decide) dX2_commonDivisor_35 ?_
              refine gs_iload_n (q := 0) k rfl rfl dX2_commonDivisor_3 ?_
              refine gs_iconst (v := 1) k (by decide) dX2_commonDivisor_4 ?_
              refine gs_icmp_le (tgt := 38) k (by decide) dX2_commonDivisor_5 (fun _ => ?_) (fun h => absurd h (by decide))
              refine gs_iconst (v := 1) k (by decide) dX2_commonDivisor_38 ?_
              exact gs_iret k kt dX2_commonDivisor_39 ⟨(by rw [gdv, ifc_f (fun q => c1 q.1), ifc_f (fun q => c2 q.1), ifc_f (fun q => c3 q.1), ifc_f (fun q => c4 q.1), ifc_f (fun q => c6 q.2)]), rfl⟩
            · refine gs_iload_n (q := 0) k rfl rfl dX2_commonDivisor_30 ?_
              exact gs_iret k kt dX2_commonDivisor_31 ⟨(by rw [gdv, ifc_f (fun q => c1 q.1), ifc_f (fun q => c2 q.1), ifc_f (fun q => c3 q.1), ifc_f (fun q => c4 q.1), ifc_t ⟨c5, c6⟩]), rfl⟩
        · refine gs_aload_n (q := 1) k rfl rfl dX2_commonDivisor_19 ?_
          refine gs_get (C := RX2) (T := TX2) (N := 4) (ci := 2) (k0 := 58) (j := 3) k (hI 58 (by omega)) rfl rfl inX2 (by decide) fl_X2_18 rfl rfl dX2_commonDivisor_20 ?_
          refine gs_iload_n (q := 2) k rfl rfl dX2_commonDivisor_23 ?_
          refine gs_ialdN (k0 := 61) (n := 6) (e := j) k (hI 61 (by omega)) (fun _ => rfl) hy (by omega) (by decide) dX2_commonDivisor_24 ?_
          refine gs_iload_n (q := 0) k rfl rfl dX2_commonDivisor_25 ?_
          refine gs_irem k (by decide) dX2_commonDivisor_26 ?_
          refine gs_if_ne (tgt := 32) k (by decide) dX2_commonDivisor_27 (fun c7 => ?_) (fun c7 => ?_)
          · refine gs_iinc (q := 0) (v := 2) (lv' := [(2, .int 2), (0, .ref (E.2.2.1 58)), (1, .int y)]) k rfl (by decide) (by decide) rfl dX2_commonDivisor_32 ?_
            refine gs_goto (tgt := 3) k (by decide) dX2_commonDivisor_35 ?_
            refine gs_iload_n (q := 0) k rfl rfl dX2_commonDivisor_3 ?_
            refine gs_iconst (v := 1) k (by decide) dX2_commonDivisor_4 ?_
            refine gs_icmp_le (tgt := 38) k (by decide) dX2_commonDivisor_5 (fun h => absurd h (by decide)) (fun _ => ?_)
            refine gs_aload_n (q := 1) k rfl rfl dX2_commonDivisor_8 ?_
            refine gs_get (C := RX2) (T := TX2) (N := 4) (ci := 2) (k0 := 58) (j := 2) k (hI 58 (by omega)) rfl rfl inX2 (by decide) fl_X2_15 rfl rfl dX2_commonDivisor_9 ?_
            refine gs_iload_n (q := 2) k rfl rfl dX2_commonDivisor_12 ?_
            refine gs_ialdN (k0 := 60) (n := 6) (e := j) k (hI 60 (by omega)) (fun _ => rfl) hy (by omega) (by decide) dX2_commonDivisor_13 ?_
            refine gs_iload_n (q := 0) k rfl rfl dX2_commonDivisor_14 ?_
            refine gs_irem k (by decide) dX2_commonDivisor_15 ?_
            refine gs_if_ne (tgt := 32) k (by decide) dX2_commonDivisor_16 (fun c8 => ?_) (fun c8 => ?_)
            · refine gs_iinc (q := 0) (v := 1) (lv' := [(2, .int 1), (0, .ref (E.2.2.1 58)), (1, .int y)]) k rfl (by decide) (by decide) rfl dX2_commonDivisor_32 ?_
              refine gs_goto (tgt := 3) k (by decide) dX2_commonDivisor_35 ?_
              refine gs_iload_n (q := 0) k rfl rfl dX2_commonDivisor_3 ?_
              refine gs_iconst (v := 1) k (by decide) dX2_commonDivisor_4 ?_
              refine gs_icmp_le (tgt := 38) k (by decide) dX2_commonDivisor_5 (fun _ => ?_) (fun h => absurd h (by decide))
              refine gs_iconst (v := 1) k (by decide) dX2_commonDivisor_38 ?_
              exact gs_iret k kt dX2_commonDivisor_39 ⟨(by rw [gdv, ifc_f (fun q => c1 q.1), ifc_f (fun q => c2 q.1), ifc_f (fun q => c3 q.1), ifc_f (fun q => c7 q.2), ifc_f (fun q => c8 q.1)]), rfl⟩
            · refine gs_aload_n (q := 1) k rfl rfl dX2_commonDivisor_19 ?_
              refine gs_get (C := RX2) (T := TX2) (N := 4) (ci := 2) (k0 := 58) (j := 3) k (hI 58 (by omega)) rfl rfl inX2 (by decide) fl_X2_18 rfl rfl dX2_commonDivisor_20 ?_
              refine gs_iload_n (q := 2) k rfl rfl dX2_commonDivisor_23 ?_
              refine gs_ialdN (k0 := 61) (n := 6) (e := j) k (hI 61 (by omega)) (fun _ => rfl) hy (by omega) (by decide) dX2_commonDivisor_24 ?_
              refine gs_iload_n (q := 0) k rfl rfl dX2_commonDivisor_25 ?_
              refine gs_irem k (by decide) dX2_commonDivisor_26 ?_
              refine gs_if_ne (tgt := 32) k (by decide) dX2_commonDivisor_27 (fun c9 => ?_) (fun c9 => ?_)
              · refine gs_iinc (q := 0) (v := 1) (lv' := [(2, .int 1), (0, .ref (E.2.2.1 58)), (1, .int y)]) k rfl (by decide) (by decide) rfl dX2_commonDivisor_32 ?_
                refine gs_goto (tgt := 3) k (by decide) dX2_commonDivisor_35 ?_
                refine gs_iload_n (q := 0) k rfl rfl dX2_commonDivisor_3 ?_
                refine gs_iconst (v := 1) k (by decide) dX2_commonDivisor_4 ?_
                refine gs_icmp_le (tgt := 38) k (by decide) dX2_commonDivisor_5 (fun _ => ?_) (fun h => absurd h (by decide))
                refine gs_iconst (v := 1) k (by decide) dX2_commonDivisor_38 ?_
                exact gs_iret k kt dX2_commonDivisor_39 ⟨(by rw [gdv, ifc_f (fun q => c1 q.1), ifc_f (fun q => c2 q.1), ifc_f (fun q => c3 q.1), ifc_f (fun q => c7 q.2), ifc_f (fun q => c9 q.2)]), rfl⟩
              · refine gs_iload_n (q := 0) k rfl rfl dX2_commonDivisor_30 ?_
                exact gs_iret k kt dX2_commonDivisor_31 ⟨(by rw [gdv, ifc_f (fun q => c1 q.1), ifc_f (fun q => c2 q.1), ifc_f (fun q => c3 q.1), ifc_f (fun q => c7 q.2), ifc_t ⟨c8, c9⟩]), rfl⟩
          · refine gs_iload_n (q := 0) k rfl rfl dX2_commonDivisor_30 ?_
            exact gs_iret k kt dX2_commonDivisor_31 ⟨(by rw [gdv, ifc_f (fun q => c1 q.1), ifc_f (fun q => c2 q.1), ifc_f (fun q => c3 q.1), ifc_t ⟨c4, c7⟩]), rfl⟩
      · refine gs_aload_n (q := 1) k rfl rfl dX2_commonDivisor_19 ?_
        refine gs_get (C := RX2) (T := TX2) (N := 4) (ci := 2) (k0 := 58) (j := 3) k (hI 58 (by omega)) rfl rfl inX2 (by decide) fl_X2_18 rfl rfl dX2_commonDivisor_20 ?_
        refine gs_iload_n (q := 2) k rfl rfl dX2_commonDivisor_23 ?_
        refine gs_ialdN (k0 := 61) (n := 6) (e := j) k (hI 61 (by omega)) (fun _ => rfl) hy (by omega) (by decide) dX2_commonDivisor_24 ?_
        refine gs_iload_n (q := 0) k rfl rfl dX2_commonDivisor_25 ?_
        refine gs_irem k (by decide) dX2_commonDivisor_26 ?_
        refine gs_if_ne (tgt := 32) k (by decide) dX2_commonDivisor_27 (fun c10 => ?_) (fun c10 => ?_)
        · refine gs_iinc (q := 0) (v := 3) (lv' := [(2, .int 3), (0, .ref (E.2.2.1 58)), (1, .int y)]) k rfl (by decide) (by decide) rfl dX2_commonDivisor_32 ?_
          refine gs_goto (tgt := 3) k (by decide) dX2_commonDivisor_35 ?_
          refine gs_iload_n (q := 0) k rfl rfl dX2_commonDivisor_3 ?_
          refine gs_iconst (v := 1) k (by decide) dX2_commonDivisor_4 ?_
          refine gs_icmp_le (tgt := 38) k (by decide) dX2_commonDivisor_5 (fun h => absurd h (by decide)) (fun _ => ?_)
          refine gs_aload_n (q := 1) k rfl rfl dX2_commonDivisor_8 ?_
          refine gs_get (C := RX2) (T := TX2) (N := 4) (ci := 2) (k0 := 58) (j := 2) k (hI 58 (by omega)) rfl rfl inX2 (by decide) fl_X2_15 rfl rfl dX2_commonDivisor_9 ?_
          refine gs_iload_n (q := 2) k rfl rfl dX2_commonDivisor_12 ?_
          refine gs_ialdN (k0 := 60) (n := 6) (e := j) k (hI 60 (by omega)) (fun _ => rfl) hy (by omega) (by decide) dX2_commonDivisor_13 ?_
          refine gs_iload_n (q := 0) k rfl rfl dX2_commonDivisor_14 ?_
          refine gs_irem k (by decide) dX2_commonDivisor_15 ?_
          refine gs_if_ne (tgt := 32) k (by decide) dX2_commonDivisor_16 (fun c11 => ?_) (fun c11 => ?_)
          · refine gs_iinc (q := 0) (v := 2) (lv' := [(2, .int 2), (0, .ref (E.2.2.1 58)), (1, .int y)]) k rfl (by decide) (by decide) rfl dX2_commonDivisor_32 ?_
            refine gs_goto (tgt := 3) k (by decide) dX2_commonDivisor_35 ?_
            refine gs_iload_n (q := 0) k rfl rfl dX2_commonDivisor_3 ?_
            refine gs_iconst (v := 1) k (by decide) dX2_commonDivisor_4 ?_
            refine gs_icmp_le (tgt := 38) k (by decide) dX2_commonDivisor_5 (fun h => absurd h (by decide)) (fun _ => ?_)
            refine gs_aload_n (q := 1) k rfl rfl dX2_commonDivisor_8 ?_
            refine gs_get (C := RX2) (T := TX2) (N := 4) (ci := 2) (k0 := 58) (j := 2) k (hI 58 (by omega)) rfl rfl inX2 (by decide) fl_X2_15 rfl rfl dX2_commonDivisor_9 ?_
            refine gs_iload_n (q := 2) k rfl rfl dX2_commonDivisor_12 ?_
            refine gs_ialdN (k0 := 60) (n := 6) (e := j) k (hI 60 (by omega)) (fun _ => rfl) hy (by omega) (by decide) dX2_commonDivisor_13 ?_
            refine gs_iload_n (q := 0) k rfl rfl dX2_commonDivisor_14 ?_
            refine gs_irem k (by decide) dX2_commonDivisor_15 ?_
            refine gs_if_ne (tgt := 32) k (by decide) dX2_commonDivisor_16 (fun c12 => ?_) (fun c12 => ?_)
            · refine gs_iinc (q := 0) (v := 1) (lv' := [(2, .int 1), (0, .ref (E.2.2.1 58)), (1, .int y)]) k rfl (by decide) (by decide) rfl dX2_commonDivisor_32 ?_
              refine gs_goto (tgt := 3) k (by decide) dX2_commonDivisor_35 ?_
              refine gs_iload_n (q := 0) k rfl rfl dX2_commonDivisor_3 ?_
              refine gs_iconst (v := 1) k (by decide) dX2_commonDivisor_4 ?_
              refine gs_icmp_le (tgt := 38) k (by decide) dX2_commonDivisor_5 (fun _ => ?_) (fun h => absurd h (by decide))
              refine gs_iconst (v := 1) k (by decide) dX2_commonDivisor_38 ?_
              exact gs_iret k kt dX2_commonDivisor_39 ⟨(by rw [gdv, ifc_f (fun q => c1 q.1), ifc_f (fun q => c2 q.1), ifc_f (fun q => c10 q.2), ifc_f (fun q => c11 q.1), ifc_f (fun q => c12 q.1)]), rfl⟩
            · refine gs_aload_n (q := 1) k rfl rfl dX2_commonDivisor_19 ?_
              refine gs_get (C := RX2) (T := TX2) (N := 4) (ci := 2) (k0 := 58) (j := 3) k (hI 58 (by omega)) rfl rfl inX2 (by decide) fl_X2_18 rfl rfl dX2_commonDivisor_20 ?_
              refine gs_iload_n (q := 2) k rfl rfl dX2_commonDivisor_23 ?_
              refine gs_ialdN (k0 := 61) (n := 6) (e := j) k (hI 61 (by omega)) (fun _ => rfl) hy (by omega) (by decide) dX2_commonDivisor_24 ?_
              refine gs_iload_n (q := 0) k rfl rfl dX2_commonDivisor_25 ?_
              refine gs_irem k (by decide) dX2_commonDivisor_26 ?_
              refine gs_if_ne (tgt := 32) k (by decide) dX2_commonDivisor_27 (fun c13 => ?_) (fun c13 => ?_)
              · refine gs_iinc (q := 0) (v := 1) (lv' := [(2, .int 1), (0, .ref (E.2.2.1 58)), (1, .int y)]) k rfl (by decide) (by decide) rfl dX2_commonDivisor_32 ?_
                refine gs_goto (tgt := 3) k (by decide) dX2_commonDivisor_35 ?_
                refine gs_iload_n (q := 0) k rfl rfl dX2_commonDivisor_3 ?_
                refine gs_iconst (v := 1) k (by decide) dX2_commonDivisor_4 ?_
                refine gs_icmp_le (tgt := 38) k (by decide) dX2_commonDivisor_5 (fun _ => ?_) (fun h => absurd h (by decide))
                refine gs_iconst (v := 1) k (by decide) dX2_commonDivisor_38 ?_
                exact gs_iret k kt dX2_commonDivisor_39 ⟨(by rw [gdv, ifc_f (fun q => c1 q.1), ifc_f (fun q => c2 q.1), ifc_f (fun q => c10 q.2), ifc_f (fun q => c11 q.1), ifc_f (fun q => c13 q.2)]), rfl⟩
              · refine gs_iload_n (q := 0) k rfl rfl dX2_commonDivisor_30 ?_
                exact gs_iret k kt dX2_commonDivisor_31 ⟨(by rw [gdv, ifc_f (fun q => c1 q.1), ifc_f (fun q => c2 q.1), ifc_f (fun q => c10 q.2), ifc_f (fun q => c11 q.1), ifc_t ⟨c12, c13⟩]), rfl⟩
          · refine gs_aload_n (q := 1) k rfl rfl dX2_commonDivisor_19 ?_
            refine gs_get (C := RX2) (T := TX2) (N := 4) (ci := 2) (k0 := 58) (j := 3) k (hI 58 (by omega)) rfl rfl inX2 (by decide) fl_X2_18 rfl rfl dX2_commonDivisor_20 ?_
            refine gs_iload_n (q := 2) k rfl rfl dX2_commonDivisor_23 ?_
            refine gs_ialdN (k0 := 61) (n := 6) (e := j) k (hI 61 (by omega)) (fun _ => rfl) hy (by omega) (by decide) dX2_commonDivisor_24 ?_
            refine gs_iload_n (q := 0) k rfl rfl dX2_commonDivisor_25 ?_
            refine gs_irem k (by decide) dX2_commonDivisor_26 ?_
            refine gs_if_ne (tgt := 32) k (by decide) dX2_commonDivisor_27 (fun c14 => ?_) (fun c14 => ?_)
            · refine gs_iinc (q := 0) (v := 2) (lv' := [(2, .int 2), (0, .ref (E.2.2.1 58)), (1, .int y)]) k rfl (by decide) (by decide) rfl dX2_commonDivisor_32 ?_
              refine gs_goto (tgt := 3) k (by decide) dX2_commonDivisor_35 ?_
              refine gs_iload_n (q := 0) k rfl rfl dX2_commonDivisor_3 ?_
              refine gs_iconst (v := 1) k (by decide) dX2_commonDivisor_4 ?_
              refine gs_icmp_le (tgt := 38) k (by decide) dX2_commonDivisor_5 (fun h => absurd h (by decide)) (fun _ => ?_)
              refine gs_aload_n (q := 1) k rfl rfl dX2_commonDivisor_8 ?_
              refine gs_get (C := RX2) (T := TX2) (N := 4) (ci := 2) (k0 := 58) (j := 2) k (hI 58 (by omega)) rfl rfl inX2 (by decide) fl_X2_15 rfl rfl dX2_commonDivisor_9 ?_
              refine gs_iload_n (q := 2) k rfl rfl dX2_commonDivisor_12 ?_
              refine gs_ialdN (k0 := 60) (n := 6) (e := j) k (hI 60 (by omega)) (fun _ => rfl) hy (by omega) (by decide) dX2_commonDivisor_13 ?_
              refine gs_iload_n (q := 0) k rfl rfl dX2_commonDivisor_14 ?_
              refine gs_irem k (by decide) dX2_commonDivisor_15 ?_
              refine gs_if_ne (tgt := 32) k (by decide) dX2_commonDivisor_16 (fun c15 => ?_) (fun c15 => ?_)
              · refine gs_iinc (q := 0) (v := 1) (lv' := [(2, .int 1), (0, .ref (E.2.2.1 58)), (1, .int y)]) k rfl (by decide) (by decide) rfl dX2_commonDivisor_32 ?_
                refine gs_goto (tgt := 3) k (by decide) dX2_commonDivisor_35 ?_
                refine gs_iload_n (q := 0) k rfl rfl dX2_commonDivisor_3 ?_
                refine gs_iconst (v := 1) k (by decide) dX2_commonDivisor_4 ?_
                refine gs_icmp_le (tgt := 38) k (by decide) dX2_commonDivisor_5 (fun _ => ?_) (fun h => absurd h (by decide))
                refine gs_iconst (v := 1) k (by decide) dX2_commonDivisor_38 ?_
                exact gs_iret k kt dX2_commonDivisor_39 ⟨(by rw [gdv, ifc_f (fun q => c1 q.1), ifc_f (fun q => c2 q.1), ifc_f (fun q => c10 q.2), ifc_f (fun q => c14 q.2), ifc_f (fun q => c15 q.1)]), rfl⟩
              · refine gs_aload_n (q := 1) k rfl rfl dX2_commonDivisor_19 ?_
                refine gs_get (C := RX2) (T := TX2) (N := 4) (ci := 2) (k0 := 58) (j := 3) k (hI 58 (by omega)) rfl rfl inX2 (by decide) fl_X2_18 rfl rfl dX2_commonDivisor_20 ?_
                refine gs_iload_n (q := 2) k rfl rfl dX2_commonDivisor_23 ?_
                refine gs_ialdN (k0 := 61) (n := 6) (e := j) k (hI 61 (by omega)) (fun _ => rfl) hy (by omega) (by decide) dX2_commonDivisor_24 ?_
                refine gs_iload_n (q := 0) k rfl rfl dX2_commonDivisor_25 ?_
                refine gs_irem k (by decide) dX2_commonDivisor_26 ?_
                refine gs_if_ne (tgt := 32) k (by decide) dX2_commonDivisor_27 (fun c16 => ?_) (fun c16 => ?_)
                · refine gs_iinc (q := 0) (v := 1) (lv' := [(2, .int 1), (0, .ref (E.2.2.1 58)), (1, .int y)]) k rfl (by decide) (by decide) rfl dX2_commonDivisor_32 ?_
                  refine gs_goto (tgt := 3) k (by decide) dX2_commonDivisor_35 ?_
                  refine gs_iload_n (q := 0) k rfl rfl dX2_commonDivisor_3 ?_
                  refine gs_iconst (v := 1) k (by decide) dX2_commonDivisor_4 ?_
                  refine gs_icmp_le (tgt := 38) k (by decide) dX2_commonDivisor_5 (fun _ => ?_) (fun h => absurd h (by decide))
                  refine gs_iconst (v := 1) k (by decide) dX2_commonDivisor_38 ?_
                  exact gs_iret k kt dX2_commonDivisor_39 ⟨(by rw [gdv, ifc_f (fun q => c1 q.1), ifc_f (fun q => c2 q.1), ifc_f (fun q => c10 q.2), ifc_f (fun q => c14 q.2), ifc_f (fun q => c16 q.2)]), rfl⟩
                · refine gs_iload_n (q := 0) k rfl rfl dX2_commonDivisor_30 ?_
                  exact gs_iret k kt dX2_commonDivisor_31 ⟨(by rw [gdv, ifc_f (fun q => c1 q.1), ifc_f (fun q => c2 q.1), ifc_f (fun q => c10 q.2), ifc_f (fun q => c14 q.2), ifc_t ⟨c15, c16⟩]), rfl⟩
            · refine gs_iload_n (q := 0) k rfl rfl dX2_commonDivisor_30 ?_
              exact gs_iret k kt dX2_commonDivisor_31 ⟨(by rw [gdv, ifc_f (fun q => c1 q.1), ifc_f (fun q => c2 q.1), ifc_f (fun q => c10 q.2), ifc_t ⟨c11, c14⟩]), rfl⟩
        · refine gs_iload_n (q := 0) k rfl rfl dX2_commonDivisor_30 ?_
          exact gs_iret k kt dX2_commonDivisor_31 ⟨(by rw [gdv, ifc_f (fun q => c1 q.1), ifc_f (fun q => c2 q.1), ifc_t ⟨c3, c10⟩]), rfl⟩
    · refine gs_aload_n (q := 1) k rfl rfl dX2_commonDivisor_19 ?_
      refine gs_get (C := RX2) (T := TX2) (N := 4) (ci := 2) (k0 := 58) (j := 3) k (hI 58 (by omega)) rfl rfl inX2 (by decide) fl_X2_18 rfl rfl dX2_commonDivisor_20 ?_
      refine gs_iload_n (q := 2) k rfl rfl dX2_commonDivisor_23 ?_
      refine gs_ialdN (k0 := 61) (n := 6) (e := j) k (hI 61 (by omega)) (fun _ => rfl) hy (by omega) (by decide) dX2_commonDivisor_24 ?_
      refine gs_iload_n (q := 0) k rfl rfl dX2_commonDivisor_25 ?_
      refine gs_irem k (by decide) dX2_commonDivisor_26 ?_
      refine gs_if_ne (tgt := 32) k (by decide) dX2_commonDivisor_27 (fun c17 => ?_) (fun c17 => ?_)
      · refine gs_iinc (q := 0) (v := 4) (lv' := [(2, .int 4), (0, .ref (E.2.2.1 58)), (1, .int y)]) k rfl (by decide) (by decide) rfl dX2_commonDivisor_32 ?_
        refine gs_goto (tgt := 3) k (by decide) dX2_commonDivisor_35 ?_
        refine gs_iload_n (q := 0) k rfl rfl dX2_commonDivisor_3 ?_
        refine gs_iconst (v := 1) k (by decide) dX2_commonDivisor_4 ?_
        refine gs_icmp_le (tgt := 38) k (by decide) dX2_commonDivisor_5 (fun h => absurd h (by decide)) (fun _ => ?_)
        refine gs_aload_n (q := 1) k rfl rfl dX2_commonDivisor_8 ?_
        refine gs_get (C := RX2) (T := TX2) (N := 4) (ci := 2) (k0 := 58) (j := 2) k (hI 58 (by omega)) rfl rfl inX2 (by decide) fl_X2_15 rfl rfl dX2_commonDivisor_9 ?_
        refine gs_iload_n (q := 2) k rfl rfl dX2_commonDivisor_12 ?_
        refine gs_ialdN (k0 := 60) (n := 6) (e := j) k (hI 60 (by omega)) (fun _ => rfl) hy (by omega) (by decide) dX2_commonDivisor_13 ?_
        refine gs_iload_n (q := 0) k rfl rfl dX2_commonDivisor_14 ?_
        refine gs_irem k (by decide) dX2_commonDivisor_15 ?_
        refine gs_if_ne (tgt := 32) k (by decide) dX2_commonDivisor_16 (fun c18 => ?_) (fun c18 => ?_)
        · refine gs_iinc (q := 0) (v := 3) (lv' := [(2, .int 3), (0, .ref (E.2.2.1 58)), (1, .int y)]) k rfl (by decide) (by decide) rfl dX2_commonDivisor_32 ?_
          refine gs_goto (tgt := 3) k (by decide) dX2_commonDivisor_35 ?_
          refine gs_iload_n (q := 0) k rfl rfl dX2_commonDivisor_3 ?_
          refine gs_iconst (v := 1) k (by decide) dX2_commonDivisor_4 ?_
          refine gs_icmp_le (tgt := 38) k (by decide) dX2_commonDivisor_5 (fun h => absurd h (by decide)) (fun _ => ?_)
          refine gs_aload_n (q := 1) k rfl rfl dX2_commonDivisor_8 ?_
          refine gs_get (C := RX2) (T := TX2) (N := 4) (ci := 2) (k0 := 58) (j := 2) k (hI 58 (by omega)) rfl rfl inX2 (by decide) fl_X2_15 rfl rfl dX2_commonDivisor_9 ?_
          refine gs_iload_n (q := 2) k rfl rfl dX2_commonDivisor_12 ?_
          refine gs_ialdN (k0 := 60) (n := 6) (e := j) k (hI 60 (by omega)) (fun _ => rfl) hy (by omega) (by decide) dX2_commonDivisor_13 ?_
          refine gs_iload_n (q := 0) k rfl rfl dX2_commonDivisor_14 ?_
          refine gs_irem k (by decide) dX2_commonDivisor_15 ?_
          refine gs_if_ne (tgt := 32) k (by decide) dX2_commonDivisor_16 (fun c19 => ?_) (fun c19 => ?_)
          · refine gs_iinc (q := 0) (v := 2) (lv' := [(2, .int 2), (0, .ref (E.2.2.1 58)), (1, .int y)]) k rfl (by decide) (by decide) rfl dX2_commonDivisor_32 ?_
            refine gs_goto (tgt := 3) k (by decide) dX2_commonDivisor_35 ?_
            refine gs_iload_n (q := 0) k rfl rfl dX2_commonDivisor_3 ?_
            refine gs_iconst (v := 1) k (by decide) dX2_commonDivisor_4 ?_
            refine gs_icmp_le (tgt := 38) k (by decide) dX2_commonDivisor_5 (fun h => absurd h (by decide)) (fun _ => ?_)
            refine gs_aload_n (q := 1) k rfl rfl dX2_commonDivisor_8 ?_
            refine gs_get (C := RX2) (T := TX2) (N := 4) (ci := 2) (k0 := 58) (j := 2) k (hI 58 (by omega)) rfl rfl inX2 (by decide) fl_X2_15 rfl rfl dX2_commonDivisor_9 ?_
            refine gs_iload_n (q := 2) k rfl rfl dX2_commonDivisor_12 ?_
            refine gs_ialdN (k0 := 60) (n := 6) (e := j) k (hI 60 (by omega)) (fun _ => rfl) hy (by omega) (by decide) dX2_commonDivisor_13 ?_
            refine gs_iload_n (q := 0) k rfl rfl dX2_commonDivisor_14 ?_
            refine gs_irem k (by decide) dX2_commonDivisor_15 ?_
            refine gs_if_ne (tgt := 32) k (by decide) dX2_commonDivisor_16 (fun c20 => ?_) (fun c20 => ?_)
            · refine gs_iinc (q := 0) (v := 1) (lv' := [(2, .int 1), (0, .ref (E.2.2.1 58)), (1, .int y)]) k rfl (by decide) (by decide) rfl dX2_commonDivisor_32 ?_
              refine gs_goto (tgt := 3) k (by decide) dX2_commonDivisor_35 ?_
              refine gs_iload_n (q := 0) k rfl rfl dX2_commonDivisor_3 ?_
              refine gs_iconst (v := 1) k (by decide) dX2_commonDivisor_4 ?_
              refine gs_icmp_le (tgt := 38) k (by decide) dX2_commonDivisor_5 (fun _ => ?_) (fun h => absurd h (by decide))
              refine gs_iconst (v := 1) k (by decide) dX2_commonDivisor_38 ?_
              exact gs_iret k kt dX2_commonDivisor_39 ⟨(by rw [gdv, ifc_f (fun q => c1 q.1), ifc_f (fun q => c17 q.2), ifc_f (fun q => c18 q.1), ifc_f (fun q => c19 q.1), ifc_f (fun q => c20 q.1)]), rfl⟩
            · refine gs_aload_n (q := 1) k rfl rfl dX2_commonDivisor_19 ?_
              refine gs_get (C := RX2) (T := TX2) (N := 4) (ci := 2) (k0 := 58) (j := 3) k (hI 58 (by omega)) rfl rfl inX2 (by decide) fl_X2_18 rfl rfl dX2_commonDivisor_20 ?_
              refine gs_iload_n (q := 2) k rfl rfl dX2_commonDivisor_23 ?_
              refine gs_ialdN (k0 := 61) (n := 6) (e := j) k (hI 61 (by omega)) (fun _ => rfl) hy (by omega) (by decide) dX2_commonDivisor_24 ?_
              refine gs_iload_n (q := 0) k rfl rfl dX2_commonDivisor_25 ?_
              refine gs_irem k (by decide) dX2_commonDivisor_26 ?_
              refine gs_if_ne (tgt := 32) k (by decide) dX2_commonDivisor_27 (fun c21 => ?_) (fun c21 => ?_)
              · refine gs_iinc (q := 0) (v := 1) (lv' := [(2, .int 1), (0, .ref (E.2.2.1 58)), (1, .int y)]) k rfl (by decide) (by decide) rfl dX2_commonDivisor_32 ?_
                refine gs_goto (tgt := 3) k (by decide) dX2_commonDivisor_35 ?_
                refine gs_iload_n (q := 0) k rfl rfl dX2_commonDivisor_3 ?_
                refine gs_iconst (v := 1) k (by decide) dX2_commonDivisor_4 ?_
                refine gs_icmp_le (tgt := 38) k (by decide) dX2_commonDivisor_5 (fun _ => ?_) (fun h => absurd h (by decide))
                refine gs_iconst (v := 1) k (by decide) dX2_commonDivisor_38 ?_
                exact gs_iret k kt dX2_commonDivisor_39 ⟨(by rw [gdv, ifc_f (fun q => c1 q.1), ifc_f (fun q => c17 q.2), ifc_f (fun q => c18 q.1), ifc_f (fun q => c19 q.1), ifc_f (fun q => c21 q.2)]), rfl⟩
              · refine gs_iload_n (q := 0) k rfl rfl dX2_commonDivisor_30 ?_
                exact gs_iret k kt dX2_commonDivisor_31 ⟨(by rw [gdv, ifc_f (fun q => c1 q.1), ifc_f (fun q => c17 q.2), ifc_f (fun q => c18 q.1), ifc_f (fun q => c19 q.1), ifc_t ⟨c20, c21⟩]), rfl⟩
          · refine gs_aload_n (q := 1) k rfl rfl dX2_commonDivisor_19 ?_
            refine gs_get (C := RX2) (T := TX2) (N := 4) (ci := 2) (k0 := 58) (j := 3) k (hI 58 (by omega)) rfl rfl inX2 (by decide) fl_X2_18 rfl rfl dX2_commonDivisor_20 ?_
            refine gs_iload_n (q := 2) k rfl rfl dX2_commonDivisor_23 ?_
            refine gs_ialdN (k0 := 61) (n := 6) (e := j) k (hI 61 (by omega)) (fun _ => rfl) hy (by omega) (by decide) dX2_commonDivisor_24 ?_
            refine gs_iload_n (q := 0) k rfl rfl dX2_commonDivisor_25 ?_
            refine gs_irem k (by decide) dX2_commonDivisor_26 ?_
            refine gs_if_ne (tgt := 32) k (by decide) dX2_commonDivisor_27 (fun c22 => ?_) (fun c22 => ?_)
            · refine gs_iinc (q := 0) (v := 2) (lv' := [(2, .int 2), (0, .ref (E.2.2.1 58)), (1, .int y)]) k rfl (by decide) (by decide) rfl dX2_commonDivisor_32 ?_
              refine gs_goto (tgt := 3) k (by decide) dX2_commonDivisor_35 ?_
              refine gs_iload_n (q := 0) k rfl rfl dX2_commonDivisor_3 ?_
              refine gs_iconst (v := 1) k (by decide) dX2_commonDivisor_4 ?_
              refine gs_icmp_le (tgt := 38) k (by decide) dX2_commonDivisor_5 (fun h => absurd h (by decide)) (fun _ => ?_)
              refine gs_aload_n (q := 1) k rfl rfl dX2_commonDivisor_8 ?_
              refine gs_get (C := RX2) (T := TX2) (N := 4) (ci := 2) (k0 := 58) (j := 2) k (hI 58 (by omega)) rfl rfl inX2 (by decide) fl_X2_15 rfl rfl dX2_commonDivisor_9 ?_
              refine gs_iload_n (q := 2) k rfl rfl dX2_commonDivisor_12 ?_
              refine gs_ialdN (k0 := 60) (n := 6) (e := j) k (hI 60 (by omega)) (fun _ => rfl) hy (by omega) (by decide) dX2_commonDivisor_13 ?_
              refine gs_iload_n (q := 0) k rfl rfl dX2_commonDivisor_14 ?_
              refine gs_irem k (by decide) dX2_commonDivisor_15 ?_
              refine gs_if_ne (tgt := 32) k (by decide) dX2_commonDivisor_16 (fun c23 => ?_) (fun c23 => ?_)
              · refine gs_iinc (q := 0) (v := 1) (lv' := [(2, .int 1), (0, .ref (E.2.2.1 58)), (1, .int y)]) k rfl (by decide) (by decide) rfl dX2_commonDivisor_32 ?_
                refine gs_goto (tgt := 3) k (by decide) dX2_commonDivisor_35 ?_
                refine gs_iload_n (q := 0) k rfl rfl dX2_commonDivisor_3 ?_
                refine gs_iconst (v := 1) k (by decide) dX2_commonDivisor_4 ?_
                refine gs_icmp_le (tgt := 38) k (by decide) dX2_commonDivisor_5 (fun _ => ?_) (fun h => absurd h (by decide))
                refine gs_iconst (v := 1) k (by decide) dX2_commonDivisor_38 ?_
                exact gs_iret k kt dX2_commonDivisor_39 ⟨(by rw [gdv, ifc_f (fun q => c1 q.1), ifc_f (fun q => c17 q.2), ifc_f (fun q => c18 q.1), ifc_f (fun q => c22 q.2), ifc_f (fun q => c23 q.1)]), rfl⟩
              · refine gs_aload_n (q := 1) k rfl rfl dX2_commonDivisor_19 ?_
                refine gs_get (C := RX2) (T := TX2) (N := 4) (ci := 2) (k0 := 58) (j := 3) k (hI 58 (by omega)) rfl rfl inX2 (by decide) fl_X2_18 rfl rfl dX2_commonDivisor_20 ?_
                refine gs_iload_n (q := 2) k rfl rfl dX2_commonDivisor_23 ?_
                refine gs_ialdN (k0 := 61) (n := 6) (e := j) k (hI 61 (by omega)) (fun _ => rfl) hy (by omega) (by decide) dX2_commonDivisor_24 ?_
                refine gs_iload_n (q := 0) k rfl rfl dX2_commonDivisor_25 ?_
                refine gs_irem k (by decide) dX2_commonDivisor_26 ?_
                refine gs_if_ne (tgt := 32) k (by decide) dX2_commonDivisor_27 (fun c24 => ?_) (fun c24 => ?_)
                · refine gs_iinc (q := 0) (v := 1) (lv' := [(2, .int 1), (0, .ref (E.2.2.1 58)), (1, .int y)]) k rfl (by decide) (by decide) rfl dX2_commonDivisor_32 ?_
                  refine gs_goto (tgt := 3) k (by decide) dX2_commonDivisor_35 ?_
                  refine gs_iload_n (q := 0) k rfl rfl dX2_commonDivisor_3 ?_
                  refine gs_iconst (v := 1) k (by decide) dX2_commonDivisor_4 ?_
                  refine gs_icmp_le (tgt := 38) k (by decide) dX2_commonDivisor_5 (fun _ => ?_) (fun h => absurd h (by decide))
                  refine gs_iconst (v := 1) k (by decide) dX2_commonDivisor_38 ?_
                  exact gs_iret k kt dX2_commonDivisor_39 ⟨(by rw [gdv, ifc_f (fun q => c1 q.1), ifc_f (fun q => c17 q.2), ifc_f (fun q => c18 q.1), ifc_f (fun q => c22 q.2), ifc_f (fun q => c24 q.2)]), rfl⟩
                · refine gs_iload_n (q := 0) k rfl rfl dX2_commonDivisor_30 ?_
                  exact gs_iret k kt dX2_commonDivisor_31 ⟨(by rw [gdv, ifc_f (fun q => c1 q.1), ifc_f (fun q => c17 q.2), ifc_f (fun q => c18 q.1), ifc_f (fun q => c22 q.2), ifc_t ⟨c23, c24⟩]), rfl⟩
            · refine gs_iload_n (q := 0) k rfl rfl dX2_commonDivisor_30 ?_
              exact gs_iret k kt dX2_commonDivisor_31 ⟨(by rw [gdv, ifc_f (fun q => c1 q.1), ifc_f (fun q => c17 q.2), ifc_f (fun q => c18 q.1), ifc_t ⟨c19, c22⟩]), rfl⟩
        · refine gs_aload_n (q := 1) k rfl rfl dX2_commonDivisor_19 ?_
          refine gs_get (C := RX2) (T := TX2) (N := 4) (ci := 2) (k0 := 58) (j := 3) k (hI 58 (by omega)) rfl rfl inX2 (by decide) fl_X2_18 rfl rfl dX2_commonDivisor_20 ?_
          refine gs_iload_n (q := 2) k rfl rfl dX2_commonDivisor_23 ?_
          refine gs_ialdN (k0 := 61) (n := 6) (e := j) k (hI 61 (by omega)) (fun _ => rfl) hy (by omega) (by decide) dX2_commonDivisor_24 ?_
          refine gs_iload_n (q := 0) k rfl rfl dX2_commonDivisor_25 ?_
          refine gs_irem k (by decide) dX2_commonDivisor_26 ?_
          refine gs_if_ne (tgt := 32) k (by decide) dX2_commonDivisor_27 (fun c25 => ?_) (fun c25 => ?_)
          · refine gs_iinc (q := 0) (v := 3) (lv' := [(2, .int 3), (0, .ref (E.2.2.1 58)), (1, .int y)]) k rfl (by decide) (by decide) rfl dX2_commonDivisor_32 ?_
            refine gs_goto (tgt := 3) k (by decide) dX2_commonDivisor_35 ?_
            refine gs_iload_n (q := 0) k rfl rfl dX2_commonDivisor_3 ?_
            refine gs_iconst (v := 1) k (by decide) dX2_commonDivisor_4 ?_
            refine gs_icmp_le (tgt := 38) k (by decide) dX2_commonDivisor_5 (fun h => absurd h (by decide)) (fun _ => ?_)
            refine gs_aload_n (q := 1) k rfl rfl dX2_commonDivisor_8 ?_
            refine gs_get (C := RX2) (T := TX2) (N := 4) (ci := 2) (k0 := 58) (j := 2) k (hI 58 (by omega)) rfl rfl inX2 (by decide) fl_X2_15 rfl rfl dX2_commonDivisor_9 ?_
            refine gs_iload_n (q := 2) k rfl rfl dX2_commonDivisor_12 ?_
            refine gs_ialdN (k0 := 60) (n := 6) (e := j) k (hI 60 (by omega)) (fun _ => rfl) hy (by omega) (by decide) dX2_commonDivisor_13 ?_
            refine gs_iload_n (q := 0) k rfl rfl dX2_commonDivisor_14 ?_
            refine gs_irem k (by decide) dX2_commonDivisor_15 ?_
            refine gs_if_ne (tgt := 32) k (by decide) dX2_commonDivisor_16 (fun c26 => ?_) (fun c26 => ?_)
            · refine gs_iinc (q := 0) (v := 2) (lv' := [(2, .int 2), (0, .ref (E.2.2.1 58)), (1, .int y)]) k rfl (by decide) (by decide) rfl dX2_commonDivisor_32 ?_
              refine gs_goto (tgt := 3) k (by decide) dX2_commonDivisor_35 ?_
              refine gs_iload_n (q := 0) k rfl rfl dX2_commonDivisor_3 ?_
              refine gs_iconst (v := 1) k (by decide) dX2_commonDivisor_4 ?_
              refine gs_icmp_le (tgt := 38) k (by decide) dX2_commonDivisor_5 (fun h => absurd h (by decide)) (fun _ => ?_)
              refine gs_aload_n (q := 1) k rfl rfl dX2_commonDivisor_8 ?_
              refine gs_get (C := RX2) (T := TX2) (N := 4) (ci := 2) (k0 := 58) (j := 2) k (hI 58 (by omega)) rfl rfl inX2 (by decide) fl_X2_15 rfl rfl dX2_commonDivisor_9 ?_
              refine gs_iload_n (q := 2) k rfl rfl dX2_commonDivisor_12 ?_
              refine gs_ialdN (k0 := 60) (n := 6) (e := j) k (hI 60 (by omega)) (fun _ => rfl) hy (by omega) (by decide) dX2_commonDivisor_13 ?_
              refine gs_iload_n (q := 0) k rfl rfl dX2_commonDivisor_14 ?_
              refine gs_irem k (by decide) dX2_commonDivisor_15 ?_
              refine gs_if_ne (tgt := 32) k (by decide) dX2_commonDivisor_16 (fun c27 => ?_) (fun c27 => ?_)
              · refine gs_iinc (q := 0) (v := 1) (lv' := [(2, .int 1), (0, .ref (E.2.2.1 58)), (1, .int y)]) k rfl (by decide) (by decide) rfl dX2_commonDivisor_32 ?_
                refine gs_goto (tgt := 3) k (by decide) dX2_commonDivisor_35 ?_
                refine gs_iload_n (q := 0) k rfl rfl dX2_commonDivisor_3 ?_
                refine gs_iconst (v := 1) k (by decide) dX2_commonDivisor_4 ?_
                refine gs_icmp_le (tgt := 38) k (by decide) dX2_commonDivisor_5 (fun _ => ?_) (fun h => absurd h (by decide))
                refine gs_iconst (v := 1) k (by decide) dX2_commonDivisor_38 ?_
                exact gs_iret k kt dX2_commonDivisor_39 ⟨(by rw [gdv, ifc_f (fun q => c1 q.1), ifc_f (fun q => c17 q.2), ifc_f (fun q => c25 q.2), ifc_f (fun q => c26 q.1), ifc_f (fun q => c27 q.1)]), rfl⟩
              · refine gs_aload_n (q := 1) k rfl rfl dX2_commonDivisor_19 ?_
                refine gs_get (C := RX2) (T := TX2) (N := 4) (ci := 2) (k0 := 58) (j := 3) k (hI 58 (by omega)) rfl rfl inX2 (by decide) fl_X2_18 rfl rfl dX2_commonDivisor_20 ?_
                refine gs_iload_n (q := 2) k rfl rfl dX2_commonDivisor_23 ?_
                refine gs_ialdN (k0 := 61) (n := 6) (e := j) k (hI 61 (by omega)) (fun _ => rfl) hy (by omega) (by decide) dX2_commonDivisor_24 ?_
                refine gs_iload_n (q := 0) k rfl rfl dX2_commonDivisor_25 ?_
                refine gs_irem k (by decide) dX2_commonDivisor_26 ?_
                refine gs_if_ne (tgt := 32) k (by decide) dX2_commonDivisor_27 (fun c28 => ?_) (fun c28 => ?_)
                · refine gs_iinc (q := 0) (v := 1) (lv' := [(2, .int 1), (0, .ref (E.2.2.1 58)), (1, .int y)]) k rfl (by decide) (by decide) rfl dX2_commonDivisor_32 ?_
                  refine gs_goto (tgt := 3) k (by decide) dX2_commonDivisor_35 ?_
                  refine gs_iload_n (q := 0) k rfl rfl dX2_commonDivisor_3 ?_
                  refine gs_iconst (v := 1) k (by decide) dX2_commonDivisor_4 ?_
                  refine gs_icmp_le (tgt := 38) k (by decide) dX2_commonDivisor_5 (fun _ => ?_) (fun h => absurd h (by decide))
                  refine gs_iconst (v := 1) k (by decide) dX2_commonDivisor_38 ?_
                  exact gs_iret k kt dX2_commonDivisor_39 ⟨(by rw [gdv, ifc_f (fun q => c1 q.1), ifc_f (fun q => c17 q.2), ifc_f (fun q => c25 q.2), ifc_f (fun q => c26 q.1), ifc_f (fun q => c28 q.2)]), rfl⟩
                · refine gs_iload_n (q := 0) k rfl rfl dX2_commonDivisor_30 ?_
                  exact gs_iret k kt dX2_commonDivisor_31 ⟨(by rw [gdv, ifc_f (fun q => c1 q.1), ifc_f (fun q => c17 q.2), ifc_f (fun q => c25 q.2), ifc_f (fun q => c26 q.1), ifc_t ⟨c27, c28⟩]), rfl⟩
            · refine gs_aload_n (q := 1) k rfl rfl dX2_commonDivisor_19 ?_
              refine gs_get (C := RX2) (T := TX2) (N := 4) (ci := 2) (k0 := 58) (j := 3) k (hI 58 (by omega)) rfl rfl inX2 (by decide) fl_X2_18 rfl rfl dX2_commonDivisor_20 ?_
              refine gs_iload_n (q := 2) k rfl rfl dX2_commonDivisor_23 ?_
              refine gs_ialdN (k0 := 61) (n := 6) (e := j) k (hI 61 (by omega)) (fun _ => rfl) hy (by omega) (by decide) dX2_commonDivisor_24 ?_
              refine gs_iload_n (q := 0) k rfl rfl dX2_commonDivisor_25 ?_
              refine gs_irem k (by decide) dX2_commonDivisor_26 ?_
              refine gs_if_ne (tgt := 32) k (by decide) dX2_commonDivisor_27 (fun c29 => ?_) (fun c29 => ?_)
              · refine gs_iinc (q := 0) (v := 2) (lv' := [(2, .int 2), (0, .ref (E.2.2.1 58)), (1, .int y)]) k rfl (by decide) (by decide) rfl dX2_commonDivisor_32 ?_
                refine gs_goto (tgt := 3) k (by decide) dX2_commonDivisor_35 ?_
                refine gs_iload_n (q := 0) k rfl rfl dX2_commonDivisor_3 ?_
                refine gs_iconst (v := 1) k (by decide) dX2_commonDivisor_4 ?_
                refine gs_icmp_le (tgt := 38) k (by decide) dX2_commonDivisor_5 (fun h => absurd h (by decide)) (fun _ => ?_)
                refine gs_aload_n (q := 1) k rfl rfl dX2_commonDivisor_8 ?_
                refine gs_get (C := RX2) (T := TX2) (N := 4) (ci := 2) (k0 := 58) (j := 2) k (hI 58 (by omega)) rfl rfl inX2 (by decide) fl_X2_15 rfl rfl dX2_commonDivisor_9 ?_
                refine gs_iload_n (q := 2) k rfl rfl dX2_commonDivisor_12 ?_
                refine gs_ialdN (k0 := 60) (n := 6) (e := j) k (hI 60 (by omega)) (fun _ => rfl) hy (by omega) (by decide) dX2_commonDivisor_13 ?_
                refine gs_iload_n (q := 0) k rfl rfl dX2_commonDivisor_14 ?_
                refine gs_irem k (by decide) dX2_commonDivisor_15 ?_
                refine gs_if_ne (tgt := 32) k (by decide) dX2_commonDivisor_16 (fun c30 => ?_) (fun c30 => ?_)
                · refine gs_iinc (q := 0) (v := 1) (lv' := [(2, .int 1), (0, .ref (E.2.2.1 58)), (1, .int y)]) k rfl (by decide) (by decide) rfl dX2_commonDivisor_32 ?_
                  refine gs_goto (tgt := 3) k (by decide) dX2_commonDivisor_35 ?_
                  refine gs_iload_n (q := 0) k rfl rfl dX2_commonDivisor_3 ?_
                  refine gs_iconst (v := 1) k (by decide) dX2_commonDivisor_4 ?_
                  refine gs_icmp_le (tgt := 38) k (by decide) dX2_commonDivisor_5 (fun _ => ?_) (fun h => absurd h (by decide))
                  refine gs_iconst (v := 1) k (by decide) dX2_commonDivisor_38 ?_
                  exact gs_iret k kt dX2_commonDivisor_39 ⟨(by rw [gdv, ifc_f (fun q => c1 q.1), ifc_f (fun q => c17 q.2), ifc_f (fun q => c25 q.2), ifc_f (fun q => c29 q.2), ifc_f (fun q => c30 q.1)]), rfl⟩
                · refine gs_aload_n (q := 1) k rfl rfl dX2_commonDivisor_19 ?_
                  refine gs_get (C := RX2) (T := TX2) (N := 4) (ci := 2) (k0 := 58) (j := 3) k (hI 58 (by omega)) rfl rfl inX2 (by decide) fl_X2_18 rfl rfl dX2_commonDivisor_20 ?_
                  refine gs_iload_n (q := 2) k rfl rfl dX2_commonDivisor_23 ?_
                  refine gs_ialdN (k0 := 61) (n := 6) (e := j) k (hI 61 (by omega)) (fun _ => rfl) hy (by omega) (by decide) dX2_commonDivisor_24 ?_
                  refine gs_iload_n (q := 0) k rfl rfl dX2_commonDivisor_25 ?_
                  refine gs_irem k (by decide) dX2_commonDivisor_26 ?_
                  refine gs_if_ne (tgt := 32) k (by decide) dX2_commonDivisor_27 (fun c31 => ?_) (fun c31 => ?_)
                  · refine gs_iinc (q := 0) (v := 1) (lv' := [(2, .int 1), (0, .ref (E.2.2.1 58)), (1, .int y)]) k rfl (by decide) (by decide) rfl dX2_commonDivisor_32 ?_
                    refine gs_goto (tgt := 3) k (by decide) dX2_commonDivisor_35 ?_
                    refine gs_iload_n (q := 0) k rfl rfl dX2_commonDivisor_3 ?_
                    refine gs_iconst (v := 1) k (by decide) dX2_commonDivisor_4 ?_
                    refine gs_icmp_le (tgt := 38) k (by decide) dX2_commonDivisor_5 (fun _ => ?_) (fun h => absurd h (by decide))
                    refine gs_iconst (v := 1) k (by decide) dX2_commonDivisor_38 ?_
                    exact gs_iret k kt dX2_commonDivisor_39 ⟨(by rw [gdv, ifc_f (fun q => c1 q.1), ifc_f (fun q => c17 q.2), ifc_f (fun q => c25 q.2), ifc_f (fun q => c29 q.2), ifc_f (fun q => c31 q.2)]), rfl⟩
                  · refine gs_iload_n (q := 0) k rfl rfl dX2_commonDivisor_30 ?_
                    exact gs_iret k kt dX2_commonDivisor_31 ⟨(by rw [gdv, ifc_f (fun q => c1 q.1), ifc_f (fun q => c17 q.2), ifc_f (fun q => c25 q.2), ifc_f (fun q => c29 q.2), ifc_t ⟨c30, c31⟩]), rfl⟩
              · refine gs_iload_n (q := 0) k rfl rfl dX2_commonDivisor_30 ?_
                exact gs_iret k kt dX2_commonDivisor_31 ⟨(by rw [gdv, ifc_f (fun q => c1 q.1), ifc_f (fun q => c17 q.2), ifc_f (fun q => c25 q.2), ifc_t ⟨c26, c29⟩]), rfl⟩
          · refine gs_iload_n (q := 0) k rfl rfl dX2_commonDivisor_30 ?_
            exact gs_iret k kt dX2_commonDivisor_31 ⟨(by rw [gdv, ifc_f (fun q => c1 q.1), ifc_f (fun q => c17 q.2), ifc_t ⟨c18, c25⟩]), rfl⟩
      · refine gs_iload_n (q := 0) k rfl rfl dX2_commonDivisor_30 ?_
        exact gs_iret k kt dX2_commonDivisor_31 ⟨(by rw [gdv, ifc_f (fun q => c1 q.1), ifc_t ⟨c2, c17⟩]), rfl⟩
  · refine gs_aload_n (q := 1) k rfl rfl dX2_commonDivisor_19 ?_
    refine gs_get (C := RX2) (T := TX2) (N := 4) (ci := 2) (k0 := 58) (j := 3) k (hI 58 (by omega)) rfl rfl inX2 (by decide) fl_X2_18 rfl rfl dX2_commonDivisor_20 ?_
    refine gs_iload_n (q := 2) k rfl rfl dX2_commonDivisor_23 ?_
    refine gs_ialdN (k0 := 61) (n := 6) (e := j) k (hI 61 (by omega)) (fun _ => rfl) hy (by omega) (by decide) dX2_commonDivisor_24 ?_
    refine gs_iload_n (q := 0) k rfl rfl dX2_commonDivisor_25 ?_
    refine gs_irem k (by decide) dX2_commonDivisor_26 ?_
    refine gs_if_ne (tgt := 32) k (by decide) dX2_commonDivisor_27 (fun c32 => ?_) (fun c32 => ?_)
    · refine gs_iinc (q := 0) (v := 5) (lv' := [(2, .int 5), (0, .ref (E.2.2.1 58)), (1, .int y)]) k rfl (by decide) (by decide) rfl dX2_commonDivisor_32 ?_
      refine gs_goto (tgt := 3) k (by decide) dX2_commonDivisor_35 ?_
      refine gs_iload_n (q := 0) k rfl rfl dX2_commonDivisor_3 ?_
      refine gs_iconst (v := 1) k (by decide) dX2_commonDivisor_4 ?_
      refine gs_icmp_le (tgt := 38) k (by decide) dX2_commonDivisor_5 (fun h => absurd h (by decide)) (fun _ => ?_)
      refine gs_aload_n (q := 1) k rfl rfl dX2_commonDivisor_8 ?_
      refine gs_get (C := RX2) (T := TX2) (N := 4) (ci := 2) (k0 := 58) (j := 2) k (hI 58 (by omega)) rfl rfl inX2 (by decide) fl_X2_15 rfl rfl dX2_commonDivisor_9 ?_
      refine gs_iload_n (q := 2) k rfl rfl dX2_commonDivisor_12 ?_
      refine gs_ialdN (k0 := 60) (n := 6) (e := j) k (hI 60 (by omega)) (fun _ => rfl) hy (by omega) (by decide) dX2_commonDivisor_13 ?_
      refine gs_iload_n (q := 0) k rfl rfl dX2_commonDivisor_14 ?_
      refine gs_irem k (by decide) dX2_commonDivisor_15 ?_
      refine gs_if_ne (tgt := 32) k (by decide) dX2_commonDivisor_16 (fun c33 => ?_) (fun c33 => ?_)
      · refine gs_iinc (q := 0) (v := 4) (lv' := [(2, .int 4), (0, .ref (E.2.2.1 58)), (1, .int y)]) k rfl (by decide) (by decide) rfl dX2_commonDivisor_32 ?_
        refine gs_goto (tgt := 3) k (by decide) dX2_commonDivisor_35 ?_
        refine gs_iload_n (q := 0) k rfl rfl dX2_commonDivisor_3 ?_
        refine gs_iconst (v := 1) k (by decide) dX2_commonDivisor_4 ?_
        refine gs_icmp_le (tgt := 38) k (by decide) dX2_commonDivisor_5 (fun h => absurd h (by decide)) (fun _ => ?_)
        refine gs_aload_n (q := 1) k rfl rfl dX2_commonDivisor_8 ?_
        refine gs_get (C := RX2) (T := TX2) (N := 4) (ci := 2) (k0 := 58) (j := 2) k (hI 58 (by omega)) rfl rfl inX2 (by decide) fl_X2_15 rfl rfl dX2_commonDivisor_9 ?_
        refine gs_iload_n (q := 2) k rfl rfl dX2_commonDivisor_12 ?_
        refine gs_ialdN (k0 := 60) (n := 6) (e := j) k (hI 60 (by omega)) (fun _ => rfl) hy (by omega) (by decide) dX2_commonDivisor_13 ?_
        refine gs_iload_n (q := 0) k rfl rfl dX2_commonDivisor_14 ?_
        refine gs_irem k (by decide) dX2_commonDivisor_15 ?_
        refine gs_if_ne (tgt := 32) k (by decide) dX2_commonDivisor_16 (fun c34 => ?_) (fun c34 => ?_)
        · refine gs_iinc (q := 0) (v := 3) (lv' := [(2, .int 3), (0, .ref (E.2.2.1 58)), (1, .int y)]) k rfl (by decide) (by decide) rfl dX2_commonDivisor_32 ?_
          refine gs_goto (tgt := 3) k (by decide) dX2_commonDivisor_35 ?_
          refine gs_iload_n (q := 0) k rfl rfl dX2_commonDivisor_3 ?_
          refine gs_iconst (v := 1) k (by decide) dX2_commonDivisor_4 ?_
          refine gs_icmp_le (tgt := 38) k (by decide) dX2_commonDivisor_5 (fun h => absurd h (by decide)) (fun _ => ?_)
          refine gs_aload_n (q := 1) k rfl rfl dX2_commonDivisor_8 ?_
          refine gs_get (C := RX2) (T := TX2) (N := 4) (ci := 2) (k0 := 58) (j := 2) k (hI 58 (by omega)) rfl rfl inX2 (by decide) fl_X2_15 rfl rfl dX2_commonDivisor_9 ?_
          refine gs_iload_n (q := 2) k rfl rfl dX2_commonDivisor_12 ?_
          refine gs_ialdN (k0 := 60) (n := 6) (e := j) k (hI 60 (by omega)) (fun _ => rfl) hy (by omega) (by decide) dX2_commonDivisor_13 ?_
          refine gs_iload_n (q := 0) k rfl rfl dX2_commonDivisor_14 ?_
          refine gs_irem k (by decide) dX2_commonDivisor_15 ?_
          refine gs_if_ne (tgt := 32) k (by decide) dX2_commonDivisor_16 (fun c35 => ?_) (fun c35 => ?_)
          · refine gs_iinc (q := 0) (v := 2) (lv' := [(2, .int 2), (0, .ref (E.2.2.1 58)), (1, .int y)]) k rfl (by decide) (by decide) rfl dX2_commonDivisor_32 ?_
            refine gs_goto (tgt := 3) k (by decide) dX2_commonDivisor_35 ?_
            refine gs_iload_n (q := 0) k rfl rfl dX2_commonDivisor_3 ?_
            refine gs_iconst (v := 1) k (by decide) dX2_commonDivisor_4 ?_
            refine gs_icmp_le (tgt := 38) k (by decide) dX2_commonDivisor_5 (fun h => absurd h (by decide)) (fun _ => ?_)
            refine gs_aload_n (q := 1) k rfl rfl dX2_commonDivisor_8 ?_
            refine gs_get (C := RX2) (T := TX2) (N := 4) (ci := 2) (k0 := 58) (j := 2) k (hI 58 (by omega)) rfl rfl inX2 (by decide) fl_X2_15 rfl rfl dX2_commonDivisor_9 ?_
            refine gs_iload_n (q := 2) k rfl rfl dX2_commonDivisor_12 ?_
            refine gs_ialdN (k0 := 60) (n := 6) (e := j) k (hI 60 (by omega)) (fun _ => rfl) hy (by omega) (by decide) dX2_commonDivisor_13 ?_
            refine gs_iload_n (q := 0) k rfl rfl dX2_commonDivisor_14 ?_
            refine gs_irem k (by decide) dX2_commonDivisor_15 ?_
            refine gs_if_ne (tgt := 32) k (by decide) dX2_commonDivisor_16 (fun c36 => ?_) (fun c36 => ?_)
            · refine gs_iinc (q := 0) (v := 1) (lv' := [(2, .int 1), (0, .ref (E.2.2.1 58)), (1, .int y)]) k rfl (by decide) (by decide) rfl dX2_commonDivisor_32 ?_
              refine gs_goto (tgt := 3) k (by decide) dX2_commonDivisor_35 ?_
              refine gs_iload_n (q := 0) k rfl rfl dX2_commonDivisor_3 ?_
              refine gs_iconst (v := 1) k (by decide) dX2_commonDivisor_4 ?_
              refine gs_icmp_le (tgt := 38) k (by decide) dX2_commonDivisor_5 (fun _ => ?_) (fun h => absurd h (by decide))
              refine gs_iconst (v := 1) k (by decide) dX2_commonDivisor_38 ?_
              exact gs_iret k kt dX2_commonDivisor_39 ⟨(by rw [gdv, ifc_f (fun q => c32 q.2), ifc_f (fun q => c33 q.1), ifc_f (fun q => c34 q.1), ifc_f (fun q => c35 q.1), ifc_f (fun q => c36 q.1)]), rfl⟩
            · refine gs_aload_n (q := 1) k rfl rfl dX2_commonDivisor_19 ?_
              refine gs_get (C := RX2) (T := TX2) (N := 4) (ci := 2) (k0 := 58) (j := 3) k (hI 58 (by omega)) rfl rfl inX2 (by decide) fl_X2_18 rfl rfl dX2_commonDivisor_20 ?_
              refine gs_iload_n (q := 2) k rfl rfl dX2_commonDivisor_23 ?_
              refine gs_ialdN (k0 := 61) (n := 6) (e := j) k (hI 61 (by omega)) (fun _ => rfl) hy (by omega) (by decide) dX2_commonDivisor_24 ?_
              refine gs_iload_n (q := 0) k rfl rfl dX2_commonDivisor_25 ?_
              refine gs_irem k (by decide) dX2_commonDivisor_26 ?_
              refine gs_if_ne (tgt := 32) k (by decide) dX2_commonDivisor_27 (fun c37 => ?_) (fun c37 => ?_)
              · refine gs_iinc (q := 0) (v := 1) (lv' := [(2, .int 1), (0, .ref (E.2.2.1 58)), (1, .int y)]) k rfl (by decide) (by decide) rfl dX2_commonDivisor_32 ?_
                refine gs_goto (tgt := 3) k (by decide) dX2_commonDivisor_35 ?_
                refine gs_iload_n (q := 0) k rfl rfl dX2_commonDivisor_3 ?_
                refine gs_iconst (v := 1) k (by decide) dX2_commonDivisor_4 ?_
                refine gs_icmp_le (tgt := 38) k (by decide) dX2_commonDivisor_5 (fun _ => ?_) (fun h => absurd h (by decide))
                refine gs_iconst (v := 1) k (by decide) dX2_commonDivisor_38 ?_
                exact gs_iret k kt dX2_commonDivisor_39 ⟨(by rw [gdv, ifc_f (fun q => c32 q.2), ifc_f (fun q => c33 q.1), ifc_f (fun q => c34 q.1), ifc_f (fun q => c35 q.1), ifc_f (fun q => c37 q.2)]), rfl⟩
              · refine gs_iload_n (q := 0) k rfl rfl dX2_commonDivisor_30 ?_
                exact gs_iret k kt dX2_commonDivisor_31 ⟨(by rw [gdv, ifc_f (fun q => c32 q.2), ifc_f (fun q => c33 q.1), ifc_f (fun q => c34 q.1), ifc_f (fun q => c35 q.1), ifc_t ⟨c36, c37⟩]), rfl⟩
          · refine gs_aload_n (q := 1) k rfl rfl dX2_commonDivisor_19 ?_
            refine gs_get (C := RX2) (T := TX2) (N := 4) (ci := 2) (k0 := 58) (j := 3) k (hI 58 (by omega)) rfl rfl inX2 (by decide) fl_X2_18 rfl rfl dX2_commonDivisor_20 ?_
            refine gs_iload_n (q := 2) k rfl rfl dX2_commonDivisor_23 ?_
            refine gs_ialdN (k0 := 61) (n := 6) (e := j) k (hI 61 (by omega)) (fun _ => rfl) hy (by omega) (by decide) dX2_commonDivisor_24 ?_
            refine gs_iload_n (q := 0) k rfl rfl dX2_commonDivisor_25 ?_
            refine gs_irem k (by decide) dX2_commonDivisor_26 ?_
            refine gs_if_ne (tgt := 32) k (by decide) dX2_commonDivisor_27 (fun c38 => ?_) (fun c38 => ?_)
            · refine gs_iinc (q := 0) (v := 2) (lv' := [(2, .int 2), (0, .ref (E.2.2.1 58)), (1, .int y)]) k rfl (by decide) (by decide) rfl dX2_commonDivisor_32 ?_
              refine gs_goto (tgt := 3) k (by decide) dX2_commonDivisor_35 ?_
              refine gs_iload_n (q := 0) k rfl rfl dX2_commonDivisor_3 ?_
              refine gs_iconst (v := 1) k (by decide) dX2_commonDivisor_4 ?_
              refine gs_icmp_le (tgt := 38) k (by decide) dX2_commonDivisor_5 (fun h => absurd h (by decide)) (fun _ => ?_)
              refine gs_aload_n (q := 1) k rfl rfl dX2_commonDivisor_8 ?_
              refine gs_get (C := RX2) (T := TX2) (N := 4) (ci := 2) (k0 := 58) (j := 2) k (hI 58 (by omega)) rfl rfl inX2 (by decide) fl_X2_15 rfl rfl dX2_commonDivisor_9 ?_
              refine gs_iload_n (q := 2) k rfl rfl dX2_commonDivisor_12 ?_
              refine gs_ialdN (k0 := 60) (n := 6) (e := j) k (hI 60 (by omega)) (fun _ => rfl) hy (by omega) (by decide) dX2_commonDivisor_13 ?_
              refine gs_iload_n (q := 0) k rfl rfl dX2_commonDivisor_14 ?_
              refine gs_irem k (by decide) dX2_commonDivisor_15 ?_
              refine gs_if_ne (tgt := 32) k (by decide) dX2_commonDivisor_16 (fun c39 => ?_) (fun c39 => ?_)
              · refine gs_iinc (q := 0) (v := 1) (lv' := [(2, .int 1), (0, .ref (E.2.2.1 58)), (1, .int y)]) k rfl (by decide) (by decide) rfl dX2_commonDivisor_32 ?_
                refine gs_goto (tgt := 3) k (by decide) dX2_commonDivisor_35 ?_
                refine gs_iload_n (q := 0) k rfl rfl dX2_commonDivisor_3 ?_
                refine gs_iconst (v := 1) k (by decide) dX2_commonDivisor_4 ?_
                refine gs_icmp_le (tgt := 38) k (by decide) dX2_commonDivisor_5 (fun _ => ?_) (fun h => absurd h (by decide))
                refine gs_iconst (v := 1) k (by decide) dX2_commonDivisor_38 ?_
                exact gs_iret k kt dX2_commonDivisor_39 ⟨(by rw [gdv, ifc_f (fun q => c32 q.2), ifc_f (fun q => c33 q.1), ifc_f (fun q => c34 q.1), ifc_f (fun q => c38 q.2), ifc_f (fun q => c39 q.1)]), rfl⟩
              · refine gs_aload_n (q := 1) k rfl rfl dX2_commonDivisor_19 ?_
                refine gs_get (C := RX2) (T := TX2) (N := 4) (ci := 2) (k0 := 58) (j := 3) k (hI 58 (by omega)) rfl rfl inX2 (by decide) fl_X2_18 rfl rfl dX2_commonDivisor_20 ?_
                refine gs_iload_n (q := 2) k rfl rfl dX2_commonDivisor_23 ?_
                refine gs_ialdN (k0 := 61) (n := 6) (e := j) k (hI 61 (by omega)) (fun _ => rfl) hy (by omega) (by decide) dX2_commonDivisor_24 ?_
                refine gs_iload_n (q := 0) k rfl rfl dX2_commonDivisor_25 ?_
                refine gs_irem k (by decide) dX2_commonDivisor_26 ?_
                refine gs_if_ne (tgt := 32) k (by decide) dX2_commonDivisor_27 (fun c40 => ?_) (fun c40 => ?_)
                · refine gs_iinc (q := 0) (v := 1) (lv' := [(2, .int 1), (0, .ref (E.2.2.1 58)), (1, .int y)]) k rfl (by decide) (by decide) rfl dX2_commonDivisor_32 ?_
                  refine gs_goto (tgt := 3) k (by decide) dX2_commonDivisor_35 ?_
                  refine gs_iload_n (q := 0) k rfl rfl dX2_commonDivisor_3 ?_
                  refine gs_iconst (v := 1) k (by decide) dX2_commonDivisor_4 ?_
                  refine gs_icmp_le (tgt := 38) k (by decide) dX2_commonDivisor_5 (fun _ => ?_) (fun h => absurd h (by decide))
                  refine gs_iconst (v := 1) k (by decide) dX2_commonDivisor_38 ?_
                  exact gs_iret k kt dX2_commonDivisor_39 ⟨(by rw [gdv, ifc_f (fun q => c32 q.2), ifc_f (fun q => c33 q.1), ifc_f (fun q => c34 q.1), ifc_f (fun q => c38 q.2), ifc_f (fun q => c40 q.2)]), rfl⟩
                · refine gs_iload_n (q := 0) k rfl rfl dX2_commonDivisor_30 ?_
                  exact gs_iret k kt dX2_commonDivisor_31 ⟨(by rw [gdv, ifc_f (fun q => c32 q.2), ifc_f (fun q => c33 q.1), ifc_f (fun q => c34 q.1), ifc_f (fun q => c38 q.2), ifc_t ⟨c39, c40⟩]), rfl⟩
            · refine gs_iload_n (q := 0) k rfl rfl dX2_commonDivisor_30 ?_
              exact gs_iret k kt dX2_commonDivisor_31 ⟨(by rw [gdv, ifc_f (fun q => c32 q.2), ifc_f (fun q => c33 q.1), ifc_f (fun q => c34 q.1), ifc_t ⟨c35, c38⟩]), rfl⟩
        · refine gs_aload_n (q := 1) k rfl rfl dX2_commonDivisor_19 ?_
          refine gs_get (C := RX2) (T := TX2) (N := 4) (ci := 2) (k0 := 58) (j := 3) k (hI 58 (by omega)) rfl rfl inX2 (by decide) fl_X2_18 rfl rfl dX2_commonDivisor_20 ?_
          refine gs_iload_n (q := 2) k rfl rfl dX2_commonDivisor_23 ?_
          refine gs_ialdN (k0 := 61) (n := 6) (e := j) k (hI 61 (by omega)) (fun _ => rfl) hy (by omega) (by decide) dX2_commonDivisor_24 ?_
          refine gs_iload_n (q := 0) k rfl rfl dX2_commonDivisor_25 ?_
          refine gs_irem k (by decide) dX2_commonDivisor_26 ?_
          refine gs_if_ne (tgt := 32) k (by decide) dX2_commonDivisor_27 (fun c41 => ?_) (fun c41 => ?_)
          · refine gs_iinc (q := 0) (v := 3) (lv' := [(2, .int 3), (0, .ref (E.2.2.1 58)), (1, .int y)]) k rfl (by decide) (by decide) rfl dX2_commonDivisor_32 ?_
            refine gs_goto (tgt := 3) k (by decide) dX2_commonDivisor_35 ?_
            refine gs_iload_n (q := 0) k rfl rfl dX2_commonDivisor_3 ?_
            refine gs_iconst (v := 1) k (by decide) dX2_commonDivisor_4 ?_
            refine gs_icmp_le (tgt := 38) k (by decide) dX2_commonDivisor_5 (fun h => absurd h (by decide)) (fun _ => ?_)
            refine gs_aload_n (q := 1) k rfl rfl dX2_commonDivisor_8 ?_
            refine gs_get (C := RX2) (T := TX2) (N := 4) (ci := 2) (k0 := 58) (j := 2) k (hI 58 (by omega)) rfl rfl inX2 (by decide) fl_X2_15 rfl rfl dX2_commonDivisor_9 ?_
            refine gs_iload_n (q := 2) k rfl rfl dX2_commonDivisor_12 ?_
            refine gs_ialdN (k0 := 60) (n := 6) (e := j) k (hI 60 (by omega)) (fun _ => rfl) hy (by omega) (by decide) dX2_commonDivisor_13 ?_
            refine gs_iload_n (q := 0) k rfl rfl dX2_commonDivisor_14 ?_
            refine gs_irem k (by decide) dX2_commonDivisor_15 ?_
            refine gs_if_ne (tgt := 32) k (by decide) dX2_commonDivisor_16 (fun c42 => ?_) (fun c42 => ?_)
            · refine gs_iinc (q := 0) (v := 2) (lv' := [(2, .int 2), (0, .ref (E.2.2.1 58)), (1, .int y)]) k rfl (by decide) (by decide) rfl dX2_commonDivisor_32 ?_
              refine gs_goto (tgt := 3) k (by decide) dX2_commonDivisor_35 ?_
              refine gs_iload_n (q := 0) k rfl rfl dX2_commonDivisor_3 ?_
              refine gs_iconst (v := 1) k (by decide) dX2_commonDivisor_4 ?_
              refine gs_icmp_le (tgt := 38) k (by decide) dX2_commonDivisor_5 (fun h => absurd h (by decide)) (fun _ => ?_)
              refine gs_aload_n (q := 1) k rfl rfl dX2_commonDivisor_8 ?_
              refine gs_get (C := RX2) (T := TX2) (N := 4) (ci := 2) (k0 := 58) (j := 2) k (hI 58 (by omega)) rfl rfl inX2 (by decide) fl_X2_15 rfl rfl dX2_commonDivisor_9 ?_
              refine gs_iload_n (q := 2) k rfl rfl dX2_commonDivisor_12 ?_
              refine gs_ialdN (k0 := 60) (n := 6) (e := j) k (hI 60 (by omega)) (fun _ => rfl) hy (by omega) (by decide) dX2_commonDivisor_13 ?_
              refine gs_iload_n (q := 0) k rfl rfl dX2_commonDivisor_14 ?_
              refine gs_irem k (by decide) dX2_commonDivisor_15 ?_
              refine gs_if_ne (tgt := 32) k (by decide) dX2_commonDivisor_16 (fun c43 => ?_) (fun c43 => ?_)
              · refine gs_iinc (q := 0) (v := 1) (lv' := [(2, .int 1), (0, .ref (E.2.2.1 58)), (1, .int y)]) k rfl (by decide) (by decide) rfl dX2_commonDivisor_32 ?_
                refine gs_goto (tgt := 3) k (by decide) dX2_commonDivisor_35 ?_
                refine gs_iload_n (q := 0) k rfl rfl dX2_commonDivisor_3 ?_
                refine gs_iconst (v := 1) k (by decide) dX2_commonDivisor_4 ?_
                refine gs_icmp_le (tgt := 38) k (by decide) dX2_commonDivisor_5 (fun _ => ?_) (fun h => absurd h (by decide))
                refine gs_iconst (v := 1) k (by decide) dX2_commonDivisor_38 ?_
                exact gs_iret k kt dX2_commonDivisor_39 ⟨(by rw [gdv, ifc_f (fun q => c32 q.2), ifc_f (fun q => c33 q.1), ifc_f (fun q => c41 q.2), ifc_f (fun q => c42 q.1), ifc_f (fun q => c43 q.1)]), rfl⟩
              · refine gs_aload_n (q := 1) k rfl rfl dX2_commonDivisor_19 ?_
                refine gs_get (C := RX2) (T := TX2) (N := 4) (ci := 2) (k0 := 58) (j := 3) k (hI 58 (by omega)) rfl rfl inX2 (by decide) fl_X2_18 rfl rfl dX2_commonDivisor_20 ?_
                refine gs_iload_n (q := 2) k rfl rfl dX2_commonDivisor_23 ?_
                refine gs_ialdN (k0 := 61) (n := 6) (e := j) k (hI 61 (by omega)) (fun _ => rfl) hy (by omega) (by decide) dX2_commonDivisor_24 ?_
                refine gs_iload_n (q := 0) k rfl rfl dX2_commonDivisor_25 ?_
                refine gs_irem k (by decide) dX2_commonDivisor_26 ?_
                refine gs_if_ne (tgt := 32) k (by decide) dX2_commonDivisor_27 (fun c44 => ?_) (fun c44 => ?_)
                · refine gs_iinc (q := 0) (v := 1) (lv' := [(2, .int 1), (0, .ref (E.2.2.1 58)), (1, .int y)]) k rfl (by decide) (by decide) rfl dX2_commonDivisor_32 ?_
                  refine gs_goto (tgt := 3) k (by decide) dX2_commonDivisor_35 ?_
                  refine gs_iload_n (q := 0) k rfl rfl dX2_commonDivisor_3 ?_
                  refine gs_iconst (v := 1) k (by decide) dX2_commonDivisor_4 ?_
                  refine gs_icmp_le (tgt := 38) k (by decide) dX2_commonDivisor_5 (fun _ => ?_) (fun h => absurd h (by decide))
                  refine gs_iconst (v := 1) k (by decide) dX2_commonDivisor_38 ?_
                  exact gs_iret k kt dX2_commonDivisor_39 ⟨(by rw [gdv, ifc_f (fun q => c32 q.2), ifc_f (fun q => c33 q.1), ifc_f (fun q => c41 q.2), ifc_f (fun q => c42 q.1), ifc_f (fun q => c44 q.2)]), rfl⟩
                · refine gs_iload_n (q := 0) k rfl rfl dX2_commonDivisor_30 ?_
                  exact gs_iret k kt dX2_commonDivisor_31 ⟨(by rw [gdv, ifc_f (fun q => c32 q.2), ifc_f (fun q => c33 q.1), ifc_f (fun q => c41 q.2), ifc_f (fun q => c42 q.1), ifc_t ⟨c43, c44⟩]), rfl⟩
            · refine gs_aload_n (q := 1) k rfl rfl dX2_commonDivisor_19 ?_
              refine gs_get (C := RX2) (T := TX2) (N := 4) (ci := 2) (k0 := 58) (j := 3) k (hI 58 (by omega)) rfl rfl inX2 (by decide) fl_X2_18 rfl rfl dX2_commonDivisor_20 ?_
              refine gs_iload_n (q := 2) k rfl rfl dX2_commonDivisor_23 ?_
              refine gs_ialdN (k0 := 61) (n := 6) (e := j) k (hI 61 (by omega)) (fun _ => rfl) hy (by omega) (by decide) dX2_commonDivisor_24 ?_
              refine gs_iload_n (q := 0) k rfl rfl dX2_commonDivisor_25 ?_
              refine gs_irem k (by decide) dX2_commonDivisor_26 ?_
              refine gs_if_ne (tgt := 32) k (by decide) dX2_commonDivisor_27 (fun c45 => ?_) (fun c45 => ?_)
              · refine gs_iinc (q := 0) (v := 2) (lv' := [(2, .int 2), (0, .ref (E.2.2.1 58)), (1, .int y)]) k rfl (by decide) (by decide) rfl dX2_commonDivisor_32 ?_
                refine gs_goto (tgt := 3) k (by decide) dX2_commonDivisor_35 ?_
                refine gs_iload_n (q := 0) k rfl rfl dX2_commonDivisor_3 ?_
                refine gs_iconst (v := 1) k (by decide) dX2_commonDivisor_4 ?_
                refine gs_icmp_le (tgt := 38) k (by decide) dX2_commonDivisor_5 (fun h => absurd h (by decide)) (fun _ => ?_)
                refine gs_aload_n (q := 1) k rfl rfl dX2_commonDivisor_8 ?_
                refine gs_get (C := RX2) (T := TX2) (N := 4) (ci := 2) (k0 := 58) (j := 2) k (hI 58 (by omega)) rfl rfl inX2 (by decide) fl_X2_15 rfl rfl dX2_commonDivisor_9 ?_
                refine gs_iload_n (q := 2) k rfl rfl dX2_commonDivisor_12 ?_
                refine gs_ialdN (k0 := 60) (n := 6) (e := j) k (hI 60 (by omega)) (fun _ => rfl) hy (by omega) (by decide) dX2_commonDivisor_13 ?_
                refine gs_iload_n (q := 0) k rfl rfl dX2_commonDivisor_14 ?_
                refine gs_irem k (by decide) dX2_commonDivisor_15 ?_
                refine gs_if_ne (tgt := 32) k (by decide) dX2_commonDivisor_16 (fun c46 => ?_) (fun c46 => ?_)
                · refine gs_iinc (q := 0) (v := 1) (lv' := [(2, .int 1), (0, .ref (E.2.2.1 58)), (1, .int y)]) k rfl (by decide) (by decide) rfl dX2_commonDivisor_32 ?_
                  refine gs_goto (tgt := 3) k (by decide) dX2_commonDivisor_35 ?_
                  refine gs_iload_n (q := 0) k rfl rfl dX2_commonDivisor_3 ?_
                  refine gs_iconst (v := 1) k (by decide) dX2_commonDivisor_4 ?_
                  refine gs_icmp_le (tgt := 38) k (by decide) dX2_commonDivisor_5 (fun _ => ?_) (fun h => absurd h (by decide))
                  refine gs_iconst (v := 1) k (by decide) dX2_commonDivisor_38 ?_
                  exact gs_iret k kt dX2_commonDivisor_39 ⟨(by rw [gdv, ifc_f (fun q => c32 q.2), ifc_f (fun q => c33 q.1), ifc_f (fun q => c41 q.2), ifc_f (fun q => c45 q.2), ifc_f (fun q => c46 q.1)]), rfl⟩
                · refine gs_aload_n (q := 1) k rfl rfl dX2_commonDivisor_19 ?_
                  refine gs_get (C := RX2) (T := TX2) (N := 4) (ci := 2) (k0 := 58) (j := 3) k (hI 58 (by omega)) rfl rfl inX2 (by decide) fl_X2_18 rfl rfl dX2_commonDivisor_20 ?_
                  refine gs_iload_n (q := 2) k rfl rfl dX2_commonDivisor_23 ?_
                  refine gs_ialdN (k0 := 61) (n := 6) (e := j) k (hI 61 (by omega)) (fun _ => rfl) hy (by omega) (by decide) dX2_commonDivisor_24 ?_
                  refine gs_iload_n (q := 0) k rfl rfl dX2_commonDivisor_25 ?_
                  refine gs_irem k (by decide) dX2_commonDivisor_26 ?_
                  refine gs_if_ne (tgt := 32) k (by decide) dX2_commonDivisor_27 (fun c47 => ?_) (fun c47 => ?_)
                  · refine gs_iinc (q := 0) (v := 1) (lv' := [(2, .int 1), (0, .ref (E.2.2.1 58)), (1, .int y)]) k rfl (by decide) (by decide) rfl dX2_commonDivisor_32 ?_
                    refine gs_goto (tgt := 3) k (by decide) dX2_commonDivisor_35 ?_
                    refine gs_iload_n (q := 0) k rfl rfl dX2_commonDivisor_3 ?_
                    refine gs_iconst (v := 1) k (by decide) dX2_commonDivisor_4 ?_
                    refine gs_icmp_le (tgt := 38) k (by decide) dX2_commonDivisor_5 (fun _ => ?_) (fun h => absurd h (by decide))
                    refine gs_iconst (v := 1) k (by decide) dX2_commonDivisor_38 ?_
                    exact gs_iret k kt dX2_commonDivisor_39 ⟨(by rw [gdv, ifc_f (fun q => c32 q.2), ifc_f (fun q => c33 q.1), ifc_f (fun q => c41 q.2), ifc_f (fun q => c45 q.2), ifc_f (fun q => c47 q.2)]), rfl⟩
                  · refine gs_iload_n (q := 0) k rfl rfl dX2_commonDivisor_30 ?_
                    exact gs_iret k kt dX2_commonDivisor_31 ⟨(by rw [gdv, ifc_f (fun q => c32 q.2), ifc_f (fun q => c33 q.1), ifc_f (fun q => c41 q.2), ifc_f (fun q => c45 q.2), ifc_t ⟨c46, c47⟩]), rfl⟩
              · refine gs_iload_n (q := 0) k rfl rfl dX2_commonDivisor_30 ?_
                exact gs_iret k kt dX2_commonDivisor_31 ⟨(by rw [gdv, ifc_f (fun q => c32 q.2), ifc_f (fun q => c33 q.1), ifc_f (fun q => c41 q.2), ifc_t ⟨c42, c45⟩]), rfl⟩
          · refine gs_iload_n (q := 0) k rfl rfl dX2_commonDivisor_30 ?_
            exact gs_iret k kt dX2_commonDivisor_31 ⟨(by rw [gdv, ifc_f (fun q => c32 q.2), ifc_f (fun q => c33 q.1), ifc_t ⟨c34, c41⟩]), rfl⟩
      · refine gs_aload_n (q := 1) k rfl rfl dX2_commonDivisor_19 ?_
        refine gs_get (C := RX2) (T := TX2) (N := 4) (ci := 2) (k0 := 58) (j := 3) k (hI 58 (by omega)) rfl rfl inX2 (by decide) fl_X2_18 rfl rfl dX2_commonDivisor_20 ?_
        refine gs_iload_n (q := 2) k rfl rfl dX2_commonDivisor_23 ?_
        refine gs_ialdN (k0 := 61) (n := 6) (e := j) k (hI 61 (by omega)) (fun _ => rfl) hy (by omega) (by decide) dX2_commonDivisor_24 ?_
        refine gs_iload_n (q := 0) k rfl rfl dX2_commonDivisor_25 ?_
        refine gs_irem k (by decide) dX2_commonDivisor_26 ?_
        refine gs_if_ne (tgt := 32) k (by decide) dX2_commonDivisor_27 (fun c48 => ?_) (fun c48 => ?_)
        · refine gs_iinc (q := 0) (v := 4) (lv' := [(2, .int 4), (0, .ref (E.2.2.1 58)), (1, .int y)]) k rfl (by decide) (by decide) rfl dX2_commonDivisor_32 ?_
          refine gs_goto (tgt := 3) k (by decide) dX2_commonDivisor_35 ?_
          refine gs_iload_n (q := 0) k rfl rfl dX2_commonDivisor_3 ?_
          refine gs_iconst (v := 1) k (by decide) dX2_commonDivisor_4 ?_
          refine gs_icmp_le (tgt := 38) k (by decide) dX2_commonDivisor_5 (fun h => absurd h (by decide)) (fun _ => ?_)
          refine gs_aload_n (q := 1) k rfl rfl dX2_commonDivisor_8 ?_
          refine gs_get (C := RX2) (T := TX2) (N := 4) (ci := 2) (k0 := 58) (j := 2) k (hI 58 (by omega)) rfl rfl inX2 (by decide) fl_X2_15 rfl rfl dX2_commonDivisor_9 ?_
          refine gs_iload_n (q := 2) k rfl rfl dX2_commonDivisor_12 ?_
          refine gs_ialdN (k0 := 60) (n := 6) (e := j) k (hI 60 (by omega)) (fun _ => rfl) hy (by omega) (by decide) dX2_commonDivisor_13 ?_
          refine gs_iload_n (q := 0) k rfl rfl dX2_commonDivisor_14 ?_
          refine gs_irem k (by decide) dX2_commonDivisor_15 ?_
          refine gs_if_ne (tgt := 32) k (by decide) dX2_commonDivisor_16 (fun c49 => ?_) (fun c49 => ?_)
          · refine gs_iinc (q := 0) (v := 3) (lv' := [(2, .int 3), (0, .ref (E.2.2.1 58)), (1, .int y)]) k rfl (by decide) (by decide) rfl dX2_commonDivisor_32 ?_
            refine gs_goto (tgt := 3) k (by decide) dX2_commonDivisor_35 ?_
            refine gs_iload_n (q := 0) k rfl rfl dX2_commonDivisor_3 ?_
            refine gs_iconst (v := 1) k (by decide) dX2_commonDivisor_4 ?_
            refine gs_icmp_le (tgt := 38) k (by decide) dX2_commonDivisor_5 (fun h => absurd h (by decide)) (fun _ => ?_)
            refine gs_aload_n (q := 1) k rfl rfl dX2_commonDivisor_8 ?_
            refine gs_get (C := RX2) (T := TX2) (N := 4) (ci := 2) (k0 := 58) (j := 2) k (hI 58 (by omega)) rfl rfl inX2 (by decide) fl_X2_15 rfl rfl dX2_commonDivisor_9 ?_
            refine gs_iload_n (q := 2) k rfl rfl dX2_commonDivisor_12 ?_
            refine gs_ialdN (k0 := 60) (n := 6) (e := j) k (hI 60 (by omega)) (fun _ => rfl) hy (by omega) (by decide) dX2_commonDivisor_13 ?_
            refine gs_iload_n (q := 0) k rfl rfl dX2_commonDivisor_14 ?_
            refine gs_irem k (by decide) dX2_commonDivisor_15 ?_
            refine gs_if_ne (tgt := 32) k (by decide) dX2_commonDivisor_16 (fun c50 => ?_) (fun c50 => ?_)
            · refine gs_iinc (q := 0) (v := 2) (lv' := [(2, .int 2), (0, .ref (E.2.2.1 58)), (1, .int y)]) k rfl (by decide) (by decide) rfl dX2_commonDivisor_32 ?_
              refine gs_goto (tgt := 3) k (by decide) dX2_commonDivisor_35 ?_
              refine gs_iload_n (q := 0) k rfl rfl dX2_commonDivisor_3 ?_
              refine gs_iconst (v := 1) k (by decide) dX2_commonDivisor_4 ?_
              refine gs_icmp_le (tgt := 38) k (by decide) dX2_commonDivisor_5 (fun h => absurd h (by decide)) (fun _ => ?_)
              refine gs_aload_n (q := 1) k rfl rfl dX2_commonDivisor_8 ?_
              refine gs_get (C := RX2) (T := TX2) (N := 4) (ci := 2) (k0 := 58) (j := 2) k (hI 58 (by omega)) rfl rfl inX2 (by decide) fl_X2_15 rfl rfl dX2_commonDivisor_9 ?_
              refine gs_iload_n (q := 2) k rfl rfl dX2_commonDivisor_12 ?_
              refine gs_ialdN (k0 := 60) (n := 6) (e := j) k (hI 60 (by omega)) (fun _ => rfl) hy (by omega) (by decide) dX2_commonDivisor_13 ?_
              refine gs_iload_n (q := 0) k rfl rfl dX2_commonDivisor_14 ?_
              refine gs_irem k (by decide) dX2_commonDivisor_15 ?_
              refine gs_if_ne (tgt := 32) k (by decide) dX2_commonDivisor_16 (fun c51 => ?_) (fun c51 => ?_)
              · refine gs_iinc (q := 0) (v := 1) (lv' := [(2, .int 1), (0, .ref (E.2.2.1 58)), (1, .int y)]) k rfl (by decide) (by decide) rfl dX2_commonDivisor_32 ?_
                refine gs_goto (tgt := 3) k (by decide) dX2_commonDivisor_35 ?_
                refine gs_iload_n (q := 0) k rfl rfl dX2_commonDivisor_3 ?_
                refine gs_iconst (v := 1) k (by decide) dX2_commonDivisor_4 ?_
                refine gs_icmp_le (tgt := 38) k (by decide) dX2_commonDivisor_5 (fun _ => ?_) (fun h => absurd h (by decide))
                refine gs_iconst (v := 1) k (by decide) dX2_commonDivisor_38 ?_
                exact gs_iret k kt dX2_commonDivisor_39 ⟨(by rw [gdv, ifc_f (fun q => c32 q.2), ifc_f (fun q => c48 q.2), ifc_f (fun q => c49 q.1), ifc_f (fun q => c50 q.1), ifc_f (fun q => c51 q.1)]), rfl⟩
              · refine gs_aload_n (q := 1) k rfl rfl dX2_commonDivisor_19 ?_
                refine gs_get (C := RX2) (T := TX2) (N := 4) (ci := 2) (k0 := 58) (j := 3) k (hI 58 (by omega)) rfl rfl inX2 (by decide) fl_X2_18 rfl rfl dX2_commonDivisor_20 ?_
                refine gs_iload_n (q := 2) k rfl rfl dX2_commonDivisor_23 ?_
                refine gs_ialdN (k0 := 61) (n := 6) (e := j) k (hI 61 (by omega)) (fun _ => rfl) hy (by omega) (by decide) dX2_commonDivisor_24 ?_
                refine gs_iload_n (q := 0) k rfl rfl dX2_commonDivisor_25 ?_
                refine gs_irem k (by decide) dX2_commonDivisor_26 ?_
                refine gs_if_ne (tgt := 32) k (by decide) dX2_commonDivisor_27 (fun c52 => ?_) (fun c52 => ?_)
                · refine gs_iinc (q := 0) (v := 1) (lv' := [(2, .int 1), (0, .ref (E.2.2.1 58)), (1, .int y)]) k rfl (by decide) (by decide) rfl dX2_commonDivisor_32 ?_
                  refine gs_goto (tgt := 3) k (by decide) dX2_commonDivisor_35 ?_
                  refine gs_iload_n (q := 0) k rfl rfl dX2_commonDivisor_3 ?_
                  refine gs_iconst (v := 1) k (by decide) dX2_commonDivisor_4 ?_
                  refine gs_icmp_le (tgt := 38) k (by decide) dX2_commonDivisor_5 (fun _ => ?_) (fun h => absurd h (by decide))
                  refine gs_iconst (v := 1) k (by decide) dX2_commonDivisor_38 ?_
                  exact gs_iret k kt dX2_commonDivisor_39 ⟨(by rw [gdv, ifc_f (fun q => c32 q.2), ifc_f (fun q => c48 q.2), ifc_f (fun q => c49 q.1), ifc_f (fun q => c50 q.1), ifc_f (fun q => c52 q.2)]), rfl⟩
                · refine gs_iload_n (q := 0) k rfl rfl dX2_commonDivisor_30 ?_
                  exact gs_iret k kt dX2_commonDivisor_31 ⟨(by rw [gdv, ifc_f (fun q => c32 q.2), ifc_f (fun q => c48 q.2), ifc_f (fun q => c49 q.1), ifc_f (fun q => c50 q.1), ifc_t ⟨c51, c52⟩]), rfl⟩
            · refine gs_aload_n (q := 1) k rfl rfl dX2_commonDivisor_19 ?_
              refine gs_get (C := RX2) (T := TX2) (N := 4) (ci := 2) (k0 := 58) (j := 3) k (hI 58 (by omega)) rfl rfl inX2 (by decide) fl_X2_18 rfl rfl dX2_commonDivisor_20 ?_
              refine gs_iload_n (q := 2) k rfl rfl dX2_commonDivisor_23 ?_
              refine gs_ialdN (k0 := 61) (n := 6) (e := j) k (hI 61 (by omega)) (fun _ => rfl) hy (by omega) (by decide) dX2_commonDivisor_24 ?_
              refine gs_iload_n (q := 0) k rfl rfl dX2_commonDivisor_25 ?_
              refine gs_irem k (by decide) dX2_commonDivisor_26 ?_
              refine gs_if_ne (tgt := 32) k (by decide) dX2_commonDivisor_27 (fun c53 => ?_) (fun c53 => ?_)
              · refine gs_iinc (q := 0) (v := 2) (lv' := [(2, .int 2), (0, .ref (E.2.2.1 58)), (1, .int y)]) k rfl (by decide) (by decide) rfl dX2_commonDivisor_32 ?_
                refine gs_goto (tgt := 3) k (by decide) dX2_commonDivisor_35 ?_
                refine gs_iload_n (q := 0) k rfl rfl dX2_commonDivisor_3 ?_
                refine gs_iconst (v := 1) k (by decide) dX2_commonDivisor_4 ?_
                refine gs_icmp_le (tgt := 38) k (by decide) dX2_commonDivisor_5 (fun h => absurd h (by decide)) (fun _ => ?_)
                refine gs_aload_n (q := 1) k rfl rfl dX2_commonDivisor_8 ?_
                refine gs_get (C := RX2) (T := TX2) (N := 4) (ci := 2) (k0 := 58) (j := 2) k (hI 58 (by omega)) rfl rfl inX2 (by decide) fl_X2_15 rfl rfl dX2_commonDivisor_9 ?_
                refine gs_iload_n (q := 2) k rfl rfl dX2_commonDivisor_12 ?_
                refine gs_ialdN (k0 := 60) (n := 6) (e := j) k (hI 60 (by omega)) (fun _ => rfl) hy (by omega) (by decide) dX2_commonDivisor_13 ?_
                refine gs_iload_n (q := 0) k rfl rfl dX2_commonDivisor_14 ?_
                refine gs_irem k (by decide) dX2_commonDivisor_15 ?_
                refine gs_if_ne (tgt := 32) k (by decide) dX2_commonDivisor_16 (fun c54 => ?_) (fun c54 => ?_)
                · refine gs_iinc (q := 0) (v := 1) (lv' := [(2, .int 1), (0, .ref (E.2.2.1 58)), (1, .int y)]) k rfl (by decide) (by decide) rfl dX2_commonDivisor_32 ?_
                  refine gs_goto (tgt := 3) k (by decide) dX2_commonDivisor_35 ?_
                  refine gs_iload_n (q := 0) k rfl rfl dX2_commonDivisor_3 ?_
                  refine gs_iconst (v := 1) k (by decide) dX2_commonDivisor_4 ?_
                  refine gs_icmp_le (tgt := 38) k (by decide) dX2_commonDivisor_5 (fun _ => ?_) (fun h => absurd h (by decide))
                  refine gs_iconst (v := 1) k (by decide) dX2_commonDivisor_38 ?_
                  exact gs_iret k kt dX2_commonDivisor_39 ⟨(by rw [gdv, ifc_f (fun q => c32 q.2), ifc_f (fun q => c48 q.2), ifc_f (fun q => c49 q.1), ifc_f (fun q => c53 q.2), ifc_f (fun q => c54 q.1)]), rfl⟩
                · refine gs_aload_n (q := 1) k rfl rfl dX2_commonDivisor_19 ?_
                  refine gs_get (C := RX2) (T := TX2) (N := 4) (ci := 2) (k0 := 58) (j := 3) k (hI 58 (by omega)) rfl rfl inX2 (by decide) fl_X2_18 rfl rfl dX2_commonDivisor_20 ?_
                  refine gs_iload_n (q := 2) k rfl rfl dX2_commonDivisor_23 ?_
                  refine gs_ialdN (k0 := 61) (n := 6) (e := j) k (hI 61 (by omega)) (fun _ => rfl) hy (by omega) (by decide) dX2_commonDivisor_24 ?_
                  refine gs_iload_n (q := 0) k rfl rfl dX2_commonDivisor_25 ?_
                  refine gs_irem k (by decide) dX2_commonDivisor_26 ?_
                  refine gs_if_ne (tgt := 32) k (by decide) dX2_commonDivisor_27 (fun c55 => ?_) (fun c55 => ?_)
                  · refine gs_iinc (q := 0) (v := 1) (lv' := [(2, .int 1), (0, .ref (E.2.2.1 58)), (1, .int y)]) k rfl (by decide) (by decide) rfl dX2_commonDivisor_32 ?_
                    refine gs_goto (tgt := 3) k (by decide) dX2_commonDivisor_35 ?_
                    refine gs_iload_n (q := 0) k rfl rfl dX2_commonDivisor_3 ?_
                    refine gs_iconst (v := 1) k (by decide) dX2_commonDivisor_4 ?_
                    refine gs_icmp_le (tgt := 38) k (by decide) dX2_commonDivisor_5 (fun _ => ?_) (fun h => absurd h (by decide))
                    refine gs_iconst (v := 1) k (by decide) dX2_commonDivisor_38 ?_
                    exact gs_iret k kt dX2_commonDivisor_39 ⟨(by rw [gdv, ifc_f (fun q => c32 q.2), ifc_f (fun q => c48 q.2), ifc_f (fun q => c49 q.1), ifc_f (fun q => c53 q.2), ifc_f (fun q => c55 q.2)]), rfl⟩
                  · refine gs_iload_n (q := 0) k rfl rfl dX2_commonDivisor_30 ?_
                    exact gs_iret k kt dX2_commonDivisor_31 ⟨(by rw [gdv, ifc_f (fun q => c32 q.2), ifc_f (fun q => c48 q.2), ifc_f (fun q => c49 q.1), ifc_f (fun q => c53 q.2), ifc_t ⟨c54, c55⟩]), rfl⟩
              · refine gs_iload_n (q := 0) k rfl rfl dX2_commonDivisor_30 ?_
                exact gs_iret k kt dX2_commonDivisor_31 ⟨(by rw [gdv, ifc_f (fun q => c32 q.2), ifc_f (fun q => c48 q.2), ifc_f (fun q => c49 q.1), ifc_t ⟨c50, c53⟩]), rfl⟩
          · refine gs_aload_n (q := 1) k rfl rfl dX2_commonDivisor_19 ?_
            refine gs_get (C := RX2) (T := TX2) (N := 4) (ci := 2) (k0 := 58) (j := 3) k (hI 58 (by omega)) rfl rfl inX2 (by decide) fl_X2_18 rfl rfl dX2_commonDivisor_20 ?_
            refine gs_iload_n (q := 2) k rfl rfl dX2_commonDivisor_23 ?_
            refine gs_ialdN (k0 := 61) (n := 6) (e := j) k (hI 61 (by omega)) (fun _ => rfl) hy (by omega) (by decide) dX2_commonDivisor_24 ?_
            refine gs_iload_n (q := 0) k rfl rfl dX2_commonDivisor_25 ?_
            refine gs_irem k (by decide) dX2_commonDivisor_26 ?_
            refine gs_if_ne (tgt := 32) k (by decide) dX2_commonDivisor_27 (fun c56 => ?_) (fun c56 => ?_)
            · refine gs_iinc (q := 0) (v := 3) (lv' := [(2, .int 3), (0, .ref (E.2.2.1 58)), (1, .int y)]) k rfl (by decide) (by decide) rfl dX2_commonDivisor_32 ?_
              refine gs_goto (tgt := 3) k (by decide) dX2_commonDivisor_35 ?_
              refine gs_iload_n (q := 0) k rfl rfl dX2_commonDivisor_3 ?_
              refine gs_iconst (v := 1) k (by decide) dX2_commonDivisor_4 ?_
              refine gs_icmp_le (tgt := 38) k (by decide) dX2_commonDivisor_5 (fun h => absurd h (by decide)) (fun _ => ?_)
              refine gs_aload_n (q := 1) k rfl rfl dX2_commonDivisor_8 ?_
              refine gs_get (C := RX2) (T := TX2) (N := 4) (ci := 2) (k0 := 58) (j := 2) k (hI 58 (by omega)) rfl rfl inX2 (by decide) fl_X2_15 rfl rfl dX2_commonDivisor_9 ?_
              refine gs_iload_n (q := 2) k rfl rfl dX2_commonDivisor_12 ?_
              refine gs_ialdN (k0 := 60) (n := 6) (e := j) k (hI 60 (by omega)) (fun _ => rfl) hy (by omega) (by decide) dX2_commonDivisor_13 ?_
              refine gs_iload_n (q := 0) k rfl rfl dX2_commonDivisor_14 ?_
              refine gs_irem k (by decide) dX2_commonDivisor_15 ?_
              refine gs_if_ne (tgt := 32) k (by decide) dX2_commonDivisor_16 (fun c57 => ?_) (fun c57 => ?_)
              · refine gs_iinc (q := 0) (v := 2) (lv' := [(2, .int 2), (0, .ref (E.2.2.1 58)), (1, .int y)]) k rfl (by decide) (by decide) rfl dX2_commonDivisor_32 ?_
                refine gs_goto (tgt := 3) k (by decide) dX2_commonDivisor_35 ?_
                refine gs_iload_n (q := 0) k rfl rfl dX2_commonDivisor_3 ?_
                refine gs_iconst (v := 1) k (by decide) dX2_commonDivisor_4 ?_
                refine gs_icmp_le (tgt := 38) k (by decide) dX2_commonDivisor_5 (fun h => absurd h (by decide)) (fun _ => ?_)
                refine gs_aload_n (q := 1) k rfl rfl dX2_commonDivisor_8 ?_
                refine gs_get (C := RX2) (T := TX2) (N := 4) (ci := 2) (k0 := 58) (j := 2) k (hI 58 (by omega)) rfl rfl inX2 (by decide) fl_X2_15 rfl rfl dX2_commonDivisor_9 ?_
                refine gs_iload_n (q := 2) k rfl rfl dX2_commonDivisor_12 ?_
                refine gs_ialdN (k0 := 60) (n := 6) (e := j) k (hI 60 (by omega)) (fun _ => rfl) hy (by omega) (by decide) dX2_commonDivisor_13 ?_
                refine gs_iload_n (q := 0) k rfl rfl dX2_commonDivisor_14 ?_
                refine gs_irem k (by decide) dX2_commonDivisor_15 ?_
                refine gs_if_ne (tgt := 32) k (by decide) dX2_commonDivisor_16 (fun c58 => ?_) (fun c58 => ?_)
                · refine gs_iinc (q := 0) (v := 1) (lv' := [(2, .int 1), (0, .ref (E.2.2.1 58)), (1, .int y)]) k rfl (by decide) (by decide) rfl dX2_commonDivisor_32 ?_
                  refine gs_goto (tgt := 3) k (by decide) dX2_commonDivisor_35 ?_
                  refine gs_iload_n (q := 0) k rfl rfl dX2_commonDivisor_3 ?_
                  refine gs_iconst (v := 1) k (by decide) dX2_commonDivisor_4 ?_
                  refine gs_icmp_le (tgt := 38) k (by decide) dX2_commonDivisor_5 (fun _ => ?_) (fun h => absurd h (by decide))
                  refine gs_iconst (v := 1) k (by decide) dX2_commonDivisor_38 ?_
                  exact gs_iret k kt dX2_commonDivisor_39 ⟨(by rw [gdv, ifc_f (fun q => c32 q.2), ifc_f (fun q => c48 q.2), ifc_f (fun q => c56 q.2), ifc_f (fun q => c57 q.1), ifc_f (fun q => c58 q.1)]), rfl⟩
                · refine gs_aload_n (q := 1) k rfl rfl dX2_commonDivisor_19 ?_
                  refine gs_get (C := RX2) (T := TX2) (N := 4) (ci := 2) (k0 := 58) (j := 3) k (hI 58 (by omega)) rfl rfl inX2 (by decide) fl_X2_18 rfl rfl dX2_commonDivisor_20 ?_
                  refine gs_iload_n (q := 2) k rfl rfl dX2_commonDivisor_23 ?_
                  refine gs_ialdN (k0 := 61) (n := 6) (e := j) k (hI 61 (by omega)) (fun _ => rfl) hy (by omega) (by decide) dX2_commonDivisor_24 ?_
                  refine gs_iload_n (q := 0) k rfl rfl dX2_commonDivisor_25 ?_
                  refine gs_irem k (by decide) dX2_commonDivisor_26 ?_
                  refine gs_if_ne (tgt := 32) k (by decide) dX2_commonDivisor_27 (fun c59 => ?_) (fun c59 => ?_)
                  · refine gs_iinc (q := 0) (v := 1) (lv' := [(2, .int 1), (0, .ref (E.2.2.1 58)), (1, .int y)]) k rfl (by decide) (by decide) rfl dX2_commonDivisor_32 ?_
                    refine gs_goto (tgt := 3) k (by decide) dX2_commonDivisor_35 ?_
                    refine gs_iload_n (q := 0) k rfl rfl dX2_commonDivisor_3 ?_
                    refine gs_iconst (v := 1) k (by decide) dX2_commonDivisor_4 ?_
                    refine gs_icmp_le (tgt := 38) k (by decide) dX2_commonDivisor_5 (fun _ => ?_) (fun h => absurd h (by decide))
                    refine gs_iconst (v := 1) k (by decide) dX2_commonDivisor_38 ?_
                    exact gs_iret k kt dX2_commonDivisor_39 ⟨(by rw [gdv, ifc_f (fun q => c32 q.2), ifc_f (fun q => c48 q.2), ifc_f (fun q => c56 q.2), ifc_f (fun q => c57 q.1), ifc_f (fun q => c59 q.2)]), rfl⟩
                  · refine gs_iload_n (q := 0) k rfl rfl dX2_commonDivisor_30 ?_
                    exact gs_iret k kt dX2_commonDivisor_31 ⟨(by rw [gdv, ifc_f (fun q => c32 q.2), ifc_f (fun q => c48 q.2), ifc_f (fun q => c56 q.2), ifc_f (fun q => c57 q.1), ifc_t ⟨c58, c59⟩]), rfl⟩
              · refine gs_aload_n (q := 1) k rfl rfl dX2_commonDivisor_19 ?_
                refine gs_get (C := RX2) (T := TX2) (N := 4) (ci := 2) (k0 := 58) (j := 3) k (hI 58 (by omega)) rfl rfl inX2 (by decide) fl_X2_18 rfl rfl dX2_commonDivisor_20 ?_
                refine gs_iload_n (q := 2) k rfl rfl dX2_commonDivisor_23 ?_
                refine gs_ialdN (k0 := 61) (n := 6) (e := j) k (hI 61 (by omega)) (fun _ => rfl) hy (by omega) (by decide) dX2_commonDivisor_24 ?_
                refine gs_iload_n (q := 0) k rfl rfl dX2_commonDivisor_25 ?_
                refine gs_irem k (by decide) dX2_commonDivisor_26 ?_
                refine gs_if_ne (tgt := 32) k (by decide) dX2_commonDivisor_27 (fun c60 => ?_) (fun c60 => ?_)
                · refine gs_iinc (q := 0) (v := 2) (lv' := [(2, .int 2), (0, .ref (E.2.2.1 58)), (1, .int y)]) k rfl (by decide) (by decide) rfl dX2_commonDivisor_32 ?_
                  refine gs_goto (tgt := 3) k (by decide) dX2_commonDivisor_35 ?_
                  refine gs_iload_n (q := 0) k rfl rfl dX2_commonDivisor_3 ?_
                  refine gs_iconst (v := 1) k (by decide) dX2_commonDivisor_4 ?_
                  refine gs_icmp_le (tgt := 38) k (by decide) dX2_commonDivisor_5 (fun h => absurd h (by decide)) (fun _ => ?_)
                  refine gs_aload_n (q := 1) k rfl rfl dX2_commonDivisor_8 ?_
                  refine gs_get (C := RX2) (T := TX2) (N := 4) (ci := 2) (k0 := 58) (j := 2) k (hI 58 (by omega)) rfl rfl inX2 (by decide) fl_X2_15 rfl rfl dX2_commonDivisor_9 ?_
                  refine gs_iload_n (q := 2) k rfl rfl dX2_commonDivisor_12 ?_
                  refine gs_ialdN (k0 := 60) (n := 6) (e := j) k (hI 60 (by omega)) (fun _ => rfl) hy (by omega) (by decide) dX2_commonDivisor_13 ?_
                  refine gs_iload_n (q := 0) k rfl rfl dX2_commonDivisor_14 ?_
                  refine gs_irem k (by decide) dX2_commonDivisor_15 ?_
                  refine gs_if_ne (tgt := 32) k (by decide) dX2_commonDivisor_16 (fun c61 => ?_) (fun c61 => ?_)
                  · refine gs_iinc (q := 0) (v := 1) (lv' := [(2, .int 1), (0, .ref (E.2.2.1 58)), (1, .int y)]) k rfl (by decide) (by decide) rfl dX2_commonDivisor_32 ?_
                    refine gs_goto (tgt := 3) k (by decide) dX2_commonDivisor_35 ?_
                    refine gs_iload_n (q := 0) k rfl rfl dX2_commonDivisor_3 ?_
                    refine gs_iconst (v := 1) k (by decide) dX2_commonDivisor_4 ?_
                    refine gs_icmp_le (tgt := 38) k (by decide) dX2_commonDivisor_5 (fun _ => ?_) (fun h => absurd h (by decide))
                    refine gs_iconst (v := 1) k (by decide) dX2_commonDivisor_38 ?_
                    exact gs_iret k kt dX2_commonDivisor_39 ⟨(by rw [gdv, ifc_f (fun q => c32 q.2), ifc_f (fun q => c48 q.2), ifc_f (fun q => c56 q.2), ifc_f (fun q => c60 q.2), ifc_f (fun q => c61 q.1)]), rfl⟩
                  · refine gs_aload_n (q := 1) k rfl rfl dX2_commonDivisor_19 ?_
                    refine gs_get (C := RX2) (T := TX2) (N := 4) (ci := 2) (k0 := 58) (j := 3) k (hI 58 (by omega)) rfl rfl inX2 (by decide) fl_X2_18 rfl rfl dX2_commonDivisor_20 ?_
                    refine gs_iload_n (q := 2) k rfl rfl dX2_commonDivisor_23 ?_
                    refine gs_ialdN (k0 := 61) (n := 6) (e := j) k (hI 61 (by omega)) (fun _ => rfl) hy (by omega) (by decide) dX2_commonDivisor_24 ?_
                    refine gs_iload_n (q := 0) k rfl rfl dX2_commonDivisor_25 ?_
                    refine gs_irem k (by decide) dX2_commonDivisor_26 ?_
                    refine gs_if_ne (tgt := 32) k (by decide) dX2_commonDivisor_27 (fun c62 => ?_) (fun c62 => ?_)
                    · refine gs_iinc (q := 0) (v := 1) (lv' := [(2, .int 1), (0, .ref (E.2.2.1 58)), (1, .int y)]) k rfl (by decide) (by decide) rfl dX2_commonDivisor_32 ?_
                      refine gs_goto (tgt := 3) k (by decide) dX2_commonDivisor_35 ?_
                      refine gs_iload_n (q := 0) k rfl rfl dX2_commonDivisor_3 ?_
                      refine gs_iconst (v := 1) k (by decide) dX2_commonDivisor_4 ?_
                      refine gs_icmp_le (tgt := 38) k (by decide) dX2_commonDivisor_5 (fun _ => ?_) (fun h => absurd h (by decide))
                      refine gs_iconst (v := 1) k (by decide) dX2_commonDivisor_38 ?_
                      exact gs_iret k kt dX2_commonDivisor_39 ⟨(by rw [gdv, ifc_f (fun q => c32 q.2), ifc_f (fun q => c48 q.2), ifc_f (fun q => c56 q.2), ifc_f (fun q => c60 q.2), ifc_f (fun q => c62 q.2)]), rfl⟩
                    · refine gs_iload_n (q := 0) k rfl rfl dX2_commonDivisor_30 ?_
                      exact gs_iret k kt dX2_commonDivisor_31 ⟨(by rw [gdv, ifc_f (fun q => c32 q.2), ifc_f (fun q => c48 q.2), ifc_f (fun q => c56 q.2), ifc_f (fun q => c60 q.2), ifc_t ⟨c61, c62⟩]), rfl⟩
                · refine gs_iload_n (q := 0) k rfl rfl dX2_commonDivisor_30 ?_
                  exact gs_iret k kt dX2_commonDivisor_31 ⟨(by rw [gdv, ifc_f (fun q => c32 q.2), ifc_f (fun q => c48 q.2), ifc_f (fun q => c56 q.2), ifc_t ⟨c57, c60⟩]), rfl⟩
            · refine gs_iload_n (q := 0) k rfl rfl dX2_commonDivisor_30 ?_
              exact gs_iret k kt dX2_commonDivisor_31 ⟨(by rw [gdv, ifc_f (fun q => c32 q.2), ifc_f (fun q => c48 q.2), ifc_t ⟨c49, c56⟩]), rfl⟩
        · refine gs_iload_n (q := 0) k rfl rfl dX2_commonDivisor_30 ?_
          exact gs_iret k kt dX2_commonDivisor_31 ⟨(by rw [gdv, ifc_f (fun q => c32 q.2), ifc_t ⟨c33, c48⟩]), rfl⟩
    · refine gs_iload_n (q := 0) k rfl rfl dX2_commonDivisor_30 ?_
      exact gs_iret k kt dX2_commonDivisor_31 ⟨(by rw [gdv, ifc_t ⟨c1, c32⟩]), rfl⟩

theorem cf_X7_common : CF yX7_common cX7_common 2 (some .int) 2 := ⟨cd_X7_common, iz_X7, by decide, by decide +kernel, by decide +kernel, by decide +kernel⟩
set_option maxRecDepth 100000 in
set_option maxHeartbeats 4000000 in
theorem c_X7_common {l : Launch} {E : Ev} {M : Mm} : ∀ (b : Nat), b ≤ 6 → ∀ (a d : Nat), a < 2 ^ 31 → b ≤ d → Cm l E yX7_common cX7_common 2 (some .int) d [.int (nI a), .int (nI b)] M (pI (nI (Nat.gcd a b)) M) := by
  intro b
  induction b using Nat.strongRecOn with
  | ind b ih =>
    intro hb a d ha hd
    refine Cm.of (by decide) (Nat.le_of_ble_eq_true rfl) (fun K k kt => ?_)
    show G l E K 0 [(0, .int (nI a)), (1, .int (nI b))] [] M
    refine gs_iload_n (q := 1) k rfl rfl dX7_common_0 ?_
    refine gs_ifN_ne (a := b) (tgt := 8) k rfl (by omega) (by decide) dX7_common_1 (fun c1 => ?_) (fun c1 => ?_)
    · refine gs_iload_n (q := 1) k rfl rfl dX7_common_8 ?_
      refine gs_iload_n (q := 0) k rfl rfl dX7_common_9 ?_
      refine gs_iload_n (q := 1) k rfl rfl dX7_common_10 ?_
      refine gs_iremN (a := a) (b := b) k rfl rfl (by omega) (by omega) (by omega) dX7_common_11 ?_
      refine gs_callS (As := [.int (nI b), .int (nI (a % b))]) k (ih (a % b) (Nat.mod_lt _ (by omega)) (Nat.le_trans (Nat.le_of_lt (Nat.mod_lt _ (by omega))) hb) b (d - 1) (by omega) (by have := Nat.mod_lt a (show 0 < b by omega); omega)) cf_X7_common sm_X7_common ml_X7_241 (by omega) rfl rfl (Nat.le_of_ble_eq_true rfl) dX7_common_12 (ppI ?_)
      exact gs_iret k kt dX7_common_15 ⟨(by rw [Nat.gcd_comm b, ← Nat.gcd_rec, Nat.gcd_comm]), rfl⟩
    · refine gs_iload_n (q := 0) k rfl rfl dX7_common_4 ?_
      refine gs_goto (tgt := 15) k (by decide) dX7_common_5 ?_
      exact gs_iret k kt dX7_common_15 ⟨(by rw [c1, Nat.gcd_zero_right]), rfl⟩
theorem cf_X6_height : CF yX6_height cX6_height 6 (some .long) 3 := ⟨cd_X6_height, iz_X6, by decide, by decide +kernel, by decide +kernel, by decide +kernel⟩
set_option maxRecDepth 100000 in
set_option maxHeartbeats 4000000 in
theorem c_X6_height {l : Launch} {E : Ev} {M : Mm} {n : Nat} {kd : Nat → Int32} {V : Nat → Nat → Int32} (hI : ∀ k, k < 108 → k ∈ E.2.1) (hn : Cn M n) (hF : CFn M n kd V) (hv : ∀ f, f < 6 → ∀ s, s < 2 ^ n → isV (V f s)) {f i p : Int32} : Cm l E yX6_height cX6_height 6 (some .long) 4 [.ref (E.2.2.1 0), .int f, .int i, .int p] M (pR (.long (A_height n kd V f i p)) M) := by
  refine Cm.of (by decide) (Nat.le_of_ble_eq_true rfl) (fun K k kt => ?_)
  show G l E K 0 [(0, .ref (E.2.2.1 0)), (1, .int f), (2, .int i), (3, .int p)] [] M
  obtain ⟨hn0, hn1, hn6⟩ := id hn
  have hp := p2_le6 hn6
  have hp2 := p2_ge2 hn1
  refine gs_aload_n (q := 0) k rfl rfl dX6_height_0 ?_
  refine gs_iload_n (q := 1) k rfl rfl dX6_height_1 ?_
  refine gs_callV (As := [.int f]) (k0 := 0) (ci := 6) (T := TX6) (N := 10) k (c_X6_errorOf hI hF) cf_X6_errorOf im_X6_errorOf sl_X6_errorOf ml_X6_154 (hI 0 (by omega)) rfl rfl (by decide) rfl rfl (Nat.le_of_ble_eq_true rfl) dX6_height_2 (ppE (fun c1 => ?_) (fun c1 c2 => ?_) (fun c1 c2 => ?_))
  · refine gs_if_ne (tgt := 17) k (by decide) dX6_height_5 (fun _ => ?_) (fun h => absurd h (by decide))
    refine gs_ldc2 (v := -9223372036854775808) k cl_X6_184 dX6_height_17 ?_
    exact gs_lret k kt dX6_height_20 ⟨(by simp [-Int32.not_lt, A_height, hgv, i0_2, ifc_T, ifc_F, c1]), Same.rf⟩
  · have bc1 := inR_lt c1
    refine gs_if_ne (tgt := 17) k (by decide) dX6_height_5 (fun _ => ?_) (fun h => absurd h (by decide))
    refine gs_ldc2 (v := -9223372036854775808) k cl_X6_184 dX6_height_17 ?_
    exact gs_lret k kt dX6_height_20 ⟨(by simp [-Int32.not_lt, A_height, hgv, i0_2, ifc_T, ifc_F, c1, c2]), Same.rf⟩
  · have bc1 := inR_lt c1
    refine gs_if_ne (tgt := 17) k (by decide) dX6_height_5 (fun h => absurd h (by decide)) (fun _ => ?_)
    refine gs_iload_n (q := 3) k rfl rfl dX6_height_8 ?_
    refine gs_if_lt (tgt := 17) k (by decide) dX6_height_9 (fun c3 => ?_) (fun c3 => ?_)
    · have ec3 : ¬ inR p 2 := inR_n1 c3
      refine gs_ldc2 (v := -9223372036854775808) k cl_X6_184 dX6_height_17 ?_
      exact gs_lret k kt dX6_height_20 ⟨(by simp [-Int32.not_lt, A_height, hgv, i0_2, ifc_T, ifc_F, c1, c2, c3, ec3]), Same.rf⟩
    · refine gs_iload_n (q := 3) k rfl rfl dX6_height_12 ?_
      refine gs_iconst (v := 1) k (by decide) dX6_height_13 ?_
      refine gs_icmp_le (tgt := 21) k (by decide) dX6_height_14 (fun c4 => ?_) (fun c4 => ?_)
      · have ec4 : inR p 2 := inR_of' rfl (by decide) (by decide) c3 (Int32.not_lt.mpr c4)
        have fc4 := inR_lt ec4
        refine gs_aload_n (q := 0) k rfl rfl dX6_height_21 ?_
        refine gs_get (C := RX6) (T := TX6) (N := 10) (ci := 6) (k0 := 0) (j := 6) k (hI 0 (by omega)) rfl rfl inX6 (by decide) fl_X6_49 rfl rfl dX6_height_22 ?_
        refine gs_aload_n (q := 0) k rfl rfl dX6_height_25 ?_
        refine gs_get (C := RX6) (T := TX6) (N := 10) (ci := 6) (k0 := 0) (j := 0) k (hI 0 (by omega)) rfl rfl inX6 (by decide) fl_X6_12 rfl rfl dX6_height_26 ?_
        refine gs_get (C := RX5) (T := TX5) (N := 9) (ci := 5) (k0 := 1) (j := 7) k (hI 1 (by omega)) rfl rfl inX5 (by decide) fl_X6_107 rfl rfl dX6_height_29 ?_
        refine gs_iload_n (q := 1) k rfl rfl dX6_height_32 ?_
        refine gs_aaldSN (k0 := 8) (n := 6) (e := tn f) (a := E.2.2.1 (10 + 2 * (tn f))) k (hI 8 (by omega)) (fun _ => rfl) (inR_eq c1) (by omega) (by decide) rfl dX6_height_33 ?_
        refine gs_get (C := RX3) (T := TX3) (N := 2) (ci := 3) (k0 := (10 + 2 * (tn f))) (j := 1) k (hI (10 + 2 * (tn f)) (by omega)) (ent_F1 (by omega) _) rfl inX3 (by decide) fl_X6_111 rfl rfl dX6_height_34 ?_
        refine gs_aload_n (q := 0) k rfl rfl dX6_height_37 ?_
        refine gs_get (C := RX6) (T := TX6) (N := 10) (ci := 6) (k0 := 0) (j := 0) k (hI 0 (by omega)) rfl rfl inX6 (by decide) fl_X6_12 rfl rfl dX6_height_38 ?_
        refine gs_get (C := RX5) (T := TX5) (N := 9) (ci := 5) (k0 := 1) (j := 0) k (hI 1 (by omega)) rfl rfl inX5 (by decide) fl_X6_63 rfl rfl dX6_height_41 ?_
        refine gs_callV (As := [.ref (E.2.2.1 (11 + 2 * (tn f))), .int (M 1 0)]) (k0 := 58) (ci := 2) (T := TX2) (N := 4) k (c_X2_follow hI hF (by omega) hn6 (hv _ (by omega)) hn1 hn0) cf_X2_follow im_X2_follow sl_X2_follow ml_X6_213 (hI 58 (by omega)) rfl rfl (by decide) rfl rfl (Nat.le_of_ble_eq_true rfl) dX6_height_44 (ppP (fun m hm => ?_))
        refine gs_iload_n (q := 2) k rfl rfl dX6_height_47 ?_
        refine gs_if_lt (tgt := 62) k (by decide) dX6_height_48 (fun c5 => ?_) (fun c5 => ?_)
        · have ec5 : ¬ inR i (slen (V (tn f)) n) := inR_n1 c5
          refine gs_ldc2 (v := -9223372036854775808) k cl_X6_184 dX6_height_62 ?_
          exact gs_lret k kt dX6_height_65 ⟨(by simp [-Int32.not_lt, A_height, hgv, i0_2, ifc_T, ifc_F, c1, c2, c3, c4, ec4, c5, ec5]), hm.1.1⟩
        · have hk6 := hm.1.2.1
          have hpos := c5
          refine gs_iload_n (q := 2) k rfl rfl dX6_height_51 ?_
          refine gs_aload_n (q := 0) k rfl rfl dX6_height_52 ?_
          refine gs_get (C := RX6) (T := TX6) (N := 10) (ci := 6) (k0 := 0) (j := 6) k (hI 0 (by omega)) rfl rfl inX6 (by decide) fl_X6_49 rfl rfl dX6_height_53 ?_
          refine gs_get (C := RX2) (T := TX2) (N := 4) (ci := 2) (k0 := 58) (j := 0) k (hI 58 (by omega)) rfl rfl inX2 (by decide) fl_X6_217 rfl rfl dX6_height_56 ?_
          refine gs_top (y := nI (slen (V (tn f)) n)) hm.1.2.2.1 ?_
          refine gs_icmp_lt (tgt := 66) k (by decide) dX6_height_59 (fun c6 => ?_) (fun c6 => ?_)
          · have ec6 : inR i (slen (V (tn f)) n) := inR_of rfl (by omega) hpos (Int32.not_le.mpr c6)
            have fc6 := inR_lt ec6
            have hall : ∀ j, j < tn i + 1 → ¬ sq (V (tn f)) n j = 2 ^ n - 1 := fun j hj => (hm.1.2.2.2 j (by omega)).1
            obtain ⟨z1, z2, z3, z4, z5, z6⟩ := sz_ok hn6 hall
            obtain ⟨z7, z8⟩ := rs_ok hn6 (hv _ (by omega)) hall
            have g1 := Nat.gcd_pos_of_pos_right (rsv (V (tn f)) n (tn i)).toInt.natAbs z5
            have g2 := Nat.gcd_le_right (rsv (V (tn f)) n (tn i)).toInt.natAbs z5
            refine gs_aload_n (q := 0) k rfl rfl dX6_height_66 ?_
            refine gs_get (C := RX6) (T := TX6) (N := 10) (ci := 6) (k0 := 0) (j := 6) k (hI 0 (by omega)) rfl rfl inX6 (by decide) fl_X6_49 rfl rfl dX6_height_67 ?_
            refine gs_iload_n (q := 2) k rfl rfl dX6_height_70 ?_
            refine gs_callV (As := [.int i]) (k0 := 58) (ci := 2) (T := TX2) (N := 4) k (c_X2_commonDivisor (j := tn i) hI (inR_eq ec6) (by omega)) cf_X2_commonDivisor im_X2_commonDivisor sl_X2_commonDivisor ml_X6_222 (hI 58 (by omega)) rfl rfl (by decide) rfl rfl (Nat.le_of_ble_eq_true rfl) dX6_height_71 (ppI ?_)
            refine gs_top (y := nI (Nat.gcd (rsv (V (tn f)) n (tn i)).toInt.natAbs (szv (V (tn f)) n (tn i)))) (by rw [(hm.1.2.2.2 (tn i) (by omega)).2.2.1, (hm.1.2.2.2 (tn i) (by omega)).2.2.2]; exact gdv_eq z5 z6) ?_
            refine gs_istore (lv' := [(4, .int (nI (Nat.gcd (rsv (V (tn f)) n (tn i)).toInt.natAbs (szv (V (tn f)) n (tn i))))), (0, .ref (E.2.2.1 0)), (1, .int f), (2, .int i), (3, .int p)]) k (by decide) rfl dX6_height_74 ?_
            refine gs_iload_n (q := 4) k rfl rfl dX6_height_76 ?_
            refine gs_if_ne (tgt := 92) k (by decide) dX6_height_77 (fun c7 => ?_) (fun c7 => ?_)
            · refine gs_aload_n (q := 1) k rfl rfl dX6_height_92 ?_
              refine gs_get (C := RX6) (T := TX6) (N := 10) (ci := 6) (k0 := 0) (j := 6) k (hI 0 (by omega)) rfl rfl inX6 (by decide) fl_X6_49 rfl rfl dX6_height_93 ?_
              refine gs_get (C := RX2) (T := TX2) (N := 4) (ci := 2) (k0 := 58) (j := 3) k (hI 58 (by omega)) rfl rfl inX2 (by decide) fl_X6_228 rfl rfl dX6_height_96 ?_
              refine gs_iload_n (q := 3) k rfl rfl dX6_height_99 ?_
              refine gs_ialdN (k0 := 61) (n := 6) (e := tn i) k (hI 61 (by omega)) (fun _ => rfl) (inR_eq ec6) (by omega) (by decide) dX6_height_100 ?_
              refine gs_top (y := nI (szv (V (tn f)) n (tn i))) (hm.1.2.2.2 (tn i) (by omega)).2.2.2 ?_
              refine gs_istore (lv' := [(5, .int (nI (szv (V (tn f)) n (tn i)))), (4, .int (nI (Nat.gcd (rsv (V (tn f)) n (tn i)).toInt.natAbs (szv (V (tn f)) n (tn i))))), (0, .ref (E.2.2.1 0)), (1, .int f), (2, .int i), (3, .int p)]) k (by decide) rfl dX6_height_101 ?_
              refine gs_iload (q := 1) k rfl dX6_height_103 ?_
              refine gs_if_ne (tgt := 114) k (by decide) dX6_height_105 (fun c8 => ?_) (fun c8 => absurd c8 (nI_ne0 g1 (by omega)))
              refine gs_iload (q := 0) k rfl dX6_height_114 ?_
              refine gs_iload (q := 1) k rfl dX6_height_116 ?_
              refine gs_idiv k (nI_ne0 g1 (by omega)) dX6_height_118 ?_
              refine gs_i2l k dX6_height_119 ?_
              exact gs_lret k kt dX6_height_120 ⟨(by simp [-Int32.not_lt, A_height, hgv, i0_2, ifc_T, ifc_F, c1, c2, c3, c4, ec4, c5, c6, ec6, c7]), hm.1.1⟩
            · refine gs_aload_n (q := 1) k rfl rfl dX6_height_80 ?_
              refine gs_get (C := RX6) (T := TX6) (N := 10) (ci := 6) (k0 := 0) (j := 6) k (hI 0 (by omega)) rfl rfl inX6 (by decide) fl_X6_49 rfl rfl dX6_height_81 ?_
              refine gs_get (C := RX2) (T := TX2) (N := 4) (ci := 2) (k0 := 58) (j := 2) k (hI 58 (by omega)) rfl rfl inX2 (by decide) fl_X6_225 rfl rfl dX6_height_84 ?_
              refine gs_iload_n (q := 3) k rfl rfl dX6_height_87 ?_
              refine gs_ialdN (k0 := 60) (n := 6) (e := tn i) k (hI 60 (by omega)) (fun _ => rfl) (inR_eq ec6) (by omega) (by decide) dX6_height_88 ?_
              refine gs_top (y := rsv (V (tn f)) n (tn i)) (hm.1.2.2.2 (tn i) (by omega)).2.2.1 ?_
              refine gs_goto (tgt := 101) k (by decide) dX6_height_89 ?_
              refine gs_top (y := rsv (V (tn f)) n (tn i)) rfl ?_
              refine gs_istore (lv' := [(5, .int (rsv (V (tn f)) n (tn i))), (4, .int (nI (Nat.gcd (rsv (V (tn f)) n (tn i)).toInt.natAbs (szv (V (tn f)) n (tn i))))), (0, .ref (E.2.2.1 0)), (1, .int f), (2, .int i), (3, .int p)]) k (by decide) rfl dX6_height_101 ?_
              refine gs_iload (q := 1) k rfl dX6_height_103 ?_
              refine gs_if_ne (tgt := 114) k (by decide) dX6_height_105 (fun c9 => ?_) (fun c9 => absurd c9 (nI_ne0 g1 (by omega)))
              refine gs_iload (q := 0) k rfl dX6_height_114 ?_
              refine gs_iload (q := 1) k rfl dX6_height_116 ?_
              refine gs_idiv k (nI_ne0 g1 (by omega)) dX6_height_118 ?_
              refine gs_i2l k dX6_height_119 ?_
              exact gs_lret k kt dX6_height_120 ⟨(by simp [-Int32.not_lt, A_height, hgv, i0_2, ifc_T, ifc_F, c1, c2, c3, c4, ec4, c5, c6, ec6, c7]), hm.1.1⟩
          · have ec6 : ¬ inR i (slen (V (tn f)) n) := inR_n2 rfl (by omega) (Int32.not_lt.mp c6)
            refine gs_ldc2 (v := -9223372036854775808) k cl_X6_184 dX6_height_62 ?_
            exact gs_lret k kt dX6_height_65 ⟨(by simp [-Int32.not_lt, A_height, hgv, i0_2, ifc_T, ifc_F, c1, c2, c3, c4, ec4, c5, c6, ec6]), hm.1.1⟩
      · have ec4 : ¬ inR p 2 := inR_n2' rfl (by decide) (by decide) (Int32.not_le.mp c4)
        refine gs_ldc2 (v := -9223372036854775808) k cl_X6_184 dX6_height_17 ?_
        exact gs_lret k kt dX6_height_20 ⟨(by simp [-Int32.not_lt, A_height, hgv, i0_2, ifc_T, ifc_F, c1, c2, c3, c4, ec4]), Same.rf⟩

theorem cf_X7_height : CF yX7_height cX7_height 7 (some .long) 3 := ⟨cd_X7_height, iz_X7, by decide, by decide +kernel, by decide +kernel, by decide +kernel⟩
set_option maxRecDepth 100000 in
set_option maxHeartbeats 4000000 in
theorem c_X7_height {l : Launch} {E : Ev} {M : Mm} {n : Nat} {kd : Nat → Int32} {V : Nat → Nat → Int32} (hI : ∀ k, k < 108 → k ∈ E.2.1) (hn : Rn M n) (hF : RFn M n kd V) (hv : ∀ f, f < 6 → ∀ s, s < 2 ^ n → isV (V f s)) {f i p : Int32} : Cm l E yX7_height cX7_height 7 (some .long) 7 [.ref (E.2.2.1 65), .int f, .int i, .int p] M (pR (.long (A_height n kd V f i p)) M) := by
  refine Cm.of (by decide) (Nat.le_of_ble_eq_true rfl) (fun K k kt => ?_)
  show G l E K 0 [(0, .ref (E.2.2.1 65)), (1, .int f), (2, .int i), (3, .int p)] [] M
  obtain ⟨hn0, hn1, hn6⟩ := id hn
  have hp := p2_le6 hn6
  have hp2 := p2_ge2 hn1
  refine gs_aload_n (q := 0) k rfl rfl dX7_height_0 ?_
  refine gs_iload_n (q := 1) k rfl rfl dX7_height_1 ?_
  refine gs_callV (As := [.int f]) (k0 := 65) (ci := 7) (T := TX7) (N := 27) k (c_X7_isThere hI hF) cf_X7_isThere im_X7_isThere sl_X7_isThere ml_X7_163 (hI 65 (by omega)) rfl rfl (by decide) rfl rfl (Nat.le_of_ble_eq_true rfl) dX7_height_2 (ppB (fun c1 => ?_) (fun c1 => ?_))
  · have bc1 := inR_lt c1.1
    have tc1 := c1.2
    refine gs_if_eq (tgt := 22) k (by decide) dX7_height_5 (fun h => absurd h (by decide)) (fun _ => ?_)
    refine gs_iload_n (q := 3) k rfl rfl dX7_height_8 ?_
    refine gs_i2l k dX7_height_9 ?_
    refine gs_lconst (v := 0) k (by decide) dX7_height_10 ?_
    refine gs_lconst (v := 1) k (by decide) dX7_height_11 ?_
    refine gs_callS (As := [.long (p.toInt64), .long (0), .long (1)]) k (Cm.iff (inL (n := 2) (by decide) (by decide)) c_X7_in) cf_X7_in sm_X7_in ml_X7_79 (by decide) rfl rfl (Nat.le_of_ble_eq_true rfl) dX7_height_12 (ppB (fun c2 => ?_) (fun c2 => ?_))
    · have bc2 := inR_lt c2
      refine gs_if_eq (tgt := 22) k (by decide) dX7_height_15 (fun h => absurd h (by decide)) (fun _ => ?_)
      refine gs_iload_n (q := 2) k rfl rfl dX7_height_18 ?_
      refine gs_if_ge (tgt := 26) k (by decide) dX7_height_19 (fun c3 => ?_) (fun c3 => ?_)
      · have hpos := Int32.not_lt.mpr c3
        refine gs_aload_n (q := 0) k rfl rfl dX7_height_26 ?_
        refine gs_iload_n (q := 1) k rfl rfl dX7_height_27 ?_
        refine gs_callV (As := [.int f]) (k0 := 65) (ci := 7) (T := TX7) (N := 27) k (c_X7_layLevels (f := tn f) hI hn hF (inR_eq c1.1) (by omega) (by assumption) (hv _ (by omega))) cf_X7_layLevels im_X7_layLevels sl_X7_layLevels ml_X7_238 (hI 65 (by omega)) rfl rfl (by decide) rfl rfl (Nat.le_of_ble_eq_true rfl) dX7_height_28 (ppP (fun m hm => ?_))
        have hk6 := hm.1.2.1
        have hF := hF.same hm.1.1
        have hn := hn.same hm.1.1
        refine gs_iload_n (q := 2) k rfl rfl dX7_height_31 ?_
        refine gs_aload_n (q := 0) k rfl rfl dX7_height_32 ?_
        refine gs_get (C := RX7) (T := TX7) (N := 27) (ci := 7) (k0 := 65) (j := 12) k (hI 65 (by omega)) rfl rfl inX7 (by decide) fl_X7_232 rfl rfl dX7_height_33 ?_
        refine gs_top (y := nI (slen (V (tn f)) n)) hm.1.2.2.1 ?_
        refine gs_icmp_lt (tgt := 43) k (by decide) dX7_height_36 (fun c4 => ?_) (fun c4 => ?_)
        · have ec4 : inR i (slen (V (tn f)) n) := inR_of rfl (by omega) hpos (Int32.not_le.mpr c4)
          have fc4 := inR_lt ec4
          have hall : ∀ j, j < tn i + 1 → ¬ sq (V (tn f)) n j = 2 ^ n - 1 := fun j hj => hm.1.2.2.2.2 j (by omega)
          obtain ⟨z1, z2, z3, z4, z5, z6⟩ := sz_ok hn6 hall
          obtain ⟨z7, z8⟩ := rs_ok hn6 (hv _ (by omega)) hall
          have g1 := Nat.gcd_pos_of_pos_right (rsv (V (tn f)) n (tn i)).toInt.natAbs z5
          have g2 := Nat.gcd_le_right (rsv (V (tn f)) n (tn i)).toInt.natAbs z5
          refine gs_aload_n (q := 0) k rfl rfl dX7_height_43 ?_
          refine gs_get (C := RX7) (T := TX7) (N := 27) (ci := 7) (k0 := 65) (j := 8) k (hI 65 (by omega)) rfl rfl inX7 (by decide) fl_X7_39 rfl rfl dX7_height_44 ?_
          refine gs_iload_n (q := 1) k rfl rfl dX7_height_47 ?_
          refine gs_aaldIN (k0 := 73) (n := 6) (e := tn f) (a := E.2.2.1 (74 + (tn f))) k (hI 73 (by omega)) (fun _ => rfl) (inR_eq c1.1) (by omega) (by decide) rfl dX7_height_48 ?_
          refine gs_aload_n (q := 0) k rfl rfl dX7_height_49 ?_
          refine gs_get (C := RX7) (T := TX7) (N := 27) (ci := 7) (k0 := 65) (j := 11) k (hI 65 (by omega)) rfl rfl inX7 (by decide) fl_X7_48 rfl rfl dX7_height_50 ?_
          refine gs_iload_n (q := 2) k rfl rfl dX7_height_53 ?_
          refine gs_iconst (v := 1) k (by decide) dX7_height_54 ?_
          refine gs_iaddN (a := tn i) (b := 1) k (inR_eq ec4) rfl dX7_height_55 ?_
          refine gs_ialdN (k0 := 82) (n := 7) (e := (tn i) + 1) k (hI 82 (by omega)) (fun _ => rfl) rfl (by omega) (by decide) dX7_height_56 ?_
          refine gs_top (y := nI (sq (V (tn f)) n (tn i + 1))) (hm.1.2.2.2.1 (tn i + 1) (by omega)) ?_
          refine gs_ialdN (k0 := (74 + (tn f))) (n := 64) (e := sq (V (tn f)) n (tn i + 1)) k (hI (74 + (tn f)) (by omega)) (ent_RV (by omega)) rfl (by omega) (by decide) dX7_height_57 ?_
          refine gs_top (y := V (tn f) (sq (V (tn f)) n (tn i + 1))) ((hF (tn f) (by omega)).2.2 (by assumption) (sq (V (tn f)) n (tn i + 1)) (by omega)) ?_
          refine gs_aload_n (q := 0) k rfl rfl dX7_height_58 ?_
          refine gs_get (C := RX7) (T := TX7) (N := 27) (ci := 7) (k0 := 65) (j := 8) k (hI 65 (by omega)) rfl rfl inX7 (by decide) fl_X7_39 rfl rfl dX7_height_59 ?_
          refine gs_iload_n (q := 1) k rfl rfl dX7_height_62 ?_
          refine gs_aaldIN (k0 := 73) (n := 6) (e := tn f) (a := E.2.2.1 (74 + (tn f))) k (hI 73 (by omega)) (fun _ => rfl) (inR_eq c1.1) (by omega) (by decide) rfl dX7_height_63 ?_
          refine gs_aload_n (q := 0) k rfl rfl dX7_height_64 ?_
          refine gs_get (C := RX7) (T := TX7) (N := 27) (ci := 7) (k0 := 65) (j := 11) k (hI 65 (by omega)) rfl rfl inX7 (by decide) fl_X7_48 rfl rfl dX7_height_65 ?_
          refine gs_iload_n (q := 2) k rfl rfl dX7_height_68 ?_
          refine gs_ialdN (k0 := 82) (n := 7) (e := tn i) k (hI 82 (by omega)) (fun _ => rfl) (inR_eq ec4) (by omega) (by decide) dX7_height_69 ?_
          refine gs_top (y := nI (sq (V (tn f)) n (tn i))) (hm.1.2.2.2.1 (tn i) (by omega)) ?_
          refine gs_ialdN (k0 := (74 + (tn f))) (n := 64) (e := sq (V (tn f)) n (tn i)) k (hI (74 + (tn f)) (by omega)) (ent_RV (by omega)) rfl (by omega) (by decide) dX7_height_70 ?_
          refine gs_top (y := V (tn f) (sq (V (tn f)) n (tn i))) ((hF (tn f) (by omega)).2.2 (by assumption) (sq (V (tn f)) n (tn i)) (by omega)) ?_
          refine gs_isub k dX7_height_71 ?_
          refine gs_top (y := rsv (V (tn f)) n (tn i)) rfl ?_
          refine gs_istore (lv' := [(4, .int (rsv (V (tn f)) n (tn i))), (0, .ref (E.2.2.1 65)), (1, .int f), (2, .int i), (3, .int p)]) k (by decide) rfl dX7_height_72 ?_
          refine gs_aload_n (q := 1) k rfl rfl dX7_height_74 ?_
          refine gs_get (C := RX7) (T := TX7) (N := 27) (ci := 7) (k0 := 65) (j := 11) k (hI 65 (by omega)) rfl rfl inX7 (by decide) fl_X7_48 rfl rfl dX7_height_75 ?_
          refine gs_iload_n (q := 3) k rfl rfl dX7_height_78 ?_
          refine gs_iconst (v := 1) k (by decide) dX7_height_79 ?_
          refine gs_iaddN (a := tn i) (b := 1) k (inR_eq ec4) rfl dX7_height_80 ?_
          refine gs_ialdN (k0 := 82) (n := 7) (e := (tn i) + 1) k (hI 82 (by omega)) (fun _ => rfl) rfl (by omega) (by decide) dX7_height_81 ?_
          refine gs_top (y := nI (sq (V (tn f)) n (tn i + 1))) (hm.1.2.2.2.1 (tn i + 1) (by omega)) ?_
          refine gs_callS (As := [.int (nI (sq (V (tn f)) n (tn i + 1)))]) k (c_X7_many (S := sq (V (tn f)) n (tn i + 1)) rfl (by omega)) cf_X7_many sm_X7_many ml_X7_229 (by decide) rfl rfl (Nat.le_of_ble_eq_true rfl) dX7_height_82 (ppI ?_)
          have hpc1 := pcn_le (sq (V (tn f)) n (tn i + 1))
          refine gs_aload_n (q := 1) k rfl rfl dX7_height_85 ?_
          refine gs_get (C := RX7) (T := TX7) (N := 27) (ci := 7) (k0 := 65) (j := 11) k (hI 65 (by omega)) rfl rfl inX7 (by decide) fl_X7_48 rfl rfl dX7_height_86 ?_
          refine gs_iload_n (q := 3) k rfl rfl dX7_height_89 ?_
          refine gs_ialdN (k0 := 82) (n := 7) (e := tn i) k (hI 82 (by omega)) (fun _ => rfl) (inR_eq ec4) (by omega) (by decide) dX7_height_90 ?_
          refine gs_top (y := nI (sq (V (tn f)) n (tn i))) (hm.1.2.2.2.1 (tn i) (by omega)) ?_
          refine gs_callS (As := [.int (nI (sq (V (tn f)) n (tn i)))]) k (c_X7_many (S := sq (V (tn f)) n (tn i)) rfl (by omega)) cf_X7_many sm_X7_many ml_X7_229 (by decide) rfl rfl (Nat.le_of_ble_eq_true rfl) dX7_height_91 (ppI ?_)
          have hpc2 := pcn_le (sq (V (tn f)) n (tn i))
          refine gs_isubN (a := pcn (sq (V (tn f)) n (tn i + 1))) (b := pcn (sq (V (tn f)) n (tn i))) k rfl rfl (by omega) dX7_height_94 ?_
          refine gs_top (y := nI (szv (V (tn f)) n (tn i))) (by rw [z4]) ?_
          refine gs_istore (lv' := [(5, .int (nI (szv (V (tn f)) n (tn i)))), (4, .int (rsv (V (tn f)) n (tn i))), (0, .ref (E.2.2.1 65)), (1, .int f), (2, .int i), (3, .int p)]) k (by decide) rfl dX7_height_95 ?_
          refine gs_iload (q := 1) k rfl dX7_height_97 ?_
          refine gs_abs k ml_X7_244 (by decide) (Nat.le_of_ble_eq_true rfl) dX7_height_99 ?_
          refine gs_top (y := nI ((rsv (V (tn f)) n (tn i)).toInt.natAbs)) (iabs_n z7) ?_
          refine gs_iload (q := 0) k rfl dX7_height_102 ?_
          refine gs_callS (As := [.int (nI ((rsv (V (tn f)) n (tn i)).toInt.natAbs)), .int (nI (szv (V (tn f)) n (tn i)))]) k (c_X7_common (szv (V (tn f)) n (tn i)) z6 (rsv (V (tn f)) n (tn i)).toInt.natAbs 6 z8 z6) cf_X7_common sm_X7_common ml_X7_241 (by decide) rfl rfl (Nat.le_of_ble_eq_true rfl) dX7_height_104 (ppI ?_)
          refine gs_istore (lv' := [(6, .int (nI (Nat.gcd (rsv (V (tn f)) n (tn i)).toInt.natAbs (szv (V (tn f)) n (tn i))))), (5, .int (nI (szv (V (tn f)) n (tn i)))), (4, .int (rsv (V (tn f)) n (tn i))), (0, .ref (E.2.2.1 65)), (1, .int f), (2, .int i), (3, .int p)]) k (by decide) rfl dX7_height_107 ?_
          refine gs_iload_n (q := 6) k rfl rfl dX7_height_109 ?_
          refine gs_if_ne (tgt := 122) k (by decide) dX7_height_110 (fun c5 => ?_) (fun c5 => ?_)
          · refine gs_iload (q := 1) k rfl dX7_height_122 ?_
            refine gs_iload (q := 0) k rfl dX7_height_124 ?_
            refine gs_idiv k (nI_ne0 g1 (by omega)) dX7_height_126 ?_
            refine gs_i2l k dX7_height_127 ?_
            exact gs_lret k kt dX7_height_128 ⟨(by simp [-Int32.not_lt, A_height, hgv, i0_2, ifc_T, ifc_F, c1, tc1, c2, c3, c4, ec4, c5]), hm.1.1⟩
          · refine gs_iload (q := 2) k rfl dX7_height_113 ?_
            refine gs_iload (q := 0) k rfl dX7_height_115 ?_
            refine gs_idiv k (nI_ne0 g1 (by omega)) dX7_height_117 ?_
            refine gs_i2l k dX7_height_118 ?_
            refine gs_goto (tgt := 128) k (by decide) dX7_height_119 ?_
            exact gs_lret k kt dX7_height_128 ⟨(by simp [-Int32.not_lt, A_height, hgv, i0_2, ifc_T, ifc_F, c1, tc1, c2, c3, c4, ec4, c5]), hm.1.1⟩
        · have ec4 : ¬ inR i (slen (V (tn f)) n) := inR_n2 rfl (by omega) (Int32.not_lt.mp c4)
          refine gs_ldc2 (v := -9223372036854775808) k cl_X7_198 dX7_height_39 ?_
          exact gs_lret k kt dX7_height_42 ⟨(by simp [-Int32.not_lt, A_height, hgv, i0_2, ifc_T, ifc_F, c1, tc1, c2, c3, c4, ec4]), hm.1.1⟩
      · have ec3 : ¬ inR i (slen (V (tn f)) n) := inR_n1 (Int32.not_le.mp c3)
        refine gs_ldc2 (v := -9223372036854775808) k cl_X7_198 dX7_height_22 ?_
        exact gs_lret k kt dX7_height_25 ⟨(by simp [-Int32.not_lt, A_height, hgv, i0_2, ifc_T, ifc_F, c1, tc1, c2, c3, ec3]), Same.rf⟩
    · refine gs_if_eq (tgt := 22) k (by decide) dX7_height_15 (fun _ => ?_) (fun h => absurd h (by decide))
      refine gs_ldc2 (v := -9223372036854775808) k cl_X7_198 dX7_height_22 ?_
      exact gs_lret k kt dX7_height_25 ⟨(by simp [-Int32.not_lt, A_height, hgv, i0_2, ifc_T, ifc_F, c1, tc1, c2]), Same.rf⟩
  · refine gs_if_eq (tgt := 22) k (by decide) dX7_height_5 (fun _ => ?_) (fun h => absurd h (by decide))
    refine gs_ldc2 (v := -9223372036854775808) k cl_X7_198 dX7_height_22 ?_
    exact gs_lret k kt dX7_height_25 ⟨(by simp [-Int32.not_lt, A_height, hgv, i0_2, ifc_T, ifc_F, c1]), Same.rf⟩

