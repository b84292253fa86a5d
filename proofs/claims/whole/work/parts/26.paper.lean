/-! the paper: a list of bytes is laid from len on -/
def wrl : List Nat → Nat → (Nat → Int32) → Nat → Int32
  | [], _, r => r
  | c :: cs, k, r => wrl cs (k + 1) (upd r k (nI c))
theorem wrl_app : ∀ (L1 L2 : List Nat) (k : Nat) (r : Nat → Int32), wrl (L1 ++ L2) k r = wrl L2 (k + L1.length) (wrl L1 k r) := by
  intro L1
  induction L1 with
  | nil => intro L2 k r; rfl
  | cons c cs ih =>
    intro L2 k r
    show wrl (cs ++ L2) (k + 1) (upd r k (nI c)) = wrl L2 (k + (cs.length + 1)) (wrl cs (k + 1) (upd r k (nI c)))
    rw [ih, show k + 1 + cs.length = k + (cs.length + 1) by omega]
theorem wrl_lo : ∀ (L : List Nat) (k : Nat) (r : Nat → Int32) (j : Nat), j < k → wrl L k r j = r j := by
  intro L
  induction L with
  | nil => intro k r j _; rfl
  | cons c cs ih =>
    intro k r j hj
    show wrl cs (k + 1) (upd r k (nI c)) j = r j
    rw [ih _ _ _ (by omega), pk_un (by omega)]
theorem wrl_in : ∀ (L : List Nat) (k : Nat) (r r' : Nat → Int32) (j : Nat), k ≤ j → j < k + L.length → wrl L k r j = wrl L k r' j := by
  intro L
  induction L with
  | nil => intro k r r' j h1 h2; exact absurd h2 (by simp only [List.length_nil]; omega)
  | cons c cs ih =>
    intro k r r' j h1 h2
    show wrl cs (k + 1) (upd r k (nI c)) j = wrl cs (k + 1) (upd r' k (nI c)) j
    by_cases e : j = k
    · subst e
      rw [wrl_lo _ _ _ _ (by omega), wrl_lo _ _ _ _ (by omega), pk_us, pk_us]
    · exact ih _ _ _ _ (by omega) (by simp only [List.length_cons] at h2; omega)
def dRf : Nat → Nat → List Nat
  | 0, _ => []
  | k + 1, m => (if 9 < m then dRf k (m / 10) else []) ++ [48 + m % 10]
theorem dRf_len : ∀ k m, (dRf k m).length ≤ k := by
  intro k
  induction k with
  | zero => intro m; exact Nat.le_refl _
  | succ k ih =>
    intro m
    unfold dRf
    rw [List.length_append]
    have := ih (m / 10)
    split
    · simp only [List.length_cons, List.length_nil]; omega
    · simp only [List.length_cons, List.length_nil]; omega
/-- the text of a number -/
noncomputable def num (v : Int32) : List Nat := ifc (v < 0) [45] [] ++ dRf 6 v.toInt.natAbs
theorem num_len (v : Int32) : (num v).length ≤ 7 := by
  unfold num
  rw [List.length_append]
  have := dRf_len 6 v.toInt.natAbs
  by_cases c : v < 0
  · rw [ifc_t c]; simp only [List.length_cons, List.length_nil]; omega
  · rw [ifc_f c]; simp only [List.length_nil]; omega
noncomputable def txt (v : Nat → Int32) : Nat → List Nat
  | 0 => []
  | k + 1 => (if k = 0 then txt v k else txt v k ++ [32]) ++ num (v k)
theorem txt_len (v : Nat → Int32) : ∀ k, (txt v k).length ≤ 8 * k - 1 := by
  intro k
  induction k with
  | zero => exact Nat.le_refl _
  | succ k ih =>
    unfold txt
    rw [List.length_append]
    have := num_len (v k)
    split
    · rename_i c; subst c; simp only [txt, List.length_nil]; omega
    · rw [List.length_append]; simp only [List.length_cons, List.length_nil]; omega
theorem txt_0 {v : Nat → Int32} {k : Nat} (h : k = 0) : txt v k ++ num (v k) = txt v (k + 1) := by
  show _ = (if k = 0 then txt v k else txt v k ++ [32]) ++ num (v k)
  rw [if_pos h]
theorem txt_s {v : Nat → Int32} {k : Nat} (h : ¬ k = 0) : (txt v k ++ [32]) ++ num (v k) = txt v (k + 1) := by
  show _ = (if k = 0 then txt v k else txt v k ++ [32]) ++ num (v k)
  rw [if_neg h]
theorem dRf_s {k m : Nat} (h : 9 < m) : dRf (k + 1) m = dRf k (m / 10) ++ [48 + m % 10] := by
  show (if 9 < m then dRf k (m / 10) else []) ++ [48 + m % 10] = _
  rw [if_pos h]
theorem dRf_z {k m : Nat} (h : m ≤ 9) : dRf (k + 1) m = [48 + m % 10] := by
  show (if 9 < m then dRf k (m / 10) else []) ++ [48 + m % 10] = _
  rw [if_neg (by omega)]
  rfl
theorem i2b_ok : ∀ c, c < 128 → (nI c).toInt8.toInt32 = nI c := by decide +kernel
theorem i2c_ok : ∀ c, c < 128 → ((nI c).toUInt32 % 65536).toInt32 = nI c := by decide +kernel
theorem nar_ok : ∀ c, c < 128 → vp_nar .byte (nI c) = nI c := by decide +kernel
theorem iabs_nat {m : Nat} (h : m < 2 ^ 31) : iabs (nI m) = nI m := if_pos (nI_pos' h)
theorem ngt1 {x : Nat} (hx : x < 2 ^ 31) (h : 0 < nI x) : 0 < x := by
  rcases Nat.eq_zero_or_pos x with e | e
  · rw [e] at h; exact absurd h (by decide)
  · exact e
theorem ngt0 {x : Nat} (hx : x < 2 ^ 31) (h : ¬ 0 < nI x) : x = 0 := by
  have h1 : ¬ (0 : Int32).toInt < (nI x).toInt := fun q => h (Int32.lt_iff_toInt_lt.mpr q)
  rw [nI_toInt hx, show (0 : Int32).toInt = 0 by decide] at h1
  omega
theorem nle_n {x c : Nat} (hx : x < 2 ^ 31) (hc : c < 2 ^ 31) : nI x ≤ nI c ↔ x ≤ c := nI_leI hx hc
theorem isV_abs {v : Int32} (h : isV v) : -2147483648 < v.toInt ∧ v.toInt.natAbs ≤ 999999 := by
  have := isV_int h
  omega
def apC (L : List Nat) (k : Nat) (M : Mm) : Mm := mw (rset M 57 (wrl L k (M 57))) 56 0 (nI (k + L.length))
theorem apC_len {L : List Nat} {k : Nat} {M : Mm} : apC L k M 56 0 = nI (k + L.length) := mw_eq _ _ _ _
theorem apC_nil {M : Mm} : mw M 56 0 0 = apC [] 0 M := by
  unfold apC
  show _ = mw (rset M 57 (M 57)) 56 0 0
  rw [rset_same]
theorem apC_app {L1 L2 : List Nat} {k : Nat} {M : Mm} : apC L2 (k + L1.length) (apC L1 k M) = apC (L1 ++ L2) k M := by
  unfold apC
  rw [wrl_app, List.length_append, Nat.add_assoc]
  generalize nI (k + (L1.length + L2.length)) = y
  rw [mw_nk _ _ _ (show 57 ≠ 56 by omega), rset_eq]
  unfold mw
  rw [rset_comm _ _ _ (show 56 ≠ 57 by omega), rset_rset, rset_ne _ _ (show 56 ≠ 57 by omega), rset_eq, rset_rset, rset_ne _ _ (show 56 ≠ 57 by omega)]
  congr 1
  funext j
  by_cases e : j = 0
  · subst e; rw [pk_us, pk_us]
  · rw [pk_un e, pk_un e, pk_un e]
def apR (L : List Nat) (k : Nat) (M : Mm) : Mm := mw (rset M 86 (wrl L k (M 86))) 65 20 (nI (k + L.length))
theorem apR_len {L : List Nat} {k : Nat} {M : Mm} : apR L k M 65 20 = nI (k + L.length) := mw_eq _ _ _ _
theorem apR_nil {M : Mm} : mw M 65 20 0 = apR [] 0 M := by
  unfold apR
  show _ = mw (rset M 86 (M 86)) 65 20 0
  rw [rset_same]
theorem apR_app {L1 L2 : List Nat} {k : Nat} {M : Mm} : apR L2 (k + L1.length) (apR L1 k M) = apR (L1 ++ L2) k M := by
  unfold apR
  rw [wrl_app, List.length_append, Nat.add_assoc]
  generalize nI (k + (L1.length + L2.length)) = y
  rw [mw_nk _ _ _ (show 86 ≠ 65 by omega), rset_eq]
  unfold mw
  rw [rset_comm _ _ _ (show 65 ≠ 86 by omega), rset_rset, rset_ne _ _ (show 65 ≠ 86 by omega), rset_eq, rset_rset, rset_ne _ _ (show 65 ≠ 86 by omega)]
  congr 1
  funext j
  by_cases e : j = 20
  · subst e; rw [pk_us, pk_us]
  · rw [pk_un e, pk_un e, pk_un e]
theorem dig0 {m : Nat} (h2 : m < 10) : dRf 6 m = [48 + m / 1 % 10] := by
  rw [dRf, if_neg (show ¬ 9 < m by omega)]
  simp [Nat.div_div_eq_div_mul]
theorem dig1 {m : Nat} (h1 : 10 ≤ m) (h2 : m < 100) : dRf 6 m = [48 + m / 10 % 10, 48 + m / 1 % 10] := by
  rw [dRf, if_pos (show 9 < m by omega), dRf, if_neg (show ¬ 9 < m / 10 by omega)]
  simp [Nat.div_div_eq_div_mul]
theorem dig2 {m : Nat} (h1 : 100 ≤ m) (h2 : m < 1000) : dRf 6 m = [48 + m / 100 % 10, 48 + m / 10 % 10, 48 + m / 1 % 10] := by
  rw [dRf, if_pos (show 9 < m by omega), dRf, if_pos (show 9 < m / 10 by omega), dRf, if_neg (show ¬ 9 < m / 10 / 10 by omega)]
  simp [Nat.div_div_eq_div_mul]
theorem dig3 {m : Nat} (h1 : 1000 ≤ m) (h2 : m < 10000) : dRf 6 m = [48 + m / 1000 % 10, 48 + m / 100 % 10, 48 + m / 10 % 10, 48 + m / 1 % 10] := by
  rw [dRf, if_pos (show 9 < m by omega), dRf, if_pos (show 9 < m / 10 by omega), dRf, if_pos (show 9 < m / 10 / 10 by omega), dRf, if_neg (show ¬ 9 < m / 10 / 10 / 10 by omega)]
  simp [Nat.div_div_eq_div_mul]
theorem dig4 {m : Nat} (h1 : 10000 ≤ m) (h2 : m < 100000) : dRf 6 m = [48 + m / 10000 % 10, 48 + m / 1000 % 10, 48 + m / 100 % 10, 48 + m / 10 % 10, 48 + m / 1 % 10] := by
  rw [dRf, if_pos (show 9 < m by omega), dRf, if_pos (show 9 < m / 10 by omega), dRf, if_pos (show 9 < m / 10 / 10 by omega), dRf, if_pos (show 9 < m / 10 / 10 / 10 by omega), dRf, if_neg (show ¬ 9 < m / 10 / 10 / 10 / 10 by omega)]
  simp [Nat.div_div_eq_div_mul]
theorem dig5 {m : Nat} (h1 : 100000 ≤ m) (h2 : m < 1000000) : dRf 6 m = [48 + m / 100000 % 10, 48 + m / 10000 % 10, 48 + m / 1000 % 10, 48 + m / 100 % 10, 48 + m / 10 % 10, 48 + m / 1 % 10] := by
  rw [dRf, if_pos (show 9 < m by omega), dRf, if_pos (show 9 < m / 10 by omega), dRf, if_pos (show 9 < m / 10 / 10 by omega), dRf, if_pos (show 9 < m / 10 / 10 / 10 by omega), dRf, if_pos (show 9 < m / 10 / 10 / 10 / 10 by omega), dRf, if_neg (show ¬ 9 < m / 10 / 10 / 10 / 10 / 10 by omega)]
  simp [Nat.div_div_eq_div_mul]

theorem cf_X1_append : CF yX1_append cX1_append 2 none 1 := ⟨cd_X1_append, iz_X1, by decide, by decide +kernel, by decide +kernel, by decide +kernel⟩
set_option maxRecDepth 100000 in
set_option maxHeartbeats 4000000 in
theorem c_X1_append {l : Launch} {E : Ev} {M : Mm} (hI : ∀ k, k < 108 → k ∈ E.2.1) {len : Nat} (hl : M 56 0 = nI len) (hlen : len < 511) {x : Int32} {c : Nat} (hx : x = nI c) (hc : c < 128) : Cm l E yX1_append cX1_append 2 none 0 [.ref (E.2.2.1 56), .int x] M (pV (apC [c] len M)) := by
  refine Cm.of (by decide) (Nat.le_of_ble_eq_true rfl) (fun K k kt => ?_)
  show G l E K 0 [(0, .ref (E.2.2.1 56)), (1, .int x)] [] M
  subst hx
  refine gs_aload_n (q := 0) k rfl rfl dX1_append_0 ?_
  refine gs_get (C := RX1) (T := TX1) (N := 2) (ci := 1) (k0 := 56) (j := 0) k (hI 56 (by omega)) rfl rfl inX1 (by decide) fl_X1_13 rfl rfl dX1_append_1 ?_
  refine gs_top (y := nI len) hl ?_
  refine gs_sipush (v := 511) k (by decide) dX1_append_4 ?_
  refine gs_icmpN_ge (a := len) (b := 511) (tgt := 31) k rfl rfl (by omega) (by omega) (by decide) dX1_append_7 (fun c1 => absurd c1 (by omega)) (fun c1 => ?_)
  refine gs_aload_n (q := 0) k rfl rfl dX1_append_10 ?_
  refine gs_get (C := RX1) (T := TX1) (N := 2) (ci := 1) (k0 := 56) (j := 1) k (hI 56 (by omega)) rfl rfl inX1 (by decide) fl_X1_9 rfl rfl dX1_append_11 ?_
  refine gs_aload_n (q := 0) k rfl rfl dX1_append_14 ?_
  refine gs_get (C := RX1) (T := TX1) (N := 2) (ci := 1) (k0 := 56) (j := 0) k (hI 56 (by omega)) rfl rfl inX1 (by decide) fl_X1_13 rfl rfl dX1_append_15 ?_
  refine gs_top (y := nI len) hl ?_
  refine gs_iload_n (q := 1) k rfl rfl dX1_append_18 ?_
  refine gs_i2b (v := nI c) k (i2b_ok c hc) dX1_append_19 ?_
  refine gs_bastN (k0 := 57) (n := 511) (e := len) (x' := nI c) k (hI 57 (by omega)) (fun _ => rfl) rfl (by omega) (by decide) (nar_ok c hc) dX1_append_20 ?_
  refine gs_aload_n (q := 0) k rfl rfl dX1_append_21 ?_
  refine gs_dup k rfl dX1_append_22 ?_
  refine gs_get (C := RX1) (T := TX1) (N := 2) (ci := 1) (k0 := 56) (j := 0) k (hI 56 (by omega)) rfl rfl inX1 (by decide) fl_X1_13 rfl rfl dX1_append_23 ?_
  refine gs_top (y := M 56 0) (rdn (by omega) (rfl)) ?_
  refine gs_top (y := nI len) hl ?_
  refine gs_iconst (v := 1) k (by decide) dX1_append_26 ?_
  refine gs_iaddN (a := len) (b := 1) k rfl rfl dX1_append_27 ?_
  refine gs_put (C := RX1) (T := TX1) (N := 2) (ci := 1) (k0 := 56) (j := 0) (ty := .int) k (hI 56 (by omega)) rfl rfl rfl inX1 tyX1 tyX1_ok nmX1 (by decide) fl_X1_13 rfl rfl (tyX1_ok 0 (by decide)) rfl rfl (Nat.le_of_ble_eq_true rfl) dX1_append_28 ?_
  exact gs_vret k kt dX1_append_31 ⟨rfl, rfl⟩

theorem cf_X7_says : CF yX7_says cX7_says 2 none 1 := ⟨cd_X7_says, iz_X7, by decide, by decide +kernel, by decide +kernel, by decide +kernel⟩
set_option maxRecDepth 100000 in
set_option maxHeartbeats 4000000 in
theorem c_X7_says {l : Launch} {E : Ev} {M : Mm} (hI : ∀ k, k < 108 → k ∈ E.2.1) {len : Nat} (hl : M 65 20 = nI len) (hlen : len < 512) {x : Int32} {c : Nat} (hx : x = nI c) (hc : c < 128) : Cm l E yX7_says cX7_says 2 none 0 [.ref (E.2.2.1 65), .int x] M (pV (apR [c] len M)) := by
  refine Cm.of (by decide) (Nat.le_of_ble_eq_true rfl) (fun K k kt => ?_)
  show G l E K 0 [(0, .ref (E.2.2.1 65)), (1, .int x)] [] M
  subst hx
  refine gs_aload_n (q := 0) k rfl rfl dX7_says_0 ?_
  refine gs_get (C := RX7) (T := TX7) (N := 27) (ci := 7) (k0 := 65) (j := 19) k (hI 65 (by omega)) rfl rfl inX7 (by decide) fl_X7_61 rfl rfl dX7_says_1 ?_
  refine gs_aload_n (q := 0) k rfl rfl dX7_says_4 ?_
  refine gs_get (C := RX7) (T := TX7) (N := 27) (ci := 7) (k0 := 65) (j := 20) k (hI 65 (by omega)) rfl rfl inX7 (by decide) fl_X7_353 rfl rfl dX7_says_5 ?_
  refine gs_top (y := nI len) hl ?_
  refine gs_iload_n (q := 1) k rfl rfl dX7_says_8 ?_
  refine gs_i2b (v := nI c) k (i2b_ok c hc) dX7_says_9 ?_
  refine gs_bastN (k0 := 86) (n := 512) (e := len) (x' := nI c) k (hI 86 (by omega)) (fun _ => rfl) rfl (by omega) (by decide) (nar_ok c hc) dX7_says_10 ?_
  refine gs_aload_n (q := 0) k rfl rfl dX7_says_11 ?_
  refine gs_dup k rfl dX7_says_12 ?_
  refine gs_get (C := RX7) (T := TX7) (N := 27) (ci := 7) (k0 := 65) (j := 20) k (hI 65 (by omega)) rfl rfl inX7 (by decide) fl_X7_353 rfl rfl dX7_says_13 ?_
  refine gs_top (y := M 65 20) (rdn (by omega) (rfl)) ?_
  refine gs_top (y := nI len) hl ?_
  refine gs_iconst (v := 1) k (by decide) dX7_says_16 ?_
  refine gs_iaddN (a := len) (b := 1) k rfl rfl dX7_says_17 ?_
  refine gs_put (C := RX7) (T := TX7) (N := 27) (ci := 7) (k0 := 65) (j := 20) (ty := .int) k (hI 65 (by omega)) rfl rfl rfl inX7 tyX7 tyX7_ok nmX7 (by decide) fl_X7_353 rfl rfl (tyX7_ok 20 (by decide)) rfl rfl (Nat.le_of_ble_eq_true rfl) dX7_says_18 ?_
  exact gs_vret k kt dX7_says_21 ⟨rfl, rfl⟩

theorem cf_X1_appendNumber : CF yX1_appendNumber cX1_appendNumber 6 none 1 := ⟨cd_X1_appendNumber, iz_X1, by decide, by decide +kernel, by decide +kernel, by decide +kernel⟩
set_option maxRecDepth 100000 in
set_option maxHeartbeats 4000000 in
theorem c_X1_appendNumber {l : Launch} {E : Ev} {M : Mm} (hI : ∀ k, k < 108 → k ∈ E.2.1) {len : Nat} (hl : M 56 0 = nI len) (hlen : len + 7 ≤ 511) {v : Int32} (hv : isV v) : Cm l E yX1_appendNumber cX1_appendNumber 6 none 1 [.ref (E.2.2.1 56), .int v] M (pV (apC (num v) len M)) := by
  refine Cm.of (by decide) (Nat.le_of_ble_eq_true rfl) (fun K k kt => ?_)
  show G l E K 0 [(0, .ref (E.2.2.1 56)), (1, .int v)] [] M
  obtain ⟨hv1, hv2⟩ := isV_abs hv
  refine gs_iload_n (q := 1) k rfl rfl dX1_appendNumber_0 ?_
  refine gs_if_ge (tgt := 10) k (by decide) dX1_appendNumber_1 (fun c1 => ?_) (fun c1 => ?_)
  · refine gs_iload_n (q := 1) k rfl rfl dX1_appendNumber_10 ?_
    refine gs_abs k ml_X1_21 (by decide) (Nat.le_of_ble_eq_true rfl) dX1_appendNumber_11 ?_
    refine gs_top (y := nI v.toInt.natAbs) (iabs_n hv1) ?_
    refine gs_istore_n (lv' := [(2, .int (nI v.toInt.natAbs)), (0, .ref (E.2.2.1 56)), (1, .int v)]) k rfl (by decide) rfl dX1_appendNumber_14 ?_
    refine gs_iconst (v := 0) k (by decide) dX1_appendNumber_15 ?_
    refine gs_istore_n (lv' := [(3, .int 0), (2, .int (nI v.toInt.natAbs)), (0, .ref (E.2.2.1 56)), (1, .int v)]) k rfl (by decide) rfl dX1_appendNumber_16 ?_
    refine gs_ldc (v := 100000) k cn_X1_27 dX1_appendNumber_17 ?_
    refine gs_istore (lv' := [(4, .int 100000), (3, .int 0), (2, .int (nI v.toInt.natAbs)), (0, .ref (E.2.2.1 56)), (1, .int v)]) k (by decide) rfl dX1_appendNumber_19 ?_
    refine gs_iload (q := 0) k rfl dX1_appendNumber_21 ?_
    refine gs_iconst (v := 1) k (by decide) dX1_appendNumber_23 ?_
    refine gs_icmp_lt (tgt := 73) k (by decide) dX1_appendNumber_24 (fun h => absurd h (by decide)) (fun _ => ?_)
    refine gs_iload_n (q := 2) k rfl rfl dX1_appendNumber_27 ?_
    refine gs_iload (q := 0) k rfl dX1_appendNumber_28 ?_
    refine gs_idivN (a := v.toInt.natAbs) (b := 100000) k rfl rfl (by omega) (by omega) (by omega) dX1_appendNumber_30 ?_
    refine gs_bipush (v := 10) k (by decide) dX1_appendNumber_31 ?_
    refine gs_iremN (a := v.toInt.natAbs / 100000) (b := 10) k rfl rfl (by omega) (by omega) (by omega) dX1_appendNumber_33 ?_
    refine gs_istore (lv' := [(5, .int (nI ((v.toInt.natAbs / 100000) % 10))), (4, .int 100000), (3, .int 0), (2, .int (nI v.toInt.natAbs)), (0, .ref (E.2.2.1 56)), (1, .int v)]) k (by decide) rfl dX1_appendNumber_34 ?_
    refine gs_iload (q := 0) k rfl dX1_appendNumber_36 ?_
    refine gs_if_gt (tgt := 51) k (by decide) dX1_appendNumber_38 (fun c2 => ?_) (fun c2 => ?_)
    · have ec2 := ngt1 (x := (v.toInt.natAbs / 100000) % 10) (by omega) c2
      refine gs_aload_n (q := 4) k rfl rfl dX1_appendNumber_51 ?_
      refine gs_bipush (v := 48) k (by decide) dX1_appendNumber_52 ?_
      refine gs_iload (q := 0) k rfl dX1_appendNumber_54 ?_
      refine gs_iaddN (a := 48) (b := (v.toInt.natAbs / 100000) % 10) k rfl rfl dX1_appendNumber_56 ?_
      refine gs_i2c (v := nI (48 + ((v.toInt.natAbs / 100000) % 10))) k (i2c_ok _ (by omega)) dX1_appendNumber_57 ?_
      refine gs_callV (As := [.int (nI (48 + ((v.toInt.natAbs / 100000) % 10)))]) (k0 := 56) (ci := 1) (T := TX1) (N := 2) k (c_X1_append (c := 48 + ((v.toInt.natAbs / 100000) % 10)) hI hl (by omega) rfl (by omega)) cf_X1_append im_X1_append sl_X1_append ml_X1_17 (hI 56 (by omega)) rfl rfl (by decide) rfl rfl (Nat.le_of_ble_eq_true rfl) dX1_appendNumber_58 (ppV ?_)
      refine gs_iconst (v := 1) k (by decide) dX1_appendNumber_61 ?_
      refine gs_istore_n (lv' := [(3, .int 1), (5, .int (nI ((v.toInt.natAbs / 100000) % 10))), (4, .int 100000), (2, .int (nI v.toInt.natAbs)), (0, .ref (E.2.2.1 56)), (1, .int v)]) k rfl (by decide) rfl dX1_appendNumber_62 ?_
      refine gs_iload (q := 2) k rfl dX1_appendNumber_63 ?_
      refine gs_bipush (v := 10) k (by decide) dX1_appendNumber_65 ?_
      refine gs_idivN (a := 100000) (b := 10) k rfl rfl (by omega) (by omega) (by omega) dX1_appendNumber_67 ?_
      refine gs_top (y := 10000) (by decide) ?_
      refine gs_istore (lv' := [(4, .int 10000), (3, .int 1), (5, .int (nI ((v.toInt.natAbs / 100000) % 10))), (2, .int (nI v.toInt.natAbs)), (0, .ref (E.2.2.1 56)), (1, .int v)]) k (by decide) rfl dX1_appendNumber_68 ?_
      refine gs_goto (tgt := 21) k (by decide) dX1_appendNumber_70 ?_
      refine gs_iload (q := 0) k rfl dX1_appendNumber_21 ?_
      refine gs_iconst (v := 1) k (by decide) dX1_appendNumber_23 ?_
      refine gs_icmp_lt (tgt := 73) k (by decide) dX1_appendNumber_24 (fun h => absurd h (by decide)) (fun _ => ?_)
      refine gs_iload_n (q := 3) k rfl rfl dX1_appendNumber_27 ?_
      refine gs_iload (q := 0) k rfl dX1_appendNumber_28 ?_
      refine gs_idivN (a := v.toInt.natAbs) (b := 10000) k rfl rfl (by omega) (by omega) (by omega) dX1_appendNumber_30 ?_
      refine gs_bipush (v := 10) k (by decide) dX1_appendNumber_31 ?_
      refine gs_iremN (a := v.toInt.natAbs / 10000) (b := 10) k rfl rfl (by omega) (by omega) (by omega) dX1_appendNumber_33 ?_
      refine gs_istore (lv' := [(5, .int (nI ((v.toInt.natAbs / 10000) % 10))), (4, .int 10000), (3, .int 1), (2, .int (nI v.toInt.natAbs)), (0, .ref (E.2.2.1 56)), (1, .int v)]) k (by decide) rfl dX1_appendNumber_34 ?_
      have H2 : G l E K 51 [(5, .int (nI ((v.toInt.natAbs / 10000) % 10))), (4, .int 10000), (3, .int 1), (2, .int (nI v.toInt.natAbs)), (0, .ref (E.2.2.1 56)), (1, .int v)] [] (apC ([48 + ((v.toInt.natAbs / 100000) % 10)]) len M) := by
        refine gs_aload_n (q := 4) k rfl rfl dX1_appendNumber_51 ?_
        refine gs_bipush (v := 48) k (by decide) dX1_appendNumber_52 ?_
        refine gs_iload (q := 0) k rfl dX1_appendNumber_54 ?_
        refine gs_iaddN (a := 48) (b := (v.toInt.natAbs / 10000) % 10) k rfl rfl dX1_appendNumber_56 ?_
        refine gs_i2c (v := nI (48 + ((v.toInt.natAbs / 10000) % 10))) k (i2c_ok _ (by omega)) dX1_appendNumber_57 ?_
        refine gs_callV (As := [.int (nI (48 + ((v.toInt.natAbs / 10000) % 10)))]) (k0 := 56) (ci := 1) (T := TX1) (N := 2) k (c_X1_append (c := 48 + ((v.toInt.natAbs / 10000) % 10)) hI apC_len (by (try simp only [List.length_append, List.length_cons, List.length_nil]); omega) rfl (by omega)) cf_X1_append im_X1_append sl_X1_append ml_X1_17 (hI 56 (by omega)) rfl rfl (by decide) rfl rfl (Nat.le_of_ble_eq_true rfl) dX1_appendNumber_58 (ppV ?_)
        refine gs_M (M' := (apC ([48 + ((v.toInt.natAbs / 100000) % 10)] ++ [48 + ((v.toInt.natAbs / 10000) % 10)]) len M)) apC_app ?_
        refine gs_iconst (v := 1) k (by decide) dX1_appendNumber_61 ?_
        refine gs_istore_n (lv' := [(3, .int 1), (5, .int (nI ((v.toInt.natAbs / 10000) % 10))), (4, .int 10000), (2, .int (nI v.toInt.natAbs)), (0, .ref (E.2.2.1 56)), (1, .int v)]) k rfl (by decide) rfl dX1_appendNumber_62 ?_
        refine gs_iload (q := 2) k rfl dX1_appendNumber_63 ?_
        refine gs_bipush (v := 10) k (by decide) dX1_appendNumber_65 ?_
        refine gs_idivN (a := 10000) (b := 10) k rfl rfl (by omega) (by omega) (by omega) dX1_appendNumber_67 ?_
        refine gs_top (y := 1000) (by decide) ?_
        refine gs_istore (lv' := [(4, .int 1000), (3, .int 1), (5, .int (nI ((v.toInt.natAbs / 10000) % 10))), (2, .int (nI v.toInt.natAbs)), (0, .ref (E.2.2.1 56)), (1, .int v)]) k (by decide) rfl dX1_appendNumber_68 ?_
        refine gs_goto (tgt := 21) k (by decide) dX1_appendNumber_70 ?_
        refine gs_iload (q := 0) k rfl dX1_appendNumber_21 ?_
        refine gs_iconst (v := 1) k (by decide) dX1_appendNumber_23 ?_
        refine gs_icmp_lt (tgt := 73) k (by decide) dX1_appendNumber_24 (fun h => absurd h (by decide)) (fun _ => ?_)
        refine gs_iload_n (q := 3) k rfl rfl dX1_appendNumber_27 ?_
        refine gs_iload (q := 0) k rfl dX1_appendNumber_28 ?_
        refine gs_idivN (a := v.toInt.natAbs) (b := 1000) k rfl rfl (by omega) (by omega) (by omega) dX1_appendNumber_30 ?_
        refine gs_bipush (v := 10) k (by decide) dX1_appendNumber_31 ?_
        refine gs_iremN (a := v.toInt.natAbs / 1000) (b := 10) k rfl rfl (by omega) (by omega) (by omega) dX1_appendNumber_33 ?_
        refine gs_istore (lv' := [(5, .int (nI ((v.toInt.natAbs / 1000) % 10))), (4, .int 1000), (3, .int 1), (2, .int (nI v.toInt.natAbs)), (0, .ref (E.2.2.1 56)), (1, .int v)]) k (by decide) rfl dX1_appendNumber_34 ?_
        have H2 : G l E K 51 [(5, .int (nI ((v.toInt.natAbs / 1000) % 10))), (4, .int 1000), (3, .int 1), (2, .int (nI v.toInt.natAbs)), (0, .ref (E.2.2.1 56)), (1, .int v)] [] (apC ([48 + ((v.toInt.natAbs / 100000) % 10)] ++ [48 + ((v.toInt.natAbs / 10000) % 10)]) len M) := by
          refine gs_aload_n (q := 4) k rfl rfl dX1_appendNumber_51 ?_
          refine gs_bipush (v := 48) k (by decide) dX1_appendNumber_52 ?_
          refine gs_iload (q := 0) k rfl dX1_appendNumber_54 ?_
          refine gs_iaddN (a := 48) (b := (v.toInt.natAbs / 1000) % 10) k rfl rfl dX1_appendNumber_56 ?_
          refine gs_i2c (v := nI (48 + ((v.toInt.natAbs / 1000) % 10))) k (i2c_ok _ (by omega)) dX1_appendNumber_57 ?_
          refine gs_callV (As := [.int (nI (48 + ((v.toInt.natAbs / 1000) % 10)))]) (k0 := 56) (ci := 1) (T := TX1) (N := 2) k (c_X1_append (c := 48 + ((v.toInt.natAbs / 1000) % 10)) hI apC_len (by (try simp only [List.length_append, List.length_cons, List.length_nil]); omega) rfl (by omega)) cf_X1_append im_X1_append sl_X1_append ml_X1_17 (hI 56 (by omega)) rfl rfl (by decide) rfl rfl (Nat.le_of_ble_eq_true rfl) dX1_appendNumber_58 (ppV ?_)
          refine gs_M (M' := (apC ([48 + ((v.toInt.natAbs / 100000) % 10)] ++ [48 + ((v.toInt.natAbs / 10000) % 10)] ++ [48 + ((v.toInt.natAbs / 1000) % 10)]) len M)) apC_app ?_
          refine gs_iconst (v := 1) k (by decide) dX1_appendNumber_61 ?_
          refine gs_istore_n (lv' := [(3, .int 1), (5, .int (nI ((v.toInt.natAbs / 1000) % 10))), (4, .int 1000), (2, .int (nI v.toInt.natAbs)), (0, .ref (E.2.2.1 56)), (1, .int v)]) k rfl (by decide) rfl dX1_appendNumber_62 ?_
          refine gs_iload (q := 2) k rfl dX1_appendNumber_63 ?_
          refine gs_bipush (v := 10) k (by decide) dX1_appendNumber_65 ?_
          refine gs_idivN (a := 1000) (b := 10) k rfl rfl (by omega) (by omega) (by omega) dX1_appendNumber_67 ?_
          refine gs_top (y := 100) (by decide) ?_
          refine gs_istore (lv' := [(4, .int 100), (3, .int 1), (5, .int (nI ((v.toInt.natAbs / 1000) % 10))), (2, .int (nI v.toInt.natAbs)), (0, .ref (E.2.2.1 56)), (1, .int v)]) k (by decide) rfl dX1_appendNumber_68 ?_
          refine gs_goto (tgt := 21) k (by decide) dX1_appendNumber_70 ?_
          refine gs_iload (q := 0) k rfl dX1_appendNumber_21 ?_
          refine gs_iconst (v := 1) k (by decide) dX1_appendNumber_23 ?_
          refine gs_icmp_lt (tgt := 73) k (by decide) dX1_appendNumber_24 (fun h => absurd h (by decide)) (fun _ => ?_)
          refine gs_iload_n (q := 3) k rfl rfl dX1_appendNumber_27 ?_
          refine gs_iload (q := 0) k rfl dX1_appendNumber_28 ?_
          refine gs_idivN (a := v.toInt.natAbs) (b := 100) k rfl rfl (by omega) (by omega) (by omega) dX1_appendNumber_30 ?_
          refine gs_bipush (v := 10) k (by decide) dX1_appendNumber_31 ?_
          refine gs_iremN (a := v.toInt.natAbs / 100) (b := 10) k rfl rfl (by omega) (by omega) (by omega) dX1_appendNumber_33 ?_
          refine gs_istore (lv' := [(5, .int (nI ((v.toInt.natAbs / 100) % 10))), (4, .int 100), (3, .int 1), (2, .int (nI v.toInt.natAbs)), (0, .ref (E.2.2.1 56)), (1, .int v)]) k (by decide) rfl dX1_appendNumber_34 ?_
          have H2 : G l E K 51 [(5, .int (nI ((v.toInt.natAbs / 100) % 10))), (4, .int 100), (3, .int 1), (2, .int (nI v.toInt.natAbs)), (0, .ref (E.2.2.1 56)), (1, .int v)] [] (apC ([48 + ((v.toInt.natAbs / 100000) % 10)] ++ [48 + ((v.toInt.natAbs / 10000) % 10)] ++ [48 + ((v.toInt.natAbs / 1000) % 10)]) len M) := by
            refine gs_aload_n (q := 4) k rfl rfl dX1_appendNumber_51 ?_
            refine gs_bipush (v := 48) k (by decide) dX1_appendNumber_52 ?_
            refine gs_iload (q := 0) k rfl dX1_appendNumber_54 ?_
            refine gs_iaddN (a := 48) (b := (v.toInt.natAbs / 100) % 10) k rfl rfl dX1_appendNumber_56 ?_
            refine gs_i2c (v := nI (48 + ((v.toInt.natAbs / 100) % 10))) k (i2c_ok _ (by omega)) dX1_appendNumber_57 ?_
            refine gs_callV (As := [.int (nI (48 + ((v.toInt.natAbs / 100) % 10)))]) (k0 := 56) (ci := 1) (T := TX1) (N := 2) k (c_X1_append (c := 48 + ((v.toInt.natAbs / 100) % 10)) hI apC_len (by (try simp only [List.length_append, List.length_cons, List.length_nil]); omega) rfl (by omega)) cf_X1_append im_X1_append sl_X1_append ml_X1_17 (hI 56 (by omega)) rfl rfl (by decide) rfl rfl (Nat.le_of_ble_eq_true rfl) dX1_appendNumber_58 (ppV ?_)
            refine gs_M (M' := (apC ([48 + ((v.toInt.natAbs / 100000) % 10)] ++ [48 + ((v.toInt.natAbs / 10000) % 10)] ++ [48 + ((v.toInt.natAbs / 1000) % 10)] ++ [48 + ((v.toInt.natAbs / 100) % 10)]) len M)) apC_app ?_
            refine gs_iconst (v := 1) k (by decide) dX1_appendNumber_61 ?_
            refine gs_istore_n (lv' := [(3, .int 1), (5, .int (nI ((v.toInt.natAbs / 100) % 10))), (4, .int 100), (2, .int (nI v.toInt.natAbs)), (0, .ref (E.2.2.1 56)), (1, .int v)]) k rfl (by decide) rfl dX1_appendNumber_62 ?_
            refine gs_iload (q := 2) k rfl dX1_appendNumber_63 ?_
            refine gs_bipush (v := 10) k (by decide) dX1_appendNumber_65 ?_
            refine gs_idivN (a := 100) (b := 10) k rfl rfl (by omega) (by omega) (by omega) dX1_appendNumber_67 ?_
            refine gs_top (y := 10) (by decide) ?_
            refine gs_istore (lv' := [(4, .int 10), (3, .int 1), (5, .int (nI ((v.toInt.natAbs / 100) % 10))), (2, .int (nI v.toInt.natAbs)), (0, .ref (E.2.2.1 56)), (1, .int v)]) k (by decide) rfl dX1_appendNumber_68 ?_
            refine gs_goto (tgt := 21) k (by decide) dX1_appendNumber_70 ?_
            refine gs_iload (q := 0) k rfl dX1_appendNumber_21 ?_
            refine gs_iconst (v := 1) k (by decide) dX1_appendNumber_23 ?_
            refine gs_icmp_lt (tgt := 73) k (by decide) dX1_appendNumber_24 (fun h => absurd h (by decide)) (fun _ => ?_)
            refine gs_iload_n (q := 3) k rfl rfl dX1_appendNumber_27 ?_
            refine gs_iload (q := 0) k rfl dX1_appendNumber_28 ?_
            refine gs_idivN (a := v.toInt.natAbs) (b := 10) k rfl rfl (by omega) (by omega) (by omega) dX1_appendNumber_30 ?_
            refine gs_bipush (v := 10) k (by decide) dX1_appendNumber_31 ?_
            refine gs_iremN (a := v.toInt.natAbs / 10) (b := 10) k rfl rfl (by omega) (by omega) (by omega) dX1_appendNumber_33 ?_
            refine gs_istore (lv' := [(5, .int (nI ((v.toInt.natAbs / 10) % 10))), (4, .int 10), (3, .int 1), (2, .int (nI v.toInt.natAbs)), (0, .ref (E.2.2.1 56)), (1, .int v)]) k (by decide) rfl dX1_appendNumber_34 ?_
            have H2 : G l E K 51 [(5, .int (nI ((v.toInt.natAbs / 10) % 10))), (4, .int 10), (3, .int 1), (2, .int (nI v.toInt.natAbs)), (0, .ref (E.2.2.1 56)), (1, .int v)] [] (apC ([48 + ((v.toInt.natAbs / 100000) % 10)] ++ [48 + ((v.toInt.natAbs / 10000) % 10)] ++ [48 + ((v.toInt.natAbs / 1000) % 10)] ++ [48 + ((v.toInt.natAbs / 100) % 10)]) len M) := by
              refine gs_aload_n (q := 4) k rfl rfl dX1_appendNumber_51 ?_
              refine gs_bipush (v := 48) k (by decide) dX1_appendNumber_52 ?_
              refine gs_iload (q := 0) k rfl dX1_appendNumber_54 ?_
              refine gs_iaddN (a := 48) (b := (v.toInt.natAbs / 10) % 10) k rfl rfl dX1_appendNumber_56 ?_
              refine gs_i2c (v := nI (48 + ((v.toInt.natAbs / 10) % 10))) k (i2c_ok _ (by omega)) dX1_appendNumber_57 ?_
              refine gs_callV (As := [.int (nI (48 + ((v.toInt.natAbs / 10) % 10)))]) (k0 := 56) (ci := 1) (T := TX1) (N := 2) k (c_X1_append (c := 48 + ((v.toInt.natAbs / 10) % 10)) hI apC_len (by (try simp only [List.length_append, List.length_cons, List.length_nil]); omega) rfl (by omega)) cf_X1_append im_X1_append sl_X1_append ml_X1_17 (hI 56 (by omega)) rfl rfl (by decide) rfl rfl (Nat.le_of_ble_eq_true rfl) dX1_appendNumber_58 (ppV ?_)
              refine gs_M (M' := (apC ([48 + ((v.toInt.natAbs / 100000) % 10)] ++ [48 + ((v.toInt.natAbs / 10000) % 10)] ++ [48 + ((v.toInt.natAbs / 1000) % 10)] ++ [48 + ((v.toInt.natAbs / 100) % 10)] ++ [48 + ((v.toInt.natAbs / 10) % 10)]) len M)) apC_app ?_
              refine gs_iconst (v := 1) k (by decide) dX1_appendNumber_61 ?_
              refine gs_istore_n (lv' := [(3, .int 1), (5, .int (nI ((v.toInt.natAbs / 10) % 10))), (4, .int 10), (2, .int (nI v.toInt.natAbs)), (0, .ref (E.2.2.1 56)), (1, .int v)]) k rfl (by decide) rfl dX1_appendNumber_62 ?_
              refine gs_iload (q := 2) k rfl dX1_appendNumber_63 ?_
              refine gs_bipush (v := 10) k (by decide) dX1_appendNumber_65 ?_
              refine gs_idivN (a := 10) (b := 10) k rfl rfl (by omega) (by omega) (by omega) dX1_appendNumber_67 ?_
              refine gs_top (y := 1) (by decide) ?_
              refine gs_istore (lv' := [(4, .int 1), (3, .int 1), (5, .int (nI ((v.toInt.natAbs / 10) % 10))), (2, .int (nI v.toInt.natAbs)), (0, .ref (E.2.2.1 56)), (1, .int v)]) k (by decide) rfl dX1_appendNumber_68 ?_
              refine gs_goto (tgt := 21) k (by decide) dX1_appendNumber_70 ?_
              refine gs_iload (q := 0) k rfl dX1_appendNumber_21 ?_
              refine gs_iconst (v := 1) k (by decide) dX1_appendNumber_23 ?_
              refine gs_icmp_lt (tgt := 73) k (by decide) dX1_appendNumber_24 (fun h => absurd h (by decide)) (fun _ => ?_)
              refine gs_iload_n (q := 3) k rfl rfl dX1_appendNumber_27 ?_
              refine gs_iload (q := 0) k rfl dX1_appendNumber_28 ?_
              refine gs_idivN (a := v.toInt.natAbs) (b := 1) k rfl rfl (by omega) (by omega) (by omega) dX1_appendNumber_30 ?_
              refine gs_bipush (v := 10) k (by decide) dX1_appendNumber_31 ?_
              refine gs_iremN (a := v.toInt.natAbs / 1) (b := 10) k rfl rfl (by omega) (by omega) (by omega) dX1_appendNumber_33 ?_
              refine gs_istore (lv' := [(5, .int (nI ((v.toInt.natAbs / 1) % 10))), (4, .int 1), (3, .int 1), (2, .int (nI v.toInt.natAbs)), (0, .ref (E.2.2.1 56)), (1, .int v)]) k (by decide) rfl dX1_appendNumber_34 ?_
              have H2 : G l E K 51 [(5, .int (nI ((v.toInt.natAbs / 1) % 10))), (4, .int 1), (3, .int 1), (2, .int (nI v.toInt.natAbs)), (0, .ref (E.2.2.1 56)), (1, .int v)] [] (apC ([48 + ((v.toInt.natAbs / 100000) % 10)] ++ [48 + ((v.toInt.natAbs / 10000) % 10)] ++ [48 + ((v.toInt.natAbs / 1000) % 10)] ++ [48 + ((v.toInt.natAbs / 100) % 10)] ++ [48 + ((v.toInt.natAbs / 10) % 10)]) len M) := by
                refine gs_aload_n (q := 4) k rfl rfl dX1_appendNumber_51 ?_
                refine gs_bipush (v := 48) k (by decide) dX1_appendNumber_52 ?_
                refine gs_iload (q := 0) k rfl dX1_appendNumber_54 ?_
                refine gs_iaddN (a := 48) (b := (v.toInt.natAbs / 1) % 10) k rfl rfl dX1_appendNumber_56 ?_
                refine gs_i2c (v := nI (48 + ((v.toInt.natAbs / 1) % 10))) k (i2c_ok _ (by omega)) dX1_appendNumber_57 ?_
                refine gs_callV (As := [.int (nI (48 + ((v.toInt.natAbs / 1) % 10)))]) (k0 := 56) (ci := 1) (T := TX1) (N := 2) k (c_X1_append (c := 48 + ((v.toInt.natAbs / 1) % 10)) hI apC_len (by (try simp only [List.length_append, List.length_cons, List.length_nil]); omega) rfl (by omega)) cf_X1_append im_X1_append sl_X1_append ml_X1_17 (hI 56 (by omega)) rfl rfl (by decide) rfl rfl (Nat.le_of_ble_eq_true rfl) dX1_appendNumber_58 (ppV ?_)
                refine gs_M (M' := (apC ([48 + ((v.toInt.natAbs / 100000) % 10)] ++ [48 + ((v.toInt.natAbs / 10000) % 10)] ++ [48 + ((v.toInt.natAbs / 1000) % 10)] ++ [48 + ((v.toInt.natAbs / 100) % 10)] ++ [48 + ((v.toInt.natAbs / 10) % 10)] ++ [48 + ((v.toInt.natAbs / 1) % 10)]) len M)) apC_app ?_
                refine gs_iconst (v := 1) k (by decide) dX1_appendNumber_61 ?_
                refine gs_istore_n (lv' := [(3, .int 1), (5, .int (nI ((v.toInt.natAbs / 1) % 10))), (4, .int 1), (2, .int (nI v.toInt.natAbs)), (0, .ref (E.2.2.1 56)), (1, .int v)]) k rfl (by decide) rfl dX1_appendNumber_62 ?_
                refine gs_iload (q := 2) k rfl dX1_appendNumber_63 ?_
                refine gs_bipush (v := 10) k (by decide) dX1_appendNumber_65 ?_
                refine gs_idivN (a := 1) (b := 10) k rfl rfl (by omega) (by omega) (by omega) dX1_appendNumber_67 ?_
                refine gs_top (y := 0) (by decide) ?_
                refine gs_istore (lv' := [(4, .int 0), (3, .int 1), (5, .int (nI ((v.toInt.natAbs / 1) % 10))), (2, .int (nI v.toInt.natAbs)), (0, .ref (E.2.2.1 56)), (1, .int v)]) k (by decide) rfl dX1_appendNumber_68 ?_
                refine gs_goto (tgt := 21) k (by decide) dX1_appendNumber_70 ?_
                refine gs_iload (q := 0) k rfl dX1_appendNumber_21 ?_
                refine gs_iconst (v := 1) k (by decide) dX1_appendNumber_23 ?_
                refine gs_icmp_lt (tgt := 73) k (by decide) dX1_appendNumber_24 (fun _ => ?_) (fun h => absurd h (by decide))
                exact gs_vret k kt dX1_appendNumber_73 ⟨rfl, (by
        have hd := dig5 (m := v.toInt.natAbs) (by omega) (by omega)
        unfold num
        rw [ifc_f (Int32.not_lt.mpr c1), hd]
        try simp only [List.nil_append, List.cons_append, Nat.div_one, List.append_assoc])⟩
              refine gs_iload (q := 0) k rfl dX1_appendNumber_36 ?_
              refine gs_if_gt (tgt := 51) k (by decide) dX1_appendNumber_38 (fun c3 => ?_) (fun c3 => ?_)
              · have ec3 := ngt1 (x := (v.toInt.natAbs / 1) % 10) (by omega) c3
                exact H2
              · have ec3 := ngt0 (x := (v.toInt.natAbs / 1) % 10) (by omega) c3
                refine gs_iload_n (q := 2) k rfl rfl dX1_appendNumber_41 ?_
                refine gs_if_ne (tgt := 51) k (by decide) dX1_appendNumber_42 (fun _ => ?_) (fun h => absurd h (by decide))
                exact H2
            refine gs_iload (q := 0) k rfl dX1_appendNumber_36 ?_
            refine gs_if_gt (tgt := 51) k (by decide) dX1_appendNumber_38 (fun c3 => ?_) (fun c3 => ?_)
            · have ec3 := ngt1 (x := (v.toInt.natAbs / 10) % 10) (by omega) c3
              exact H2
            · have ec3 := ngt0 (x := (v.toInt.natAbs / 10) % 10) (by omega) c3
              refine gs_iload_n (q := 2) k rfl rfl dX1_appendNumber_41 ?_
              refine gs_if_ne (tgt := 51) k (by decide) dX1_appendNumber_42 (fun _ => ?_) (fun h => absurd h (by decide))
              exact H2
          refine gs_iload (q := 0) k rfl dX1_appendNumber_36 ?_
          refine gs_if_gt (tgt := 51) k (by decide) dX1_appendNumber_38 (fun c3 => ?_) (fun c3 => ?_)
          · have ec3 := ngt1 (x := (v.toInt.natAbs / 100) % 10) (by omega) c3
            exact H2
          · have ec3 := ngt0 (x := (v.toInt.natAbs / 100) % 10) (by omega) c3
            refine gs_iload_n (q := 2) k rfl rfl dX1_appendNumber_41 ?_
            refine gs_if_ne (tgt := 51) k (by decide) dX1_appendNumber_42 (fun _ => ?_) (fun h => absurd h (by decide))
            exact H2
        refine gs_iload (q := 0) k rfl dX1_appendNumber_36 ?_
        refine gs_if_gt (tgt := 51) k (by decide) dX1_appendNumber_38 (fun c3 => ?_) (fun c3 => ?_)
        · have ec3 := ngt1 (x := (v.toInt.natAbs / 1000) % 10) (by omega) c3
          exact H2
        · have ec3 := ngt0 (x := (v.toInt.natAbs / 1000) % 10) (by omega) c3
          refine gs_iload_n (q := 2) k rfl rfl dX1_appendNumber_41 ?_
          refine gs_if_ne (tgt := 51) k (by decide) dX1_appendNumber_42 (fun _ => ?_) (fun h => absurd h (by decide))
          exact H2
      refine gs_iload (q := 0) k rfl dX1_appendNumber_36 ?_
      refine gs_if_gt (tgt := 51) k (by decide) dX1_appendNumber_38 (fun c3 => ?_) (fun c3 => ?_)
      · have ec3 := ngt1 (x := (v.toInt.natAbs / 10000) % 10) (by omega) c3
        exact H2
      · have ec3 := ngt0 (x := (v.toInt.natAbs / 10000) % 10) (by omega) c3
        refine gs_iload_n (q := 2) k rfl rfl dX1_appendNumber_41 ?_
        refine gs_if_ne (tgt := 51) k (by decide) dX1_appendNumber_42 (fun _ => ?_) (fun h => absurd h (by decide))
        exact H2
    · have ec2 := ngt0 (x := (v.toInt.natAbs / 100000) % 10) (by omega) c2
      refine gs_iload_n (q := 2) k rfl rfl dX1_appendNumber_41 ?_
      refine gs_if_ne (tgt := 51) k (by decide) dX1_appendNumber_42 (fun h => absurd h (by decide)) (fun _ => ?_)
      refine gs_iload (q := 1) k rfl dX1_appendNumber_45 ?_
      refine gs_iconst (v := 1) k (by decide) dX1_appendNumber_47 ?_
      refine gs_icmp_ne (tgt := 63) k (by decide) dX1_appendNumber_48 (fun _ => ?_) (fun h => absurd h (by decide))
      refine gs_iload (q := 1) k rfl dX1_appendNumber_63 ?_
      refine gs_bipush (v := 10) k (by decide) dX1_appendNumber_65 ?_
      refine gs_idivN (a := 100000) (b := 10) k rfl rfl (by omega) (by omega) (by omega) dX1_appendNumber_67 ?_
      refine gs_top (y := 10000) (by decide) ?_
      refine gs_istore (lv' := [(4, .int 10000), (5, .int (nI ((v.toInt.natAbs / 100000) % 10))), (3, .int 0), (2, .int (nI v.toInt.natAbs)), (0, .ref (E.2.2.1 56)), (1, .int v)]) k (by decide) rfl dX1_appendNumber_68 ?_
      refine gs_goto (tgt := 21) k (by decide) dX1_appendNumber_70 ?_
      refine gs_iload (q := 0) k rfl dX1_appendNumber_21 ?_
      refine gs_iconst (v := 1) k (by decide) dX1_appendNumber_23 ?_
      refine gs_icmp_lt (tgt := 73) k (by decide) dX1_appendNumber_24 (fun h => absurd h (by decide)) (fun _ => ?_)
      refine gs_iload_n (q := 3) k rfl rfl dX1_appendNumber_27 ?_
      refine gs_iload (q := 0) k rfl dX1_appendNumber_28 ?_
      refine gs_idivN (a := v.toInt.natAbs) (b := 10000) k rfl rfl (by omega) (by omega) (by omega) dX1_appendNumber_30 ?_
      refine gs_bipush (v := 10) k (by decide) dX1_appendNumber_31 ?_
      refine gs_iremN (a := v.toInt.natAbs / 10000) (b := 10) k rfl rfl (by omega) (by omega) (by omega) dX1_appendNumber_33 ?_
      refine gs_istore (lv' := [(5, .int (nI ((v.toInt.natAbs / 10000) % 10))), (4, .int 10000), (3, .int 0), (2, .int (nI v.toInt.natAbs)), (0, .ref (E.2.2.1 56)), (1, .int v)]) k (by decide) rfl dX1_appendNumber_34 ?_
      refine gs_iload (q := 0) k rfl dX1_appendNumber_36 ?_
      refine gs_if_gt (tgt := 51) k (by decide) dX1_appendNumber_38 (fun c3 => ?_) (fun c3 => ?_)
      · have ec3 := ngt1 (x := (v.toInt.natAbs / 10000) % 10) (by omega) c3
        refine gs_aload_n (q := 4) k rfl rfl dX1_appendNumber_51 ?_
        refine gs_bipush (v := 48) k (by decide) dX1_appendNumber_52 ?_
        refine gs_iload (q := 0) k rfl dX1_appendNumber_54 ?_
        refine gs_iaddN (a := 48) (b := (v.toInt.natAbs / 10000) % 10) k rfl rfl dX1_appendNumber_56 ?_
        refine gs_i2c (v := nI (48 + ((v.toInt.natAbs / 10000) % 10))) k (i2c_ok _ (by omega)) dX1_appendNumber_57 ?_
        refine gs_callV (As := [.int (nI (48 + ((v.toInt.natAbs / 10000) % 10)))]) (k0 := 56) (ci := 1) (T := TX1) (N := 2) k (c_X1_append (c := 48 + ((v.toInt.natAbs / 10000) % 10)) hI hl (by omega) rfl (by omega)) cf_X1_append im_X1_append sl_X1_append ml_X1_17 (hI 56 (by omega)) rfl rfl (by decide) rfl rfl (Nat.le_of_ble_eq_true rfl) dX1_appendNumber_58 (ppV ?_)
        refine gs_iconst (v := 1) k (by decide) dX1_appendNumber_61 ?_
        refine gs_istore_n (lv' := [(3, .int 1), (5, .int (nI ((v.toInt.natAbs / 10000) % 10))), (4, .int 10000), (2, .int (nI v.toInt.natAbs)), (0, .ref (E.2.2.1 56)), (1, .int v)]) k rfl (by decide) rfl dX1_appendNumber_62 ?_
        refine gs_iload (q := 2) k rfl dX1_appendNumber_63 ?_
        refine gs_bipush (v := 10) k (by decide) dX1_appendNumber_65 ?_
        refine gs_idivN (a := 10000) (b := 10) k rfl rfl (by omega) (by omega) (by omega) dX1_appendNumber_67 ?_
        refine gs_top (y := 1000) (by decide) ?_
        refine gs_istore (lv' := [(4, .int 1000), (3, .int 1), (5, .int (nI ((v.toInt.natAbs / 10000) % 10))), (2, .int (nI v.toInt.natAbs)), (0, .ref (E.2.2.1 56)), (1, .int v)]) k (by decide) rfl dX1_appendNumber_68 ?_
        refine gs_goto (tgt := 21) k (by decide) dX1_appendNumber_70 ?_
        refine gs_iload (q := 0) k rfl dX1_appendNumber_21 ?_
        refine gs_iconst (v := 1) k (by decide) dX1_appendNumber_23 ?_
        refine gs_icmp_lt (tgt := 73) k (by decide) dX1_appendNumber_24 (fun h => absurd h (by decide)) (fun _ => ?_)
        refine gs_iload_n (q := 3) k rfl rfl dX1_appendNumber_27 ?_
        refine gs_iload (q := 0) k rfl dX1_appendNumber_28 ?_
        refine gs_idivN (a := v.toInt.natAbs) (b := 1000) k rfl rfl (by omega) (by omega) (by omega) dX1_appendNumber_30 ?_
        refine gs_bipush (v := 10) k (by decide) dX1_appendNumber_31 ?_
        refine gs_iremN (a := v.toInt.natAbs / 1000) (b := 10) k rfl rfl (by omega) (by omega) (by omega) dX1_appendNumber_33 ?_
        refine gs_istore (lv' := [(5, .int (nI ((v.toInt.natAbs / 1000) % 10))), (4, .int 1000), (3, .int 1), (2, .int (nI v.toInt.natAbs)), (0, .ref (E.2.2.1 56)), (1, .int v)]) k (by decide) rfl dX1_appendNumber_34 ?_
        have H3 : G l E K 51 [(5, .int (nI ((v.toInt.natAbs / 1000) % 10))), (4, .int 1000), (3, .int 1), (2, .int (nI v.toInt.natAbs)), (0, .ref (E.2.2.1 56)), (1, .int v)] [] (apC ([48 + ((v.toInt.natAbs / 10000) % 10)]) len M) := by
          refine gs_aload_n (q := 4) k rfl rfl dX1_appendNumber_51 ?_
          refine gs_bipush (v := 48) k (by decide) dX1_appendNumber_52 ?_
          refine gs_iload (q := 0) k rfl dX1_appendNumber_54 ?_
          refine gs_iaddN (a := 48) (b := (v.toInt.natAbs / 1000) % 10) k rfl rfl dX1_appendNumber_56 ?_
          refine gs_i2c (v := nI (48 + ((v.toInt.natAbs / 1000) % 10))) k (i2c_ok _ (by omega)) dX1_appendNumber_57 ?_
          refine gs_callV (As := [.int (nI (48 + ((v.toInt.natAbs / 1000) % 10)))]) (k0 := 56) (ci := 1) (T := TX1) (N := 2) k (c_X1_append (c := 48 + ((v.toInt.natAbs / 1000) % 10)) hI apC_len (by (try simp only [List.length_append, List.length_cons, List.length_nil]); omega) rfl (by omega)) cf_X1_append im_X1_append sl_X1_append ml_X1_17 (hI 56 (by omega)) rfl rfl (by decide) rfl rfl (Nat.le_of_ble_eq_true rfl) dX1_appendNumber_58 (ppV ?_)
          refine gs_M (M' := (apC ([48 + ((v.toInt.natAbs / 10000) % 10)] ++ [48 + ((v.toInt.natAbs / 1000) % 10)]) len M)) apC_app ?_
          refine gs_iconst (v := 1) k (by decide) dX1_appendNumber_61 ?_
          refine gs_istore_n (lv' := [(3, .int 1), (5, .int (nI ((v.toInt.natAbs / 1000) % 10))), (4, .int 1000), (2, .int (nI v.toInt.natAbs)), (0, .ref (E.2.2.1 56)), (1, .int v)]) k rfl (by decide) rfl dX1_appendNumber_62 ?_
          refine gs_iload (q := 2) k rfl dX1_appendNumber_63 ?_
          refine gs_bipush (v := 10) k (by decide) dX1_appendNumber_65 ?_
          refine gs_idivN (a := 1000) (b := 10) k rfl rfl (by omega) (by omega) (by omega) dX1_appendNumber_67 ?_
          refine gs_top (y := 100) (by decide) ?_
          refine gs_istore (lv' := [(4, .int 100), (3, .int 1), (5, .int (nI ((v.toInt.natAbs / 1000) % 10))), (2, .int (nI v.toInt.natAbs)), (0, .ref (E.2.2.1 56)), (1, .int v)]) k (by decide) rfl dX1_appendNumber_68 ?_
          refine gs_goto (tgt := 21) k (by decide) dX1_appendNumber_70 ?_
          refine gs_iload (q := 0) k rfl dX1_appendNumber_21 ?_
          refine gs_iconst (v := 1) k (by decide) dX1_appendNumber_23 ?_
          refine gs_icmp_lt (tgt := 73) k (by decide) dX1_appendNumber_24 (fun h => absurd h (by decide)) (fun _ => ?_)
          refine gs_iload_n (q := 3) k rfl rfl dX1_appendNumber_27 ?_
          refine gs_iload (q := 0) k rfl dX1_appendNumber_28 ?_
          refine gs_idivN (a := v.toInt.natAbs) (b := 100) k rfl rfl (by omega) (by omega) (by omega) dX1_appendNumber_30 ?_
          refine gs_bipush (v := 10) k (by decide) dX1_appendNumber_31 ?_
          refine gs_iremN (a := v.toInt.natAbs / 100) (b := 10) k rfl rfl (by omega) (by omega) (by omega) dX1_appendNumber_33 ?_
          refine gs_istore (lv' := [(5, .int (nI ((v.toInt.natAbs / 100) % 10))), (4, .int 100), (3, .int 1), (2, .int (nI v.toInt.natAbs)), (0, .ref (E.2.2.1 56)), (1, .int v)]) k (by decide) rfl dX1_appendNumber_34 ?_
          have H3 : G l E K 51 [(5, .int (nI ((v.toInt.natAbs / 100) % 10))), (4, .int 100), (3, .int 1), (2, .int (nI v.toInt.natAbs)), (0, .ref (E.2.2.1 56)), (1, .int v)] [] (apC ([48 + ((v.toInt.natAbs / 10000) % 10)] ++ [48 + ((v.toInt.natAbs / 1000) % 10)]) len M) := by
            refine gs_aload_n (q := 4) k rfl rfl dX1_appendNumber_51 ?_
            refine gs_bipush (v := 48) k (by decide) dX1_appendNumber_52 ?_
            refine gs_iload (q := 0) k rfl dX1_appendNumber_54 ?_
            refine gs_iaddN (a := 48) (b := (v.toInt.natAbs / 100) % 10) k rfl rfl dX1_appendNumber_56 ?_
            refine gs_i2c (v := nI (48 + ((v.toInt.natAbs / 100) % 10))) k (i2c_ok _ (by omega)) dX1_appendNumber_57 ?_
            refine gs_callV (As := [.int (nI (48 + ((v.toInt.natAbs / 100) % 10)))]) (k0 := 56) (ci := 1) (T := TX1) (N := 2) k (c_X1_append (c := 48 + ((v.toInt.natAbs / 100) % 10)) hI apC_len (by (try simp only [List.length_append, List.length_cons, List.length_nil]); omega) rfl (by omega)) cf_X1_append im_X1_append sl_X1_append ml_X1_17 (hI 56 (by omega)) rfl rfl (by decide) rfl rfl (Nat.le_of_ble_eq_true rfl) dX1_appendNumber_58 (ppV ?_)
            refine gs_M (M' := (apC ([48 + ((v.toInt.natAbs / 10000) % 10)] ++ [48 + ((v.toInt.natAbs / 1000) % 10)] ++ [48 + ((v.toInt.natAbs / 100) % 10)]) len M)) apC_app ?_
            refine gs_iconst (v := 1) k (by decide) dX1_appendNumber_61 ?_
            refine gs_istore_n (lv' := [(3, .int 1), (5, .int (nI ((v.toInt.natAbs / 100) % 10))), (4, .int 100), (2, .int (nI v.toInt.natAbs)), (0, .ref (E.2.2.1 56)), (1, .int v)]) k rfl (by decide) rfl dX1_appendNumber_62 ?_
            refine gs_iload (q := 2) k rfl dX1_appendNumber_63 ?_
            refine gs_bipush (v := 10) k (by decide) dX1_appendNumber_65 ?_
            refine gs_idivN (a := 100) (b := 10) k rfl rfl (by omega) (by omega) (by omega) dX1_appendNumber_67 ?_
            refine gs_top (y := 10) (by decide) ?_
            refine gs_istore (lv' := [(4, .int 10), (3, .int 1), (5, .int (nI ((v.toInt.natAbs / 100) % 10))), (2, .int (nI v.toInt.natAbs)), (0, .ref (E.2.2.1 56)), (1, .int v)]) k (by decide) rfl dX1_appendNumber_68 ?_
            refine gs_goto (tgt := 21) k (by decide) dX1_appendNumber_70 ?_
            refine gs_iload (q := 0) k rfl dX1_appendNumber_21 ?_
            refine gs_iconst (v := 1) k (by decide) dX1_appendNumber_23 ?_
            refine gs_icmp_lt (tgt := 73) k (by decide) dX1_appendNumber_24 (fun h => absurd h (by decide)) (fun _ => ?_)
            refine gs_iload_n (q := 3) k rfl rfl dX1_appendNumber_27 ?_
            refine gs_iload (q := 0) k rfl dX1_appendNumber_28 ?_
            refine gs_idivN (a := v.toInt.natAbs) (b := 10) k rfl rfl (by omega) (by omega) (by omega) dX1_appendNumber_30 ?_
            refine gs_bipush (v := 10) k (by decide) dX1_appendNumber_31 ?_
            refine gs_iremN (a := v.toInt.natAbs / 10) (b := 10) k rfl rfl (by omega) (by omega) (by omega) dX1_appendNumber_33 ?_
            refine gs_istore (lv' := [(5, .int (nI ((v.toInt.natAbs / 10) % 10))), (4, .int 10), (3, .int 1), (2, .int (nI v.toInt.natAbs)), (0, .ref (E.2.2.1 56)), (1, .int v)]) k (by decide) rfl dX1_appendNumber_34 ?_
            have H3 : G l E K 51 [(5, .int (nI ((v.toInt.natAbs / 10) % 10))), (4, .int 10), (3, .int 1), (2, .int (nI v.toInt.natAbs)), (0, .ref (E.2.2.1 56)), (1, .int v)] [] (apC ([48 + ((v.toInt.natAbs / 10000) % 10)] ++ [48 + ((v.toInt.natAbs / 1000) % 10)] ++ [48 + ((v.toInt.natAbs / 100) % 10)]) len M) := by
              refine gs_aload_n (q := 4) k rfl rfl dX1_appendNumber_51 ?_
              refine gs_bipush (v := 48) k (by decide) dX1_appendNumber_52 ?_
              refine gs_iload (q := 0) k rfl dX1_appendNumber_54 ?_
              refine gs_iaddN (a := 48) (b := (v.toInt.natAbs / 10) % 10) k rfl rfl dX1_appendNumber_56 ?_
              refine gs_i2c (v := nI (48 + ((v.toInt.natAbs / 10) % 10))) k (i2c_ok _ (by omega)) dX1_appendNumber_57 ?_
              refine gs_callV (As := [.int (nI (48 + ((v.toInt.natAbs / 10) % 10)))]) (k0 := 56) (ci := 1) (T := TX1) (N := 2) k (c_X1_append (c := 48 + ((v.toInt.natAbs / 10) % 10)) hI apC_len (by (try simp only [List.length_append, List.length_cons, List.length_nil]); omega) rfl (by omega)) cf_X1_append im_X1_append sl_X1_append ml_X1_17 (hI 56 (by omega)) rfl rfl (by decide) rfl rfl (Nat.le_of_ble_eq_true rfl) dX1_appendNumber_58 (ppV ?_)
              refine gs_M (M' := (apC ([48 + ((v.toInt.natAbs / 10000) % 10)] ++ [48 + ((v.toInt.natAbs / 1000) % 10)] ++ [48 + ((v.toInt.natAbs / 100) % 10)] ++ [48 + ((v.toInt.natAbs / 10) % 10)]) len M)) apC_app ?_
              refine gs_iconst (v := 1) k (by decide) dX1_appendNumber_61 ?_
              refine gs_istore_n (lv' := [(3, .int 1), (5, .int (nI ((v.toInt.natAbs / 10) % 10))), (4, .int 10), (2, .int (nI v.toInt.natAbs)), (0, .ref (E.2.2.1 56)), (1, .int v)]) k rfl (by decide) rfl dX1_appendNumber_62 ?_
              refine gs_iload (q := 2) k rfl dX1_appendNumber_63 ?_
              refine gs_bipush (v := 10) k (by decide) dX1_appendNumber_65 ?_
              refine gs_idivN (a := 10) (b := 10) k rfl rfl (by omega) (by omega) (by omega) dX1_appendNumber_67 ?_
              refine gs_top (y := 1) (by decide) ?_
              refine gs_istore (lv' := [(4, .int 1), (3, .int 1), (5, .int (nI ((v.toInt.natAbs / 10) % 10))), (2, .int (nI v.toInt.natAbs)), (0, .ref (E.2.2.1 56)), (1, .int v)]) k (by decide) rfl dX1_appendNumber_68 ?_
              refine gs_goto (tgt := 21) k (by decide) dX1_appendNumber_70 ?_
              refine gs_iload (q := 0) k rfl dX1_appendNumber_21 ?_
              refine gs_iconst (v := 1) k (by decide) dX1_appendNumber_23 ?_
              refine gs_icmp_lt (tgt := 73) k (by decide) dX1_appendNumber_24 (fun h => absurd h (by decide)) (fun _ => ?_)
              refine gs_iload_n (q := 3) k rfl rfl dX1_appendNumber_27 ?_
              refine gs_iload (q := 0) k rfl dX1_appendNumber_28 ?_
              refine gs_idivN (a := v.toInt.natAbs) (b := 1) k rfl rfl (by omega) (by omega) (by omega) dX1_appendNumber_30 ?_
              refine gs_bipush (v := 10) k (by decide) dX1_appendNumber_31 ?_
              refine gs_iremN (a := v.toInt.natAbs / 1) (b := 10) k rfl rfl (by omega) (by omega) (by omega) dX1_appendNumber_33 ?_
              refine gs_istore (lv' := [(5, .int (nI ((v.toInt.natAbs / 1) % 10))), (4, .int 1), (3, .int 1), (2, .int (nI v.toInt.natAbs)), (0, .ref (E.2.2.1 56)), (1, .int v)]) k (by decide) rfl dX1_appendNumber_34 ?_
              have H3 : G l E K 51 [(5, .int (nI ((v.toInt.natAbs / 1) % 10))), (4, .int 1), (3, .int 1), (2, .int (nI v.toInt.natAbs)), (0, .ref (E.2.2.1 56)), (1, .int v)] [] (apC ([48 + ((v.toInt.natAbs / 10000) % 10)] ++ [48 + ((v.toInt.natAbs / 1000) % 10)] ++ [48 + ((v.toInt.natAbs / 100) % 10)] ++ [48 + ((v.toInt.natAbs / 10) % 10)]) len M) := by
                refine gs_aload_n (q := 4) k rfl rfl dX1_appendNumber_51 ?_
                refine gs_bipush (v := 48) k (by decide) dX1_appendNumber_52 ?_
                refine gs_iload (q := 0) k rfl dX1_appendNumber_54 ?_
                refine gs_iaddN (a := 48) (b := (v.toInt.natAbs / 1) % 10) k rfl rfl dX1_appendNumber_56 ?_
                refine gs_i2c (v := nI (48 + ((v.toInt.natAbs / 1) % 10))) k (i2c_ok _ (by omega)) dX1_appendNumber_57 ?_
                refine gs_callV (As := [.int (nI (48 + ((v.toInt.natAbs / 1) % 10)))]) (k0 := 56) (ci := 1) (T := TX1) (N := 2) k (c_X1_append (c := 48 + ((v.toInt.natAbs / 1) % 10)) hI apC_len (by (try simp only [List.length_append, List.length_cons, List.length_nil]); omega) rfl (by omega)) cf_X1_append im_X1_append sl_X1_append ml_X1_17 (hI 56 (by omega)) rfl rfl (by decide) rfl rfl (Nat.le_of_ble_eq_true rfl) dX1_appendNumber_58 (ppV ?_)
                refine gs_M (M' := (apC ([48 + ((v.toInt.natAbs / 10000) % 10)] ++ [48 + ((v.toInt.natAbs / 1000) % 10)] ++ [48 + ((v.toInt.natAbs / 100) % 10)] ++ [48 + ((v.toInt.natAbs / 10) % 10)] ++ [48 + ((v.toInt.natAbs / 1) % 10)]) len M)) apC_app ?_
                refine gs_iconst (v := 1) k (by decide) dX1_appendNumber_61 ?_
                refine gs_istore_n (lv' := [(3, .int 1), (5, .int (nI ((v.toInt.natAbs / 1) % 10))), (4, .int 1), (2, .int (nI v.toInt.natAbs)), (0, .ref (E.2.2.1 56)), (1, .int v)]) k rfl (by decide) rfl dX1_appendNumber_62 ?_
                refine gs_iload (q := 2) k rfl dX1_appendNumber_63 ?_
                refine gs_bipush (v := 10) k (by decide) dX1_appendNumber_65 ?_
                refine gs_idivN (a := 1) (b := 10) k rfl rfl (by omega) (by omega) (by omega) dX1_appendNumber_67 ?_
                refine gs_top (y := 0) (by decide) ?_
                refine gs_istore (lv' := [(4, .int 0), (3, .int 1), (5, .int (nI ((v.toInt.natAbs / 1) % 10))), (2, .int (nI v.toInt.natAbs)), (0, .ref (E.2.2.1 56)), (1, .int v)]) k (by decide) rfl dX1_appendNumber_68 ?_
                refine gs_goto (tgt := 21) k (by decide) dX1_appendNumber_70 ?_
                refine gs_iload (q := 0) k rfl dX1_appendNumber_21 ?_
                refine gs_iconst (v := 1) k (by decide) dX1_appendNumber_23 ?_
                refine gs_icmp_lt (tgt := 73) k (by decide) dX1_appendNumber_24 (fun _ => ?_) (fun h => absurd h (by decide))
                exact gs_vret k kt dX1_appendNumber_73 ⟨rfl, (by
        have hd := dig4 (m := v.toInt.natAbs) (by omega) (by omega)
        unfold num
        rw [ifc_f (Int32.not_lt.mpr c1), hd]
        try simp only [List.nil_append, List.cons_append, Nat.div_one, List.append_assoc])⟩
              refine gs_iload (q := 0) k rfl dX1_appendNumber_36 ?_
              refine gs_if_gt (tgt := 51) k (by decide) dX1_appendNumber_38 (fun c4 => ?_) (fun c4 => ?_)
              · have ec4 := ngt1 (x := (v.toInt.natAbs / 1) % 10) (by omega) c4
                exact H3
              · have ec4 := ngt0 (x := (v.toInt.natAbs / 1) % 10) (by omega) c4
                refine gs_iload_n (q := 2) k rfl rfl dX1_appendNumber_41 ?_
                refine gs_if_ne (tgt := 51) k (by decide) dX1_appendNumber_42 (fun _ => ?_) (fun h => absurd h (by decide))
                exact H3
            refine gs_iload (q := 0) k rfl dX1_appendNumber_36 ?_
            refine gs_if_gt (tgt := 51) k (by decide) dX1_appendNumber_38 (fun c4 => ?_) (fun c4 => ?_)
            · have ec4 := ngt1 (x := (v.toInt.natAbs / 10) % 10) (by omega) c4
              exact H3
            · have ec4 := ngt0 (x := (v.toInt.natAbs / 10) % 10) (by omega) c4
              refine gs_iload_n (q := 2) k rfl rfl dX1_appendNumber_41 ?_
              refine gs_if_ne (tgt := 51) k (by decide) dX1_appendNumber_42 (fun _ => ?_) (fun h => absurd h (by decide))
              exact H3
          refine gs_iload (q := 0) k rfl dX1_appendNumber_36 ?_
          refine gs_if_gt (tgt := 51) k (by decide) dX1_appendNumber_38 (fun c4 => ?_) (fun c4 => ?_)
          · have ec4 := ngt1 (x := (v.toInt.natAbs / 100) % 10) (by omega) c4
            exact H3
          · have ec4 := ngt0 (x := (v.toInt.natAbs / 100) % 10) (by omega) c4
            refine gs_iload_n (q := 2) k rfl rfl dX1_appendNumber_41 ?_
            refine gs_if_ne (tgt := 51) k (by decide) dX1_appendNumber_42 (fun _ => ?_) (fun h => absurd h (by decide))
            exact H3
        refine gs_iload (q := 0) k rfl dX1_appendNumber_36 ?_
        refine gs_if_gt (tgt := 51) k (by decide) dX1_appendNumber_38 (fun c4 => ?_) (fun c4 => ?_)
        · have ec4 := ngt1 (x := (v.toInt.natAbs / 1000) % 10) (by omega) c4
          exact H3
        · have ec4 := ngt0 (x := (v.toInt.natAbs / 1000) % 10) (by omega) c4
          refine gs_iload_n (q := 2) k rfl rfl dX1_appendNumber_41 ?_
          refine gs_if_ne (tgt := 51) k (by decide) dX1_appendNumber_42 (fun _ => ?_) (fun h => absurd h (by decide))
          exact H3
      · have ec3 := ngt0 (x := (v.toInt.natAbs / 10000) % 10) (by omega) c3
        refine gs_iload_n (q := 2) k rfl rfl dX1_appendNumber_41 ?_
        refine gs_if_ne (tgt := 51) k (by decide) dX1_appendNumber_42 (fun h => absurd h (by decide)) (fun _ => ?_)
        refine gs_iload (q := 1) k rfl dX1_appendNumber_45 ?_
        refine gs_iconst (v := 1) k (by decide) dX1_appendNumber_47 ?_
        refine gs_icmp_ne (tgt := 63) k (by decide) dX1_appendNumber_48 (fun _ => ?_) (fun h => absurd h (by decide))
        refine gs_iload (q := 1) k rfl dX1_appendNumber_63 ?_
        refine gs_bipush (v := 10) k (by decide) dX1_appendNumber_65 ?_
        refine gs_idivN (a := 10000) (b := 10) k rfl rfl (by omega) (by omega) (by omega) dX1_appendNumber_67 ?_
        refine gs_top (y := 1000) (by decide) ?_
        refine gs_istore (lv' := [(4, .int 1000), (5, .int (nI ((v.toInt.natAbs / 10000) % 10))), (3, .int 0), (2, .int (nI v.toInt.natAbs)), (0, .ref (E.2.2.1 56)), (1, .int v)]) k (by decide) rfl dX1_appendNumber_68 ?_
        refine gs_goto (tgt := 21) k (by decide) dX1_appendNumber_70 ?_
        refine gs_iload (q := 0) k rfl dX1_appendNumber_21 ?_
        refine gs_iconst (v := 1) k (by decide) dX1_appendNumber_23 ?_
        refine gs_icmp_lt (tgt := 73) k (by decide) dX1_appendNumber_24 (fun h => absurd h (by decide)) (fun _ => ?_)
        refine gs_iload_n (q := 3) k rfl rfl dX1_appendNumber_27 ?_
        refine gs_iload (q := 0) k rfl dX1_appendNumber_28 ?_
        refine gs_idivN (a := v.toInt.natAbs) (b := 1000) k rfl rfl (by omega) (by omega) (by omega) dX1_appendNumber_30 ?_
        refine gs_bipush (v := 10) k (by decide) dX1_appendNumber_31 ?_
        refine gs_iremN (a := v.toInt.natAbs / 1000) (b := 10) k rfl rfl (by omega) (by omega) (by omega) dX1_appendNumber_33 ?_
        refine gs_istore (lv' := [(5, .int (nI ((v.toInt.natAbs / 1000) % 10))), (4, .int 1000), (3, .int 0), (2, .int (nI v.toInt.natAbs)), (0, .ref (E.2.2.1 56)), (1, .int v)]) k (by decide) rfl dX1_appendNumber_34 ?_
        refine gs_iload (q := 0) k rfl dX1_appendNumber_36 ?_
        refine gs_if_gt (tgt := 51) k (by decide) dX1_appendNumber_38 (fun c4 => ?_) (fun c4 => ?_)
        · have ec4 := ngt1 (x := (v.toInt.natAbs / 1000) % 10) (by omega) c4
          refine gs_aload_n (q := 4) k rfl rfl dX1_appendNumber_51 ?_
          refine gs_bipush (v := 48) k (by decide) dX1_appendNumber_52 ?_
          refine gs_iload (q := 0) k rfl dX1_appendNumber_54 ?_
          refine gs_iaddN (a := 48) (b := (v.toInt.natAbs / 1000) % 10) k rfl rfl dX1_appendNumber_56 ?_
          refine gs_i2c (v := nI (48 + ((v.toInt.natAbs / 1000) % 10))) k (i2c_ok _ (by omega)) dX1_appendNumber_57 ?_
          refine gs_callV (As := [.int (nI (48 + ((v.toInt.natAbs / 1000) % 10)))]) (k0 := 56) (ci := 1) (T := TX1) (N := 2) k (c_X1_append (c := 48 + ((v.toInt.natAbs / 1000) % 10)) hI hl (by omega) rfl (by omega)) cf_X1_append im_X1_append sl_X1_append ml_X1_17 (hI 56 (by omega)) rfl rfl (by decide) rfl rfl (Nat.le_of_ble_eq_true rfl) dX1_appendNumber_58 (ppV ?_)
          refine gs_iconst (v := 1) k (by decide) dX1_appendNumber_61 ?_
          refine gs_istore_n (lv' := [(3, .int 1), (5, .int (nI ((v.toInt.natAbs / 1000) % 10))), (4, .int 1000), (2, .int (nI v.toInt.natAbs)), (0, .ref (E.2.2.1 56)), (1, .int v)]) k rfl (by decide) rfl dX1_appendNumber_62 ?_
          refine gs_iload (q := 2) k rfl dX1_appendNumber_63 ?_
          refine gs_bipush (v := 10) k (by decide) dX1_appendNumber_65 ?_
          refine gs_idivN (a := 1000) (b := 10) k rfl rfl (by omega) (by omega) (by omega) dX1_appendNumber_67 ?_
          refine gs_top (y := 100) (by decide) ?_
          refine gs_istore (lv' := [(4, .int 100), (3, .int 1), (5, .int (nI ((v.toInt.natAbs / 1000) % 10))), (2, .int (nI v.toInt.natAbs)), (0, .ref (E.2.2.1 56)), (1, .int v)]) k (by decide) rfl dX1_appendNumber_68 ?_
          refine gs_goto (tgt := 21) k (by decide) dX1_appendNumber_70 ?_
          refine gs_iload (q := 0) k rfl dX1_appendNumber_21 ?_
          refine gs_iconst (v := 1) k (by decide) dX1_appendNumber_23 ?_
          refine gs_icmp_lt (tgt := 73) k (by decide) dX1_appendNumber_24 (fun h => absurd h (by decide)) (fun _ => ?_)
          refine gs_iload_n (q := 3) k rfl rfl dX1_appendNumber_27 ?_
          refine gs_iload (q := 0) k rfl dX1_appendNumber_28 ?_
          refine gs_idivN (a := v.toInt.natAbs) (b := 100) k rfl rfl (by omega) (by omega) (by omega) dX1_appendNumber_30 ?_
          refine gs_bipush (v := 10) k (by decide) dX1_appendNumber_31 ?_
          refine gs_iremN (a := v.toInt.natAbs / 100) (b := 10) k rfl rfl (by omega) (by omega) (by omega) dX1_appendNumber_33 ?_
          refine gs_istore (lv' := [(5, .int (nI ((v.toInt.natAbs / 100) % 10))), (4, .int 100), (3, .int 1), (2, .int (nI v.toInt.natAbs)), (0, .ref (E.2.2.1 56)), (1, .int v)]) k (by decide) rfl dX1_appendNumber_34 ?_
          have H4 : G l E K 51 [(5, .int (nI ((v.toInt.natAbs / 100) % 10))), (4, .int 100), (3, .int 1), (2, .int (nI v.toInt.natAbs)), (0, .ref (E.2.2.1 56)), (1, .int v)] [] (apC ([48 + ((v.toInt.natAbs / 1000) % 10)]) len M) := by
            refine gs_aload_n (q := 4) k rfl rfl dX1_appendNumber_51 ?_
            refine gs_bipush (v := 48) k (by decide) dX1_appendNumber_52 ?_
            refine gs_iload (q := 0) k rfl dX1_appendNumber_54 ?_
            refine gs_iaddN (a := 48) (b := (v.toInt.natAbs / 100) % 10) k rfl rfl dX1_appendNumber_56 ?_
            refine gs_i2c (v := nI (48 + ((v.toInt.natAbs / 100) % 10))) k (i2c_ok _ (by omega)) dX1_appendNumber_57 ?_
            refine gs_callV (As := [.int (nI (48 + ((v.toInt.natAbs / 100) % 10)))]) (k0 := 56) (ci := 1) (T := TX1) (N := 2) k (c_X1_append (c := 48 + ((v.toInt.natAbs / 100) % 10)) hI apC_len (by (try simp only [List.length_append, List.length_cons, List.length_nil]); omega) rfl (by omega)) cf_X1_append im_X1_append sl_X1_append ml_X1_17 (hI 56 (by omega)) rfl rfl (by decide) rfl rfl (Nat.le_of_ble_eq_true rfl) dX1_appendNumber_58 (ppV ?_)
            refine gs_M (M' := (apC ([48 + ((v.toInt.natAbs / 1000) % 10)] ++ [48 + ((v.toInt.natAbs / 100) % 10)]) len M)) apC_app ?_
            refine gs_iconst (v := 1) k (by decide) dX1_appendNumber_61 ?_
            refine gs_istore_n (lv' := [(3, .int 1), (5, .int (nI ((v.toInt.natAbs / 100) % 10))), (4, .int 100), (2, .int (nI v.toInt.natAbs)), (0, .ref (E.2.2.1 56)), (1, .int v)]) k rfl (by decide) rfl dX1_appendNumber_62 ?_
            refine gs_iload (q := 2) k rfl dX1_appendNumber_63 ?_
            refine gs_bipush (v := 10) k (by decide) dX1_appendNumber_65 ?_
            refine gs_idivN (a := 100) (b := 10) k rfl rfl (by omega) (by omega) (by omega) dX1_appendNumber_67 ?_
            refine gs_top (y := 10) (by decide) ?_
            refine gs_istore (lv' := [(4, .int 10), (3, .int 1), (5, .int (nI ((v.toInt.natAbs / 100) % 10))), (2, .int (nI v.toInt.natAbs)), (0, .ref (E.2.2.1 56)), (1, .int v)]) k (by decide) rfl dX1_appendNumber_68 ?_
            refine gs_goto (tgt := 21) k (by decide) dX1_appendNumber_70 ?_
            refine gs_iload (q := 0) k rfl dX1_appendNumber_21 ?_
            refine gs_iconst (v := 1) k (by decide) dX1_appendNumber_23 ?_
            refine gs_icmp_lt (tgt := 73) k (by decide) dX1_appendNumber_24 (fun h => absurd h (by decide)) (fun _ => ?_)
            refine gs_iload_n (q := 3) k rfl rfl dX1_appendNumber_27 ?_
            refine gs_iload (q := 0) k rfl dX1_appendNumber_28 ?_
            refine gs_idivN (a := v.toInt.natAbs) (b := 10) k rfl rfl (by omega) (by omega) (by omega) dX1_appendNumber_30 ?_
            refine gs_bipush (v := 10) k (by decide) dX1_appendNumber_31 ?_
            refine gs_iremN (a := v.toInt.natAbs / 10) (b := 10) k rfl rfl (by omega) (by omega) (by omega) dX1_appendNumber_33 ?_
            refine gs_istore (lv' := [(5, .int (nI ((v.toInt.natAbs / 10) % 10))), (4, .int 10), (3, .int 1), (2, .int (nI v.toInt.natAbs)), (0, .ref (E.2.2.1 56)), (1, .int v)]) k (by decide) rfl dX1_appendNumber_34 ?_
            have H4 : G l E K 51 [(5, .int (nI ((v.toInt.natAbs / 10) % 10))), (4, .int 10), (3, .int 1), (2, .int (nI v.toInt.natAbs)), (0, .ref (E.2.2.1 56)), (1, .int v)] [] (apC ([48 + ((v.toInt.natAbs / 1000) % 10)] ++ [48 + ((v.toInt.natAbs / 100) % 10)]) len M) := by
              refine gs_aload_n (q := 4) k rfl rfl dX1_appendNumber_51 ?_
              refine gs_bipush (v := 48) k (by decide) dX1_appendNumber_52 ?_
              refine gs_iload (q := 0) k rfl dX1_appendNumber_54 ?_
              refine gs_iaddN (a := 48) (b := (v.toInt.natAbs / 10) % 10) k rfl rfl dX1_appendNumber_56 ?_
              refine gs_i2c (v := nI (48 + ((v.toInt.natAbs / 10) % 10))) k (i2c_ok _ (by omega)) dX1_appendNumber_57 ?_
              refine gs_callV (As := [.int (nI (48 + ((v.toInt.natAbs / 10) % 10)))]) (k0 := 56) (ci := 1) (T := TX1) (N := 2) k (c_X1_append (c := 48 + ((v.toInt.natAbs / 10) % 10)) hI apC_len (by (try simp only [List.length_append, List.length_cons, List.length_nil]); omega) rfl (by omega)) cf_X1_append im_X1_append sl_X1_append ml_X1_17 (hI 56 (by omega)) rfl rfl (by decide) rfl rfl (Nat.le_of_ble_eq_true rfl) dX1_appendNumber_58 (ppV ?_)
              refine gs_M (M' := (apC ([48 + ((v.toInt.natAbs / 1000) % 10)] ++ [48 + ((v.toInt.natAbs / 100) % 10)] ++ [48 + ((v.toInt.natAbs / 10) % 10)]) len M)) apC_app ?_
              refine gs_iconst (v := 1) k (by decide) dX1_appendNumber_61 ?_
              refine gs_istore_n (lv' := [(3, .int 1), (5, .int (nI ((v.toInt.natAbs / 10) % 10))), (4, .int 10), (2, .int (nI v.toInt.natAbs)), (0, .ref (E.2.2.1 56)), (1, .int v)]) k rfl (by decide) rfl dX1_appendNumber_62 ?_
              refine gs_iload (q := 2) k rfl dX1_appendNumber_63 ?_
              refine gs_bipush (v := 10) k (by decide) dX1_appendNumber_65 ?_
              refine gs_idivN (a := 10) (b := 10) k rfl rfl (by omega) (by omega) (by omega) dX1_appendNumber_67 ?_
              refine gs_top (y := 1) (by decide) ?_
              refine gs_istore (lv' := [(4, .int 1), (3, .int 1), (5, .int (nI ((v.toInt.natAbs / 10) % 10))), (2, .int (nI v.toInt.natAbs)), (0, .ref (E.2.2.1 56)), (1, .int v)]) k (by decide) rfl dX1_appendNumber_68 ?_
              refine gs_goto (tgt := 21) k (by decide) dX1_appendNumber_70 ?_
              refine gs_iload (q := 0) k rfl dX1_appendNumber_21 ?_
              refine gs_iconst (v := 1) k (by decide) dX1_appendNumber_23 ?_
              refine gs_icmp_lt (tgt := 73) k (by decide) dX1_appendNumber_24 (fun h => absurd h (by decide)) (fun _ => ?_)
              refine gs_iload_n (q := 3) k rfl rfl dX1_appendNumber_27 ?_
              refine gs_iload (q := 0) k rfl dX1_appendNumber_28 ?_
              refine gs_idivN (a := v.toInt.natAbs) (b := 1) k rfl rfl (by omega) (by omega) (by omega) dX1_appendNumber_30 ?_
              refine gs_bipush (v := 10) k (by decide) dX1_appendNumber_31 ?_
              refine gs_iremN (a := v.toInt.natAbs / 1) (b := 10) k rfl rfl (by omega) (by omega) (by omega) dX1_appendNumber_33 ?_
              refine gs_istore (lv' := [(5, .int (nI ((v.toInt.natAbs / 1) % 10))), (4, .int 1), (3, .int 1), (2, .int (nI v.toInt.natAbs)), (0, .ref (E.2.2.1 56)), (1, .int v)]) k (by decide) rfl dX1_appendNumber_34 ?_
              have H4 : G l E K 51 [(5, .int (nI ((v.toInt.natAbs / 1) % 10))), (4, .int 1), (3, .int 1), (2, .int (nI v.toInt.natAbs)), (0, .ref (E.2.2.1 56)), (1, .int v)] [] (apC ([48 + ((v.toInt.natAbs / 1000) % 10)] ++ [48 + ((v.toInt.natAbs / 100) % 10)] ++ [48 + ((v.toInt.natAbs / 10) % 10)]) len M) := by
                refine gs_aload_n (q := 4) k rfl rfl dX1_appendNumber_51 ?_
                refine gs_bipush (v := 48) k (by decide) dX1_appendNumber_52 ?_
                refine gs_iload (q := 0) k rfl dX1_appendNumber_54 ?_
                refine gs_iaddN (a := 48) (b := (v.toInt.natAbs / 1) % 10) k rfl rfl dX1_appendNumber_56 ?_
                refine gs_i2c (v := nI (48 + ((v.toInt.natAbs / 1) % 10))) k (i2c_ok _ (by omega)) dX1_appendNumber_57 ?_
                refine gs_callV (As := [.int (nI (48 + ((v.toInt.natAbs / 1) % 10)))]) (k0 := 56) (ci := 1) (T := TX1) (N := 2) k (c_X1_append (c := 48 + ((v.toInt.natAbs / 1) % 10)) hI apC_len (by (try simp only [List.length_append, List.length_cons, List.length_nil]); omega) rfl (by omega)) cf_X1_append im_X1_append sl_X1_append ml_X1_17 (hI 56 (by omega)) rfl rfl (by decide) rfl rfl (Nat.le_of_ble_eq_true rfl) dX1_appendNumber_58 (ppV ?_)
                refine gs_M (M' := (apC ([48 + ((v.toInt.natAbs / 1000) % 10)] ++ [48 + ((v.toInt.natAbs / 100) % 10)] ++ [48 + ((v.toInt.natAbs / 10) % 10)] ++ [48 + ((v.toInt.natAbs / 1) % 10)]) len M)) apC_app ?_
                refine gs_iconst (v := 1) k (by decide) dX1_appendNumber_61 ?_
                refine gs_istore_n (lv' := [(3, .int 1), (5, .int (nI ((v.toInt.natAbs / 1) % 10))), (4, .int 1), (2, .int (nI v.toInt.natAbs)), (0, .ref (E.2.2.1 56)), (1, .int v)]) k rfl (by decide) rfl dX1_appendNumber_62 ?_
                refine gs_iload (q := 2) k rfl dX1_appendNumber_63 ?_
                refine gs_bipush (v := 10) k (by decide) dX1_appendNumber_65 ?_
                refine gs_idivN (a := 1) (b := 10) k rfl rfl (by omega) (by omega) (by omega) dX1_appendNumber_67 ?_
                refine gs_top (y := 0) (by decide) ?_
                refine gs_istore (lv' := [(4, .int 0), (3, .int 1), (5, .int (nI ((v.toInt.natAbs / 1) % 10))), (2, .int (nI v.toInt.natAbs)), (0, .ref (E.2.2.1 56)), (1, .int v)]) k (by decide) rfl dX1_appendNumber_68 ?_
                refine gs_goto (tgt := 21) k (by decide) dX1_appendNumber_70 ?_
                refine gs_iload (q := 0) k rfl dX1_appendNumber_21 ?_
                refine gs_iconst (v := 1) k (by decide) dX1_appendNumber_23 ?_
                refine gs_icmp_lt (tgt := 73) k (by decide) dX1_appendNumber_24 (fun _ => ?_) (fun h => absurd h (by decide))
                exact gs_vret k kt dX1_appendNumber_73 ⟨rfl, (by
        have hd := dig3 (m := v.toInt.natAbs) (by omega) (by omega)
        unfold num
        rw [ifc_f (Int32.not_lt.mpr c1), hd]
        try simp only [List.nil_append, List.cons_append, Nat.div_one, List.append_assoc])⟩
              refine gs_iload (q := 0) k rfl dX1_appendNumber_36 ?_
              refine gs_if_gt (tgt := 51) k (by decide) dX1_appendNumber_38 (fun c5 => ?_) (fun c5 => ?_)
              · have ec5 := ngt1 (x := (v.toInt.natAbs / 1) % 10) (by omega) c5
                exact H4
              · have ec5 := ngt0 (x := (v.toInt.natAbs / 1) % 10) (by omega) c5
                refine gs_iload_n (q := 2) k rfl rfl dX1_appendNumber_41 ?_
                refine gs_if_ne (tgt := 51) k (by decide) dX1_appendNumber_42 (fun _ => ?_) (fun h => absurd h (by decide))
                exact H4
            refine gs_iload (q := 0) k rfl dX1_appendNumber_36 ?_
            refine gs_if_gt (tgt := 51) k (by decide) dX1_appendNumber_38 (fun c5 => ?_) (fun c5 => ?_)
            · have ec5 := ngt1 (x := (v.toInt.natAbs / 10) % 10) (by omega) c5
              exact H4
            · have ec5 := ngt0 (x := (v.toInt.natAbs / 10) % 10) (by omega) c5
              refine gs_iload_n (q := 2) k rfl rfl dX1_appendNumber_41 ?_
              refine gs_if_ne (tgt := 51) k (by decide) dX1_appendNumber_42 (fun _ => ?_) (fun h => absurd h (by decide))
              exact H4
          refine gs_iload (q := 0) k rfl dX1_appendNumber_36 ?_
          refine gs_if_gt (tgt := 51) k (by decide) dX1_appendNumber_38 (fun c5 => ?_) (fun c5 => ?_)
          · have ec5 := ngt1 (x := (v.toInt.natAbs / 100) % 10) (by omega) c5
            exact H4
          · have ec5 := ngt0 (x := (v.toInt.natAbs / 100) % 10) (by omega) c5
            refine gs_iload_n (q := 2) k rfl rfl dX1_appendNumber_41 ?_
            refine gs_if_ne (tgt := 51) k (by decide) dX1_appendNumber_42 (fun _ => ?_) (fun h => absurd h (by decide))
            exact H4
        · have ec4 := ngt0 (x := (v.toInt.natAbs / 1000) % 10) (by omega) c4
          refine gs_iload_n (q := 2) k rfl rfl dX1_appendNumber_41 ?_
          refine gs_if_ne (tgt := 51) k (by decide) dX1_appendNumber_42 (fun h => absurd h (by decide)) (fun _ => ?_)
          refine gs_iload (q := 1) k rfl dX1_appendNumber_45 ?_
          refine gs_iconst (v := 1) k (by decide) dX1_appendNumber_47 ?_
          refine gs_icmp_ne (tgt := 63) k (by decide) dX1_appendNumber_48 (fun _ => ?_) (fun h => absurd h (by decide))
          refine gs_iload (q := 1) k rfl dX1_appendNumber_63 ?_
          refine gs_bipush (v := 10) k (by decide) dX1_appendNumber_65 ?_
          refine gs_idivN (a := 1000) (b := 10) k rfl rfl (by omega) (by omega) (by omega) dX1_appendNumber_67 ?_
          refine gs_top (y := 100) (by decide) ?_
          refine gs_istore (lv' := [(4, .int 100), (5, .int (nI ((v.toInt.natAbs / 1000) % 10))), (3, .int 0), (2, .int (nI v.toInt.natAbs)), (0, .ref (E.2.2.1 56)), (1, .int v)]) k (by decide) rfl dX1_appendNumber_68 ?_
          refine gs_goto (tgt := 21) k (by decide) dX1_appendNumber_70 ?_
          refine gs_iload (q := 0) k rfl dX1_appendNumber_21 ?_
          refine gs_iconst (v := 1) k (by decide) dX1_appendNumber_23 ?_
          refine gs_icmp_lt (tgt := 73) k (by decide) dX1_appendNumber_24 (fun h => absurd h (by decide)) (fun _ => ?_)
          refine gs_iload_n (q := 3) k rfl rfl dX1_appendNumber_27 ?_
          refine gs_iload (q := 0) k rfl dX1_appendNumber_28 ?_
          refine gs_idivN (a := v.toInt.natAbs) (b := 100) k rfl rfl (by omega) (by omega) (by omega) dX1_appendNumber_30 ?_
          refine gs_bipush (v := 10) k (by decide) dX1_appendNumber_31 ?_
          refine gs_iremN (a := v.toInt.natAbs / 100) (b := 10) k rfl rfl (by omega) (by omega) (by omega) dX1_appendNumber_33 ?_
          refine gs_istore (lv' := [(5, .int (nI ((v.toInt.natAbs / 100) % 10))), (4, .int 100), (3, .int 0), (2, .int (nI v.toInt.natAbs)), (0, .ref (E.2.2.1 56)), (1, .int v)]) k (by decide) rfl dX1_appendNumber_34 ?_
          refine gs_iload (q := 0) k rfl dX1_appendNumber_36 ?_
          refine gs_if_gt (tgt := 51) k (by decide) dX1_appendNumber_38 (fun c5 => ?_) (fun c5 => ?_)
          · have ec5 := ngt1 (x := (v.toInt.natAbs / 100) % 10) (by omega) c5
            refine gs_aload_n (q := 4) k rfl rfl dX1_appendNumber_51 ?_
            refine gs_bipush (v := 48) k (by decide) dX1_appendNumber_52 ?_
            refine gs_iload (q := 0) k rfl dX1_appendNumber_54 ?_
            refine gs_iaddN (a := 48) (b := (v.toInt.natAbs / 100) % 10) k rfl rfl dX1_appendNumber_56 ?_
            refine gs_i2c (v := nI (48 + ((v.toInt.natAbs / 100) % 10))) k (i2c_ok _ (by omega)) dX1_appendNumber_57 ?_
            refine gs_callV (As := [.int (nI (48 + ((v.toInt.natAbs / 100) % 10)))]) (k0 := 56) (ci := 1) (T := TX1) (N := 2) k (c_X1_append (c := 48 + ((v.toInt.natAbs / 100) % 10)) hI hl (by omega) rfl (by omega)) cf_X1_append im_X1_append sl_X1_append ml_X1_17 (hI 56 (by omega)) rfl rfl (by decide) rfl rfl (Nat.le_of_ble_eq_true rfl) dX1_appendNumber_58 (ppV ?_)
            refine gs_iconst (v := 1) k (by decide) dX1_appendNumber_61 ?_
            refine gs_istore_n (lv' := [(3, .int 1), (5, .int (nI ((v.toInt.natAbs / 100) % 10))), (4, .int 100), (2, .int (nI v.toInt.natAbs)), (0, .ref (E.2.2.1 56)), (1, .int v)]) k rfl (by decide) rfl dX1_appendNumber_62 ?_
            refine gs_iload (q := 2) k rfl dX1_appendNumber_63 ?_
            refine gs_bipush (v := 10) k (by decide) dX1_appendNumber_65 ?_
            refine gs_idivN (a := 100) (b := 10) k rfl rfl (by omega) (by omega) (by omega) dX1_appendNumber_67 ?_
            refine gs_top (y := 10) (by decide) ?_
            refine gs_istore (lv' := [(4, .int 10), (3, .int 1), (5, .int (nI ((v.toInt.natAbs / 100) % 10))), (2, .int (nI v.toInt.natAbs)), (0, .ref (E.2.2.1 56)), (1, .int v)]) k (by decide) rfl dX1_appendNumber_68 ?_
            refine gs_goto (tgt := 21) k (by decide) dX1_appendNumber_70 ?_
            refine gs_iload (q := 0) k rfl dX1_appendNumber_21 ?_
            refine gs_iconst (v := 1) k (by decide) dX1_appendNumber_23 ?_
            refine gs_icmp_lt (tgt := 73) k (by decide) dX1_appendNumber_24 (fun h => absurd h (by decide)) (fun _ => ?_)
            refine gs_iload_n (q := 3) k rfl rfl dX1_appendNumber_27 ?_
            refine gs_iload (q := 0) k rfl dX1_appendNumber_28 ?_
            refine gs_idivN (a := v.toInt.natAbs) (b := 10) k rfl rfl (by omega) (by omega) (by omega) dX1_appendNumber_30 ?_
            refine gs_bipush (v := 10) k (by decide) dX1_appendNumber_31 ?_
            refine gs_iremN (a := v.toInt.natAbs / 10) (b := 10) k rfl rfl (by omega) (by omega) (by omega) dX1_appendNumber_33 ?_
            refine gs_istore (lv' := [(5, .int (nI ((v.toInt.natAbs / 10) % 10))), (4, .int 10), (3, .int 1), (2, .int (nI v.toInt.natAbs)), (0, .ref (E.2.2.1 56)), (1, .int v)]) k (by decide) rfl dX1_appendNumber_34 ?_
            have H5 : G l E K 51 [(5, .int (nI ((v.toInt.natAbs / 10) % 10))), (4, .int 10), (3, .int 1), (2, .int (nI v.toInt.natAbs)), (0, .ref (E.2.2.1 56)), (1, .int v)] [] (apC ([48 + ((v.toInt.natAbs / 100) % 10)]) len M) := by
              refine gs_aload_n (q := 4) k rfl rfl dX1_appendNumber_51 ?_
              refine gs_bipush (v := 48) k (by decide) dX1_appendNumber_52 ?_
              refine gs_iload (q := 0) k rfl dX1_appendNumber_54 ?_
              refine gs_iaddN (a := 48) (b := (v.toInt.natAbs / 10) % 10) k rfl rfl dX1_appendNumber_56 ?_
              refine gs_i2c (v := nI (48 + ((v.toInt.natAbs / 10) % 10))) k (i2c_ok _ (by omega)) dX1_appendNumber_57 ?_
              refine gs_callV (As := [.int (nI (48 + ((v.toInt.natAbs / 10) % 10)))]) (k0 := 56) (ci := 1) (T := TX1) (N := 2) k (c_X1_append (c := 48 + ((v.toInt.natAbs / 10) % 10)) hI apC_len (by (try simp only [List.length_append, List.length_cons, List.length_nil]); omega) rfl (by omega)) cf_X1_append im_X1_append sl_X1_append ml_X1_17 (hI 56 (by omega)) rfl rfl (by decide) rfl rfl (Nat.le_of_ble_eq_true rfl) dX1_appendNumber_58 (ppV ?_)
              refine gs_M (M' := (apC ([48 + ((v.toInt.natAbs / 100) % 10)] ++ [48 + ((v.toInt.natAbs / 10) % 10)]) len M)) apC_app ?_
              refine gs_iconst (v := 1) k (by decide) dX1_appendNumber_61 ?_
              refine gs_istore_n (lv' := [(3, .int 1), (5, .int (nI ((v.toInt.natAbs / 10) % 10))), (4, .int 10), (2, .int (nI v.toInt.natAbs)), (0, .ref (E.2.2.1 56)), (1, .int v)]) k rfl (by decide) rfl dX1_appendNumber_62 ?_
              refine gs_iload (q := 2) k rfl dX1_appendNumber_63 ?_
              refine gs_bipush (v := 10) k (by decide) dX1_appendNumber_65 ?_
              refine gs_idivN (a := 10) (b := 10) k rfl rfl (by omega) (by omega) (by omega) dX1_appendNumber_67 ?_
              refine gs_top (y := 1) (by decide) ?_
              refine gs_istore (lv' := [(4, .int 1), (3, .int 1), (5, .int (nI ((v.toInt.natAbs / 10) % 10))), (2, .int (nI v.toInt.natAbs)), (0, .ref (E.2.2.1 56)), (1, .int v)]) k (by decide) rfl dX1_appendNumber_68 ?_
              refine gs_goto (tgt := 21) k (by decide) dX1_appendNumber_70 ?_
              refine gs_iload (q := 0) k rfl dX1_appendNumber_21 ?_
              refine gs_iconst (v := 1) k (by decide) dX1_appendNumber_23 ?_
              refine gs_icmp_lt (tgt := 73) k (by decide) dX1_appendNumber_24 (fun h => absurd h (by decide)) (fun _ => ?_)
              refine gs_iload_n (q := 3) k rfl rfl dX1_appendNumber_27 ?_
              refine gs_iload (q := 0) k rfl dX1_appendNumber_28 ?_
              refine gs_idivN (a := v.toInt.natAbs) (b := 1) k rfl rfl (by omega) (by omega) (by omega) dX1_appendNumber_30 ?_
              refine gs_bipush (v := 10) k (by decide) dX1_appendNumber_31 ?_
              refine gs_iremN (a := v.toInt.natAbs / 1) (b := 10) k rfl rfl (by omega) (by omega) (by omega) dX1_appendNumber_33 ?_
              refine gs_istore (lv' := [(5, .int (nI ((v.toInt.natAbs / 1) % 10))), (4, .int 1), (3, .int 1), (2, .int (nI v.toInt.natAbs)), (0, .ref (E.2.2.1 56)), (1, .int v)]) k (by decide) rfl dX1_appendNumber_34 ?_
              have H5 : G l E K 51 [(5, .int (nI ((v.toInt.natAbs / 1) % 10))), (4, .int 1), (3, .int 1), (2, .int (nI v.toInt.natAbs)), (0, .ref (E.2.2.1 56)), (1, .int v)] [] (apC ([48 + ((v.toInt.natAbs / 100) % 10)] ++ [48 + ((v.toInt.natAbs / 10) % 10)]) len M) := by
                refine gs_aload_n (q := 4) k rfl rfl dX1_appendNumber_51 ?_
                refine gs_bipush (v := 48) k (by decide) dX1_appendNumber_52 ?_
                refine gs_iload (q := 0) k rfl dX1_appendNumber_54 ?_
                refine gs_iaddN (a := 48) (b := (v.toInt.natAbs / 1) % 10) k rfl rfl dX1_appendNumber_56 ?_
                refine gs_i2c (v := nI (48 + ((v.toInt.natAbs / 1) % 10))) k (i2c_ok _ (by omega)) dX1_appendNumber_57 ?_
                refine gs_callV (As := [.int (nI (48 + ((v.toInt.natAbs / 1) % 10)))]) (k0 := 56) (ci := 1) (T := TX1) (N := 2) k (c_X1_append (c := 48 + ((v.toInt.natAbs / 1) % 10)) hI apC_len (by (try simp only [List.length_append, List.length_cons, List.length_nil]); omega) rfl (by omega)) cf_X1_append im_X1_append sl_X1_append ml_X1_17 (hI 56 (by omega)) rfl rfl (by decide) rfl rfl (Nat.le_of_ble_eq_true rfl) dX1_appendNumber_58 (ppV ?_)
                refine gs_M (M' := (apC ([48 + ((v.toInt.natAbs / 100) % 10)] ++ [48 + ((v.toInt.natAbs / 10) % 10)] ++ [48 + ((v.toInt.natAbs / 1) % 10)]) len M)) apC_app ?_
                refine gs_iconst (v := 1) k (by decide) dX1_appendNumber_61 ?_
                refine gs_istore_n (lv' := [(3, .int 1), (5, .int (nI ((v.toInt.natAbs / 1) % 10))), (4, .int 1), (2, .int (nI v.toInt.natAbs)), (0, .ref (E.2.2.1 56)), (1, .int v)]) k rfl (by decide) rfl dX1_appendNumber_62 ?_
                refine gs_iload (q := 2) k rfl dX1_appendNumber_63 ?_
                refine gs_bipush (v := 10) k (by decide) dX1_appendNumber_65 ?_
                refine gs_idivN (a := 1) (b := 10) k rfl rfl (by omega) (by omega) (by omega) dX1_appendNumber_67 ?_
                refine gs_top (y := 0) (by decide) ?_
                refine gs_istore (lv' := [(4, .int 0), (3, .int 1), (5, .int (nI ((v.toInt.natAbs / 1) % 10))), (2, .int (nI v.toInt.natAbs)), (0, .ref (E.2.2.1 56)), (1, .int v)]) k (by decide) rfl dX1_appendNumber_68 ?_
                refine gs_goto (tgt := 21) k (by decide) dX1_appendNumber_70 ?_
                refine gs_iload (q := 0) k rfl dX1_appendNumber_21 ?_
                refine gs_iconst (v := 1) k (by decide) dX1_appendNumber_23 ?_
                refine gs_icmp_lt (tgt := 73) k (by decide) dX1_appendNumber_24 (fun _ => ?_) (fun h => absurd h (by decide))
                exact gs_vret k kt dX1_appendNumber_73 ⟨rfl, (by
        have hd := dig2 (m := v.toInt.natAbs) (by omega) (by omega)
        unfold num
        rw [ifc_f (Int32.not_lt.mpr c1), hd]
        try simp only [List.nil_append, List.cons_append, Nat.div_one, List.append_assoc])⟩
              refine gs_iload (q := 0) k rfl dX1_appendNumber_36 ?_
              refine gs_if_gt (tgt := 51) k (by decide) dX1_appendNumber_38 (fun c6 => ?_) (fun c6 => ?_)
              · have ec6 := ngt1 (x := (v.toInt.natAbs / 1) % 10) (by omega) c6
                exact H5
              · have ec6 := ngt0 (x := (v.toInt.natAbs / 1) % 10) (by omega) c6
                refine gs_iload_n (q := 2) k rfl rfl dX1_appendNumber_41 ?_
                refine gs_if_ne (tgt := 51) k (by decide) dX1_appendNumber_42 (fun _ => ?_) (fun h => absurd h (by decide))
                exact H5
            refine gs_iload (q := 0) k rfl dX1_appendNumber_36 ?_
            refine gs_if_gt (tgt := 51) k (by decide) dX1_appendNumber_38 (fun c6 => ?_) (fun c6 => ?_)
            · have ec6 := ngt1 (x := (v.toInt.natAbs / 10) % 10) (by omega) c6
              exact H5
            · have ec6 := ngt0 (x := (v.toInt.natAbs / 10) % 10) (by omega) c6
              refine gs_iload_n (q := 2) k rfl rfl dX1_appendNumber_41 ?_
              refine gs_if_ne (tgt := 51) k (by decide) dX1_appendNumber_42 (fun _ => ?_) (fun h => absurd h (by decide))
              exact H5
          · have ec5 := ngt0 (x := (v.toInt.natAbs / 100) % 10) (by omega) c5
            refine gs_iload_n (q := 2) k rfl rfl dX1_appendNumber_41 ?_
            refine gs_if_ne (tgt := 51) k (by decide) dX1_appendNumber_42 (fun h => absurd h (by decide)) (fun _ => ?_)
            refine gs_iload (q := 1) k rfl dX1_appendNumber_45 ?_
            refine gs_iconst (v := 1) k (by decide) dX1_appendNumber_47 ?_
            refine gs_icmp_ne (tgt := 63) k (by decide) dX1_appendNumber_48 (fun _ => ?_) (fun h => absurd h (by decide))
            refine gs_iload (q := 1) k rfl dX1_appendNumber_63 ?_
            refine gs_bipush (v := 10) k (by decide) dX1_appendNumber_65 ?_
            refine gs_idivN (a := 100) (b := 10) k rfl rfl (by omega) (by omega) (by omega) dX1_appendNumber_67 ?_
            refine gs_top (y := 10) (by decide) ?_
            refine gs_istore (lv' := [(4, .int 10), (5, .int (nI ((v.toInt.natAbs / 100) % 10))), (3, .int 0), (2, .int (nI v.toInt.natAbs)), (0, .ref (E.2.2.1 56)), (1, .int v)]) k (by decide) rfl dX1_appendNumber_68 ?_
            refine gs_goto (tgt := 21) k (by decide) dX1_appendNumber_70 ?_
            refine gs_iload (q := 0) k rfl dX1_appendNumber_21 ?_
            refine gs_iconst (v := 1) k (by decide) dX1_appendNumber_23 ?_
            refine gs_icmp_lt (tgt := 73) k (by decide) dX1_appendNumber_24 (fun h => absurd h (by decide)) (fun _ => ?_)
            refine gs_iload_n (q := 3) k rfl rfl dX1_appendNumber_27 ?_
            refine gs_iload (q := 0) k rfl dX1_appendNumber_28 ?_
            refine gs_idivN (a := v.toInt.natAbs) (b := 10) k rfl rfl (by omega) (by omega) (by omega) dX1_appendNumber_30 ?_
            refine gs_bipush (v := 10) k (by decide) dX1_appendNumber_31 ?_
            refine gs_iremN (a := v.toInt.natAbs / 10) (b := 10) k rfl rfl (by omega) (by omega) (by omega) dX1_appendNumber_33 ?_
            refine gs_istore (lv' := [(5, .int (nI ((v.toInt.natAbs / 10) % 10))), (4, .int 10), (3, .int 0), (2, .int (nI v.toInt.natAbs)), (0, .ref (E.2.2.1 56)), (1, .int v)]) k (by decide) rfl dX1_appendNumber_34 ?_
            refine gs_iload (q := 0) k rfl dX1_appendNumber_36 ?_
            refine gs_if_gt (tgt := 51) k (by decide) dX1_appendNumber_38 (fun c6 => ?_) (fun c6 => ?_)
            · have ec6 := ngt1 (x := (v.toInt.natAbs / 10) % 10) (by omega) c6
              refine gs_aload_n (q := 4) k rfl rfl dX1_appendNumber_51 ?_
              refine gs_bipush (v := 48) k (by decide) dX1_appendNumber_52 ?_
              refine gs_iload (q := 0) k rfl dX1_appendNumber_54 ?_
              refine gs_iaddN (a := 48) (b := (v.toInt.natAbs / 10) % 10) k rfl rfl dX1_appendNumber_56 ?_
              refine gs_i2c (v := nI (48 + ((v.toInt.natAbs / 10) % 10))) k (i2c_ok _ (by omega)) dX1_appendNumber_57 ?_
              refine gs_callV (As := [.int (nI (48 + ((v.toInt.natAbs / 10) % 10)))]) (k0 := 56) (ci := 1) (T := TX1) (N := 2) k (c_X1_append (c := 48 + ((v.toInt.natAbs / 10) % 10)) hI hl (by omega) rfl (by omega)) cf_X1_append im_X1_append sl_X1_append ml_X1_17 (hI 56 (by omega)) rfl rfl (by decide) rfl rfl (Nat.le_of_ble_eq_true rfl) dX1_appendNumber_58 (ppV ?_)
              refine gs_iconst (v := 1) k (by decide) dX1_appendNumber_61 ?_
              refine gs_istore_n (lv' := [(3, .int 1), (5, .int (nI ((v.toInt.natAbs / 10) % 10))), (4, .int 10), (2, .int (nI v.toInt.natAbs)), (0, .ref (E.2.2.1 56)), (1, .int v)]) k rfl (by decide) rfl dX1_appendNumber_62 ?_
              refine gs_iload (q := 2) k rfl dX1_appendNumber_63 ?_
              refine gs_bipush (v := 10) k (by decide) dX1_appendNumber_65 ?_
              refine gs_idivN (a := 10) (b := 10) k rfl rfl (by omega) (by omega) (by omega) dX1_appendNumber_67 ?_
              refine gs_top (y := 1) (by decide) ?_
              refine gs_istore (lv' := [(4, .int 1), (3, .int 1), (5, .int (nI ((v.toInt.natAbs / 10) % 10))), (2, .int (nI v.toInt.natAbs)), (0, .ref (E.2.2.1 56)), (1, .int v)]) k (by decide) rfl dX1_appendNumber_68 ?_
              refine gs_goto (tgt := 21) k (by decide) dX1_appendNumber_70 ?_
              refine gs_iload (q := 0) k rfl dX1_appendNumber_21 ?_
              refine gs_iconst (v := 1) k (by decide) dX1_appendNumber_23 ?_
              refine gs_icmp_lt (tgt := 73) k (by decide) dX1_appendNumber_24 (fun h => absurd h (by decide)) (fun _ => ?_)
              refine gs_iload_n (q := 3) k rfl rfl dX1_appendNumber_27 ?_
              refine gs_iload (q := 0) k rfl dX1_appendNumber_28 ?_
              refine gs_idivN (a := v.toInt.natAbs) (b := 1) k rfl rfl (by omega) (by omega) (by omega) dX1_appendNumber_30 ?_
              refine gs_bipush (v := 10) k (by decide) dX1_appendNumber_31 ?_
              refine gs_iremN (a := v.toInt.natAbs / 1) (b := 10) k rfl rfl (by omega) (by omega) (by omega) dX1_appendNumber_33 ?_
              refine gs_istore (lv' := [(5, .int (nI ((v.toInt.natAbs / 1) % 10))), (4, .int 1), (3, .int 1), (2, .int (nI v.toInt.natAbs)), (0, .ref (E.2.2.1 56)), (1, .int v)]) k (by decide) rfl dX1_appendNumber_34 ?_
              have H6 : G l E K 51 [(5, .int (nI ((v.toInt.natAbs / 1) % 10))), (4, .int 1), (3, .int 1), (2, .int (nI v.toInt.natAbs)), (0, .ref (E.2.2.1 56)), (1, .int v)] [] (apC ([48 + ((v.toInt.natAbs / 10) % 10)]) len M) := by
                refine gs_aload_n (q := 4) k rfl rfl dX1_appendNumber_51 ?_
                refine gs_bipush (v := 48) k (by decide) dX1_appendNumber_52 ?_
                refine gs_iload (q := 0) k rfl dX1_appendNumber_54 ?_
                refine gs_iaddN (a := 48) (b := (v.toInt.natAbs / 1) % 10) k rfl rfl dX1_appendNumber_56 ?_
                refine gs_i2c (v := nI (48 + ((v.toInt.natAbs / 1) % 10))) k (i2c_ok _ (by omega)) dX1_appendNumber_57 ?_
                refine gs_callV (As := [.int (nI (48 + ((v.toInt.natAbs / 1) % 10)))]) (k0 := 56) (ci := 1) (T := TX1) (N := 2) k (c_X1_append (c := 48 + ((v.toInt.natAbs / 1) % 10)) hI apC_len (by (try simp only [List.length_append, List.length_cons, List.length_nil]); omega) rfl (by omega)) cf_X1_append im_X1_append sl_X1_append ml_X1_17 (hI 56 (by omega)) rfl rfl (by decide) rfl rfl (Nat.le_of_ble_eq_true rfl) dX1_appendNumber_58 (ppV ?_)
                refine gs_M (M' := (apC ([48 + ((v.toInt.natAbs / 10) % 10)] ++ [48 + ((v.toInt.natAbs / 1) % 10)]) len M)) apC_app ?_
                refine gs_iconst (v := 1) k (by decide) dX1_appendNumber_61 ?_
                refine gs_istore_n (lv' := [(3, .int 1), (5, .int (nI ((v.toInt.natAbs / 1) % 10))), (4, .int 1), (2, .int (nI v.toInt.natAbs)), (0, .ref (E.2.2.1 56)), (1, .int v)]) k rfl (by decide) rfl dX1_appendNumber_62 ?_
                refine gs_iload (q := 2) k rfl dX1_appendNumber_63 ?_
                refine gs_bipush (v := 10) k (by decide) dX1_appendNumber_65 ?_
                refine gs_idivN (a := 1) (b := 10) k rfl rfl (by omega) (by omega) (by omega) dX1_appendNumber_67 ?_
                refine gs_top (y := 0) (by decide) ?_
                refine gs_istore (lv' := [(4, .int 0), (3, .int 1), (5, .int (nI ((v.toInt.natAbs / 1) % 10))), (2, .int (nI v.toInt.natAbs)), (0, .ref (E.2.2.1 56)), (1, .int v)]) k (by decide) rfl dX1_appendNumber_68 ?_
                refine gs_goto (tgt := 21) k (by decide) dX1_appendNumber_70 ?_
                refine gs_iload (q := 0) k rfl dX1_appendNumber_21 ?_
                refine gs_iconst (v := 1) k (by decide) dX1_appendNumber_23 ?_
                refine gs_icmp_lt (tgt := 73) k (by decide) dX1_appendNumber_24 (fun _ => ?_) (fun h => absurd h (by decide))
                exact gs_vret k kt dX1_appendNumber_73 ⟨rfl, (by
        have hd := dig1 (m := v.toInt.natAbs) (by omega) (by omega)
        unfold num
        rw [ifc_f (Int32.not_lt.mpr c1), hd]
        try simp only [List.nil_append, List.cons_append, Nat.div_one, List.append_assoc])⟩
              refine gs_iload (q := 0) k rfl dX1_appendNumber_36 ?_
              refine gs_if_gt (tgt := 51) k (by decide) dX1_appendNumber_38 (fun c7 => ?_) (fun c7 => ?_)
              · have ec7 := ngt1 (x := (v.toInt.natAbs / 1) % 10) (by omega) c7
                exact H6
              · have ec7 := ngt0 (x := (v.toInt.natAbs / 1) % 10) (by omega) c7
                refine gs_iload_n (q := 2) k rfl rfl dX1_appendNumber_41 ?_
                refine gs_if_ne (tgt := 51) k (by decide) dX1_appendNumber_42 (fun _ => ?_) (fun h => absurd h (by decide))
                exact H6
            · have ec6 := ngt0 (x := (v.toInt.natAbs / 10) % 10) (by omega) c6
              refine gs_iload_n (q := 2) k rfl rfl dX1_appendNumber_41 ?_
              refine gs_if_ne (tgt := 51) k (by decide) dX1_appendNumber_42 (fun h => absurd h (by decide)) (fun _ => ?_)
              refine gs_iload (q := 1) k rfl dX1_appendNumber_45 ?_
              refine gs_iconst (v := 1) k (by decide) dX1_appendNumber_47 ?_
              refine gs_icmp_ne (tgt := 63) k (by decide) dX1_appendNumber_48 (fun _ => ?_) (fun h => absurd h (by decide))
              refine gs_iload (q := 1) k rfl dX1_appendNumber_63 ?_
              refine gs_bipush (v := 10) k (by decide) dX1_appendNumber_65 ?_
              refine gs_idivN (a := 10) (b := 10) k rfl rfl (by omega) (by omega) (by omega) dX1_appendNumber_67 ?_
              refine gs_top (y := 1) (by decide) ?_
              refine gs_istore (lv' := [(4, .int 1), (5, .int (nI ((v.toInt.natAbs / 10) % 10))), (3, .int 0), (2, .int (nI v.toInt.natAbs)), (0, .ref (E.2.2.1 56)), (1, .int v)]) k (by decide) rfl dX1_appendNumber_68 ?_
              refine gs_goto (tgt := 21) k (by decide) dX1_appendNumber_70 ?_
              refine gs_iload (q := 0) k rfl dX1_appendNumber_21 ?_
              refine gs_iconst (v := 1) k (by decide) dX1_appendNumber_23 ?_
              refine gs_icmp_lt (tgt := 73) k (by decide) dX1_appendNumber_24 (fun h => absurd h (by decide)) (fun _ => ?_)
              refine gs_iload_n (q := 3) k rfl rfl dX1_appendNumber_27 ?_
              refine gs_iload (q := 0) k rfl dX1_appendNumber_28 ?_
              refine gs_idivN (a := v.toInt.natAbs) (b := 1) k rfl rfl (by omega) (by omega) (by omega) dX1_appendNumber_30 ?_
              refine gs_bipush (v := 10) k (by decide) dX1_appendNumber_31 ?_
              refine gs_iremN (a := v.toInt.natAbs / 1) (b := 10) k rfl rfl (by omega) (by omega) (by omega) dX1_appendNumber_33 ?_
              refine gs_istore (lv' := [(5, .int (nI ((v.toInt.natAbs / 1) % 10))), (4, .int 1), (3, .int 0), (2, .int (nI v.toInt.natAbs)), (0, .ref (E.2.2.1 56)), (1, .int v)]) k (by decide) rfl dX1_appendNumber_34 ?_
              refine gs_iload (q := 0) k rfl dX1_appendNumber_36 ?_
              refine gs_if_gt (tgt := 51) k (by decide) dX1_appendNumber_38 (fun c7 => ?_) (fun c7 => ?_)
              · have ec7 := ngt1 (x := (v.toInt.natAbs / 1) % 10) (by omega) c7
                refine gs_aload_n (q := 4) k rfl rfl dX1_appendNumber_51 ?_
                refine gs_bipush (v := 48) k (by decide) dX1_appendNumber_52 ?_
                refine gs_iload (q := 0) k rfl dX1_appendNumber_54 ?_
                refine gs_iaddN (a := 48) (b := (v.toInt.natAbs / 1) % 10) k rfl rfl dX1_appendNumber_56 ?_
                refine gs_i2c (v := nI (48 + ((v.toInt.natAbs / 1) % 10))) k (i2c_ok _ (by omega)) dX1_appendNumber_57 ?_
                refine gs_callV (As := [.int (nI (48 + ((v.toInt.natAbs / 1) % 10)))]) (k0 := 56) (ci := 1) (T := TX1) (N := 2) k (c_X1_append (c := 48 + ((v.toInt.natAbs / 1) % 10)) hI hl (by omega) rfl (by omega)) cf_X1_append im_X1_append sl_X1_append ml_X1_17 (hI 56 (by omega)) rfl rfl (by decide) rfl rfl (Nat.le_of_ble_eq_true rfl) dX1_appendNumber_58 (ppV ?_)
                refine gs_iconst (v := 1) k (by decide) dX1_appendNumber_61 ?_
                refine gs_istore_n (lv' := [(3, .int 1), (5, .int (nI ((v.toInt.natAbs / 1) % 10))), (4, .int 1), (2, .int (nI v.toInt.natAbs)), (0, .ref (E.2.2.1 56)), (1, .int v)]) k rfl (by decide) rfl dX1_appendNumber_62 ?_
                refine gs_iload (q := 2) k rfl dX1_appendNumber_63 ?_
                refine gs_bipush (v := 10) k (by decide) dX1_appendNumber_65 ?_
                refine gs_idivN (a := 1) (b := 10) k rfl rfl (by omega) (by omega) (by omega) dX1_appendNumber_67 ?_
                refine gs_top (y := 0) (by decide) ?_
                refine gs_istore (lv' := [(4, .int 0), (3, .int 1), (5, .int (nI ((v.toInt.natAbs / 1) % 10))), (2, .int (nI v.toInt.natAbs)), (0, .ref (E.2.2.1 56)), (1, .int v)]) k (by decide) rfl dX1_appendNumber_68 ?_
                refine gs_goto (tgt := 21) k (by decide) dX1_appendNumber_70 ?_
                refine gs_iload (q := 0) k rfl dX1_appendNumber_21 ?_
                refine gs_iconst (v := 1) k (by decide) dX1_appendNumber_23 ?_
                refine gs_icmp_lt (tgt := 73) k (by decide) dX1_appendNumber_24 (fun _ => ?_) (fun h => absurd h (by decide))
                exact gs_vret k kt dX1_appendNumber_73 ⟨rfl, (by
        have hd := dig0 (m := v.toInt.natAbs) (by omega)
        unfold num
        rw [ifc_f (Int32.not_lt.mpr c1), hd]
        try simp only [List.nil_append, List.cons_append, Nat.div_one, List.append_assoc])⟩
              · have ec7 := ngt0 (x := (v.toInt.natAbs / 1) % 10) (by omega) c7
                refine gs_iload_n (q := 2) k rfl rfl dX1_appendNumber_41 ?_
                refine gs_if_ne (tgt := 51) k (by decide) dX1_appendNumber_42 (fun h => absurd h (by decide)) (fun _ => ?_)
                refine gs_iload (q := 1) k rfl dX1_appendNumber_45 ?_
                refine gs_iconst (v := 1) k (by decide) dX1_appendNumber_47 ?_
                refine gs_icmp_ne (tgt := 63) k (by decide) dX1_appendNumber_48 (fun h => absurd h (by decide)) (fun _ => ?_)
                refine gs_aload_n (q := 4) k rfl rfl dX1_appendNumber_51 ?_
                refine gs_bipush (v := 48) k (by decide) dX1_appendNumber_52 ?_
                refine gs_iload (q := 0) k rfl dX1_appendNumber_54 ?_
                refine gs_iaddN (a := 48) (b := (v.toInt.natAbs / 1) % 10) k rfl rfl dX1_appendNumber_56 ?_
                refine gs_i2c (v := nI (48 + ((v.toInt.natAbs / 1) % 10))) k (i2c_ok _ (by omega)) dX1_appendNumber_57 ?_
                refine gs_callV (As := [.int (nI (48 + ((v.toInt.natAbs / 1) % 10)))]) (k0 := 56) (ci := 1) (T := TX1) (N := 2) k (c_X1_append (c := 48 + ((v.toInt.natAbs / 1) % 10)) hI hl (by omega) rfl (by omega)) cf_X1_append im_X1_append sl_X1_append ml_X1_17 (hI 56 (by omega)) rfl rfl (by decide) rfl rfl (Nat.le_of_ble_eq_true rfl) dX1_appendNumber_58 (ppV ?_)
                refine gs_iconst (v := 1) k (by decide) dX1_appendNumber_61 ?_
                refine gs_istore_n (lv' := [(3, .int 1), (5, .int (nI ((v.toInt.natAbs / 1) % 10))), (4, .int 1), (2, .int (nI v.toInt.natAbs)), (0, .ref (E.2.2.1 56)), (1, .int v)]) k rfl (by decide) rfl dX1_appendNumber_62 ?_
                refine gs_iload (q := 2) k rfl dX1_appendNumber_63 ?_
                refine gs_bipush (v := 10) k (by decide) dX1_appendNumber_65 ?_
                refine gs_idivN (a := 1) (b := 10) k rfl rfl (by omega) (by omega) (by omega) dX1_appendNumber_67 ?_
                refine gs_top (y := 0) (by decide) ?_
                refine gs_istore (lv' := [(4, .int 0), (3, .int 1), (5, .int (nI ((v.toInt.natAbs / 1) % 10))), (2, .int (nI v.toInt.natAbs)), (0, .ref (E.2.2.1 56)), (1, .int v)]) k (by decide) rfl dX1_appendNumber_68 ?_
                refine gs_goto (tgt := 21) k (by decide) dX1_appendNumber_70 ?_
                refine gs_iload (q := 0) k rfl dX1_appendNumber_21 ?_
                refine gs_iconst (v := 1) k (by decide) dX1_appendNumber_23 ?_
                refine gs_icmp_lt (tgt := 73) k (by decide) dX1_appendNumber_24 (fun _ => ?_) (fun h => absurd h (by decide))
                exact gs_vret k kt dX1_appendNumber_73 ⟨rfl, (by
        have hd := dig0 (m := v.toInt.natAbs) (by omega)
        unfold num
        rw [ifc_f (Int32.not_lt.mpr c1), hd]
        try simp only [List.nil_append, List.cons_append, Nat.div_one, List.append_assoc])⟩
  · refine gs_aload_n (q := 0) k rfl rfl dX1_appendNumber_4 ?_
    refine gs_bipush (v := 45) k (by decide) dX1_appendNumber_5 ?_
    refine gs_callV (As := [.int 45]) (k0 := 56) (ci := 1) (T := TX1) (N := 2) k (c_X1_append (c := 45) hI hl (by omega) rfl (by omega)) cf_X1_append im_X1_append sl_X1_append ml_X1_17 (hI 56 (by omega)) rfl rfl (by decide) rfl rfl (Nat.le_of_ble_eq_true rfl) dX1_appendNumber_7 (ppV ?_)
    refine gs_iload_n (q := 1) k rfl rfl dX1_appendNumber_10 ?_
    refine gs_abs k ml_X1_21 (by decide) (Nat.le_of_ble_eq_true rfl) dX1_appendNumber_11 ?_
    refine gs_top (y := nI v.toInt.natAbs) (iabs_n hv1) ?_
    refine gs_istore_n (lv' := [(2, .int (nI v.toInt.natAbs)), (0, .ref (E.2.2.1 56)), (1, .int v)]) k rfl (by decide) rfl dX1_appendNumber_14 ?_
    refine gs_iconst (v := 0) k (by decide) dX1_appendNumber_15 ?_
    refine gs_istore_n (lv' := [(3, .int 0), (2, .int (nI v.toInt.natAbs)), (0, .ref (E.2.2.1 56)), (1, .int v)]) k rfl (by decide) rfl dX1_appendNumber_16 ?_
    refine gs_ldc (v := 100000) k cn_X1_27 dX1_appendNumber_17 ?_
    refine gs_istore (lv' := [(4, .int 100000), (3, .int 0), (2, .int (nI v.toInt.natAbs)), (0, .ref (E.2.2.1 56)), (1, .int v)]) k (by decide) rfl dX1_appendNumber_19 ?_
    refine gs_iload (q := 0) k rfl dX1_appendNumber_21 ?_
    refine gs_iconst (v := 1) k (by decide) dX1_appendNumber_23 ?_
    refine gs_icmp_lt (tgt := 73) k (by decide) dX1_appendNumber_24 (fun h => absurd h (by decide)) (fun _ => ?_)
    refine gs_iload_n (q := 2) k rfl rfl dX1_appendNumber_27 ?_
    refine gs_iload (q := 0) k rfl dX1_appendNumber_28 ?_
    refine gs_idivN (a := v.toInt.natAbs) (b := 100000) k rfl rfl (by omega) (by omega) (by omega) dX1_appendNumber_30 ?_
    refine gs_bipush (v := 10) k (by decide) dX1_appendNumber_31 ?_
    refine gs_iremN (a := v.toInt.natAbs / 100000) (b := 10) k rfl rfl (by omega) (by omega) (by omega) dX1_appendNumber_33 ?_
    refine gs_istore (lv' := [(5, .int (nI ((v.toInt.natAbs / 100000) % 10))), (4, .int 100000), (3, .int 0), (2, .int (nI v.toInt.natAbs)), (0, .ref (E.2.2.1 56)), (1, .int v)]) k (by decide) rfl dX1_appendNumber_34 ?_
    refine gs_iload (q := 0) k rfl dX1_appendNumber_36 ?_
    refine gs_if_gt (tgt := 51) k (by decide) dX1_appendNumber_38 (fun c8 => ?_) (fun c8 => ?_)
    · have ec8 := ngt1 (x := (v.toInt.natAbs / 100000) % 10) (by omega) c8
      refine gs_aload_n (q := 4) k rfl rfl dX1_appendNumber_51 ?_
      refine gs_bipush (v := 48) k (by decide) dX1_appendNumber_52 ?_
      refine gs_iload (q := 0) k rfl dX1_appendNumber_54 ?_
      refine gs_iaddN (a := 48) (b := (v.toInt.natAbs / 100000) % 10) k rfl rfl dX1_appendNumber_56 ?_
      refine gs_i2c (v := nI (48 + ((v.toInt.natAbs / 100000) % 10))) k (i2c_ok _ (by omega)) dX1_appendNumber_57 ?_
      refine gs_callV (As := [.int (nI (48 + ((v.toInt.natAbs / 100000) % 10)))]) (k0 := 56) (ci := 1) (T := TX1) (N := 2) k (c_X1_append (c := 48 + ((v.toInt.natAbs / 100000) % 10)) hI apC_len (by (try simp only [List.length_append, List.length_cons, List.length_nil]); omega) rfl (by omega)) cf_X1_append im_X1_append sl_X1_append ml_X1_17 (hI 56 (by omega)) rfl rfl (by decide) rfl rfl (Nat.le_of_ble_eq_true rfl) dX1_appendNumber_58 (ppV ?_)
      refine gs_M (M' := (apC ([45] ++ [48 + ((v.toInt.natAbs / 100000) % 10)]) len M)) apC_app ?_
      refine gs_iconst (v := 1) k (by decide) dX1_appendNumber_61 ?_
      refine gs_istore_n (lv' := [(3, .int 1), (5, .int (nI ((v.toInt.natAbs / 100000) % 10))), (4, .int 100000), (2, .int (nI v.toInt.natAbs)), (0, .ref (E.2.2.1 56)), (1, .int v)]) k rfl (by decide) rfl dX1_appendNumber_62 ?_
      refine gs_iload (q := 2) k rfl dX1_appendNumber_63 ?_
      refine gs_bipush (v := 10) k (by decide) dX1_appendNumber_65 ?_
      refine gs_idivN (a := 100000) (b := 10) k rfl rfl (by omega) (by omega) (by omega) dX1_appendNumber_67 ?_
      refine gs_top (y := 10000) (by decide) ?_
      refine gs_istore (lv' := [(4, .int 10000), (3, .int 1), (5, .int (nI ((v.toInt.natAbs / 100000) % 10))), (2, .int (nI v.toInt.natAbs)), (0, .ref (E.2.2.1 56)), (1, .int v)]) k (by decide) rfl dX1_appendNumber_68 ?_
      refine gs_goto (tgt := 21) k (by decide) dX1_appendNumber_70 ?_
      refine gs_iload (q := 0) k rfl dX1_appendNumber_21 ?_
      refine gs_iconst (v := 1) k (by decide) dX1_appendNumber_23 ?_
      refine gs_icmp_lt (tgt := 73) k (by decide) dX1_appendNumber_24 (fun h => absurd h (by decide)) (fun _ => ?_)
      refine gs_iload_n (q := 3) k rfl rfl dX1_appendNumber_27 ?_
      refine gs_iload (q := 0) k rfl dX1_appendNumber_28 ?_
      refine gs_idivN (a := v.toInt.natAbs) (b := 10000) k rfl rfl (by omega) (by omega) (by omega) dX1_appendNumber_30 ?_
      refine gs_bipush (v := 10) k (by decide) dX1_appendNumber_31 ?_
      refine gs_iremN (a := v.toInt.natAbs / 10000) (b := 10) k rfl rfl (by omega) (by omega) (by omega) dX1_appendNumber_33 ?_
      refine gs_istore (lv' := [(5, .int (nI ((v.toInt.natAbs / 10000) % 10))), (4, .int 10000), (3, .int 1), (2, .int (nI v.toInt.natAbs)), (0, .ref (E.2.2.1 56)), (1, .int v)]) k (by decide) rfl dX1_appendNumber_34 ?_
      have H2 : G l E K 51 [(5, .int (nI ((v.toInt.natAbs / 10000) % 10))), (4, .int 10000), (3, .int 1), (2, .int (nI v.toInt.natAbs)), (0, .ref (E.2.2.1 56)), (1, .int v)] [] (apC ([45] ++ [48 + ((v.toInt.natAbs / 100000) % 10)]) len M) := by
        refine gs_aload_n (q := 4) k rfl rfl dX1_appendNumber_51 ?_
        refine gs_bipush (v := 48) k (by decide) dX1_appendNumber_52 ?_
        refine gs_iload (q := 0) k rfl dX1_appendNumber_54 ?_
        refine gs_iaddN (a := 48) (b := (v.toInt.natAbs / 10000) % 10) k rfl rfl dX1_appendNumber_56 ?_
        refine gs_i2c (v := nI (48 + ((v.toInt.natAbs / 10000) % 10))) k (i2c_ok _ (by omega)) dX1_appendNumber_57 ?_
        refine gs_callV (As := [.int (nI (48 + ((v.toInt.natAbs / 10000) % 10)))]) (k0 := 56) (ci := 1) (T := TX1) (N := 2) k (c_X1_append (c := 48 + ((v.toInt.natAbs / 10000) % 10)) hI apC_len (by (try simp only [List.length_append, List.length_cons, List.length_nil]); omega) rfl (by omega)) cf_X1_append im_X1_append sl_X1_append ml_X1_17 (hI 56 (by omega)) rfl rfl (by decide) rfl rfl (Nat.le_of_ble_eq_true rfl) dX1_appendNumber_58 (ppV ?_)
        refine gs_M (M' := (apC ([45] ++ [48 + ((v.toInt.natAbs / 100000) % 10)] ++ [48 + ((v.toInt.natAbs / 10000) % 10)]) len M)) apC_app ?_
        refine gs_iconst (v := 1) k (by decide) dX1_appendNumber_61 ?_
        refine gs_istore_n (lv' := [(3, .int 1), (5, .int (nI ((v.toInt.natAbs / 10000) % 10))), (4, .int 10000), (2, .int (nI v.toInt.natAbs)), (0, .ref (E.2.2.1 56)), (1, .int v)]) k rfl (by decide) rfl dX1_appendNumber_62 ?_
        refine gs_iload (q := 2) k rfl dX1_appendNumber_63 ?_
        refine gs_bipush (v := 10) k (by decide) dX1_appendNumber_65 ?_
        refine gs_idivN (a := 10000) (b := 10) k rfl rfl (by omega) (by omega) (by omega) dX1_appendNumber_67 ?_
        refine gs_top (y := 1000) (by decide) ?_
        refine gs_istore (lv' := [(4, .int 1000), (3, .int 1), (5, .int (nI ((v.toInt.natAbs / 10000) % 10))), (2, .int (nI v.toInt.natAbs)), (0, .ref (E.2.2.1 56)), (1, .int v)]) k (by decide) rfl dX1_appendNumber_68 ?_
        refine gs_goto (tgt := 21) k (by decide) dX1_appendNumber_70 ?_
        refine gs_iload (q := 0) k rfl dX1_appendNumber_21 ?_
        refine gs_iconst (v := 1) k (by decide) dX1_appendNumber_23 ?_
        refine gs_icmp_lt (tgt := 73) k (by decide) dX1_appendNumber_24 (fun h => absurd h (by decide)) (fun _ => ?_)
        refine gs_iload_n (q := 3) k rfl rfl dX1_appendNumber_27 ?_
        refine gs_iload (q := 0) k rfl dX1_appendNumber_28 ?_
        refine gs_idivN (a := v.toInt.natAbs) (b := 1000) k rfl rfl (by omega) (by omega) (by omega) dX1_appendNumber_30 ?_
        refine gs_bipush (v := 10) k (by decide) dX1_appendNumber_31 ?_
        refine gs_iremN (a := v.toInt.natAbs / 1000) (b := 10) k rfl rfl (by omega) (by omega) (by omega) dX1_appendNumber_33 ?_
        refine gs_istore (lv' := [(5, .int (nI ((v.toInt.natAbs / 1000) % 10))), (4, .int 1000), (3, .int 1), (2, .int (nI v.toInt.natAbs)), (0, .ref (E.2.2.1 56)), (1, .int v)]) k (by decide) rfl dX1_appendNumber_34 ?_
        have H2 : G l E K 51 [(5, .int (nI ((v.toInt.natAbs / 1000) % 10))), (4, .int 1000), (3, .int 1), (2, .int (nI v.toInt.natAbs)), (0, .ref (E.2.2.1 56)), (1, .int v)] [] (apC ([45] ++ [48 + ((v.toInt.natAbs / 100000) % 10)] ++ [48 + ((v.toInt.natAbs / 10000) % 10)]) len M) := by
          refine gs_aload_n (q := 4) k rfl rfl dX1_appendNumber_51 ?_
          refine gs_bipush (v := 48) k (by decide) dX1_appendNumber_52 ?_
          refine gs_iload (q := 0) k rfl dX1_appendNumber_54 ?_
          refine gs_iaddN (a := 48) (b := (v.toInt.natAbs / 1000) % 10) k rfl rfl dX1_appendNumber_56 ?_
          refine gs_i2c (v := nI (48 + ((v.toInt.natAbs / 1000) % 10))) k (i2c_ok _ (by omega)) dX1_appendNumber_57 ?_
          refine gs_callV (As := [.int (nI (48 + ((v.toInt.natAbs / 1000) % 10)))]) (k0 := 56) (ci := 1) (T := TX1) (N := 2) k (c_X1_append (c := 48 + ((v.toInt.natAbs / 1000) % 10)) hI apC_len (by (try simp only [List.length_append, List.length_cons, List.length_nil]); omega) rfl (by omega)) cf_X1_append im_X1_append sl_X1_append ml_X1_17 (hI 56 (by omega)) rfl rfl (by decide) rfl rfl (Nat.le_of_ble_eq_true rfl) dX1_appendNumber_58 (ppV ?_)
          refine gs_M (M' := (apC ([45] ++ [48 + ((v.toInt.natAbs / 100000) % 10)] ++ [48 + ((v.toInt.natAbs / 10000) % 10)] ++ [48 + ((v.toInt.natAbs / 1000) % 10)]) len M)) apC_app ?_
          refine gs_iconst (v := 1) k (by decide) dX1_appendNumber_61 ?_
          refine gs_istore_n (lv' := [(3, .int 1), (5, .int (nI ((v.toInt.natAbs / 1000) % 10))), (4, .int 1000), (2, .int (nI v.toInt.natAbs)), (0, .ref (E.2.2.1 56)), (1, .int v)]) k rfl (by decide) rfl dX1_appendNumber_62 ?_
          refine gs_iload (q := 2) k rfl dX1_appendNumber_63 ?_
          refine gs_bipush (v := 10) k (by decide) dX1_appendNumber_65 ?_
          refine gs_idivN (a := 1000) (b := 10) k rfl rfl (by omega) (by omega) (by omega) dX1_appendNumber_67 ?_
          refine gs_top (y := 100) (by decide) ?_
          refine gs_istore (lv' := [(4, .int 100), (3, .int 1), (5, .int (nI ((v.toInt.natAbs / 1000) % 10))), (2, .int (nI v.toInt.natAbs)), (0, .ref (E.2.2.1 56)), (1, .int v)]) k (by decide) rfl dX1_appendNumber_68 ?_
          refine gs_goto (tgt := 21) k (by decide) dX1_appendNumber_70 ?_
          refine gs_iload (q := 0) k rfl dX1_appendNumber_21 ?_
          refine gs_iconst (v := 1) k (by decide) dX1_appendNumber_23 ?_
          refine gs_icmp_lt (tgt := 73) k (by decide) dX1_appendNumber_24 (fun h => absurd h (by decide)) (fun _ => ?_)
          refine gs_iload_n (q := 3) k rfl rfl dX1_appendNumber_27 ?_
          refine gs_iload (q := 0) k rfl dX1_appendNumber_28 ?_
          refine gs_idivN (a := v.toInt.natAbs) (b := 100) k rfl rfl (by omega) (by omega) (by omega) dX1_appendNumber_30 ?_
          refine gs_bipush (v := 10) k (by decide) dX1_appendNumber_31 ?_
          refine gs_iremN (a := v.toInt.natAbs / 100) (b := 10) k rfl rfl (by omega) (by omega) (by omega) dX1_appendNumber_33 ?_
          refine gs_istore (lv' := [(5, .int (nI ((v.toInt.natAbs / 100) % 10))), (4, .int 100), (3, .int 1), (2, .int (nI v.toInt.natAbs)), (0, .ref (E.2.2.1 56)), (1, .int v)]) k (by decide) rfl dX1_appendNumber_34 ?_
          have H2 : G l E K 51 [(5, .int (nI ((v.toInt.natAbs / 100) % 10))), (4, .int 100), (3, .int 1), (2, .int (nI v.toInt.natAbs)), (0, .ref (E.2.2.1 56)), (1, .int v)] [] (apC ([45] ++ [48 + ((v.toInt.natAbs / 100000) % 10)] ++ [48 + ((v.toInt.natAbs / 10000) % 10)] ++ [48 + ((v.toInt.natAbs / 1000) % 10)]) len M) := by
            refine gs_aload_n (q := 4) k rfl rfl dX1_appendNumber_51 ?_
            refine gs_bipush (v := 48) k (by decide) dX1_appendNumber_52 ?_
            refine gs_iload (q := 0) k rfl dX1_appendNumber_54 ?_
            refine gs_iaddN (a := 48) (b := (v.toInt.natAbs / 100) % 10) k rfl rfl dX1_appendNumber_56 ?_
            refine gs_i2c (v := nI (48 + ((v.toInt.natAbs / 100) % 10))) k (i2c_ok _ (by omega)) dX1_appendNumber_57 ?_
            refine gs_callV (As := [.int (nI (48 + ((v.toInt.natAbs / 100) % 10)))]) (k0 := 56) (ci := 1) (T := TX1) (N := 2) k (c_X1_append (c := 48 + ((v.toInt.natAbs / 100) % 10)) hI apC_len (by (try simp only [List.length_append, List.length_cons, List.length_nil]); omega) rfl (by omega)) cf_X1_append im_X1_append sl_X1_append ml_X1_17 (hI 56 (by omega)) rfl rfl (by decide) rfl rfl (Nat.le_of_ble_eq_true rfl) dX1_appendNumber_58 (ppV ?_)
            refine gs_M (M' := (apC ([45] ++ [48 + ((v.toInt.natAbs / 100000) % 10)] ++ [48 + ((v.toInt.natAbs / 10000) % 10)] ++ [48 + ((v.toInt.natAbs / 1000) % 10)] ++ [48 + ((v.toInt.natAbs / 100) % 10)]) len M)) apC_app ?_
            refine gs_iconst (v := 1) k (by decide) dX1_appendNumber_61 ?_
            refine gs_istore_n (lv' := [(3, .int 1), (5, .int (nI ((v.toInt.natAbs / 100) % 10))), (4, .int 100), (2, .int (nI v.toInt.natAbs)), (0, .ref (E.2.2.1 56)), (1, .int v)]) k rfl (by decide) rfl dX1_appendNumber_62 ?_
            refine gs_iload (q := 2) k rfl dX1_appendNumber_63 ?_
            refine gs_bipush (v := 10) k (by decide) dX1_appendNumber_65 ?_
            refine gs_idivN (a := 100) (b := 10) k rfl rfl (by omega) (by omega) (by omega) dX1_appendNumber_67 ?_
            refine gs_top (y := 10) (by decide) ?_
            refine gs_istore (lv' := [(4, .int 10), (3, .int 1), (5, .int (nI ((v.toInt.natAbs / 100) % 10))), (2, .int (nI v.toInt.natAbs)), (0, .ref (E.2.2.1 56)), (1, .int v)]) k (by decide) rfl dX1_appendNumber_68 ?_
            refine gs_goto (tgt := 21) k (by decide) dX1_appendNumber_70 ?_
            refine gs_iload (q := 0) k rfl dX1_appendNumber_21 ?_
            refine gs_iconst (v := 1) k (by decide) dX1_appendNumber_23 ?_
            refine gs_icmp_lt (tgt := 73) k (by decide) dX1_appendNumber_24 (fun h => absurd h (by decide)) (fun _ => ?_)
            refine gs_iload_n (q := 3) k rfl rfl dX1_appendNumber_27 ?_
            refine gs_iload (q := 0) k rfl dX1_appendNumber_28 ?_
            refine gs_idivN (a := v.toInt.natAbs) (b := 10) k rfl rfl (by omega) (by omega) (by omega) dX1_appendNumber_30 ?_
            refine gs_bipush (v := 10) k (by decide) dX1_appendNumber_31 ?_
            refine gs_iremN (a := v.toInt.natAbs / 10) (b := 10) k rfl rfl (by omega) (by omega) (by omega) dX1_appendNumber_33 ?_
            refine gs_istore (lv' := [(5, .int (nI ((v.toInt.natAbs / 10) % 10))), (4, .int 10), (3, .int 1), (2, .int (nI v.toInt.natAbs)), (0, .ref (E.2.2.1 56)), (1, .int v)]) k (by decide) rfl dX1_appendNumber_34 ?_
            have H2 : G l E K 51 [(5, .int (nI ((v.toInt.natAbs / 10) % 10))), (4, .int 10), (3, .int 1), (2, .int (nI v.toInt.natAbs)), (0, .ref (E.2.2.1 56)), (1, .int v)] [] (apC ([45] ++ [48 + ((v.toInt.natAbs / 100000) % 10)] ++ [48 + ((v.toInt.natAbs / 10000) % 10)] ++ [48 + ((v.toInt.natAbs / 1000) % 10)] ++ [48 + ((v.toInt.natAbs / 100) % 10)]) len M) := by
              refine gs_aload_n (q := 4) k rfl rfl dX1_appendNumber_51 ?_
              refine gs_bipush (v := 48) k (by decide) dX1_appendNumber_52 ?_
              refine gs_iload (q := 0) k rfl dX1_appendNumber_54 ?_
              refine gs_iaddN (a := 48) (b := (v.toInt.natAbs / 10) % 10) k rfl rfl dX1_appendNumber_56 ?_
              refine gs_i2c (v := nI (48 + ((v.toInt.natAbs / 10) % 10))) k (i2c_ok _ (by omega)) dX1_appendNumber_57 ?_
              refine gs_callV (As := [.int (nI (48 + ((v.toInt.natAbs / 10) % 10)))]) (k0 := 56) (ci := 1) (T := TX1) (N := 2) k (c_X1_append (c := 48 + ((v.toInt.natAbs / 10) % 10)) hI apC_len (by (try simp only [List.length_append, List.length_cons, List.length_nil]); omega) rfl (by omega)) cf_X1_append im_X1_append sl_X1_append ml_X1_17 (hI 56 (by omega)) rfl rfl (by decide) rfl rfl (Nat.le_of_ble_eq_true rfl) dX1_appendNumber_58 (ppV ?_)
              refine gs_M (M' := (apC ([45] ++ [48 + ((v.toInt.natAbs / 100000) % 10)] ++ [48 + ((v.toInt.natAbs / 10000) % 10)] ++ [48 + ((v.toInt.natAbs / 1000) % 10)] ++ [48 + ((v.toInt.natAbs / 100) % 10)] ++ [48 + ((v.toInt.natAbs / 10) % 10)]) len M)) apC_app ?_
              refine gs_iconst (v := 1) k (by decide) dX1_appendNumber_61 ?_
              refine gs_istore_n (lv' := [(3, .int 1), (5, .int (nI ((v.toInt.natAbs / 10) % 10))), (4, .int 10), (2, .int (nI v.toInt.natAbs)), (0, .ref (E.2.2.1 56)), (1, .int v)]) k rfl (by decide) rfl dX1_appendNumber_62 ?_
              refine gs_iload (q := 2) k rfl dX1_appendNumber_63 ?_
              refine gs_bipush (v := 10) k (by decide) dX1_appendNumber_65 ?_
              refine gs_idivN (a := 10) (b := 10) k rfl rfl (by omega) (by omega) (by omega) dX1_appendNumber_67 ?_
              refine gs_top (y := 1) (by decide) ?_
              refine gs_istore (lv' := [(4, .int 1), (3, .int 1), (5, .int (nI ((v.toInt.natAbs / 10) % 10))), (2, .int (nI v.toInt.natAbs)), (0, .ref (E.2.2.1 56)), (1, .int v)]) k (by decide) rfl dX1_appendNumber_68 ?_
              refine gs_goto (tgt := 21) k (by decide) dX1_appendNumber_70 ?_
              refine gs_iload (q := 0) k rfl dX1_appendNumber_21 ?_
              refine gs_iconst (v := 1) k (by decide) dX1_appendNumber_23 ?_
              refine gs_icmp_lt (tgt := 73) k (by decide) dX1_appendNumber_24 (fun h => absurd h (by decide)) (fun _ => ?_)
              refine gs_iload_n (q := 3) k rfl rfl dX1_appendNumber_27 ?_
              refine gs_iload (q := 0) k rfl dX1_appendNumber_28 ?_
              refine gs_idivN (a := v.toInt.natAbs) (b := 1) k rfl rfl (by omega) (by omega) (by omega) dX1_appendNumber_30 ?_
              refine gs_bipush (v := 10) k (by decide) dX1_appendNumber_31 ?_
              refine gs_iremN (a := v.toInt.natAbs / 1) (b := 10) k rfl rfl (by omega) (by omega) (by omega) dX1_appendNumber_33 ?_
              refine gs_istore (lv' := [(5, .int (nI ((v.toInt.natAbs / 1) % 10))), (4, .int 1), (3, .int 1), (2, .int (nI v.toInt.natAbs)), (0, .ref (E.2.2.1 56)), (1, .int v)]) k (by decide) rfl dX1_appendNumber_34 ?_
              have H2 : G l E K 51 [(5, .int (nI ((v.toInt.natAbs / 1) % 10))), (4, .int 1), (3, .int 1), (2, .int (nI v.toInt.natAbs)), (0, .ref (E.2.2.1 56)), (1, .int v)] [] (apC ([45] ++ [48 + ((v.toInt.natAbs / 100000) % 10)] ++ [48 + ((v.toInt.natAbs / 10000) % 10)] ++ [48 + ((v.toInt.natAbs / 1000) % 10)] ++ [48 + ((v.toInt.natAbs / 100) % 10)] ++ [48 + ((v.toInt.natAbs / 10) % 10)]) len M) := by
                refine gs_aload_n (q := 4) k rfl rfl dX1_appendNumber_51 ?_
                refine gs_bipush (v := 48) k (by decide) dX1_appendNumber_52 ?_
                refine gs_iload (q := 0) k rfl dX1_appendNumber_54 ?_
                refine gs_iaddN (a := 48) (b := (v.toInt.natAbs / 1) % 10) k rfl rfl dX1_appendNumber_56 ?_
                refine gs_i2c (v := nI (48 + ((v.toInt.natAbs / 1) % 10))) k (i2c_ok _ (by omega)) dX1_appendNumber_57 ?_
                refine gs_callV (As := [.int (nI (48 + ((v.toInt.natAbs / 1) % 10)))]) (k0 := 56) (ci := 1) (T := TX1) (N := 2) k (c_X1_append (c := 48 + ((v.toInt.natAbs / 1) % 10)) hI apC_len (by (try simp only [List.length_append, List.length_cons, List.length_nil]); omega) rfl (by omega)) cf_X1_append im_X1_append sl_X1_append ml_X1_17 (hI 56 (by omega)) rfl rfl (by decide) rfl rfl (Nat.le_of_ble_eq_true rfl) dX1_appendNumber_58 (ppV ?_)
                refine gs_M (M' := (apC ([45] ++ [48 + ((v.toInt.natAbs / 100000) % 10)] ++ [48 + ((v.toInt.natAbs / 10000) % 10)] ++ [48 + ((v.toInt.natAbs / 1000) % 10)] ++ [48 + ((v.toInt.natAbs / 100) % 10)] ++ [48 + ((v.toInt.natAbs / 10) % 10)] ++ [48 + ((v.toInt.natAbs / 1) % 10)]) len M)) apC_app ?_
                refine gs_iconst (v := 1) k (by decide) dX1_appendNumber_61 ?_
                refine gs_istore_n (lv' := [(3, .int 1), (5, .int (nI ((v.toInt.natAbs / 1) % 10))), (4, .int 1), (2, .int (nI v.toInt.natAbs)), (0, .ref (E.2.2.1 56)), (1, .int v)]) k rfl (by decide) rfl dX1_appendNumber_62 ?_
                refine gs_iload (q := 2) k rfl dX1_appendNumber_63 ?_
                refine gs_bipush (v := 10) k (by decide) dX1_appendNumber_65 ?_
                refine gs_idivN (a := 1) (b := 10) k rfl rfl (by omega) (by omega) (by omega) dX1_appendNumber_67 ?_
                refine gs_top (y := 0) (by decide) ?_
                refine gs_istore (lv' := [(4, .int 0), (3, .int 1), (5, .int (nI ((v.toInt.natAbs / 1) % 10))), (2, .int (nI v.toInt.natAbs)), (0, .ref (E.2.2.1 56)), (1, .int v)]) k (by decide) rfl dX1_appendNumber_68 ?_
                refine gs_goto (tgt := 21) k (by decide) dX1_appendNumber_70 ?_
                refine gs_iload (q := 0) k rfl dX1_appendNumber_21 ?_
                refine gs_iconst (v := 1) k (by decide) dX1_appendNumber_23 ?_
                refine gs_icmp_lt (tgt := 73) k (by decide) dX1_appendNumber_24 (fun _ => ?_) (fun h => absurd h (by decide))
                exact gs_vret k kt dX1_appendNumber_73 ⟨rfl, (by
        have hd := dig5 (m := v.toInt.natAbs) (by omega) (by omega)
        unfold num
        rw [ifc_t (Int32.not_le.mp c1), hd]
        try simp only [List.nil_append, List.cons_append, Nat.div_one, List.append_assoc])⟩
              refine gs_iload (q := 0) k rfl dX1_appendNumber_36 ?_
              refine gs_if_gt (tgt := 51) k (by decide) dX1_appendNumber_38 (fun c9 => ?_) (fun c9 => ?_)
              · have ec9 := ngt1 (x := (v.toInt.natAbs / 1) % 10) (by omega) c9
                exact H2
              · have ec9 := ngt0 (x := (v.toInt.natAbs / 1) % 10) (by omega) c9
                refine gs_iload_n (q := 2) k rfl rfl dX1_appendNumber_41 ?_
                refine gs_if_ne (tgt := 51) k (by decide) dX1_appendNumber_42 (fun _ => ?_) (fun h => absurd h (by decide))
                exact H2
            refine gs_iload (q := 0) k rfl dX1_appendNumber_36 ?_
            refine gs_if_gt (tgt := 51) k (by decide) dX1_appendNumber_38 (fun c9 => ?_) (fun c9 => ?_)
            · have ec9 := ngt1 (x := (v.toInt.natAbs / 10) % 10) (by omega) c9
              exact H2
            · have ec9 := ngt0 (x := (v.toInt.natAbs / 10) % 10) (by omega) c9
              refine gs_iload_n (q := 2) k rfl rfl dX1_appendNumber_41 ?_
              refine gs_if_ne (tgt := 51) k (by decide) dX1_appendNumber_42 (fun _ => ?_) (fun h => absurd h (by decide))
              exact H2
          refine gs_iload (q := 0) k rfl dX1_appendNumber_36 ?_
          refine gs_if_gt (tgt := 51) k (by decide) dX1_appendNumber_38 (fun c9 => ?_) (fun c9 => ?_)
          · have ec9 := ngt1 (x := (v.toInt.natAbs / 100) % 10) (by omega) c9
            exact H2
          · have ec9 := ngt0 (x := (v.toInt.natAbs / 100) % 10) (by omega) c9
            refine gs_iload_n (q := 2) k rfl rfl dX1_appendNumber_41 ?_
            refine gs_if_ne (tgt := 51) k (by decide) dX1_appendNumber_42 (fun _ => ?_) (fun h => absurd h (by decide))
            exact H2
        refine gs_iload (q := 0) k rfl dX1_appendNumber_36 ?_
        refine gs_if_gt (tgt := 51) k (by decide) dX1_appendNumber_38 (fun c9 => ?_) (fun c9 => ?_)
        · have ec9 := ngt1 (x := (v.toInt.natAbs / 1000) % 10) (by omega) c9
          exact H2
        · have ec9 := ngt0 (x := (v.toInt.natAbs / 1000) % 10) (by omega) c9
          refine gs_iload_n (q := 2) k rfl rfl dX1_appendNumber_41 ?_
          refine gs_if_ne (tgt := 51) k (by decide) dX1_appendNumber_42 (fun _ => ?_) (fun h => absurd h (by decide))
          exact H2
      refine gs_iload (q := 0) k rfl dX1_appendNumber_36 ?_
      refine gs_if_gt (tgt := 51) k (by decide) dX1_appendNumber_38 (fun c9 => ?_) (fun c9 => ?_)
      · have ec9 := ngt1 (x := (v.toInt.natAbs / 10000) % 10) (by omega) c9
        exact H2
      · have ec9 := ngt0 (x := (v.toInt.natAbs / 10000) % 10) (by omega) c9
        refine gs_iload_n (q := 2) k rfl rfl dX1_appendNumber_41 ?_
        refine gs_if_ne (tgt := 51) k (by decide) dX1_appendNumber_42 (fun _ => ?_) (fun h => absurd h (by decide))
        exact H2
    · have ec8 := ngt0 (x := (v.toInt.natAbs / 100000) % 10) (by omega) c8
      refine gs_iload_n (q := 2) k rfl rfl dX1_appendNumber_41 ?_
      refine gs_if_ne (tgt := 51) k (by decide) dX1_appendNumber_42 (fun h => absurd h (by decide)) (fun _ => ?_)
      refine gs_iload (q := 1) k rfl dX1_appendNumber_45 ?_
      refine gs_iconst (v := 1) k (by decide) dX1_appendNumber_47 ?_
      refine gs_icmp_ne (tgt := 63) k (by decide) dX1_appendNumber_48 (fun _ => ?_) (fun h => absurd h (by decide))
      refine gs_iload (q := 1) k rfl dX1_appendNumber_63 ?_
      refine gs_bipush (v := 10) k (by decide) dX1_appendNumber_65 ?_
      refine gs_idivN (a := 100000) (b := 10) k rfl rfl (by omega) (by omega) (by omega) dX1_appendNumber_67 ?_
      refine gs_top (y := 10000) (by decide) ?_
      refine gs_istore (lv' := [(4, .int 10000), (5, .int (nI ((v.toInt.natAbs / 100000) % 10))), (3, .int 0), (2, .int (nI v.toInt.natAbs)), (0, .ref (E.2.2.1 56)), (1, .int v)]) k (by decide) rfl dX1_appendNumber_68 ?_
      refine gs_goto (tgt := 21) k (by decide) dX1_appendNumber_70 ?_
      refine gs_iload (q := 0) k rfl dX1_appendNumber_21 ?_
      refine gs_iconst (v := 1) k (by decide) dX1_appendNumber_23 ?_
      refine gs_icmp_lt (tgt := 73) k (by decide) dX1_appendNumber_24 (fun h => absurd h (by decide)) (fun _ => ?_)
      refine gs_iload_n (q := 3) k rfl rfl dX1_appendNumber_27 ?_
      refine gs_iload (q := 0) k rfl dX1_appendNumber_28 ?_
      refine gs_idivN (a := v.toInt.natAbs) (b := 10000) k rfl rfl (by omega) (by omega) (by omega) dX1_appendNumber_30 ?_
      refine gs_bipush (v := 10) k (by decide) dX1_appendNumber_31 ?_
      refine gs_iremN (a := v.toInt.natAbs / 10000) (b := 10) k rfl rfl (by omega) (by omega) (by omega) dX1_appendNumber_33 ?_
      refine gs_istore (lv' := [(5, .int (nI ((v.toInt.natAbs / 10000) % 10))), (4, .int 10000), (3, .int 0), (2, .int (nI v.toInt.natAbs)), (0, .ref (E.2.2.1 56)), (1, .int v)]) k (by decide) rfl dX1_appendNumber_34 ?_
      refine gs_iload (q := 0) k rfl dX1_appendNumber_36 ?_
      refine gs_if_gt (tgt := 51) k (by decide) dX1_appendNumber_38 (fun c9 => ?_) (fun c9 => ?_)
      · have ec9 := ngt1 (x := (v.toInt.natAbs / 10000) % 10) (by omega) c9
        refine gs_aload_n (q := 4) k rfl rfl dX1_appendNumber_51 ?_
        refine gs_bipush (v := 48) k (by decide) dX1_appendNumber_52 ?_
        refine gs_iload (q := 0) k rfl dX1_appendNumber_54 ?_
        refine gs_iaddN (a := 48) (b := (v.toInt.natAbs / 10000) % 10) k rfl rfl dX1_appendNumber_56 ?_
        refine gs_i2c (v := nI (48 + ((v.toInt.natAbs / 10000) % 10))) k (i2c_ok _ (by omega)) dX1_appendNumber_57 ?_
        refine gs_callV (As := [.int (nI (48 + ((v.toInt.natAbs / 10000) % 10)))]) (k0 := 56) (ci := 1) (T := TX1) (N := 2) k (c_X1_append (c := 48 + ((v.toInt.natAbs / 10000) % 10)) hI apC_len (by (try simp only [List.length_append, List.length_cons, List.length_nil]); omega) rfl (by omega)) cf_X1_append im_X1_append sl_X1_append ml_X1_17 (hI 56 (by omega)) rfl rfl (by decide) rfl rfl (Nat.le_of_ble_eq_true rfl) dX1_appendNumber_58 (ppV ?_)
        refine gs_M (M' := (apC ([45] ++ [48 + ((v.toInt.natAbs / 10000) % 10)]) len M)) apC_app ?_
        refine gs_iconst (v := 1) k (by decide) dX1_appendNumber_61 ?_
        refine gs_istore_n (lv' := [(3, .int 1), (5, .int (nI ((v.toInt.natAbs / 10000) % 10))), (4, .int 10000), (2, .int (nI v.toInt.natAbs)), (0, .ref (E.2.2.1 56)), (1, .int v)]) k rfl (by decide) rfl dX1_appendNumber_62 ?_
        refine gs_iload (q := 2) k rfl dX1_appendNumber_63 ?_
        refine gs_bipush (v := 10) k (by decide) dX1_appendNumber_65 ?_
        refine gs_idivN (a := 10000) (b := 10) k rfl rfl (by omega) (by omega) (by omega) dX1_appendNumber_67 ?_
        refine gs_top (y := 1000) (by decide) ?_
        refine gs_istore (lv' := [(4, .int 1000), (3, .int 1), (5, .int (nI ((v.toInt.natAbs / 10000) % 10))), (2, .int (nI v.toInt.natAbs)), (0, .ref (E.2.2.1 56)), (1, .int v)]) k (by decide) rfl dX1_appendNumber_68 ?_
        refine gs_goto (tgt := 21) k (by decide) dX1_appendNumber_70 ?_
        refine gs_iload (q := 0) k rfl dX1_appendNumber_21 ?_
        refine gs_iconst (v := 1) k (by decide) dX1_appendNumber_23 ?_
        refine gs_icmp_lt (tgt := 73) k (by decide) dX1_appendNumber_24 (fun h => absurd h (by decide)) (fun _ => ?_)
        refine gs_iload_n (q := 3) k rfl rfl dX1_appendNumber_27 ?_
        refine gs_iload (q := 0) k rfl dX1_appendNumber_28 ?_
        refine gs_idivN (a := v.toInt.natAbs) (b := 1000) k rfl rfl (by omega) (by omega) (by omega) dX1_appendNumber_30 ?_
        refine gs_bipush (v := 10) k (by decide) dX1_appendNumber_31 ?_
        refine gs_iremN (a := v.toInt.natAbs / 1000) (b := 10) k rfl rfl (by omega) (by omega) (by omega) dX1_appendNumber_33 ?_
        refine gs_istore (lv' := [(5, .int (nI ((v.toInt.natAbs / 1000) % 10))), (4, .int 1000), (3, .int 1), (2, .int (nI v.toInt.natAbs)), (0, .ref (E.2.2.1 56)), (1, .int v)]) k (by decide) rfl dX1_appendNumber_34 ?_
        have H3 : G l E K 51 [(5, .int (nI ((v.toInt.natAbs / 1000) % 10))), (4, .int 1000), (3, .int 1), (2, .int (nI v.toInt.natAbs)), (0, .ref (E.2.2.1 56)), (1, .int v)] [] (apC ([45] ++ [48 + ((v.toInt.natAbs / 10000) % 10)]) len M) := by
          refine gs_aload_n (q := 4) k rfl rfl dX1_appendNumber_51 ?_
          refine gs_bipush (v := 48) k (by decide) dX1_appendNumber_52 ?_
          refine gs_iload (q := 0) k rfl dX1_appendNumber_54 ?_
          refine gs_iaddN (a := 48) (b := (v.toInt.natAbs / 1000) % 10) k rfl rfl dX1_appendNumber_56 ?_
          refine gs_i2c (v := nI (48 + ((v.toInt.natAbs / 1000) % 10))) k (i2c_ok _ (by omega)) dX1_appendNumber_57 ?_
          refine gs_callV (As := [.int (nI (48 + ((v.toInt.natAbs / 1000) % 10)))]) (k0 := 56) (ci := 1) (T := TX1) (N := 2) k (c_X1_append (c := 48 + ((v.toInt.natAbs / 1000) % 10)) hI apC_len (by (try simp only [List.length_append, List.length_cons, List.length_nil]); omega) rfl (by omega)) cf_X1_append im_X1_append sl_X1_append ml_X1_17 (hI 56 (by omega)) rfl rfl (by decide) rfl rfl (Nat.le_of_ble_eq_true rfl) dX1_appendNumber_58 (ppV ?_)
          refine gs_M (M' := (apC ([45] ++ [48 + ((v.toInt.natAbs / 10000) % 10)] ++ [48 + ((v.toInt.natAbs / 1000) % 10)]) len M)) apC_app ?_
          refine gs_iconst (v := 1) k (by decide) dX1_appendNumber_61 ?_
          refine gs_istore_n (lv' := [(3, .int 1), (5, .int (nI ((v.toInt.natAbs / 1000) % 10))), (4, .int 1000), (2, .int (nI v.toInt.natAbs)), (0, .ref (E.2.2.1 56)), (1, .int v)]) k rfl (by decide) rfl dX1_appendNumber_62 ?_
          refine gs_iload (q := 2) k rfl dX1_appendNumber_63 ?_
          refine gs_bipush (v := 10) k (by decide) dX1_appendNumber_65 ?_
          refine gs_idivN (a := 1000) (b := 10) k rfl rfl (by omega) (by omega) (by omega) dX1_appendNumber_67 ?_
          refine gs_top (y := 100) (by decide) ?_
          refine gs_istore (lv' := [(4, .int 100), (3, .int 1), (5, .int (nI ((v.toInt.natAbs / 1000) % 10))), (2, .int (nI v.toInt.natAbs)), (0, .ref (E.2.2.1 56)), (1, .int v)]) k (by decide) rfl dX1_appendNumber_68 ?_
          refine gs_goto (tgt := 21) k (by decide) dX1_appendNumber_70 ?_
          refine gs_iload (q := 0) k rfl dX1_appendNumber_21 ?_
          refine gs_iconst (v := 1) k (by decide) dX1_appendNumber_23 ?_
          refine gs_icmp_lt (tgt := 73) k (by decide) dX1_appendNumber_24 (fun h => absurd h (by decide)) (fun _ => ?_)
          refine gs_iload_n (q := 3) k rfl rfl dX1_appendNumber_27 ?_
          refine gs_iload (q := 0) k rfl dX1_appendNumber_28 ?_
          refine gs_idivN (a := v.toInt.natAbs) (b := 100) k rfl rfl (by omega) (by omega) (by omega) dX1_appendNumber_30 ?_
          refine gs_bipush (v := 10) k (by decide) dX1_appendNumber_31 ?_
          refine gs_iremN (a := v.toInt.natAbs / 100) (b := 10) k rfl rfl (by omega) (by omega) (by omega) dX1_appendNumber_33 ?_
          refine gs_istore (lv' := [(5, .int (nI ((v.toInt.natAbs / 100) % 10))), (4, .int 100), (3, .int 1), (2, .int (nI v.toInt.natAbs)), (0, .ref (E.2.2.1 56)), (1, .int v)]) k (by decide) rfl dX1_appendNumber_34 ?_
          have H3 : G l E K 51 [(5, .int (nI ((v.toInt.natAbs / 100) % 10))), (4, .int 100), (3, .int 1), (2, .int (nI v.toInt.natAbs)), (0, .ref (E.2.2.1 56)), (1, .int v)] [] (apC ([45] ++ [48 + ((v.toInt.natAbs / 10000) % 10)] ++ [48 + ((v.toInt.natAbs / 1000) % 10)]) len M) := by
            refine gs_aload_n (q := 4) k rfl rfl dX1_appendNumber_51 ?_
            refine gs_bipush (v := 48) k (by decide) dX1_appendNumber_52 ?_
            refine gs_iload (q := 0) k rfl dX1_appendNumber_54 ?_
            refine gs_iaddN (a := 48) (b := (v.toInt.natAbs / 100) % 10) k rfl rfl dX1_appendNumber_56 ?_
            refine gs_i2c (v := nI (48 + ((v.toInt.natAbs / 100) % 10))) k (i2c_ok _ (by omega)) dX1_appendNumber_57 ?_
            refine gs_callV (As := [.int (nI (48 + ((v.toInt.natAbs / 100) % 10)))]) (k0 := 56) (ci := 1) (T := TX1) (N := 2) k (c_X1_append (c := 48 + ((v.toInt.natAbs / 100) % 10)) hI apC_len (by (try simp only [List.length_append, List.length_cons, List.length_nil]); omega) rfl (by omega)) cf_X1_append im_X1_append sl_X1_append ml_X1_17 (hI 56 (by omega)) rfl rfl (by decide) rfl rfl (Nat.le_of_ble_eq_true rfl) dX1_appendNumber_58 (ppV ?_)
            refine gs_M (M' := (apC ([45] ++ [48 + ((v.toInt.natAbs / 10000) % 10)] ++ [48 + ((v.toInt.natAbs / 1000) % 10)] ++ [48 + ((v.toInt.natAbs / 100) % 10)]) len M)) apC_app ?_
            refine gs_iconst (v := 1) k (by decide) dX1_appendNumber_61 ?_
            refine gs_istore_n (lv' := [(3, .int 1), (5, .int (nI ((v.toInt.natAbs / 100) % 10))), (4, .int 100), (2, .int (nI v.toInt.natAbs)), (0, .ref (E.2.2.1 56)), (1, .int v)]) k rfl (by decide) rfl dX1_appendNumber_62 ?_
            refine gs_iload (q := 2) k rfl dX1_appendNumber_63 ?_
            refine gs_bipush (v := 10) k (by decide) dX1_appendNumber_65 ?_
            refine gs_idivN (a := 100) (b := 10) k rfl rfl (by omega) (by omega) (by omega) dX1_appendNumber_67 ?_
            refine gs_top (y := 10) (by decide) ?_
            refine gs_istore (lv' := [(4, .int 10), (3, .int 1), (5, .int (nI ((v.toInt.natAbs / 100) % 10))), (2, .int (nI v.toInt.natAbs)), (0, .ref (E.2.2.1 56)), (1, .int v)]) k (by decide) rfl dX1_appendNumber_68 ?_
            refine gs_goto (tgt := 21) k (by decide) dX1_appendNumber_70 ?_
            refine gs_iload (q := 0) k rfl dX1_appendNumber_21 ?_
            refine gs_iconst (v := 1) k (by decide) dX1_appendNumber_23 ?_
            refine gs_icmp_lt (tgt := 73) k (by decide) dX1_appendNumber_24 (fun h => absurd h (by decide)) (fun _ => ?_)
            refine gs_iload_n (q := 3) k rfl rfl dX1_appendNumber_27 ?_
            refine gs_iload (q := 0) k rfl dX1_appendNumber_28 ?_
            refine gs_idivN (a := v.toInt.natAbs) (b := 10) k rfl rfl (by omega) (by omega) (by omega) dX1_appendNumber_30 ?_
            refine gs_bipush (v := 10) k (by decide) dX1_appendNumber_31 ?_
            refine gs_iremN (a := v.toInt.natAbs / 10) (b := 10) k rfl rfl (by omega) (by omega) (by omega) dX1_appendNumber_33 ?_
            refine gs_istore (lv' := [(5, .int (nI ((v.toInt.natAbs / 10) % 10))), (4, .int 10), (3, .int 1), (2, .int (nI v.toInt.natAbs)), (0, .ref (E.2.2.1 56)), (1, .int v)]) k (by decide) rfl dX1_appendNumber_34 ?_
            have H3 : G l E K 51 [(5, .int (nI ((v.toInt.natAbs / 10) % 10))), (4, .int 10), (3, .int 1), (2, .int (nI v.toInt.natAbs)), (0, .ref (E.2.2.1 56)), (1, .int v)] [] (apC ([45] ++ [48 + ((v.toInt.natAbs / 10000) % 10)] ++ [48 + ((v.toInt.natAbs / 1000) % 10)] ++ [48 + ((v.toInt.natAbs / 100) % 10)]) len M) := by
              refine gs_aload_n (q := 4) k rfl rfl dX1_appendNumber_51 ?_
              refine gs_bipush (v := 48) k (by decide) dX1_appendNumber_52 ?_
              refine gs_iload (q := 0) k rfl dX1_appendNumber_54 ?_
              refine gs_iaddN (a := 48) (b := (v.toInt.natAbs / 10) % 10) k rfl rfl dX1_appendNumber_56 ?_
              refine gs_i2c (v := nI (48 + ((v.toInt.natAbs / 10) % 10))) k (i2c_ok _ (by omega)) dX1_appendNumber_57 ?_
              refine gs_callV (As := [.int (nI (48 + ((v.toInt.natAbs / 10) % 10)))]) (k0 := 56) (ci := 1) (T := TX1) (N := 2) k (c_X1_append (c := 48 + ((v.toInt.natAbs / 10) % 10)) hI apC_len (by (try simp only [List.length_append, List.length_cons, List.length_nil]); omega) rfl (by omega)) cf_X1_append im_X1_append sl_X1_append ml_X1_17 (hI 56 (by omega)) rfl rfl (by decide) rfl rfl (Nat.le_of_ble_eq_true rfl) dX1_appendNumber_58 (ppV ?_)
              refine gs_M (M' := (apC ([45] ++ [48 + ((v.toInt.natAbs / 10000) % 10)] ++ [48 + ((v.toInt.natAbs / 1000) % 10)] ++ [48 + ((v.toInt.natAbs / 100) % 10)] ++ [48 + ((v.toInt.natAbs / 10) % 10)]) len M)) apC_app ?_
              refine gs_iconst (v := 1) k (by decide) dX1_appendNumber_61 ?_
              refine gs_istore_n (lv' := [(3, .int 1), (5, .int (nI ((v.toInt.natAbs / 10) % 10))), (4, .int 10), (2, .int (nI v.toInt.natAbs)), (0, .ref (E.2.2.1 56)), (1, .int v)]) k rfl (by decide) rfl dX1_appendNumber_62 ?_
              refine gs_iload (q := 2) k rfl dX1_appendNumber_63 ?_
              refine gs_bipush (v := 10) k (by decide) dX1_appendNumber_65 ?_
              refine gs_idivN (a := 10) (b := 10) k rfl rfl (by omega) (by omega) (by omega) dX1_appendNumber_67 ?_
              refine gs_top (y := 1) (by decide) ?_
              refine gs_istore (lv' := [(4, .int 1), (3, .int 1), (5, .int (nI ((v.toInt.natAbs / 10) % 10))), (2, .int (nI v.toInt.natAbs)), (0, .ref (E.2.2.1 56)), (1, .int v)]) k (by decide) rfl dX1_appendNumber_68 ?_
              refine gs_goto (tgt := 21) k (by decide) dX1_appendNumber_70 ?_
              refine gs_iload (q := 0) k rfl dX1_appendNumber_21 ?_
              refine gs_iconst (v := 1) k (by decide) dX1_appendNumber_23 ?_
              refine gs_icmp_lt (tgt := 73) k (by decide) dX1_appendNumber_24 (fun h => absurd h (by decide)) (fun _ => ?_)
              refine gs_iload_n (q := 3) k rfl rfl dX1_appendNumber_27 ?_
              refine gs_iload (q := 0) k rfl dX1_appendNumber_28 ?_
              refine gs_idivN (a := v.toInt.natAbs) (b := 1) k rfl rfl (by omega) (by omega) (by omega) dX1_appendNumber_30 ?_
              refine gs_bipush (v := 10) k (by decide) dX1_appendNumber_31 ?_
              refine gs_iremN (a := v.toInt.natAbs / 1) (b := 10) k rfl rfl (by omega) (by omega) (by omega) dX1_appendNumber_33 ?_
              refine gs_istore (lv' := [(5, .int (nI ((v.toInt.natAbs / 1) % 10))), (4, .int 1), (3, .int 1), (2, .int (nI v.toInt.natAbs)), (0, .ref (E.2.2.1 56)), (1, .int v)]) k (by decide) rfl dX1_appendNumber_34 ?_
              have H3 : G l E K 51 [(5, .int (nI ((v.toInt.natAbs / 1) % 10))), (4, .int 1), (3, .int 1), (2, .int (nI v.toInt.natAbs)), (0, .ref (E.2.2.1 56)), (1, .int v)] [] (apC ([45] ++ [48 + ((v.toInt.natAbs / 10000) % 10)] ++ [48 + ((v.toInt.natAbs / 1000) % 10)] ++ [48 + ((v.toInt.natAbs / 100) % 10)] ++ [48 + ((v.toInt.natAbs / 10) % 10)]) len M) := by
                refine gs_aload_n (q := 4) k rfl rfl dX1_appendNumber_51 ?_
                refine gs_bipush (v := 48) k (by decide) dX1_appendNumber_52 ?_
                refine gs_iload (q := 0) k rfl dX1_appendNumber_54 ?_
                refine gs_iaddN (a := 48) (b := (v.toInt.natAbs / 1) % 10) k rfl rfl dX1_appendNumber_56 ?_
                refine gs_i2c (v := nI (48 + ((v.toInt.natAbs / 1) % 10))) k (i2c_ok _ (by omega)) dX1_appendNumber_57 ?_
                refine gs_callV (As := [.int (nI (48 + ((v.toInt.natAbs / 1) % 10)))]) (k0 := 56) (ci := 1) (T := TX1) (N := 2) k (c_X1_append (c := 48 + ((v.toInt.natAbs / 1) % 10)) hI apC_len (by (try simp only [List.length_append, List.length_cons, List.length_nil]); omega) rfl (by omega)) cf_X1_append im_X1_append sl_X1_append ml_X1_17 (hI 56 (by omega)) rfl rfl (by decide) rfl rfl (Nat.le_of_ble_eq_true rfl) dX1_appendNumber_58 (ppV ?_)
                refine gs_M (M' := (apC ([45] ++ [48 + ((v.toInt.natAbs / 10000) % 10)] ++ [48 + ((v.toInt.natAbs / 1000) % 10)] ++ [48 + ((v.toInt.natAbs / 100) % 10)] ++ [48 + ((v.toInt.natAbs / 10) % 10)] ++ [48 + ((v.toInt.natAbs / 1) % 10)]) len M)) apC_app ?_
                refine gs_iconst (v := 1) k (by decide) dX1_appendNumber_61 ?_
                refine gs_istore_n (lv' := [(3, .int 1), (5, .int (nI ((v.toInt.natAbs / 1) % 10))), (4, .int 1), (2, .int (nI v.toInt.natAbs)), (0, .ref (E.2.2.1 56)), (1, .int v)]) k rfl (by decide) rfl dX1_appendNumber_62 ?_
                refine gs_iload (q := 2) k rfl dX1_appendNumber_63 ?_
                refine gs_bipush (v := 10) k (by decide) dX1_appendNumber_65 ?_
                refine gs_idivN (a := 1) (b := 10) k rfl rfl (by omega) (by omega) (by omega) dX1_appendNumber_67 ?_
                refine gs_top (y := 0) (by decide) ?_
                refine gs_istore (lv' := [(4, .int 0), (3, .int 1), (5, .int (nI ((v.toInt.natAbs / 1) % 10))), (2, .int (nI v.toInt.natAbs)), (0, .ref (E.2.2.1 56)), (1, .int v)]) k (by decide) rfl dX1_appendNumber_68 ?_
                refine gs_goto (tgt := 21) k (by decide) dX1_appendNumber_70 ?_
                refine gs_iload (q := 0) k rfl dX1_appendNumber_21 ?_
                refine gs_iconst (v := 1) k (by decide) dX1_appendNumber_23 ?_
                refine gs_icmp_lt (tgt := 73) k (by decide) dX1_appendNumber_24 (fun _ => ?_) (fun h => absurd h (by decide))
                exact gs_vret k kt dX1_appendNumber_73 ⟨rfl, (by
        have hd := dig4 (m := v.toInt.natAbs) (by omega) (by omega)
        unfold num
        rw [ifc_t (Int32.not_le.mp c1), hd]
        try simp only [List.nil_append, List.cons_append, Nat.div_one, List.append_assoc])⟩
              refine gs_iload (q := 0) k rfl dX1_appendNumber_36 ?_
              refine gs_if_gt (tgt := 51) k (by decide) dX1_appendNumber_38 (fun c10 => ?_) (fun c10 => ?_)
              · have ec10 := ngt1 (x := (v.toInt.natAbs / 1) % 10) (by omega) c10
                exact H3
              · have ec10 := ngt0 (x := (v.toInt.natAbs / 1) % 10) (by omega) c10
                refine gs_iload_n (q := 2) k rfl rfl dX1_appendNumber_41 ?_
                refine gs_if_ne (tgt := 51) k (by decide) dX1_appendNumber_42 (fun _ => ?_) (fun h => absurd h (by decide))
                exact H3
            refine gs_iload (q := 0) k rfl dX1_appendNumber_36 ?_
            refine gs_if_gt (tgt := 51) k (by decide) dX1_appendNumber_38 (fun c10 => ?_) (fun c10 => ?_)
            · have ec10 := ngt1 (x := (v.toInt.natAbs / 10) % 10) (by omega) c10
              exact H3
            · have ec10 := ngt0 (x := (v.toInt.natAbs / 10) % 10) (by omega) c10
              refine gs_iload_n (q := 2) k rfl rfl dX1_appendNumber_41 ?_
              refine gs_if_ne (tgt := 51) k (by decide) dX1_appendNumber_42 (fun _ => ?_) (fun h => absurd h (by decide))
              exact H3
          refine gs_iload (q := 0) k rfl dX1_appendNumber_36 ?_
          refine gs_if_gt (tgt := 51) k (by decide) dX1_appendNumber_38 (fun c10 => ?_) (fun c10 => ?_)
          · have ec10 := ngt1 (x := (v.toInt.natAbs / 100) % 10) (by omega) c10
            exact H3
          · have ec10 := ngt0 (x := (v.toInt.natAbs / 100) % 10) (by omega) c10
            refine gs_iload_n (q := 2) k rfl rfl dX1_appendNumber_41 ?_
            refine gs_if_ne (tgt := 51) k (by decide) dX1_appendNumber_42 (fun _ => ?_) (fun h => absurd h (by decide))
            exact H3
        refine gs_iload (q := 0) k rfl dX1_appendNumber_36 ?_
        refine gs_if_gt (tgt := 51) k (by decide) dX1_appendNumber_38 (fun c10 => ?_) (fun c10 => ?_)
        · have ec10 := ngt1 (x := (v.toInt.natAbs / 1000) % 10) (by omega) c10
          exact H3
        · have ec10 := ngt0 (x := (v.toInt.natAbs / 1000) % 10) (by omega) c10
          refine gs_iload_n (q := 2) k rfl rfl dX1_appendNumber_41 ?_
          refine gs_if_ne (tgt := 51) k (by decide) dX1_appendNumber_42 (fun _ => ?_) (fun h => absurd h (by decide))
          exact H3
      · have ec9 := ngt0 (x := (v.toInt.natAbs / 10000) % 10) (by omega) c9
        refine gs_iload_n (q := 2) k rfl rfl dX1_appendNumber_41 ?_
        refine gs_if_ne (tgt := 51) k (by decide) dX1_appendNumber_42 (fun h => absurd h (by decide)) (fun _ => ?_)
        refine gs_iload (q := 1) k rfl dX1_appendNumber_45 ?_
        refine gs_iconst (v := 1) k (by decide) dX1_appendNumber_47 ?_
        refine gs_icmp_ne (tgt := 63) k (by decide) dX1_appendNumber_48 (fun _ => ?_) (fun h => absurd h (by decide))
        refine gs_iload (q := 1) k rfl dX1_appendNumber_63 ?_
        refine gs_bipush (v := 10) k (by decide) dX1_appendNumber_65 ?_
        refine gs_idivN (a := 10000) (b := 10) k rfl rfl (by omega) (by omega) (by omega) dX1_appendNumber_67 ?_
        refine gs_top (y := 1000) (by decide) ?_
        refine gs_istore (lv' := [(4, .int 1000), (5, .int (nI ((v.toInt.natAbs / 10000) % 10))), (3, .int 0), (2, .int (nI v.toInt.natAbs)), (0, .ref (E.2.2.1 56)), (1, .int v)]) k (by decide) rfl dX1_appendNumber_68 ?_
        refine gs_goto (tgt := 21) k (by decide) dX1_appendNumber_70 ?_
        refine gs_iload (q := 0) k rfl dX1_appendNumber_21 ?_
        refine gs_iconst (v := 1) k (by decide) dX1_appendNumber_23 ?_
        refine gs_icmp_lt (tgt := 73) k (by decide) dX1_appendNumber_24 (fun h => absurd h (by decide)) (fun _ => ?_)
        refine gs_iload_n (q := 3) k rfl rfl dX1_appendNumber_27 ?_
        refine gs_iload (q := 0) k rfl dX1_appendNumber_28 ?_
        refine gs_idivN (a := v.toInt.natAbs) (b := 1000) k rfl rfl (by omega) (by omega) (by omega) dX1_appendNumber_30 ?_
        refine gs_bipush (v := 10) k (by decide) dX1_appendNumber_31 ?_
        refine gs_iremN (a := v.toInt.natAbs / 1000) (b := 10) k rfl rfl (by omega) (by omega) (by omega) dX1_appendNumber_33 ?_
        refine gs_istore (lv' := [(5, .int (nI ((v.toInt.natAbs / 1000) % 10))), (4, .int 1000), (3, .int 0), (2, .int (nI v.toInt.natAbs)), (0, .ref (E.2.2.1 56)), (1, .int v)]) k (by decide) rfl dX1_appendNumber_34 ?_
        refine gs_iload (q := 0) k rfl dX1_appendNumber_36 ?_
        refine gs_if_gt (tgt := 51) k (by decide) dX1_appendNumber_38 (fun c10 => ?_) (fun c10 => ?_)
        · have ec10 := ngt1 (x := (v.toInt.natAbs / 1000) % 10) (by omega) c10
          refine gs_aload_n (q := 4) k rfl rfl dX1_appendNumber_51 ?_
          refine gs_bipush (v := 48) k (by decide) dX1_appendNumber_52 ?_
          refine gs_iload (q := 0) k rfl dX1_appendNumber_54 ?_
          refine gs_iaddN (a := 48) (b := (v.toInt.natAbs / 1000) % 10) k rfl rfl dX1_appendNumber_56 ?_
          refine gs_i2c (v := nI (48 + ((v.toInt.natAbs / 1000) % 10))) k (i2c_ok _ (by omega)) dX1_appendNumber_57 ?_
          refine gs_callV (As := [.int (nI (48 + ((v.toInt.natAbs / 1000) % 10)))]) (k0 := 56) (ci := 1) (T := TX1) (N := 2) k (c_X1_append (c := 48 + ((v.toInt.natAbs / 1000) % 10)) hI apC_len (by (try simp only [List.length_append, List.length_cons, List.length_nil]); omega) rfl (by omega)) cf_X1_append im_X1_append sl_X1_append ml_X1_17 (hI 56 (by omega)) rfl rfl (by decide) rfl rfl (Nat.le_of_ble_eq_true rfl) dX1_appendNumber_58 (ppV ?_)
          refine gs_M (M' := (apC ([45] ++ [48 + ((v.toInt.natAbs / 1000) % 10)]) len M)) apC_app ?_
          refine gs_iconst (v := 1) k (by decide) dX1_appendNumber_61 ?_
          refine gs_istore_n (lv' := [(3, .int 1), (5, .int (nI ((v.toInt.natAbs / 1000) % 10))), (4, .int 1000), (2, .int (nI v.toInt.natAbs)), (0, .ref (E.2.2.1 56)), (1, .int v)]) k rfl (by decide) rfl dX1_appendNumber_62 ?_
          refine gs_iload (q := 2) k rfl dX1_appendNumber_63 ?_
          refine gs_bipush (v := 10) k (by decide) dX1_appendNumber_65 ?_
          refine gs_idivN (a := 1000) (b := 10) k rfl rfl (by omega) (by omega) (by omega) dX1_appendNumber_67 ?_
          refine gs_top (y := 100) (by decide) ?_
          refine gs_istore (lv' := [(4, .int 100), (3, .int 1), (5, .int (nI ((v.toInt.natAbs / 1000) % 10))), (2, .int (nI v.toInt.natAbs)), (0, .ref (E.2.2.1 56)), (1, .int v)]) k (by decide) rfl dX1_appendNumber_68 ?_
          refine gs_goto (tgt := 21) k (by decide) dX1_appendNumber_70 ?_
          refine gs_iload (q := 0) k rfl dX1_appendNumber_21 ?_
          refine gs_iconst (v := 1) k (by decide) dX1_appendNumber_23 ?_
          refine gs_icmp_lt (tgt := 73) k (by decide) dX1_appendNumber_24 (fun h => absurd h (by decide)) (fun _ => ?_)
          refine gs_iload_n (q := 3) k rfl rfl dX1_appendNumber_27 ?_
          refine gs_iload (q := 0) k rfl dX1_appendNumber_28 ?_
          refine gs_idivN (a := v.toInt.natAbs) (b := 100) k rfl rfl (by omega) (by omega) (by omega) dX1_appendNumber_30 ?_
          refine gs_bipush (v := 10) k (by decide) dX1_appendNumber_31 ?_
          refine gs_iremN (a := v.toInt.natAbs / 100) (b := 10) k rfl rfl (by omega) (by omega) (by omega) dX1_appendNumber_33 ?_
          refine gs_istore (lv' := [(5, .int (nI ((v.toInt.natAbs / 100) % 10))), (4, .int 100), (3, .int 1), (2, .int (nI v.toInt.natAbs)), (0, .ref (E.2.2.1 56)), (1, .int v)]) k (by decide) rfl dX1_appendNumber_34 ?_
          have H4 : G l E K 51 [(5, .int (nI ((v.toInt.natAbs / 100) % 10))), (4, .int 100), (3, .int 1), (2, .int (nI v.toInt.natAbs)), (0, .ref (E.2.2.1 56)), (1, .int v)] [] (apC ([45] ++ [48 + ((v.toInt.natAbs / 1000) % 10)]) len M) := by
            refine gs_aload_n (q := 4) k rfl rfl dX1_appendNumber_51 ?_
            refine gs_bipush (v := 48) k (by decide) dX1_appendNumber_52 ?_
            refine gs_iload (q := 0) k rfl dX1_appendNumber_54 ?_
            refine gs_iaddN (a := 48) (b := (v.toInt.natAbs / 100) % 10) k rfl rfl dX1_appendNumber_56 ?_
            refine gs_i2c (v := nI (48 + ((v.toInt.natAbs / 100) % 10))) k (i2c_ok _ (by omega)) dX1_appendNumber_57 ?_
            refine gs_callV (As := [.int (nI (48 + ((v.toInt.natAbs / 100) % 10)))]) (k0 := 56) (ci := 1) (T := TX1) (N := 2) k (c_X1_append (c := 48 + ((v.toInt.natAbs / 100) % 10)) hI apC_len (by (try simp only [List.length_append, List.length_cons, List.length_nil]); omega) rfl (by omega)) cf_X1_append im_X1_append sl_X1_append ml_X1_17 (hI 56 (by omega)) rfl rfl (by decide) rfl rfl (Nat.le_of_ble_eq_true rfl) dX1_appendNumber_58 (ppV ?_)
            refine gs_M (M' := (apC ([45] ++ [48 + ((v.toInt.natAbs / 1000) % 10)] ++ [48 + ((v.toInt.natAbs / 100) % 10)]) len M)) apC_app ?_
            refine gs_iconst (v := 1) k (by decide) dX1_appendNumber_61 ?_
            refine gs_istore_n (lv' := [(3, .int 1), (5, .int (nI ((v.toInt.natAbs / 100) % 10))), (4, .int 100), (2, .int (nI v.toInt.natAbs)), (0, .ref (E.2.2.1 56)), (1, .int v)]) k rfl (by decide) rfl dX1_appendNumber_62 ?_
            refine gs_iload (q := 2) k rfl dX1_appendNumber_63 ?_
            refine gs_bipush (v := 10) k (by decide) dX1_appendNumber_65 ?_
            refine gs_idivN (a := 100) (b := 10) k rfl rfl (by omega) (by omega) (by omega) dX1_appendNumber_67 ?_
            refine gs_top (y := 10) (by decide) ?_
            refine gs_istore (lv' := [(4, .int 10), (3, .int 1), (5, .int (nI ((v.toInt.natAbs / 100) % 10))), (2, .int (nI v.toInt.natAbs)), (0, .ref (E.2.2.1 56)), (1, .int v)]) k (by decide) rfl dX1_appendNumber_68 ?_
            refine gs_goto (tgt := 21) k (by decide) dX1_appendNumber_70 ?_
            refine gs_iload (q := 0) k rfl dX1_appendNumber_21 ?_
            refine gs_iconst (v := 1) k (by decide) dX1_appendNumber_23 ?_
            refine gs_icmp_lt (tgt := 73) k (by decide) dX1_appendNumber_24 (fun h => absurd h (by decide)) (fun _ => ?_)
            refine gs_iload_n (q := 3) k rfl rfl dX1_appendNumber_27 ?_
            refine gs_iload (q := 0) k rfl dX1_appendNumber_28 ?_
            refine gs_idivN (a := v.toInt.natAbs) (b := 10) k rfl rfl (by omega) (by omega) (by omega) dX1_appendNumber_30 ?_
            refine gs_bipush (v := 10) k (by decide) dX1_appendNumber_31 ?_
            refine gs_iremN (a := v.toInt.natAbs / 10) (b := 10) k rfl rfl (by omega) (by omega) (by omega) dX1_appendNumber_33 ?_
            refine gs_istore (lv' := [(5, .int (nI ((v.toInt.natAbs / 10) % 10))), (4, .int 10), (3, .int 1), (2, .int (nI v.toInt.natAbs)), (0, .ref (E.2.2.1 56)), (1, .int v)]) k (by decide) rfl dX1_appendNumber_34 ?_
            have H4 : G l E K 51 [(5, .int (nI ((v.toInt.natAbs / 10) % 10))), (4, .int 10), (3, .int 1), (2, .int (nI v.toInt.natAbs)), (0, .ref (E.2.2.1 56)), (1, .int v)] [] (apC ([45] ++ [48 + ((v.toInt.natAbs / 1000) % 10)] ++ [48 + ((v.toInt.natAbs / 100) % 10)]) len M) := by
              refine gs_aload_n (q := 4) k rfl rfl dX1_appendNumber_51 ?_
              refine gs_bipush (v := 48) k (by decide) dX1_appendNumber_52 ?_
              refine gs_iload (q := 0) k rfl dX1_appendNumber_54 ?_
              refine gs_iaddN (a := 48) (b := (v.toInt.natAbs / 10) % 10) k rfl rfl dX1_appendNumber_56 ?_
              refine gs_i2c (v := nI (48 + ((v.toInt.natAbs / 10) % 10))) k (i2c_ok _ (by omega)) dX1_appendNumber_57 ?_
              refine gs_callV (As := [.int (nI (48 + ((v.toInt.natAbs / 10) % 10)))]) (k0 := 56) (ci := 1) (T := TX1) (N := 2) k (c_X1_append (c := 48 + ((v.toInt.natAbs / 10) % 10)) hI apC_len (by (try simp only [List.length_append, List.length_cons, List.length_nil]); omega) rfl (by omega)) cf_X1_append im_X1_append sl_X1_append ml_X1_17 (hI 56 (by omega)) rfl rfl (by decide) rfl rfl (Nat.le_of_ble_eq_true rfl) dX1_appendNumber_58 (ppV ?_)
              refine gs_M (M' := (apC ([45] ++ [48 + ((v.toInt.natAbs / 1000) % 10)] ++ [48 + ((v.toInt.natAbs / 100) % 10)] ++ [48 + ((v.toInt.natAbs / 10) % 10)]) len M)) apC_app ?_
              refine gs_iconst (v := 1) k (by decide) dX1_appendNumber_61 ?_
              refine gs_istore_n (lv' := [(3, .int 1), (5, .int (nI ((v.toInt.natAbs / 10) % 10))), (4, .int 10), (2, .int (nI v.toInt.natAbs)), (0, .ref (E.2.2.1 56)), (1, .int v)]) k rfl (by decide) rfl dX1_appendNumber_62 ?_
              refine gs_iload (q := 2) k rfl dX1_appendNumber_63 ?_
              refine gs_bipush (v := 10) k (by decide) dX1_appendNumber_65 ?_
              refine gs_idivN (a := 10) (b := 10) k rfl rfl (by omega) (by omega) (by omega) dX1_appendNumber_67 ?_
              refine gs_top (y := 1) (by decide) ?_
              refine gs_istore (lv' := [(4, .int 1), (3, .int 1), (5, .int (nI ((v.toInt.natAbs / 10) % 10))), (2, .int (nI v.toInt.natAbs)), (0, .ref (E.2.2.1 56)), (1, .int v)]) k (by decide) rfl dX1_appendNumber_68 ?_
              refine gs_goto (tgt := 21) k (by decide) dX1_appendNumber_70 ?_
              refine gs_iload (q := 0) k rfl dX1_appendNumber_21 ?_
              refine gs_iconst (v := 1) k (by decide) dX1_appendNumber_23 ?_
              refine gs_icmp_lt (tgt := 73) k (by decide) dX1_appendNumber_24 (fun h => absurd h (by decide)) (fun _ => ?_)
              refine gs_iload_n (q := 3) k rfl rfl dX1_appendNumber_27 ?_
              refine gs_iload (q := 0) k rfl dX1_appendNumber_28 ?_
              refine gs_idivN (a := v.toInt.natAbs) (b := 1) k rfl rfl (by omega) (by omega) (by omega) dX1_appendNumber_30 ?_
              refine gs_bipush (v := 10) k (by decide) dX1_appendNumber_31 ?_
              refine gs_iremN (a := v.toInt.natAbs / 1) (b := 10) k rfl rfl (by omega) (by omega) (by omega) dX1_appendNumber_33 ?_
              refine gs_istore (lv' := [(5, .int (nI ((v.toInt.natAbs / 1) % 10))), (4, .int 1), (3, .int 1), (2, .int (nI v.toInt.natAbs)), (0, .ref (E.2.2.1 56)), (1, .int v)]) k (by decide) rfl dX1_appendNumber_34 ?_
              have H4 : G l E K 51 [(5, .int (nI ((v.toInt.natAbs / 1) % 10))), (4, .int 1), (3, .int 1), (2, .int (nI v.toInt.natAbs)), (0, .ref (E.2.2.1 56)), (1, .int v)] [] (apC ([45] ++ [48 + ((v.toInt.natAbs / 1000) % 10)] ++ [48 + ((v.toInt.natAbs / 100) % 10)] ++ [48 + ((v.toInt.natAbs / 10) % 10)]) len M) := by
                refine gs_aload_n (q := 4) k rfl rfl dX1_appendNumber_51 ?_
                refine gs_bipush (v := 48) k (by decide) dX1_appendNumber_52 ?_
                refine gs_iload (q := 0) k rfl dX1_appendNumber_54 ?_
                refine gs_iaddN (a := 48) (b := (v.toInt.natAbs / 1) % 10) k rfl rfl dX1_appendNumber_56 ?_
                refine gs_i2c (v := nI (48 + ((v.toInt.natAbs / 1) % 10))) k (i2c_ok _ (by omega)) dX1_appendNumber_57 ?_
                refine gs_callV (As := [.int (nI (48 + ((v.toInt.natAbs / 1) % 10)))]) (k0 := 56) (ci := 1) (T := TX1) (N := 2) k (c_X1_append (c := 48 + ((v.toInt.natAbs / 1) % 10)) hI apC_len (by (try simp only [List.length_append, List.length_cons, List.length_nil]); omega) rfl (by omega)) cf_X1_append im_X1_append sl_X1_append ml_X1_17 (hI 56 (by omega)) rfl rfl (by decide) rfl rfl (Nat.le_of_ble_eq_true rfl) dX1_appendNumber_58 (ppV ?_)
                refine gs_M (M' := (apC ([45] ++ [48 + ((v.toInt.natAbs / 1000) % 10)] ++ [48 + ((v.toInt.natAbs / 100) % 10)] ++ [48 + ((v.toInt.natAbs / 10) % 10)] ++ [48 + ((v.toInt.natAbs / 1) % 10)]) len M)) apC_app ?_
                refine gs_iconst (v := 1) k (by decide) dX1_appendNumber_61 ?_
                refine gs_istore_n (lv' := [(3, .int 1), (5, .int (nI ((v.toInt.natAbs / 1) % 10))), (4, .int 1), (2, .int (nI v.toInt.natAbs)), (0, .ref (E.2.2.1 56)), (1, .int v)]) k rfl (by decide) rfl dX1_appendNumber_62 ?_
                refine gs_iload (q := 2) k rfl dX1_appendNumber_63 ?_
                refine gs_bipush (v := 10) k (by decide) dX1_appendNumber_65 ?_
                refine gs_idivN (a := 1) (b := 10) k rfl rfl (by omega) (by omega) (by omega) dX1_appendNumber_67 ?_
                refine gs_top (y := 0) (by decide) ?_
                refine gs_istore (lv' := [(4, .int 0), (3, .int 1), (5, .int (nI ((v.toInt.natAbs / 1) % 10))), (2, .int (nI v.toInt.natAbs)), (0, .ref (E.2.2.1 56)), (1, .int v)]) k (by decide) rfl dX1_appendNumber_68 ?_
                refine gs_goto (tgt := 21) k (by decide) dX1_appendNumber_70 ?_
                refine gs_iload (q := 0) k rfl dX1_appendNumber_21 ?_
                refine gs_iconst (v := 1) k (by decide) dX1_appendNumber_23 ?_
                refine gs_icmp_lt (tgt := 73) k (by decide) dX1_appendNumber_24 (fun _ => ?_) (fun h => absurd h (by decide))
                exact gs_vret k kt dX1_appendNumber_73 ⟨rfl, (by
        have hd := dig3 (m := v.toInt.natAbs) (by omega) (by omega)
        unfold num
        rw [ifc_t (Int32.not_le.mp c1), hd]
        try simp only [List.nil_append, List.cons_append, Nat.div_one, List.append_assoc])⟩
              refine gs_iload (q := 0) k rfl dX1_appendNumber_36 ?_
              refine gs_if_gt (tgt := 51) k (by decide) dX1_appendNumber_38 (fun c11 => ?_) (fun c11 => ?_)
              · have ec11 := ngt1 (x := (v.toInt.natAbs / 1) % 10) (by omega) c11
                exact H4
              · have ec11 := ngt0 (x := (v.toInt.natAbs / 1) % 10) (by omega) c11
                refine gs_iload_n (q := 2) k rfl rfl dX1_appendNumber_41 ?_
                refine gs_if_ne (tgt := 51) k (by decide) dX1_appendNumber_42 (fun _ => ?_) (fun h => absurd h (by decide))
                exact H4
            refine gs_iload (q := 0) k rfl dX1_appendNumber_36 ?_
            refine gs_if_gt (tgt := 51) k (by decide) dX1_appendNumber_38 (fun c11 => ?_) (fun c11 => ?_)
            · have ec11 := ngt1 (x := (v.toInt.natAbs / 10) % 10) (by omega) c11
              exact H4
            · have ec11 := ngt0 (x := (v.toInt.natAbs / 10) % 10) (by omega) c11
              refine gs_iload_n (q := 2) k rfl rfl dX1_appendNumber_41 ?_
              refine gs_if_ne (tgt := 51) k (by decide) dX1_appendNumber_42 (fun _ => ?_) (fun h => absurd h (by decide))
              exact H4
          refine gs_iload (q := 0) k rfl dX1_appendNumber_36 ?_
          refine gs_if_gt (tgt := 51) k (by decide) dX1_appendNumber_38 (fun c11 => ?_) (fun c11 => ?_)
          · have ec11 := ngt1 (x := (v.toInt.natAbs / 100) % 10) (by omega) c11
            exact H4
          · have ec11 := ngt0 (x := (v.toInt.natAbs / 100) % 10) (by omega) c11
            refine gs_iload_n (q := 2) k rfl rfl dX1_appendNumber_41 ?_
            refine gs_if_ne (tgt := 51) k (by decide) dX1_appendNumber_42 (fun _ => ?_) (fun h => absurd h (by decide))
            exact H4
        · have ec10 := ngt0 (x := (v.toInt.natAbs / 1000) % 10) (by omega) c10
          refine gs_iload_n (q := 2) k rfl rfl dX1_appendNumber_41 ?_
          refine gs_if_ne (tgt := 51) k (by decide) dX1_appendNumber_42 (fun h => absurd h (by decide)) (fun _ => ?_)
          refine gs_iload (q := 1) k rfl dX1_appendNumber_45 ?_
          refine gs_iconst (v := 1) k (by decide) dX1_appendNumber_47 ?_
          refine gs_icmp_ne (tgt := 63) k (by decide) dX1_appendNumber_48 (fun _ => ?_) (fun h => absurd h (by decide))
          refine gs_iload (q := 1) k rfl dX1_appendNumber_63 ?_
          refine gs_bipush (v := 10) k (by decide) dX1_appendNumber_65 ?_
          refine gs_idivN (a := 1000) (b := 10) k rfl rfl (by omega) (by omega) (by omega) dX1_appendNumber_67 ?_
          refine gs_top (y := 100) (by decide) ?_
          refine gs_istore (lv' := [(4, .int 100), (5, .int (nI ((v.toInt.natAbs / 1000) % 10))), (3, .int 0), (2, .int (nI v.toInt.natAbs)), (0, .ref (E.2.2.1 56)), (1, .int v)]) k (by decide) rfl dX1_appendNumber_68 ?_
          refine gs_goto (tgt := 21) k (by decide) dX1_appendNumber_70 ?_
          refine gs_iload (q := 0) k rfl dX1_appendNumber_21 ?_
          refine gs_iconst (v := 1) k (by decide) dX1_appendNumber_23 ?_
          refine gs_icmp_lt (tgt := 73) k (by decide) dX1_appendNumber_24 (fun h => absurd h (by decide)) (fun _ => ?_)
          refine gs_iload_n (q := 3) k rfl rfl dX1_appendNumber_27 ?_
          refine gs_iload (q := 0) k rfl dX1_appendNumber_28 ?_
          refine gs_idivN (a := v.toInt.natAbs) (b := 100) k rfl rfl (by omega) (by omega) (by omega) dX1_appendNumber_30 ?_
          refine gs_bipush (v := 10) k (by decide) dX1_appendNumber_31 ?_
          refine gs_iremN (a := v.toInt.natAbs / 100) (b := 10) k rfl rfl (by omega) (by omega) (by omega) dX1_appendNumber_33 ?_
          refine gs_istore (lv' := [(5, .int (nI ((v.toInt.natAbs / 100) % 10))), (4, .int 100), (3, .int 0), (2, .int (nI v.toInt.natAbs)), (0, .ref (E.2.2.1 56)), (1, .int v)]) k (by decide) rfl dX1_appendNumber_34 ?_
          refine gs_iload (q := 0) k rfl dX1_appendNumber_36 ?_
          refine gs_if_gt (tgt := 51) k (by decide) dX1_appendNumber_38 (fun c11 => ?_) (fun c11 => ?_)
          · have ec11 := ngt1 (x := (v.toInt.natAbs / 100) % 10) (by omega) c11
            refine gs_aload_n (q := 4) k rfl rfl dX1_appendNumber_51 ?_
            refine gs_bipush (v := 48) k (by decide) dX1_appendNumber_52 ?_
            refine gs_iload (q := 0) k rfl dX1_appendNumber_54 ?_
            refine gs_iaddN (a := 48) (b := (v.toInt.natAbs / 100) % 10) k rfl rfl dX1_appendNumber_56 ?_
            refine gs_i2c (v := nI (48 + ((v.toInt.natAbs / 100) % 10))) k (i2c_ok _ (by omega)) dX1_appendNumber_57 ?_
            refine gs_callV (As := [.int (nI (48 + ((v.toInt.natAbs / 100) % 10)))]) (k0 := 56) (ci := 1) (T := TX1) (N := 2) k (c_X1_append (c := 48 + ((v.toInt.natAbs / 100) % 10)) hI apC_len (by (try simp only [List.length_append, List.length_cons, List.length_nil]); omega) rfl (by omega)) cf_X1_append im_X1_append sl_X1_append ml_X1_17 (hI 56 (by omega)) rfl rfl (by decide) rfl rfl (Nat.le_of_ble_eq_true rfl) dX1_appendNumber_58 (ppV ?_)
            refine gs_M (M' := (apC ([45] ++ [48 + ((v.toInt.natAbs / 100) % 10)]) len M)) apC_app ?_
            refine gs_iconst (v := 1) k (by decide) dX1_appendNumber_61 ?_
            refine gs_istore_n (lv' := [(3, .int 1), (5, .int (nI ((v.toInt.natAbs / 100) % 10))), (4, .int 100), (2, .int (nI v.toInt.natAbs)), (0, .ref (E.2.2.1 56)), (1, .int v)]) k rfl (by decide) rfl dX1_appendNumber_62 ?_
            refine gs_iload (q := 2) k rfl dX1_appendNumber_63 ?_
            refine gs_bipush (v := 10) k (by decide) dX1_appendNumber_65 ?_
            refine gs_idivN (a := 100) (b := 10) k rfl rfl (by omega) (by omega) (by omega) dX1_appendNumber_67 ?_
            refine gs_top (y := 10) (by decide) ?_
            refine gs_istore (lv' := [(4, .int 10), (3, .int 1), (5, .int (nI ((v.toInt.natAbs / 100) % 10))), (2, .int (nI v.toInt.natAbs)), (0, .ref (E.2.2.1 56)), (1, .int v)]) k (by decide) rfl dX1_appendNumber_68 ?_
            refine gs_goto (tgt := 21) k (by decide) dX1_appendNumber_70 ?_
            refine gs_iload (q := 0) k rfl dX1_appendNumber_21 ?_
            refine gs_iconst (v := 1) k (by decide) dX1_appendNumber_23 ?_
            refine gs_icmp_lt (tgt := 73) k (by decide) dX1_appendNumber_24 (fun h => absurd h (by decide)) (fun _ => ?_)
            refine gs_iload_n (q := 3) k rfl rfl dX1_appendNumber_27 ?_
            refine gs_iload (q := 0) k rfl dX1_appendNumber_28 ?_
            refine gs_idivN (a := v.toInt.natAbs) (b := 10) k rfl rfl (by omega) (by omega) (by omega) dX1_appendNumber_30 ?_
            refine gs_bipush (v := 10) k (by decide) dX1_appendNumber_31 ?_
            refine gs_iremN (a := v.toInt.natAbs / 10) (b := 10) k rfl rfl (by omega) (by omega) (by omega) dX1_appendNumber_33 ?_
            refine gs_istore (lv' := [(5, .int (nI ((v.toInt.natAbs / 10) % 10))), (4, .int 10), (3, .int 1), (2, .int (nI v.toInt.natAbs)), (0, .ref (E.2.2.1 56)), (1, .int v)]) k (by decide) rfl dX1_appendNumber_34 ?_
            have H5 : G l E K 51 [(5, .int (nI ((v.toInt.natAbs / 10) % 10))), (4, .int 10), (3, .int 1), (2, .int (nI v.toInt.natAbs)), (0, .ref (E.2.2.1 56)), (1, .int v)] [] (apC ([45] ++ [48 + ((v.toInt.natAbs / 100) % 10)]) len M) := by
              refine gs_aload_n (q := 4) k rfl rfl dX1_appendNumber_51 ?_
              refine gs_bipush (v := 48) k (by decide) dX1_appendNumber_52 ?_
              refine gs_iload (q := 0) k rfl dX1_appendNumber_54 ?_
              refine gs_iaddN (a := 48) (b := (v.toInt.natAbs / 10) % 10) k rfl rfl dX1_appendNumber_56 ?_
              refine gs_i2c (v := nI (48 + ((v.toInt.natAbs / 10) % 10))) k (i2c_ok _ (by omega)) dX1_appendNumber_57 ?_
              refine gs_callV (As := [.int (nI (48 + ((v.toInt.natAbs / 10) % 10)))]) (k0 := 56) (ci := 1) (T := TX1) (N := 2) k (c_X1_append (c := 48 + ((v.toInt.natAbs / 10) % 10)) hI apC_len (by (try simp only [List.length_append, List.length_cons, List.length_nil]); omega) rfl (by omega)) cf_X1_append im_X1_append sl_X1_append ml_X1_17 (hI 56 (by omega)) rfl rfl (by decide) rfl rfl (Nat.le_of_ble_eq_true rfl) dX1_appendNumber_58 (ppV ?_)
              refine gs_M (M' := (apC ([45] ++ [48 + ((v.toInt.natAbs / 100) % 10)] ++ [48 + ((v.toInt.natAbs / 10) % 10)]) len M)) apC_app ?_
              refine gs_iconst (v := 1) k (by decide) dX1_appendNumber_61 ?_
              refine gs_istore_n (lv' := [(3, .int 1), (5, .int (nI ((v.toInt.natAbs / 10) % 10))), (4, .int 10), (2, .int (nI v.toInt.natAbs)), (0, .ref (E.2.2.1 56)), (1, .int v)]) k rfl (by decide) rfl dX1_appendNumber_62 ?_
              refine gs_iload (q := 2) k rfl dX1_appendNumber_63 ?_
              refine gs_bipush (v := 10) k (by decide) dX1_appendNumber_65 ?_
              refine gs_idivN (a := 10) (b := 10) k rfl rfl (by omega) (by omega) (by omega) dX1_appendNumber_67 ?_
              refine gs_top (y := 1) (by decide) ?_
              refine gs_istore (lv' := [(4, .int 1), (3, .int 1), (5, .int (nI ((v.toInt.natAbs / 10) % 10))), (2, .int (nI v.toInt.natAbs)), (0, .ref (E.2.2.1 56)), (1, .int v)]) k (by decide) rfl dX1_appendNumber_68 ?_
              refine gs_goto (tgt := 21) k (by decide) dX1_appendNumber_70 ?_
              refine gs_iload (q := 0) k rfl dX1_appendNumber_21 ?_
              refine gs_iconst (v := 1) k (by decide) dX1_appendNumber_23 ?_
              refine gs_icmp_lt (tgt := 73) k (by decide) dX1_appendNumber_24 (fun h => absurd h (by decide)) (fun _ => ?_)
              refine gs_iload_n (q := 3) k rfl rfl dX1_appendNumber_27 ?_
              refine gs_iload (q := 0) k rfl dX1_appendNumber_28 ?_
              refine gs_idivN (a := v.toInt.natAbs) (b := 1) k rfl rfl (by omega) (by omega) (by omega) dX1_appendNumber_30 ?_
              refine gs_bipush (v := 10) k (by decide) dX1_appendNumber_31 ?_
              refine gs_iremN (a := v.toInt.natAbs / 1) (b := 10) k rfl rfl (by omega) (by omega) (by omega) dX1_appendNumber_33 ?_
              refine gs_istore (lv' := [(5, .int (nI ((v.toInt.natAbs / 1) % 10))), (4, .int 1), (3, .int 1), (2, .int (nI v.toInt.natAbs)), (0, .ref (E.2.2.1 56)), (1, .int v)]) k (by decide) rfl dX1_appendNumber_34 ?_
              have H5 : G l E K 51 [(5, .int (nI ((v.toInt.natAbs / 1) % 10))), (4, .int 1), (3, .int 1), (2, .int (nI v.toInt.natAbs)), (0, .ref (E.2.2.1 56)), (1, .int v)] [] (apC ([45] ++ [48 + ((v.toInt.natAbs / 100) % 10)] ++ [48 + ((v.toInt.natAbs / 10) % 10)]) len M) := by
                refine gs_aload_n (q := 4) k rfl rfl dX1_appendNumber_51 ?_
                refine gs_bipush (v := 48) k (by decide) dX1_appendNumber_52 ?_
                refine gs_iload (q := 0) k rfl dX1_appendNumber_54 ?_
                refine gs_iaddN (a := 48) (b := (v.toInt.natAbs / 1) % 10) k rfl rfl dX1_appendNumber_56 ?_
                refine gs_i2c (v := nI (48 + ((v.toInt.natAbs / 1) % 10))) k (i2c_ok _ (by omega)) dX1_appendNumber_57 ?_
                refine gs_callV (As := [.int (nI (48 + ((v.toInt.natAbs / 1) % 10)))]) (k0 := 56) (ci := 1) (T := TX1) (N := 2) k (c_X1_append (c := 48 + ((v.toInt.natAbs / 1) % 10)) hI apC_len (by (try simp only [List.length_append, List.length_cons, List.length_nil]); omega) rfl (by omega)) cf_X1_append im_X1_append sl_X1_append ml_X1_17 (hI 56 (by omega)) rfl rfl (by decide) rfl rfl (Nat.le_of_ble_eq_true rfl) dX1_appendNumber_58 (ppV ?_)
                refine gs_M (M' := (apC ([45] ++ [48 + ((v.toInt.natAbs / 100) % 10)] ++ [48 + ((v.toInt.natAbs / 10) % 10)] ++ [48 + ((v.toInt.natAbs / 1) % 10)]) len M)) apC_app ?_
                refine gs_iconst (v := 1) k (by decide) dX1_appendNumber_61 ?_
                refine gs_istore_n (lv' := [(3, .int 1), (5, .int (nI ((v.toInt.natAbs / 1) % 10))), (4, .int 1), (2, .int (nI v.toInt.natAbs)), (0, .ref (E.2.2.1 56)), (1, .int v)]) k rfl (by decide) rfl dX1_appendNumber_62 ?_
                refine gs_iload (q := 2) k rfl dX1_appendNumber_63 ?_
                refine gs_bipush (v := 10) k (by decide) dX1_appendNumber_65 ?_
                refine gs_idivN (a := 1) (b := 10) k rfl rfl (by omega) (by omega) (by omega) dX1_appendNumber_67 ?_
                refine gs_top (y := 0) (by decide) ?_
                refine gs_istore (lv' := [(4, .int 0), (3, .int 1), (5, .int (nI ((v.toInt.natAbs / 1) % 10))), (2, .int (nI v.toInt.natAbs)), (0, .ref (E.2.2.1 56)), (1, .int v)]) k (by decide) rfl dX1_appendNumber_68 ?_
                refine gs_goto (tgt := 21) k (by decide) dX1_appendNumber_70 ?_
                refine gs_iload (q := 0) k rfl dX1_appendNumber_21 ?_
                refine gs_iconst (v := 1) k (by decide) dX1_appendNumber_23 ?_
                refine gs_icmp_lt (tgt := 73) k (by decide) dX1_appendNumber_24 (fun _ => ?_) (fun h => absurd h (by decide))
                exact gs_vret k kt dX1_appendNumber_73 ⟨rfl, (by
        have hd := dig2 (m := v.toInt.natAbs) (by omega) (by omega)
        unfold num
        rw [ifc_t (Int32.not_le.mp c1), hd]
        try simp only [List.nil_append, List.cons_append, Nat.div_one, List.append_assoc])⟩
              refine gs_iload (q := 0) k rfl dX1_appendNumber_36 ?_
              refine gs_if_gt (tgt := 51) k (by decide) dX1_appendNumber_38 (fun c12 => ?_) (fun c12 => ?_)
              · have ec12 := ngt1 (x := (v.toInt.natAbs / 1) % 10) (by omega) c12
                exact H5
              · have ec12 := ngt0 (x := (v.toInt.natAbs / 1) % 10) (by omega) c12
                refine gs_iload_n (q := 2) k rfl rfl dX1_appendNumber_41 ?_
                refine gs_if_ne (tgt := 51) k (by decide) dX1_appendNumber_42 (fun _ => ?_) (fun h => absurd h (by decide))
                exact H5
            refine gs_iload (q := 0) k rfl dX1_appendNumber_36 ?_
            refine gs_if_gt (tgt := 51) k (by decide) dX1_appendNumber_38 (fun c12 => ?_) (fun c12 => ?_)
            · have ec12 := ngt1 (x := (v.toInt.natAbs / 10) % 10) (by omega) c12
              exact H5
            · have ec12 := ngt0 (x := (v.toInt.natAbs / 10) % 10) (by omega) c12
              refine gs_iload_n (q := 2) k rfl rfl dX1_appendNumber_41 ?_
              refine gs_if_ne (tgt := 51) k (by decide) dX1_appendNumber_42 (fun _ => ?_) (fun h => absurd h (by decide))
              exact H5
          · have ec11 := ngt0 (x := (v.toInt.natAbs / 100) % 10) (by omega) c11
            refine gs_iload_n (q := 2) k rfl rfl dX1_appendNumber_41 ?_
            refine gs_if_ne (tgt := 51) k (by decide) dX1_appendNumber_42 (fun h => absurd h (by decide)) (fun _ => ?_)
            refine gs_iload (q := 1) k rfl dX1_appendNumber_45 ?_
            refine gs_iconst (v := 1) k (by decide) dX1_appendNumber_47 ?_
            refine gs_icmp_ne (tgt := 63) k (by decide) dX1_appendNumber_48 (fun _ => ?_) (fun h => absurd h (by decide))
            refine gs_iload (q := 1) k rfl dX1_appendNumber_63 ?_
            refine gs_bipush (v := 10) k (by decide) dX1_appendNumber_65 ?_
            refine gs_idivN (a := 100) (b := 10) k rfl rfl (by omega) (by omega) (by omega) dX1_appendNumber_67 ?_
            refine gs_top (y := 10) (by decide) ?_
            refine gs_istore (lv' := [(4, .int 10), (5, .int (nI ((v.toInt.natAbs / 100) % 10))), (3, .int 0), (2, .int (nI v.toInt.natAbs)), (0, .ref (E.2.2.1 56)), (1, .int v)]) k (by decide) rfl dX1_appendNumber_68 ?_
            refine gs_goto (tgt := 21) k (by decide) dX1_appendNumber_70 ?_
            refine gs_iload (q := 0) k rfl dX1_appendNumber_21 ?_
            refine gs_iconst (v := 1) k (by decide) dX1_appendNumber_23 ?_
            refine gs_icmp_lt (tgt := 73) k (by decide) dX1_appendNumber_24 (fun h => absurd h (by decide)) (fun _ => ?_)
            refine gs_iload_n (q := 3) k rfl rfl dX1_appendNumber_27 ?_
            refine gs_iload (q := 0) k rfl dX1_appendNumber_28 ?_
            refine gs_idivN (a := v.toInt.natAbs) (b := 10) k rfl rfl (by omega) (by omega) (by omega) dX1_appendNumber_30 ?_
            refine gs_bipush (v := 10) k (by decide) dX1_appendNumber_31 ?_
            refine gs_iremN (a := v.toInt.natAbs / 10) (b := 10) k rfl rfl (by omega) (by omega) (by omega) dX1_appendNumber_33 ?_
            refine gs_istore (lv' := [(5, .int (nI ((v.toInt.natAbs / 10) % 10))), (4, .int 10), (3, .int 0), (2, .int (nI v.toInt.natAbs)), (0, .ref (E.2.2.1 56)), (1, .int v)]) k (by decide) rfl dX1_appendNumber_34 ?_
            refine gs_iload (q := 0) k rfl dX1_appendNumber_36 ?_
            refine gs_if_gt (tgt := 51) k (by decide) dX1_appendNumber_38 (fun c12 => ?_) (fun c12 => ?_)
            · have ec12 := ngt1 (x := (v.toInt.natAbs / 10) % 10) (by omega) c12
              refine gs_aload_n (q := 4) k rfl rfl dX1_appendNumber_51 ?_
              refine gs_bipush (v := 48) k (by decide) dX1_appendNumber_52 ?_
              refine gs_iload (q := 0) k rfl dX1_appendNumber_54 ?_
              refine gs_iaddN (a := 48) (b := (v.toInt.natAbs / 10) % 10) k rfl rfl dX1_appendNumber_56 ?_
              refine gs_i2c (v := nI (48 + ((v.toInt.natAbs / 10) % 10))) k (i2c_ok _ (by omega)) dX1_appendNumber_57 ?_
              refine gs_callV (As := [.int (nI (48 + ((v.toInt.natAbs / 10) % 10)))]) (k0 := 56) (ci := 1) (T := TX1) (N := 2) k (c_X1_append (c := 48 + ((v.toInt.natAbs / 10) % 10)) hI apC_len (by (try simp only [List.length_append, List.length_cons, List.length_nil]); omega) rfl (by omega)) cf_X1_append im_X1_append sl_X1_append ml_X1_17 (hI 56 (by omega)) rfl rfl (by decide) rfl rfl (Nat.le_of_ble_eq_true rfl) dX1_appendNumber_58 (ppV ?_)
              refine gs_M (M' := (apC ([45] ++ [48 + ((v.toInt.natAbs / 10) % 10)]) len M)) apC_app ?_
              refine gs_iconst (v := 1) k (by decide) dX1_appendNumber_61 ?_
              refine gs_istore_n (lv' := [(3, .int 1), (5, .int (nI ((v.toInt.natAbs / 10) % 10))), (4, .int 10), (2, .int (nI v.toInt.natAbs)), (0, .ref (E.2.2.1 56)), (1, .int v)]) k rfl (by decide) rfl dX1_appendNumber_62 ?_
              refine gs_iload (q := 2) k rfl dX1_appendNumber_63 ?_
              refine gs_bipush (v := 10) k (by decide) dX1_appendNumber_65 ?_
              refine gs_idivN (a := 10) (b := 10) k rfl rfl (by omega) (by omega) (by omega) dX1_appendNumber_67 ?_
              refine gs_top (y := 1) (by decide) ?_
              refine gs_istore (lv' := [(4, .int 1), (3, .int 1), (5, .int (nI ((v.toInt.natAbs / 10) % 10))), (2, .int (nI v.toInt.natAbs)), (0, .ref (E.2.2.1 56)), (1, .int v)]) k (by decide) rfl dX1_appendNumber_68 ?_
              refine gs_goto (tgt := 21) k (by decide) dX1_appendNumber_70 ?_
              refine gs_iload (q := 0) k rfl dX1_appendNumber_21 ?_
              refine gs_iconst (v := 1) k (by decide) dX1_appendNumber_23 ?_
              refine gs_icmp_lt (tgt := 73) k (by decide) dX1_appendNumber_24 (fun h => absurd h (by decide)) (fun _ => ?_)
              refine gs_iload_n (q := 3) k rfl rfl dX1_appendNumber_27 ?_
              refine gs_iload (q := 0) k rfl dX1_appendNumber_28 ?_
              refine gs_idivN (a := v.toInt.natAbs) (b := 1) k rfl rfl (by omega) (by omega) (by omega) dX1_appendNumber_30 ?_
              refine gs_bipush (v := 10) k (by decide) dX1_appendNumber_31 ?_
              refine gs_iremN (a := v.toInt.natAbs / 1) (b := 10) k rfl rfl (by omega) (by omega) (by omega) dX1_appendNumber_33 ?_
              refine gs_istore (lv' := [(5, .int (nI ((v.toInt.natAbs / 1) % 10))), (4, .int 1), (3, .int 1), (2, .int (nI v.toInt.natAbs)), (0, .ref (E.2.2.1 56)), (1, .int v)]) k (by decide) rfl dX1_appendNumber_34 ?_
              have H6 : G l E K 51 [(5, .int (nI ((v.toInt.natAbs / 1) % 10))), (4, .int 1), (3, .int 1), (2, .int (nI v.toInt.natAbs)), (0, .ref (E.2.2.1 56)), (1, .int v)] [] (apC ([45] ++ [48 + ((v.toInt.natAbs / 10) % 10)]) len M) := by
                refine gs_aload_n (q := 4) k rfl rfl dX1_appendNumber_51 ?_
                refine gs_bipush (v := 48) k (by decide) dX1_appendNumber_52 ?_
                refine gs_iload (q := 0) k rfl dX1_appendNumber_54 ?_
                refine gs_iaddN (a := 48) (b := (v.toInt.natAbs / 1) % 10) k rfl rfl dX1_appendNumber_56 ?_
                refine gs_i2c (v := nI (48 + ((v.toInt.natAbs / 1) % 10))) k (i2c_ok _ (by omega)) dX1_appendNumber_57 ?_
                refine gs_callV (As := [.int (nI (48 + ((v.toInt.natAbs / 1) % 10)))]) (k0 := 56) (ci := 1) (T := TX1) (N := 2) k (c_X1_append (c := 48 + ((v.toInt.natAbs / 1) % 10)) hI apC_len (by (try simp only [List.length_append, List.length_cons, List.length_nil]); omega) rfl (by omega)) cf_X1_append im_X1_append sl_X1_append ml_X1_17 (hI 56 (by omega)) rfl rfl (by decide) rfl rfl (Nat.le_of_ble_eq_true rfl) dX1_appendNumber_58 (ppV ?_)
                refine gs_M (M' := (apC ([45] ++ [48 + ((v.toInt.natAbs / 10) % 10)] ++ [48 + ((v.toInt.natAbs / 1) % 10)]) len M)) apC_app ?_
                refine gs_iconst (v := 1) k (by decide) dX1_appendNumber_61 ?_
                refine gs_istore_n (lv' := [(3, .int 1), (5, .int (nI ((v.toInt.natAbs / 1) % 10))), (4, .int 1), (2, .int (nI v.toInt.natAbs)), (0, .ref (E.2.2.1 56)), (1, .int v)]) k rfl (by decide) rfl dX1_appendNumber_62 ?_
                refine gs_iload (q := 2) k rfl dX1_appendNumber_63 ?_
                refine gs_bipush (v := 10) k (by decide) dX1_appendNumber_65 ?_
                refine gs_idivN (a := 1) (b := 10) k rfl rfl (by omega) (by omega) (by omega) dX1_appendNumber_67 ?_
                refine gs_top (y := 0) (by decide) ?_
                refine gs_istore (lv' := [(4, .int 0), (3, .int 1), (5, .int (nI ((v.toInt.natAbs / 1) % 10))), (2, .int (nI v.toInt.natAbs)), (0, .ref (E.2.2.1 56)), (1, .int v)]) k (by decide) rfl dX1_appendNumber_68 ?_
                refine gs_goto (tgt := 21) k (by decide) dX1_appendNumber_70 ?_
                refine gs_iload (q := 0) k rfl dX1_appendNumber_21 ?_
                refine gs_iconst (v := 1) k (by decide) dX1_appendNumber_23 ?_
                refine gs_icmp_lt (tgt := 73) k (by decide) dX1_appendNumber_24 (fun _ => ?_) (fun h => absurd h (by decide))
                exact gs_vret k kt dX1_appendNumber_73 ⟨rfl, (by
        have hd := dig1 (m := v.toInt.natAbs) (by omega) (by omega)
        unfold num
        rw [ifc_t (Int32.not_le.mp c1), hd]
        try simp only [List.nil_append, List.cons_append, Nat.div_one, List.append_assoc])⟩
              refine gs_iload (q := 0) k rfl dX1_appendNumber_36 ?_
              refine gs_if_gt (tgt := 51) k (by decide) dX1_appendNumber_38 (fun c13 => ?_) (fun c13 => ?_)
              · have ec13 := ngt1 (x := (v.toInt.natAbs / 1) % 10) (by omega) c13
                exact H6
              · have ec13 := ngt0 (x := (v.toInt.natAbs / 1) % 10) (by omega) c13
                refine gs_iload_n (q := 2) k rfl rfl dX1_appendNumber_41 ?_
                refine gs_if_ne (tgt := 51) k (by decide) dX1_appendNumber_42 (fun _ => ?_) (fun h => absurd h (by decide))
                exact H6
            · have ec12 := ngt0 (x := (v.toInt.natAbs / 10) % 10) (by omega) c12
              refine gs_iload_n (q := 2) k rfl rfl dX1_appendNumber_41 ?_
              refine gs_if_ne (tgt := 51) k (by decide) dX1_appendNumber_42 (fun h => absurd h (by decide)) (fun _ => ?_)
              refine gs_iload (q := 1) k rfl dX1_appendNumber_45 ?_
              refine gs_iconst (v := 1) k (by decide) dX1_appendNumber_47 ?_
              refine gs_icmp_ne (tgt := 63) k (by decide) dX1_appendNumber_48 (fun _ => ?_) (fun h => absurd h (by decide))
              refine gs_iload (q := 1) k rfl dX1_appendNumber_63 ?_
              refine gs_bipush (v := 10) k (by decide) dX1_appendNumber_65 ?_
              refine gs_idivN (a := 10) (b := 10) k rfl rfl (by omega) (by omega) (by omega) dX1_appendNumber_67 ?_
              refine gs_top (y := 1) (by decide) ?_
              refine gs_istore (lv' := [(4, .int 1), (5, .int (nI ((v.toInt.natAbs / 10) % 10))), (3, .int 0), (2, .int (nI v.toInt.natAbs)), (0, .ref (E.2.2.1 56)), (1, .int v)]) k (by decide) rfl dX1_appendNumber_68 ?_
              refine gs_goto (tgt := 21) k (by decide) dX1_appendNumber_70 ?_
              refine gs_iload (q := 0) k rfl dX1_appendNumber_21 ?_
              refine gs_iconst (v := 1) k (by decide) dX1_appendNumber_23 ?_
              refine gs_icmp_lt (tgt := 73) k (by decide) dX1_appendNumber_24 (fun h => absurd h (by decide)) (fun _ => ?_)
              refine gs_iload_n (q := 3) k rfl rfl dX1_appendNumber_27 ?_
              refine gs_iload (q := 0) k rfl dX1_appendNumber_28 ?_
              refine gs_idivN (a := v.toInt.natAbs) (b := 1) k rfl rfl (by omega) (by omega) (by omega) dX1_appendNumber_30 ?_
              refine gs_bipush (v := 10) k (by decide) dX1_appendNumber_31 ?_
              refine gs_iremN (a := v.toInt.natAbs / 1) (b := 10) k rfl rfl (by omega) (by omega) (by omega) dX1_appendNumber_33 ?_
              refine gs_istore (lv' := [(5, .int (nI ((v.toInt.natAbs / 1) % 10))), (4, .int 1), (3, .int 0), (2, .int (nI v.toInt.natAbs)), (0, .ref (E.2.2.1 56)), (1, .int v)]) k (by decide) rfl dX1_appendNumber_34 ?_
              refine gs_iload (q := 0) k rfl dX1_appendNumber_36 ?_
              refine gs_if_gt (tgt := 51) k (by decide) dX1_appendNumber_38 (fun c13 => ?_) (fun c13 => ?_)
              · have ec13 := ngt1 (x := (v.toInt.natAbs / 1) % 10) (by omega) c13
                refine gs_aload_n (q := 4) k rfl rfl dX1_appendNumber_51 ?_
                refine gs_bipush (v := 48) k (by decide) dX1_appendNumber_52 ?_
                refine gs_iload (q := 0) k rfl dX1_appendNumber_54 ?_
                refine gs_iaddN (a := 48) (b := (v.toInt.natAbs / 1) % 10) k rfl rfl dX1_appendNumber_56 ?_
                refine gs_i2c (v := nI (48 + ((v.toInt.natAbs / 1) % 10))) k (i2c_ok _ (by omega)) dX1_appendNumber_57 ?_
                refine gs_callV (As := [.int (nI (48 + ((v.toInt.natAbs / 1) % 10)))]) (k0 := 56) (ci := 1) (T := TX1) (N := 2) k (c_X1_append (c := 48 + ((v.toInt.natAbs / 1) % 10)) hI apC_len (by (try simp only [List.length_append, List.length_cons, List.length_nil]); omega) rfl (by omega)) cf_X1_append im_X1_append sl_X1_append ml_X1_17 (hI 56 (by omega)) rfl rfl (by decide) rfl rfl (Nat.le_of_ble_eq_true rfl) dX1_appendNumber_58 (ppV ?_)
                refine gs_M (M' := (apC ([45] ++ [48 + ((v.toInt.natAbs / 1) % 10)]) len M)) apC_app ?_
                refine gs_iconst (v := 1) k (by decide) dX1_appendNumber_61 ?_
                refine gs_istore_n (lv' := [(3, .int 1), (5, .int (nI ((v.toInt.natAbs / 1) % 10))), (4, .int 1), (2, .int (nI v.toInt.natAbs)), (0, .ref (E.2.2.1 56)), (1, .int v)]) k rfl (by decide) rfl dX1_appendNumber_62 ?_
                refine gs_iload (q := 2) k rfl dX1_appendNumber_63 ?_
                refine gs_bipush (v := 10) k (by decide) dX1_appendNumber_65 ?_
                refine gs_idivN (a := 1) (b := 10) k rfl rfl (by omega) (by omega) (by omega) dX1_appendNumber_67 ?_
                refine gs_top (y := 0) (by decide) ?_
                refine gs_istore (lv' := [(4, .int 0), (3, .int 1), (5, .int (nI ((v.toInt.natAbs / 1) % 10))), (2, .int (nI v.toInt.natAbs)), (0, .ref (E.2.2.1 56)), (1, .int v)]) k (by decide) rfl dX1_appendNumber_68 ?_
                refine gs_goto (tgt := 21) k (by decide) dX1_appendNumber_70 ?_
                refine gs_iload (q := 0) k rfl dX1_appendNumber_21 ?_
                refine gs_iconst (v := 1) k (by decide) dX1_appendNumber_23 ?_
                refine gs_icmp_lt (tgt := 73) k (by decide) dX1_appendNumber_24 (fun _ => ?_) (fun h => absurd h (by decide))
                exact gs_vret k kt dX1_appendNumber_73 ⟨rfl, (by
        have hd := dig0 (m := v.toInt.natAbs) (by omega)
        unfold num
        rw [ifc_t (Int32.not_le.mp c1), hd]
        try simp only [List.nil_append, List.cons_append, Nat.div_one, List.append_assoc])⟩
              · have ec13 := ngt0 (x := (v.toInt.natAbs / 1) % 10) (by omega) c13
                refine gs_iload_n (q := 2) k rfl rfl dX1_appendNumber_41 ?_
                refine gs_if_ne (tgt := 51) k (by decide) dX1_appendNumber_42 (fun h => absurd h (by decide)) (fun _ => ?_)
                refine gs_iload (q := 1) k rfl dX1_appendNumber_45 ?_
                refine gs_iconst (v := 1) k (by decide) dX1_appendNumber_47 ?_
                refine gs_icmp_ne (tgt := 63) k (by decide) dX1_appendNumber_48 (fun h => absurd h (by decide)) (fun _ => ?_)
                refine gs_aload_n (q := 4) k rfl rfl dX1_appendNumber_51 ?_
                refine gs_bipush (v := 48) k (by decide) dX1_appendNumber_52 ?_
                refine gs_iload (q := 0) k rfl dX1_appendNumber_54 ?_
                refine gs_iaddN (a := 48) (b := (v.toInt.natAbs / 1) % 10) k rfl rfl dX1_appendNumber_56 ?_
                refine gs_i2c (v := nI (48 + ((v.toInt.natAbs / 1) % 10))) k (i2c_ok _ (by omega)) dX1_appendNumber_57 ?_
                refine gs_callV (As := [.int (nI (48 + ((v.toInt.natAbs / 1) % 10)))]) (k0 := 56) (ci := 1) (T := TX1) (N := 2) k (c_X1_append (c := 48 + ((v.toInt.natAbs / 1) % 10)) hI apC_len (by (try simp only [List.length_append, List.length_cons, List.length_nil]); omega) rfl (by omega)) cf_X1_append im_X1_append sl_X1_append ml_X1_17 (hI 56 (by omega)) rfl rfl (by decide) rfl rfl (Nat.le_of_ble_eq_true rfl) dX1_appendNumber_58 (ppV ?_)
                refine gs_M (M' := (apC ([45] ++ [48 + ((v.toInt.natAbs / 1) % 10)]) len M)) apC_app ?_
                refine gs_iconst (v := 1) k (by decide) dX1_appendNumber_61 ?_
                refine gs_istore_n (lv' := [(3, .int 1), (5, .int (nI ((v.toInt.natAbs / 1) % 10))), (4, .int 1), (2, .int (nI v.toInt.natAbs)), (0, .ref (E.2.2.1 56)), (1, .int v)]) k rfl (by decide) rfl dX1_appendNumber_62 ?_
                refine gs_iload (q := 2) k rfl dX1_appendNumber_63 ?_
                refine gs_bipush (v := 10) k (by decide) dX1_appendNumber_65 ?_
                refine gs_idivN (a := 1) (b := 10) k rfl rfl (by omega) (by omega) (by omega) dX1_appendNumber_67 ?_
                refine gs_top (y := 0) (by decide) ?_
                refine gs_istore (lv' := [(4, .int 0), (3, .int 1), (5, .int (nI ((v.toInt.natAbs / 1) % 10))), (2, .int (nI v.toInt.natAbs)), (0, .ref (E.2.2.1 56)), (1, .int v)]) k (by decide) rfl dX1_appendNumber_68 ?_
                refine gs_goto (tgt := 21) k (by decide) dX1_appendNumber_70 ?_
                refine gs_iload (q := 0) k rfl dX1_appendNumber_21 ?_
                refine gs_iconst (v := 1) k (by decide) dX1_appendNumber_23 ?_
                refine gs_icmp_lt (tgt := 73) k (by decide) dX1_appendNumber_24 (fun _ => ?_) (fun h => absurd h (by decide))
                exact gs_vret k kt dX1_appendNumber_73 ⟨rfl, (by
        have hd := dig0 (m := v.toInt.natAbs) (by omega)
        unfold num
        rw [ifc_t (Int32.not_le.mp c1), hd]
        try simp only [List.nil_append, List.cons_append, Nat.div_one, List.append_assoc])⟩

theorem cf_X7_saysNumber : CF yX7_saysNumber cX7_saysNumber 3 none 1 := ⟨cd_X7_saysNumber, iz_X7, by decide, by decide +kernel, by decide +kernel, by decide +kernel⟩
set_option maxRecDepth 100000 in
set_option maxHeartbeats 4000000 in
theorem c_X7_saysNat {l : Launch} {E : Ev} (hI : ∀ k, k < 108 → k ∈ E.2.1) : ∀ (d : Nat), d ≤ 5 → ∀ {M : Mm} {m len : Nat} (hl : M 65 20 = nI len) (hlen : len + (d + 1) ≤ 512) (hm : m < 10 ^ (d + 1)), Cm l E yX7_saysNumber cX7_saysNumber 3 none (d + 1) [.ref (E.2.2.1 65), .int (nI m)] M (pV (apR (dRf (d + 1) m) len M)) := by
  intro d
  induction d with
  | zero =>
    intro hd5 M m len hl hlen hm
    refine Cm.of (by decide) (Nat.le_of_ble_eq_true rfl) (fun K k kt => ?_)
    show G l E K 0 [(0, .ref (E.2.2.1 65)), (1, .int (nI m))] [] M
    refine gs_iload_n (q := 1) k rfl rfl dX7_saysNumber_0 ?_
    refine gs_if_ge (tgt := 10) k (by decide) dX7_saysNumber_1 (fun _ => ?_) (fun h => absurd (nnge rfl (by omega)) h)
    refine gs_iload_n (q := 1) k rfl rfl dX7_saysNumber_10 ?_
    refine gs_abs k ml_X7_244 (by omega) (Nat.le_of_ble_eq_true rfl) dX7_saysNumber_11 ?_
    refine gs_top (y := nI m) (iabs_nat (by omega)) ?_
    refine gs_istore_n (lv' := [(2, .int (nI m)), (0, .ref (E.2.2.1 65)), (1, .int (nI m))]) k rfl (by decide) rfl dX7_saysNumber_14 ?_
    refine gs_iload_n (q := 0) k rfl rfl dX7_saysNumber_15 ?_
    refine gs_bipush (v := 9) k (by decide) dX7_saysNumber_16 ?_
    refine gs_icmpN_le (a := m) (b := 9) (tgt := 29) k rfl rfl (by omega) (by omega) (by decide) dX7_saysNumber_18 (fun c1 => ?_) (fun c1 => absurd c1 (by omega))
    refine gs_aload_n (q := 1) k rfl rfl dX7_saysNumber_29 ?_
    refine gs_bipush (v := 48) k (by decide) dX7_saysNumber_30 ?_
    refine gs_iload_n (q := 0) k rfl rfl dX7_saysNumber_32 ?_
    refine gs_bipush (v := 10) k (by decide) dX7_saysNumber_33 ?_
    refine gs_iremN (a := m) (b := 10) k rfl rfl (by omega) (by omega) (by omega) dX7_saysNumber_35 ?_
    refine gs_iaddN (a := 48) (b := m % 10) k rfl rfl dX7_saysNumber_36 ?_
    refine gs_callV (As := [.int (nI (48 + (m % 10)))]) (k0 := 65) (ci := 7) (T := TX7) (N := 27) k (c_X7_says (c := 48 + (m % 10)) hI hl (by omega) rfl (by omega)) cf_X7_says im_X7_says sl_X7_says ml_X7_356 (hI 65 (by omega)) rfl rfl (by omega) rfl rfl (Nat.le_of_ble_eq_true rfl) dX7_saysNumber_37 (ppV ?_)
    exact gs_vret k kt dX7_saysNumber_40 ⟨rfl, congrArg (fun L => apR L len M) (dRf_z c1).symm⟩
  | succ d ih =>
    intro hd5 M m len hl hlen hm
    have hm6 : m < 1000000 := Nat.lt_of_lt_of_le hm (Nat.pow_le_pow_right (n := 10) (by omega) (show d + 1 + 1 ≤ 6 by omega))
    refine Cm.of (by decide) (Nat.le_of_ble_eq_true rfl) (fun K k kt => ?_)
    show G l E K 0 [(0, .ref (E.2.2.1 65)), (1, .int (nI m))] [] M
    refine gs_iload_n (q := 1) k rfl rfl dX7_saysNumber_0 ?_
    refine gs_if_ge (tgt := 10) k (by decide) dX7_saysNumber_1 (fun _ => ?_) (fun h => absurd (nnge rfl (by omega)) h)
    refine gs_iload_n (q := 1) k rfl rfl dX7_saysNumber_10 ?_
    refine gs_abs k ml_X7_244 (by omega) (Nat.le_of_ble_eq_true rfl) dX7_saysNumber_11 ?_
    refine gs_top (y := nI m) (iabs_nat (by omega)) ?_
    refine gs_istore_n (lv' := [(2, .int (nI m)), (0, .ref (E.2.2.1 65)), (1, .int (nI m))]) k rfl (by decide) rfl dX7_saysNumber_14 ?_
    refine gs_iload_n (q := 0) k rfl rfl dX7_saysNumber_15 ?_
    refine gs_bipush (v := 9) k (by decide) dX7_saysNumber_16 ?_
    refine gs_icmpN_le (a := m) (b := 9) (tgt := 29) k rfl rfl (by omega) (by omega) (by decide) dX7_saysNumber_18 (fun c1 => ?_) (fun c1 => ?_)
    · refine gs_aload_n (q := 1) k rfl rfl dX7_saysNumber_29 ?_
      refine gs_bipush (v := 48) k (by decide) dX7_saysNumber_30 ?_
      refine gs_iload_n (q := 0) k rfl rfl dX7_saysNumber_32 ?_
      refine gs_bipush (v := 10) k (by decide) dX7_saysNumber_33 ?_
      refine gs_iremN (a := m) (b := 10) k rfl rfl (by omega) (by omega) (by omega) dX7_saysNumber_35 ?_
      refine gs_iaddN (a := 48) (b := m % 10) k rfl rfl dX7_saysNumber_36 ?_
      refine gs_callV (As := [.int (nI (48 + (m % 10)))]) (k0 := 65) (ci := 7) (T := TX7) (N := 27) k (c_X7_says (c := 48 + (m % 10)) hI hl (by omega) rfl (by omega)) cf_X7_says im_X7_says sl_X7_says ml_X7_356 (hI 65 (by omega)) rfl rfl (by omega) rfl rfl (Nat.le_of_ble_eq_true rfl) dX7_saysNumber_37 (ppV ?_)
      exact gs_vret k kt dX7_saysNumber_40 ⟨rfl, congrArg (fun L => apR L len M) (dRf_z c1).symm⟩
    · refine gs_aload_n (q := 1) k rfl rfl dX7_saysNumber_21 ?_
      refine gs_iload_n (q := 0) k rfl rfl dX7_saysNumber_22 ?_
      refine gs_bipush (v := 10) k (by decide) dX7_saysNumber_23 ?_
      refine gs_idivN (a := m) (b := 10) k rfl rfl (by omega) (by omega) (by omega) dX7_saysNumber_25 ?_
      refine gs_callV (As := [.int (nI (m / 10))]) (k0 := 65) (ci := 7) (T := TX7) (N := 27) k (ih (by omega) (m := m / 10) (len := len) hl (by omega) (by rw [Nat.pow_succ] at hm; omega)) cf_X7_saysNumber im_X7_saysNumber sl_X7_saysNumber ml_X7_359 (hI 65 (by omega)) rfl rfl (by omega) rfl rfl (Nat.le_of_ble_eq_true rfl) dX7_saysNumber_26 (ppV ?_)
      have hdl := dRf_len (d + 1) (m / 10)
      refine gs_aload_n (q := 1) k rfl rfl dX7_saysNumber_29 ?_
      refine gs_bipush (v := 48) k (by decide) dX7_saysNumber_30 ?_
      refine gs_iload_n (q := 0) k rfl rfl dX7_saysNumber_32 ?_
      refine gs_bipush (v := 10) k (by decide) dX7_saysNumber_33 ?_
      refine gs_iremN (a := m) (b := 10) k rfl rfl (by omega) (by omega) (by omega) dX7_saysNumber_35 ?_
      refine gs_iaddN (a := 48) (b := m % 10) k rfl rfl dX7_saysNumber_36 ?_
      refine gs_callV (As := [.int (nI (48 + (m % 10)))]) (k0 := 65) (ci := 7) (T := TX7) (N := 27) k (c_X7_says (c := 48 + (m % 10)) hI apR_len (by (try simp only [List.length_append, List.length_cons, List.length_nil]); omega) rfl (by omega)) cf_X7_says im_X7_says sl_X7_says ml_X7_356 (hI 65 (by omega)) rfl rfl (by omega) rfl rfl (Nat.le_of_ble_eq_true rfl) dX7_saysNumber_37 (ppV ?_)
      refine gs_M (M' := (apR (dRf (d + 1) (m / 10) ++ [48 + (m % 10)]) len M)) apR_app ?_
      exact gs_vret k kt dX7_saysNumber_40 ⟨rfl, congrArg (fun L => apR L len M) (dRf_s c1).symm⟩
set_option maxRecDepth 100000 in
set_option maxHeartbeats 4000000 in
theorem c_X7_saysNumber {l : Launch} {E : Ev} {M : Mm} (hI : ∀ k, k < 108 → k ∈ E.2.1) {len : Nat} (hl : M 65 20 = nI len) (hlen : len + 7 ≤ 512) {v : Int32} (hv : isV v) : Cm l E yX7_saysNumber cX7_saysNumber 3 none 6 [.ref (E.2.2.1 65), .int v] M (pV (apR (num v) len M)) := by
  refine Cm.of (by decide) (Nat.le_of_ble_eq_true rfl) (fun K k kt => ?_)
  show G l E K 0 [(0, .ref (E.2.2.1 65)), (1, .int v)] [] M
  obtain ⟨hv1, hv2⟩ := isV_abs hv
  refine gs_iload_n (q := 1) k rfl rfl dX7_saysNumber_0 ?_
  refine gs_if_ge (tgt := 10) k (by decide) dX7_saysNumber_1 (fun c1 => ?_) (fun c1 => ?_)
  · refine gs_iload_n (q := 1) k rfl rfl dX7_saysNumber_10 ?_
    refine gs_abs k ml_X7_244 (by decide) (Nat.le_of_ble_eq_true rfl) dX7_saysNumber_11 ?_
    refine gs_top (y := nI v.toInt.natAbs) (iabs_n hv1) ?_
    refine gs_istore_n (lv' := [(2, .int (nI v.toInt.natAbs)), (0, .ref (E.2.2.1 65)), (1, .int v)]) k rfl (by decide) rfl dX7_saysNumber_14 ?_
    refine gs_iload_n (q := 0) k rfl rfl dX7_saysNumber_15 ?_
    refine gs_bipush (v := 9) k (by decide) dX7_saysNumber_16 ?_
    refine gs_icmpN_le (a := v.toInt.natAbs) (b := 9) (tgt := 29) k rfl rfl (by omega) (by omega) (by decide) dX7_saysNumber_18 (fun c2 => ?_) (fun c2 => ?_)
    · refine gs_aload_n (q := 1) k rfl rfl dX7_saysNumber_29 ?_
      refine gs_bipush (v := 48) k (by decide) dX7_saysNumber_30 ?_
      refine gs_iload_n (q := 0) k rfl rfl dX7_saysNumber_32 ?_
      refine gs_bipush (v := 10) k (by decide) dX7_saysNumber_33 ?_
      refine gs_iremN (a := v.toInt.natAbs) (b := 10) k rfl rfl (by omega) (by omega) (by omega) dX7_saysNumber_35 ?_
      refine gs_iaddN (a := 48) (b := v.toInt.natAbs % 10) k rfl rfl dX7_saysNumber_36 ?_
      refine gs_callV (As := [.int (nI (48 + (v.toInt.natAbs % 10)))]) (k0 := 65) (ci := 7) (T := TX7) (N := 27) k (c_X7_says (c := 48 + (v.toInt.natAbs % 10)) hI hl (by omega) rfl (by omega)) cf_X7_says im_X7_says sl_X7_says ml_X7_356 (hI 65 (by omega)) rfl rfl (by decide) rfl rfl (Nat.le_of_ble_eq_true rfl) dX7_saysNumber_37 (ppV ?_)
      exact gs_vret k kt dX7_saysNumber_40 ⟨rfl, congrArg (fun L => apR L len M) (show [48 + (v.toInt.natAbs % 10)] = num v by unfold num; rw [ifc_f (Int32.not_lt.mpr c1), dRf_z c2]; try rfl)⟩
    · refine gs_aload_n (q := 1) k rfl rfl dX7_saysNumber_21 ?_
      refine gs_iload_n (q := 0) k rfl rfl dX7_saysNumber_22 ?_
      refine gs_bipush (v := 10) k (by decide) dX7_saysNumber_23 ?_
      refine gs_idivN (a := v.toInt.natAbs) (b := 10) k rfl rfl (by omega) (by omega) (by omega) dX7_saysNumber_25 ?_
      refine gs_callV (As := [.int (nI (v.toInt.natAbs / 10))]) (k0 := 65) (ci := 7) (T := TX7) (N := 27) k (c_X7_saysNat hI 4 (by omega) (m := v.toInt.natAbs / 10) (len := len) hl (by omega) (by omega)) cf_X7_saysNumber im_X7_saysNumber sl_X7_saysNumber ml_X7_359 (hI 65 (by omega)) rfl rfl (by decide) rfl rfl (Nat.le_of_ble_eq_true rfl) dX7_saysNumber_26 (ppV ?_)
      have hdl := dRf_len (4 + 1) (v.toInt.natAbs / 10)
      refine gs_aload_n (q := 1) k rfl rfl dX7_saysNumber_29 ?_
      refine gs_bipush (v := 48) k (by decide) dX7_saysNumber_30 ?_
      refine gs_iload_n (q := 0) k rfl rfl dX7_saysNumber_32 ?_
      refine gs_bipush (v := 10) k (by decide) dX7_saysNumber_33 ?_
      refine gs_iremN (a := v.toInt.natAbs) (b := 10) k rfl rfl (by omega) (by omega) (by omega) dX7_saysNumber_35 ?_
      refine gs_iaddN (a := 48) (b := v.toInt.natAbs % 10) k rfl rfl dX7_saysNumber_36 ?_
      refine gs_callV (As := [.int (nI (48 + (v.toInt.natAbs % 10)))]) (k0 := 65) (ci := 7) (T := TX7) (N := 27) k (c_X7_says (c := 48 + (v.toInt.natAbs % 10)) hI apR_len (by (try simp only [List.length_append, List.length_cons, List.length_nil]); omega) rfl (by omega)) cf_X7_says im_X7_says sl_X7_says ml_X7_356 (hI 65 (by omega)) rfl rfl (by decide) rfl rfl (Nat.le_of_ble_eq_true rfl) dX7_saysNumber_37 (ppV ?_)
      refine gs_M (M' := (apR (dRf (4 + 1) (v.toInt.natAbs / 10) ++ [48 + (v.toInt.natAbs % 10)]) len M)) apR_app ?_
      exact gs_vret k kt dX7_saysNumber_40 ⟨rfl, congrArg (fun L => apR L len M) (show dRf (4 + 1) (v.toInt.natAbs / 10) ++ [48 + (v.toInt.natAbs % 10)] = num v by unfold num; rw [ifc_f (Int32.not_lt.mpr c1), dRf_s c2]; try rfl)⟩
  · refine gs_aload_n (q := 0) k rfl rfl dX7_saysNumber_4 ?_
    refine gs_bipush (v := 45) k (by decide) dX7_saysNumber_5 ?_
    refine gs_callV (As := [.int 45]) (k0 := 65) (ci := 7) (T := TX7) (N := 27) k (c_X7_says (c := 45) hI hl (by omega) rfl (by omega)) cf_X7_says im_X7_says sl_X7_says ml_X7_356 (hI 65 (by omega)) rfl rfl (by decide) rfl rfl (Nat.le_of_ble_eq_true rfl) dX7_saysNumber_7 (ppV ?_)
    refine gs_iload_n (q := 1) k rfl rfl dX7_saysNumber_10 ?_
    refine gs_abs k ml_X7_244 (by decide) (Nat.le_of_ble_eq_true rfl) dX7_saysNumber_11 ?_
    refine gs_top (y := nI v.toInt.natAbs) (iabs_n hv1) ?_
    refine gs_istore_n (lv' := [(2, .int (nI v.toInt.natAbs)), (0, .ref (E.2.2.1 65)), (1, .int v)]) k rfl (by decide) rfl dX7_saysNumber_14 ?_
    refine gs_iload_n (q := 0) k rfl rfl dX7_saysNumber_15 ?_
    refine gs_bipush (v := 9) k (by decide) dX7_saysNumber_16 ?_
    refine gs_icmpN_le (a := v.toInt.natAbs) (b := 9) (tgt := 29) k rfl rfl (by omega) (by omega) (by decide) dX7_saysNumber_18 (fun c3 => ?_) (fun c3 => ?_)
    · refine gs_aload_n (q := 1) k rfl rfl dX7_saysNumber_29 ?_
      refine gs_bipush (v := 48) k (by decide) dX7_saysNumber_30 ?_
      refine gs_iload_n (q := 0) k rfl rfl dX7_saysNumber_32 ?_
      refine gs_bipush (v := 10) k (by decide) dX7_saysNumber_33 ?_
      refine gs_iremN (a := v.toInt.natAbs) (b := 10) k rfl rfl (by omega) (by omega) (by omega) dX7_saysNumber_35 ?_
      refine gs_iaddN (a := 48) (b := v.toInt.natAbs % 10) k rfl rfl dX7_saysNumber_36 ?_
      refine gs_callV (As := [.int (nI (48 + (v.toInt.natAbs % 10)))]) (k0 := 65) (ci := 7) (T := TX7) (N := 27) k (c_X7_says (c := 48 + (v.toInt.natAbs % 10)) hI apR_len (by (try simp only [List.length_append, List.length_cons, List.length_nil]); omega) rfl (by omega)) cf_X7_says im_X7_says sl_X7_says ml_X7_356 (hI 65 (by omega)) rfl rfl (by decide) rfl rfl (Nat.le_of_ble_eq_true rfl) dX7_saysNumber_37 (ppV ?_)
      refine gs_M (M' := (apR ([45] ++ [48 + (v.toInt.natAbs % 10)]) len M)) apR_app ?_
      exact gs_vret k kt dX7_saysNumber_40 ⟨rfl, congrArg (fun L => apR L len M) (show [45] ++ [48 + (v.toInt.natAbs % 10)] = num v by unfold num; rw [ifc_t (Int32.not_le.mp c1), dRf_z c3]; try rfl)⟩
    · refine gs_aload_n (q := 1) k rfl rfl dX7_saysNumber_21 ?_
      refine gs_iload_n (q := 0) k rfl rfl dX7_saysNumber_22 ?_
      refine gs_bipush (v := 10) k (by decide) dX7_saysNumber_23 ?_
      refine gs_idivN (a := v.toInt.natAbs) (b := 10) k rfl rfl (by omega) (by omega) (by omega) dX7_saysNumber_25 ?_
      refine gs_callV (As := [.int (nI (v.toInt.natAbs / 10))]) (k0 := 65) (ci := 7) (T := TX7) (N := 27) k (c_X7_saysNat hI 4 (by omega) (m := v.toInt.natAbs / 10) (len := (len + ([45]).length)) apR_len (by have := dRf_len (4 + 1) (v.toInt.natAbs / 10); simp only [List.length_cons, List.length_nil]; omega) (by omega)) cf_X7_saysNumber im_X7_saysNumber sl_X7_saysNumber ml_X7_359 (hI 65 (by omega)) rfl rfl (by decide) rfl rfl (Nat.le_of_ble_eq_true rfl) dX7_saysNumber_26 (ppV ?_)
      refine gs_M (M' := (apR ([45] ++ dRf (4 + 1) (v.toInt.natAbs / 10)) len M)) apR_app ?_
      have hdl := dRf_len (4 + 1) (v.toInt.natAbs / 10)
      refine gs_aload_n (q := 1) k rfl rfl dX7_saysNumber_29 ?_
      refine gs_bipush (v := 48) k (by decide) dX7_saysNumber_30 ?_
      refine gs_iload_n (q := 0) k rfl rfl dX7_saysNumber_32 ?_
      refine gs_bipush (v := 10) k (by decide) dX7_saysNumber_33 ?_
      refine gs_iremN (a := v.toInt.natAbs) (b := 10) k rfl rfl (by omega) (by omega) (by omega) dX7_saysNumber_35 ?_
      refine gs_iaddN (a := 48) (b := v.toInt.natAbs % 10) k rfl rfl dX7_saysNumber_36 ?_
      refine gs_callV (As := [.int (nI (48 + (v.toInt.natAbs % 10)))]) (k0 := 65) (ci := 7) (T := TX7) (N := 27) k (c_X7_says (c := 48 + (v.toInt.natAbs % 10)) hI apR_len (by (try simp only [List.length_append, List.length_cons, List.length_nil]); omega) rfl (by omega)) cf_X7_says im_X7_says sl_X7_says ml_X7_356 (hI 65 (by omega)) rfl rfl (by decide) rfl rfl (Nat.le_of_ble_eq_true rfl) dX7_saysNumber_37 (ppV ?_)
      refine gs_M (M' := (apR ([45] ++ dRf (4 + 1) (v.toInt.natAbs / 10) ++ [48 + (v.toInt.natAbs % 10)]) len M)) apR_app ?_
      exact gs_vret k kt dX7_saysNumber_40 ⟨rfl, congrArg (fun L => apR L len M) (show [45] ++ dRf (4 + 1) (v.toInt.natAbs / 10) ++ [48 + (v.toInt.natAbs % 10)] = num v by unfold num; rw [ifc_t (Int32.not_le.mp c1), dRf_s c3]; try rfl)⟩

noncomputable def A_write (x : Int32) (kd : Nat → Int32) (f : Int32) : Int32 := ifc (inR f 6) (ifc (¬ kd (tn f) < 0) x (-11)) (-1)
noncomputable def U_write (U : Mm) (kd : Nat → Int32) (f : Int32) (M : Mm) : Mm := ifc (inR f 6) (ifc (¬ kd (tn f) < 0) U M) M
noncomputable def A_paper (n : Nat) (r : Nat → Int32) (i : Int32) : Int32 := ifc (inR i n) (r (tn i)) (-1)
theorem inR_pl {n : Nat} (h : n ≤ 512) {i : Int32} : (¬ i.toInt64 < (0 : Int64) ∧ ¬ (nI n - 1).toInt64 < i.toInt64) ↔ inR i n := by
  have z : (0 : Int64).toInt = 0 := by decide
  have e : (nI n - 1).toInt = (n : Int) - 1 := by
    rw [Int32.toInt_sub, nI_toInt (by omega), show (1 : Int32).toInt = 1 by decide, i_bmod (by omega) (by omega)]
  rw [Int64.lt_iff_toInt_lt, Int64.lt_iff_toInt_lt, Int32.toInt_toInt64, Int32.toInt_toInt64, z, e]
  unfold inR
  omega
theorem cf_X6_write : CF yX6_write cX6_write 4 (some .int) 1 := ⟨cd_X6_write, iz_X6, by decide, by decide +kernel, by decide +kernel, by decide +kernel⟩
set_option maxRecDepth 100000 in
set_option maxHeartbeats 4000000 in
theorem c_X6_write {l : Launch} {E : Ev} {M : Mm} {n : Nat} {kd : Nat → Int32} {V : Nat → Nat → Int32} (hI : ∀ k, k < 108 → k ∈ E.2.1) (hn : Cn M n) (hF : CFn M n kd V) (hv : ∀ f, f < 6 → ∀ s, s < 2 ^ n → isV (V f s)) {f : Int32} : Cm l E yX6_write cX6_write 4 (some .int) 3 [.ref (E.2.2.1 0), .int f] M (pI (A_write (nI (0 + (txt (V (tn f)) (2 ^ n)).length)) kd f) (U_write (apC (txt (V (tn f)) (2 ^ n)) 0 M) kd f M)) := by
  refine Cm.of (by decide) (Nat.le_of_ble_eq_true rfl) (fun K k kt => ?_)
  show G l E K 0 [(0, .ref (E.2.2.1 0)), (1, .int f)] [] M
  obtain ⟨hn0, hn1, hn6⟩ := id hn
  have hp := p2_le6 hn6
  have hp2 := p2_ge2 hn1
  refine gs_aload_n (q := 0) k rfl rfl dX6_write_0 ?_
  refine gs_iload_n (q := 1) k rfl rfl dX6_write_1 ?_
  refine gs_callV (As := [.int f]) (k0 := 0) (ci := 6) (T := TX6) (N := 10) k (c_X6_errorOf hI hF) cf_X6_errorOf im_X6_errorOf sl_X6_errorOf ml_X6_154 (hI 0 (by omega)) rfl rfl (by decide) rfl rfl (Nat.le_of_ble_eq_true rfl) dX6_write_2 (ppE (fun c1 => ?_) (fun c1 c2 => ?_) (fun c1 c2 => ?_))
  · refine gs_istore_n (lv' := [(2, .int (-1)), (0, .ref (E.2.2.1 0)), (1, .int f)]) k rfl (by decide) rfl dX6_write_5 ?_
    refine gs_iload_n (q := 0) k rfl rfl dX6_write_6 ?_
    refine gs_if_eq (tgt := 12) k (by decide) dX6_write_7 (fun h => absurd h (by decide)) (fun _ => ?_)
    refine gs_iload_n (q := 0) k rfl rfl dX6_write_10 ?_
    exact gs_iret k kt dX6_write_11 ⟨(by simp [-Int32.not_lt, A_write, U_write, ifc_T, ifc_F, c1]), (by simp [-Int32.not_lt, A_write, U_write, ifc_T, ifc_F, c1])⟩
  · have bc1 := inR_lt c1
    refine gs_istore_n (lv' := [(2, .int (-11)), (0, .ref (E.2.2.1 0)), (1, .int f)]) k rfl (by decide) rfl dX6_write_5 ?_
    refine gs_iload_n (q := 0) k rfl rfl dX6_write_6 ?_
    refine gs_if_eq (tgt := 12) k (by decide) dX6_write_7 (fun h => absurd h (by decide)) (fun _ => ?_)
    refine gs_iload_n (q := 0) k rfl rfl dX6_write_10 ?_
    exact gs_iret k kt dX6_write_11 ⟨(by simp [-Int32.not_lt, A_write, U_write, ifc_T, ifc_F, c1, c2]), (by simp [-Int32.not_lt, A_write, U_write, ifc_T, ifc_F, c1, c2])⟩
  · have bc1 := inR_lt c1
    refine gs_istore_n (lv' := [(2, .int 0), (0, .ref (E.2.2.1 0)), (1, .int f)]) k rfl (by decide) rfl dX6_write_5 ?_
    refine gs_iload_n (q := 0) k rfl rfl dX6_write_6 ?_
    refine gs_if_eq (tgt := 12) k (by decide) dX6_write_7 (fun _ => ?_) (fun h => absurd h (by decide))
    refine gs_aload_n (q := 1) k rfl rfl dX6_write_12 ?_
    refine gs_get (C := RX6) (T := TX6) (N := 10) (ci := 6) (k0 := 0) (j := 5) k (hI 0 (by omega)) rfl rfl inX6 (by decide) fl_X6_42 rfl rfl dX6_write_13 ?_
    refine gs_iconst (v := 0) k (by decide) dX6_write_16 ?_
    refine gs_put (C := RX1) (T := TX1) (N := 2) (ci := 1) (k0 := 56) (j := 0) (ty := .int) k (hI 56 (by omega)) rfl rfl rfl inX1 tyX1 tyX1_ok nmX1 (by decide) fl_X6_258 rfl rfl (tyX1_ok 0 (by decide)) rfl rfl (Nat.le_of_ble_eq_true rfl) dX6_write_17 ?_
    refine gs_iconst (v := 0) k (by decide) dX6_write_20 ?_
    refine gs_istore_n (lv' := [(3, .int 0), (2, .int 0), (0, .ref (E.2.2.1 0)), (1, .int f)]) k rfl (by decide) rfl dX6_write_21 ?_
    refine gs_M (M' := (apC [] 0 M)) apC_nil ?_
    refine gs_lv (lv' := [(0, .ref (E.2.2.1 0)), (1, .int f), (2, .int 0), (3, .int 0)]) [2, 3, 1, 0] rfl ?_
    refine for_wh (σ := Unit) (fun ix _u => G l E K 22 [(0, .ref (E.2.2.1 0)), (1, .int f), (2, .int 0), (3, .int (nI ix))] [] (apC (txt (V (tn f)) ix) 0 M)) (fun ix _u => ix ≤ 2 ^ n) (2 ^ n) (fun ix _u hJ hG => ?_) 0 () (Nat.zero_le _)
    show G l E K 22 [(0, .ref (E.2.2.1 0)), (1, .int f), (2, .int 0), (3, .int (nI ix))] [] (apC (txt (V (tn f)) ix) 0 M)
    have hna : ∀ L, Cn (apC L 0 M) n := fun L => Cn_mw (by omega) (Cn_rs (by omega) hn)
    have hFa : ∀ L, CFn (apC L 0 M) n kd V := fun L => CFn_mw (by omega) (CFn_rs (by omega) hF)
    have hn := hna (txt (V (tn f)) ix)
    have hF := hFa (txt (V (tn f)) ix)
    refine gs_iload_n (q := 3) k rfl rfl dX6_write_22 ?_
    refine gs_aload_n (q := 0) k rfl rfl dX6_write_23 ?_
    refine gs_get (C := RX6) (T := TX6) (N := 10) (ci := 6) (k0 := 0) (j := 0) k (hI 0 (by omega)) rfl rfl inX6 (by decide) fl_X6_12 rfl rfl dX6_write_24 ?_
    refine gs_callV (As := []) (k0 := 1) (ci := 5) (T := TX5) (N := 9) k (c_X5_sets hI hn) cf_X5_sets im_X5_sets sl_X5_sets ml_X6_131 (hI 1 (by omega)) rfl rfl (by decide) rfl rfl (Nat.le_of_ble_eq_true rfl) dX6_write_27 (ppI ?_)
    refine gs_icmpN_ge (a := ix) (b := 2 ^ n) (tgt := 73) k rfl rfl (by omega) (by omega) (by decide) dX6_write_30 (fun c3 => ?_) (fun c3 => ?_)
    · refine gs_aload_n (q := 0) k rfl rfl dX6_write_73 ?_
      refine gs_get (C := RX6) (T := TX6) (N := 10) (ci := 6) (k0 := 0) (j := 5) k (hI 0 (by omega)) rfl rfl inX6 (by decide) fl_X6_42 rfl rfl dX6_write_74 ?_
      refine gs_get (C := RX1) (T := TX1) (N := 2) (ci := 1) (k0 := 56) (j := 0) k (hI 56 (by omega)) rfl rfl inX1 (by decide) fl_X6_258 rfl rfl dX6_write_77 ?_
      refine gs_top (y := nI (0 + (txt (V (tn f)) ix).length)) apC_len ?_
      exact gs_iret k kt dX6_write_80 ⟨(by have e := Nat.le_antisymm hJ c3; subst e; simp [-Int32.not_lt, A_write, U_write, ifc_T, ifc_F, c1, c2]), (by have e := Nat.le_antisymm hJ c3; subst e; simp [-Int32.not_lt, A_write, U_write, ifc_T, ifc_F, c1, c2])⟩
    · refine gs_iload_n (q := 3) k rfl rfl dX6_write_33 ?_
      refine gs_if_le (tgt := 46) k (by decide) dX6_write_34 (fun c4 => ?_) (fun c4 => ?_)
      · refine gs_aload_n (q := 0) k rfl rfl dX6_write_46 ?_
        refine gs_get (C := RX6) (T := TX6) (N := 10) (ci := 6) (k0 := 0) (j := 5) k (hI 0 (by omega)) rfl rfl inX6 (by decide) fl_X6_42 rfl rfl dX6_write_47 ?_
        refine gs_aload_n (q := 0) k rfl rfl dX6_write_50 ?_
        refine gs_get (C := RX6) (T := TX6) (N := 10) (ci := 6) (k0 := 0) (j := 0) k (hI 0 (by omega)) rfl rfl inX6 (by decide) fl_X6_12 rfl rfl dX6_write_51 ?_
        refine gs_get (C := RX5) (T := TX5) (N := 9) (ci := 5) (k0 := 1) (j := 7) k (hI 1 (by omega)) rfl rfl inX5 (by decide) fl_X6_107 rfl rfl dX6_write_54 ?_
        refine gs_iload_n (q := 1) k rfl rfl dX6_write_57 ?_
        refine gs_aaldSN (k0 := 8) (n := 6) (e := tn f) (a := E.2.2.1 (10 + 2 * (tn f))) k (hI 8 (by omega)) (fun _ => rfl) (inR_eq c1) (by omega) (by decide) rfl dX6_write_58 ?_
        refine gs_get (C := RX3) (T := TX3) (N := 2) (ci := 3) (k0 := (10 + 2 * (tn f))) (j := 1) k (hI (10 + 2 * (tn f)) (by omega)) (ent_F1 (by omega) _) rfl inX3 (by decide) fl_X6_111 rfl rfl dX6_write_59 ?_
        refine gs_iload_n (q := 3) k rfl rfl dX6_write_62 ?_
        refine gs_ialdN (k0 := (11 + 2 * (tn f))) (n := 64) (e := ix) k (hI (11 + 2 * (tn f)) (by omega)) (ent_V1 (by omega)) rfl (by omega) (by decide) dX6_write_63 ?_
        refine gs_top (y := V (tn f) ix) ((hFa _ (tn f) (by omega)).2.2 ix (by omega)) ?_
        refine gs_callV (As := [.int (V (tn f) ix)]) (k0 := 56) (ci := 1) (T := TX1) (N := 2) k (c_X1_appendNumber hI apC_len (by have := txt_len (V (tn f)) ix; (try simp only [List.length_append, List.length_cons, List.length_nil]); omega) (hv _ (by omega) _ (by omega))) cf_X1_appendNumber im_X1_appendNumber sl_X1_appendNumber ml_X6_262 (hI 56 (by omega)) rfl rfl (by decide) rfl rfl (Nat.le_of_ble_eq_true rfl) dX6_write_64 (ppV ?_)
        refine gs_M (M' := (apC ((txt (V (tn f)) ix) ++ num (V (tn f) ix)) 0 M)) apC_app ?_
        refine gs_iincN (q := 3) (a := ix) (c := 1) (lv' := [(3, .int (nI (ix + 1))), (0, .ref (E.2.2.1 0)), (1, .int f), (2, .int 0)]) k rfl rfl (by decide) rfl dX6_write_67 ?_
        refine gs_goto (tgt := 22) k (by decide) dX6_write_70 ?_
        refine gs_lv (lv' := [(0, .ref (E.2.2.1 0)), (1, .int f), (2, .int 0), (3, .int (nI (ix + 1)))]) [1, 2, 3, 0] rfl ?_
        refine gs_M (M' := (apC (txt (V (tn f)) (ix + 1)) 0 M)) (congrArg (fun L => apC L 0 M) (txt_0 (nle0 (by omega) c4))) ?_
        exact hG (by omega) () (by omega)
      · refine gs_aload_n (q := 0) k rfl rfl dX6_write_37 ?_
        refine gs_get (C := RX6) (T := TX6) (N := 10) (ci := 6) (k0 := 0) (j := 5) k (hI 0 (by omega)) rfl rfl inX6 (by decide) fl_X6_42 rfl rfl dX6_write_38 ?_
        refine gs_bipush (v := 32) k (by decide) dX6_write_41 ?_
        refine gs_callV (As := [.int 32]) (k0 := 56) (ci := 1) (T := TX1) (N := 2) k (c_X1_append (c := 32) hI apC_len (by have := txt_len (V (tn f)) ix; omega) rfl (by omega)) cf_X1_append im_X1_append sl_X1_append ml_X6_259 (hI 56 (by omega)) rfl rfl (by decide) rfl rfl (Nat.le_of_ble_eq_true rfl) dX6_write_43 (ppV ?_)
        refine gs_M (M' := (apC (txt (V (tn f)) ix ++ [32]) 0 M)) apC_app ?_
        refine gs_aload_n (q := 0) k rfl rfl dX6_write_46 ?_
        refine gs_get (C := RX6) (T := TX6) (N := 10) (ci := 6) (k0 := 0) (j := 5) k (hI 0 (by omega)) rfl rfl inX6 (by decide) fl_X6_42 rfl rfl dX6_write_47 ?_
        refine gs_aload_n (q := 0) k rfl rfl dX6_write_50 ?_
        refine gs_get (C := RX6) (T := TX6) (N := 10) (ci := 6) (k0 := 0) (j := 0) k (hI 0 (by omega)) rfl rfl inX6 (by decide) fl_X6_12 rfl rfl dX6_write_51 ?_
        refine gs_get (C := RX5) (T := TX5) (N := 9) (ci := 5) (k0 := 1) (j := 7) k (hI 1 (by omega)) rfl rfl inX5 (by decide) fl_X6_107 rfl rfl dX6_write_54 ?_
        refine gs_iload_n (q := 1) k rfl rfl dX6_write_57 ?_
        refine gs_aaldSN (k0 := 8) (n := 6) (e := tn f) (a := E.2.2.1 (10 + 2 * (tn f))) k (hI 8 (by omega)) (fun _ => rfl) (inR_eq c1) (by omega) (by decide) rfl dX6_write_58 ?_
        refine gs_get (C := RX3) (T := TX3) (N := 2) (ci := 3) (k0 := (10 + 2 * (tn f))) (j := 1) k (hI (10 + 2 * (tn f)) (by omega)) (ent_F1 (by omega) _) rfl inX3 (by decide) fl_X6_111 rfl rfl dX6_write_59 ?_
        refine gs_iload_n (q := 3) k rfl rfl dX6_write_62 ?_
        refine gs_ialdN (k0 := (11 + 2 * (tn f))) (n := 64) (e := ix) k (hI (11 + 2 * (tn f)) (by omega)) (ent_V1 (by omega)) rfl (by omega) (by decide) dX6_write_63 ?_
        refine gs_top (y := V (tn f) ix) ((hFa _ (tn f) (by omega)).2.2 ix (by omega)) ?_
        refine gs_callV (As := [.int (V (tn f) ix)]) (k0 := 56) (ci := 1) (T := TX1) (N := 2) k (c_X1_appendNumber hI apC_len (by have := txt_len (V (tn f)) ix; (try simp only [List.length_append, List.length_cons, List.length_nil]); omega) (hv _ (by omega) _ (by omega))) cf_X1_appendNumber im_X1_appendNumber sl_X1_appendNumber ml_X6_262 (hI 56 (by omega)) rfl rfl (by decide) rfl rfl (Nat.le_of_ble_eq_true rfl) dX6_write_64 (ppV ?_)
        refine gs_M (M' := (apC ((txt (V (tn f)) ix ++ [32]) ++ num (V (tn f) ix)) 0 M)) apC_app ?_
        refine gs_iincN (q := 3) (a := ix) (c := 1) (lv' := [(3, .int (nI (ix + 1))), (0, .ref (E.2.2.1 0)), (1, .int f), (2, .int 0)]) k rfl rfl (by decide) rfl dX6_write_67 ?_
        refine gs_goto (tgt := 22) k (by decide) dX6_write_70 ?_
        refine gs_lv (lv' := [(0, .ref (E.2.2.1 0)), (1, .int f), (2, .int 0), (3, .int (nI (ix + 1)))]) [1, 2, 3, 0] rfl ?_
        refine gs_M (M' := (apC (txt (V (tn f)) (ix + 1)) 0 M)) (congrArg (fun L => apC L 0 M) (txt_s (nle1 (by omega) c4))) ?_
        exact hG (by omega) () (by omega)

theorem cf_X7_write : CF yX7_write cX7_write 3 (some .int) 1 := ⟨cd_X7_write, iz_X7, by decide, by decide +kernel, by decide +kernel, by decide +kernel⟩
set_option maxRecDepth 100000 in
set_option maxHeartbeats 4000000 in
theorem c_X7_write {l : Launch} {E : Ev} {M : Mm} {n : Nat} {kd : Nat → Int32} {V : Nat → Nat → Int32} (hI : ∀ k, k < 108 → k ∈ E.2.1) (hn : Rn M n) (hF : RFn M n kd V) (hv : ∀ f, f < 6 → ∀ s, s < 2 ^ n → isV (V f s)) {f : Int32} : Cm l E yX7_write cX7_write 3 (some .int) 7 [.ref (E.2.2.1 65), .int f] M (pI (A_write (nI (0 + (txt (V (tn f)) (2 ^ n)).length)) kd f) (U_write (apR (txt (V (tn f)) (2 ^ n)) 0 M) kd f M)) := by
  refine Cm.of (by decide) (Nat.le_of_ble_eq_true rfl) (fun K k kt => ?_)
  show G l E K 0 [(0, .ref (E.2.2.1 65)), (1, .int f)] [] M
  obtain ⟨hn0, hn1, hn6⟩ := id hn
  have hp := p2_le6 hn6
  have hp2 := p2_ge2 hn1
  refine gs_iload_n (q := 1) k rfl rfl dX7_write_0 ?_
  refine gs_callS (As := [.int f]) k c_X7_isFunction cf_X7_isFunction sm_X7_isFunction ml_X7_128 (by decide) rfl rfl (Nat.le_of_ble_eq_true rfl) dX7_write_1 (ppB (fun c1 => ?_) (fun c1 => ?_))
  · have bc1 := inR_lt c1
    refine gs_if_ne (tgt := 9) k (by decide) dX7_write_4 (fun _ => ?_) (fun h => absurd h (by decide))
    refine gs_aload_n (q := 0) k rfl rfl dX7_write_9 ?_
    refine gs_iload_n (q := 1) k rfl rfl dX7_write_10 ?_
    refine gs_callV (As := [.int f]) (k0 := 65) (ci := 7) (T := TX7) (N := 27) k (c_X7_isThere hI hF) cf_X7_isThere im_X7_isThere sl_X7_isThere ml_X7_163 (hI 65 (by omega)) rfl rfl (by decide) rfl rfl (Nat.le_of_ble_eq_true rfl) dX7_write_11 (ppB (fun c2 => ?_) (fun c2 => ?_))
    · have bc2 := inR_lt c2.1
      have tc2 := c2.2
      refine gs_if_ne (tgt := 20) k (by decide) dX7_write_14 (fun _ => ?_) (fun h => absurd h (by decide))
      refine gs_aload_n (q := 0) k rfl rfl dX7_write_20 ?_
      refine gs_iconst (v := 0) k (by decide) dX7_write_21 ?_
      refine gs_put (C := RX7) (T := TX7) (N := 27) (ci := 7) (k0 := 65) (j := 20) (ty := .int) k (hI 65 (by omega)) rfl rfl rfl inX7 tyX7 tyX7_ok nmX7 (by decide) fl_X7_353 rfl rfl (tyX7_ok 20 (by decide)) rfl rfl (Nat.le_of_ble_eq_true rfl) dX7_write_22 ?_
      refine gs_iconst (v := 0) k (by decide) dX7_write_25 ?_
      refine gs_istore_n (lv' := [(2, .int 0), (0, .ref (E.2.2.1 65)), (1, .int f)]) k rfl (by decide) rfl dX7_write_26 ?_
      refine gs_M (M' := (apR [] 0 M)) apR_nil ?_
      refine gs_lv (lv' := [(0, .ref (E.2.2.1 65)), (1, .int f), (2, .int 0)]) [1, 2, 0] rfl ?_
      refine for_wh (σ := Unit) (fun ix _u => G l E K 27 [(0, .ref (E.2.2.1 65)), (1, .int f), (2, .int (nI ix))] [] (apR (txt (V (tn f)) ix) 0 M)) (fun ix _u => ix ≤ 2 ^ n) (2 ^ n) (fun ix _u hJ hG => ?_) 0 () (Nat.zero_le _)
      show G l E K 27 [(0, .ref (E.2.2.1 65)), (1, .int f), (2, .int (nI ix))] [] (apR (txt (V (tn f)) ix) 0 M)
      have hna : ∀ L, Rn (apR L 0 M) n := fun L => Rn_mw (by omega) (Rn_rs (by omega) hn)
      have hFa : ∀ L, RFn (apR L 0 M) n kd V := fun L => RFn_mw (by omega) (RFn_rs (by omega) hF)
      have hn := hna (txt (V (tn f)) ix)
      have hF := hFa (txt (V (tn f)) ix)
      refine gs_iload_n (q := 2) k rfl rfl dX7_write_27 ?_
      refine gs_aload_n (q := 0) k rfl rfl dX7_write_28 ?_
      refine gs_callV (As := []) (k0 := 65) (ci := 7) (T := TX7) (N := 27) k (c_X7_sets hI hn) cf_X7_sets im_X7_sets sl_X7_sets ml_X7_83 (hI 65 (by omega)) rfl rfl (by decide) rfl rfl (Nat.le_of_ble_eq_true rfl) dX7_write_29 (ppI ?_)
      refine gs_icmpN_ge (a := ix) (b := 2 ^ n) (tgt := 63) k rfl rfl (by omega) (by omega) (by decide) dX7_write_32 (fun c3 => ?_) (fun c3 => ?_)
      · refine gs_aload_n (q := 0) k rfl rfl dX7_write_63 ?_
        refine gs_get (C := RX7) (T := TX7) (N := 27) (ci := 7) (k0 := 65) (j := 20) k (hI 65 (by omega)) rfl rfl inX7 (by decide) fl_X7_353 rfl rfl dX7_write_64 ?_
        refine gs_top (y := nI (0 + (txt (V (tn f)) ix).length)) apR_len ?_
        exact gs_iret k kt dX7_write_67 ⟨(by have e := Nat.le_antisymm hJ c3; subst e; simp [-Int32.not_lt, A_write, U_write, ifc_T, ifc_F, c1, c2, tc2]), (by have e := Nat.le_antisymm hJ c3; subst e; simp [-Int32.not_lt, A_write, U_write, ifc_T, ifc_F, c1, c2, tc2])⟩
      · refine gs_iload_n (q := 2) k rfl rfl dX7_write_35 ?_
        refine gs_if_le (tgt := 45) k (by decide) dX7_write_36 (fun c4 => ?_) (fun c4 => ?_)
        · refine gs_aload_n (q := 0) k rfl rfl dX7_write_45 ?_
          refine gs_aload_n (q := 0) k rfl rfl dX7_write_46 ?_
          refine gs_get (C := RX7) (T := TX7) (N := 27) (ci := 7) (k0 := 65) (j := 8) k (hI 65 (by omega)) rfl rfl inX7 (by decide) fl_X7_39 rfl rfl dX7_write_47 ?_
          refine gs_iload_n (q := 1) k rfl rfl dX7_write_50 ?_
          refine gs_aaldIN (k0 := 73) (n := 6) (e := tn f) (a := E.2.2.1 (74 + (tn f))) k (hI 73 (by omega)) (fun _ => rfl) (inR_eq c1) (by omega) (by decide) rfl dX7_write_51 ?_
          refine gs_iload_n (q := 2) k rfl rfl dX7_write_52 ?_
          refine gs_ialdN (k0 := (74 + (tn f))) (n := 64) (e := ix) k (hI (74 + (tn f)) (by omega)) (ent_RV (by omega)) rfl (by omega) (by decide) dX7_write_53 ?_
          refine gs_top (y := V (tn f) ix) ((hFa _ (tn f) (by omega)).2.2 (by assumption) ix (by omega)) ?_
          refine gs_callV (As := [.int (V (tn f) ix)]) (k0 := 65) (ci := 7) (T := TX7) (N := 27) k (c_X7_saysNumber hI apR_len (by have := txt_len (V (tn f)) ix; (try simp only [List.length_append, List.length_cons, List.length_nil]); omega) (hv _ (by omega) _ (by omega))) cf_X7_saysNumber im_X7_saysNumber sl_X7_saysNumber ml_X7_359 (hI 65 (by omega)) rfl rfl (by decide) rfl rfl (Nat.le_of_ble_eq_true rfl) dX7_write_54 (ppV ?_)
          refine gs_M (M' := (apR ((txt (V (tn f)) ix) ++ num (V (tn f) ix)) 0 M)) apR_app ?_
          refine gs_iincN (q := 2) (a := ix) (c := 1) (lv' := [(2, .int (nI (ix + 1))), (0, .ref (E.2.2.1 65)), (1, .int f)]) k rfl rfl (by decide) rfl dX7_write_57 ?_
          refine gs_goto (tgt := 27) k (by decide) dX7_write_60 ?_
          refine gs_lv (lv' := [(0, .ref (E.2.2.1 65)), (1, .int f), (2, .int (nI (ix + 1)))]) [1, 2, 0] rfl ?_
          refine gs_M (M' := (apR (txt (V (tn f)) (ix + 1)) 0 M)) (congrArg (fun L => apR L 0 M) (txt_0 (nle0 (by omega) c4))) ?_
          exact hG (by omega) () (by omega)
        · refine gs_aload_n (q := 0) k rfl rfl dX7_write_39 ?_
          refine gs_bipush (v := 32) k (by decide) dX7_write_40 ?_
          refine gs_callV (As := [.int 32]) (k0 := 65) (ci := 7) (T := TX7) (N := 27) k (c_X7_says (c := 32) hI apR_len (by have := txt_len (V (tn f)) ix; omega) rfl (by omega)) cf_X7_says im_X7_says sl_X7_says ml_X7_356 (hI 65 (by omega)) rfl rfl (by decide) rfl rfl (Nat.le_of_ble_eq_true rfl) dX7_write_42 (ppV ?_)
          refine gs_M (M' := (apR (txt (V (tn f)) ix ++ [32]) 0 M)) apR_app ?_
          refine gs_aload_n (q := 0) k rfl rfl dX7_write_45 ?_
          refine gs_aload_n (q := 0) k rfl rfl dX7_write_46 ?_
          refine gs_get (C := RX7) (T := TX7) (N := 27) (ci := 7) (k0 := 65) (j := 8) k (hI 65 (by omega)) rfl rfl inX7 (by decide) fl_X7_39 rfl rfl dX7_write_47 ?_
          refine gs_iload_n (q := 1) k rfl rfl dX7_write_50 ?_
          refine gs_aaldIN (k0 := 73) (n := 6) (e := tn f) (a := E.2.2.1 (74 + (tn f))) k (hI 73 (by omega)) (fun _ => rfl) (inR_eq c1) (by omega) (by decide) rfl dX7_write_51 ?_
          refine gs_iload_n (q := 2) k rfl rfl dX7_write_52 ?_
          refine gs_ialdN (k0 := (74 + (tn f))) (n := 64) (e := ix) k (hI (74 + (tn f)) (by omega)) (ent_RV (by omega)) rfl (by omega) (by decide) dX7_write_53 ?_
          refine gs_top (y := V (tn f) ix) ((hFa _ (tn f) (by omega)).2.2 (by assumption) ix (by omega)) ?_
          refine gs_callV (As := [.int (V (tn f) ix)]) (k0 := 65) (ci := 7) (T := TX7) (N := 27) k (c_X7_saysNumber hI apR_len (by have := txt_len (V (tn f)) ix; (try simp only [List.length_append, List.length_cons, List.length_nil]); omega) (hv _ (by omega) _ (by omega))) cf_X7_saysNumber im_X7_saysNumber sl_X7_saysNumber ml_X7_359 (hI 65 (by omega)) rfl rfl (by decide) rfl rfl (Nat.le_of_ble_eq_true rfl) dX7_write_54 (ppV ?_)
          refine gs_M (M' := (apR ((txt (V (tn f)) ix ++ [32]) ++ num (V (tn f) ix)) 0 M)) apR_app ?_
          refine gs_iincN (q := 2) (a := ix) (c := 1) (lv' := [(2, .int (nI (ix + 1))), (0, .ref (E.2.2.1 65)), (1, .int f)]) k rfl rfl (by decide) rfl dX7_write_57 ?_
          refine gs_goto (tgt := 27) k (by decide) dX7_write_60 ?_
          refine gs_lv (lv' := [(0, .ref (E.2.2.1 65)), (1, .int f), (2, .int (nI (ix + 1)))]) [1, 2, 0] rfl ?_
          refine gs_M (M' := (apR (txt (V (tn f)) (ix + 1)) 0 M)) (congrArg (fun L => apR L 0 M) (txt_s (nle1 (by omega) c4))) ?_
          exact hG (by omega) () (by omega)
    · have qc2 : kd (tn f) < 0 := Classical.byContradiction (fun k => c2 ⟨by assumption, k⟩)
      refine gs_if_ne (tgt := 20) k (by decide) dX7_write_14 (fun h => absurd h (by decide)) (fun _ => ?_)
      refine gs_bipush (v := -11) k (by decide) dX7_write_17 ?_
      exact gs_iret k kt dX7_write_19 ⟨(by simp [-Int32.not_lt, A_write, U_write, ifc_T, ifc_F, c1, c2, qc2]), (by simp [-Int32.not_lt, A_write, U_write, ifc_T, ifc_F, c1, c2, qc2])⟩
  · refine gs_if_ne (tgt := 9) k (by decide) dX7_write_4 (fun h => absurd h (by decide)) (fun _ => ?_)
    refine gs_iconst (v := -1) k (by decide) dX7_write_7 ?_
    exact gs_iret k kt dX7_write_8 ⟨(by simp [-Int32.not_lt, A_write, U_write, ifc_T, ifc_F, c1]), (by simp [-Int32.not_lt, A_write, U_write, ifc_T, ifc_F, c1])⟩

theorem cf_X6_paper : CF yX6_paper cX6_paper 2 (some .int) 1 := ⟨cd_X6_paper, iz_X6, by decide, by decide +kernel, by decide +kernel, by decide +kernel⟩
set_option maxRecDepth 100000 in
set_option maxHeartbeats 4000000 in
theorem c_X6_paper {l : Launch} {E : Ev} {M : Mm} (hI : ∀ k, k < 108 → k ∈ E.2.1) {pl : Nat} (hpl : pl ≤ 511) (hm : M 56 0 = nI pl) {i : Int32} : Cm l E yX6_paper cX6_paper 2 (some .int) 0 [.ref (E.2.2.1 0), .int i] M (pI (A_paper pl (M 57) i) M) := by
  refine Cm.of (by decide) (Nat.le_of_ble_eq_true rfl) (fun K k kt => ?_)
  show G l E K 0 [(0, .ref (E.2.2.1 0)), (1, .int i)] [] M
  refine gs_iload_n (q := 1) k rfl rfl dX6_paper_0 ?_
  refine gs_if_lt (tgt := 15) k (by decide) dX6_paper_1 (fun c1 => ?_) (fun c1 => ?_)
  · have ec1 : ¬ inR i pl := inR_n1 c1
    refine gs_iconst (v := -1) k (by decide) dX6_paper_15 ?_
    exact gs_iret k kt dX6_paper_16 ⟨(by simp [-Int32.not_lt, A_paper, ifc_T, ifc_F, c1, ec1]), (by simp [-Int32.not_lt, A_paper, ifc_T, ifc_F, c1, ec1])⟩
  · refine gs_iload_n (q := 1) k rfl rfl dX6_paper_4 ?_
    refine gs_aload_n (q := 0) k rfl rfl dX6_paper_5 ?_
    refine gs_get (C := RX6) (T := TX6) (N := 10) (ci := 6) (k0 := 0) (j := 5) k (hI 0 (by omega)) rfl rfl inX6 (by decide) fl_X6_42 rfl rfl dX6_paper_6 ?_
    refine gs_get (C := RX1) (T := TX1) (N := 2) (ci := 1) (k0 := 56) (j := 0) k (hI 56 (by omega)) rfl rfl inX1 (by decide) fl_X6_258 rfl rfl dX6_paper_9 ?_
    refine gs_top (y := nI pl) hm ?_
    refine gs_icmp_lt (tgt := 17) k (by decide) dX6_paper_12 (fun c2 => ?_) (fun c2 => ?_)
    · have ec2 : inR i pl := inR_of rfl (by omega) c1 (Int32.not_le.mpr c2)
      have fc2 := inR_lt ec2
      refine gs_aload_n (q := 0) k rfl rfl dX6_paper_17 ?_
      refine gs_get (C := RX6) (T := TX6) (N := 10) (ci := 6) (k0 := 0) (j := 5) k (hI 0 (by omega)) rfl rfl inX6 (by decide) fl_X6_42 rfl rfl dX6_paper_18 ?_
      refine gs_get (C := RX1) (T := TX1) (N := 2) (ci := 1) (k0 := 56) (j := 1) k (hI 56 (by omega)) rfl rfl inX1 (by decide) fl_X6_265 rfl rfl dX6_paper_21 ?_
      refine gs_iload_n (q := 1) k rfl rfl dX6_paper_24 ?_
      refine gs_baldN (k0 := 57) (n := 511) (e := tn i) k (hI 57 (by omega)) (fun _ => rfl) (inR_eq ec2) (by omega) (by decide) dX6_paper_25 ?_
      exact gs_iret k kt dX6_paper_26 ⟨(by simp [-Int32.not_lt, A_paper, ifc_T, ifc_F, c1, c2, ec2]), (by simp [-Int32.not_lt, A_paper, ifc_T, ifc_F, c1, c2, ec2])⟩
    · have ec2 : ¬ inR i pl := inR_n2 rfl (by omega) (Int32.not_lt.mp c2)
      refine gs_iconst (v := -1) k (by decide) dX6_paper_15 ?_
      exact gs_iret k kt dX6_paper_16 ⟨(by simp [-Int32.not_lt, A_paper, ifc_T, ifc_F, c1, c2, ec2]), (by simp [-Int32.not_lt, A_paper, ifc_T, ifc_F, c1, c2, ec2])⟩

theorem cf_X7_paper : CF yX7_paper cX7_paper 2 (some .int) 1 := ⟨cd_X7_paper, iz_X7, by decide, by decide +kernel, by decide +kernel, by decide +kernel⟩
set_option maxRecDepth 100000 in
set_option maxHeartbeats 4000000 in
theorem c_X7_paper {l : Launch} {E : Ev} {M : Mm} (hI : ∀ k, k < 108 → k ∈ E.2.1) {pl : Nat} (hpl : pl ≤ 511) (hm : M 65 20 = nI pl) {i : Int32} : Cm l E yX7_paper cX7_paper 2 (some .int) 1 [.ref (E.2.2.1 65), .int i] M (pI (A_paper pl (M 86) i) M) := by
  refine Cm.of (by decide) (Nat.le_of_ble_eq_true rfl) (fun K k kt => ?_)
  show G l E K 0 [(0, .ref (E.2.2.1 65)), (1, .int i)] [] M
  refine gs_iload_n (q := 1) k rfl rfl dX7_paper_0 ?_
  refine gs_i2l k dX7_paper_1 ?_
  refine gs_lconst (v := 0) k (by decide) dX7_paper_2 ?_
  refine gs_aload_n (q := 0) k rfl rfl dX7_paper_3 ?_
  refine gs_get (C := RX7) (T := TX7) (N := 27) (ci := 7) (k0 := 65) (j := 20) k (hI 65 (by omega)) rfl rfl inX7 (by decide) fl_X7_353 rfl rfl dX7_paper_4 ?_
  refine gs_top (y := nI pl) hm ?_
  refine gs_iconst (v := 1) k (by decide) dX7_paper_7 ?_
  refine gs_isub k dX7_paper_8 ?_
  refine gs_i2l k dX7_paper_9 ?_
  refine gs_callS (As := [.long (i.toInt64), .long (0), .long (((nI pl) - 1).toInt64)]) k (Cm.iff (inR_pl (n := pl) (by omega)) c_X7_in) cf_X7_in sm_X7_in ml_X7_79 (by decide) rfl rfl (Nat.le_of_ble_eq_true rfl) dX7_paper_10 (ppB (fun c1 => ?_) (fun c1 => ?_))
  · have bc1 := inR_lt c1
    refine gs_if_eq (tgt := 25) k (by decide) dX7_paper_13 (fun h => absurd h (by decide)) (fun _ => ?_)
    refine gs_aload_n (q := 0) k rfl rfl dX7_paper_16 ?_
    refine gs_get (C := RX7) (T := TX7) (N := 27) (ci := 7) (k0 := 65) (j := 19) k (hI 65 (by omega)) rfl rfl inX7 (by decide) fl_X7_61 rfl rfl dX7_paper_17 ?_
    refine gs_iload_n (q := 1) k rfl rfl dX7_paper_20 ?_
    refine gs_baldN (k0 := 86) (n := 512) (e := tn i) k (hI 86 (by omega)) (fun _ => rfl) (inR_eq c1) (by omega) (by decide) dX7_paper_21 ?_
    refine gs_goto (tgt := 26) k (by decide) dX7_paper_22 ?_
    exact gs_iret k kt dX7_paper_26 ⟨(by simp [-Int32.not_lt, A_paper, ifc_T, ifc_F, c1]), (by simp [-Int32.not_lt, A_paper, ifc_T, ifc_F, c1])⟩
  · refine gs_if_eq (tgt := 25) k (by decide) dX7_paper_13 (fun _ => ?_) (fun h => absurd h (by decide))
    refine gs_iconst (v := -1) k (by decide) dX7_paper_25 ?_
    exact gs_iret k kt dX7_paper_26 ⟨(by simp [-Int32.not_lt, A_paper, ifc_T, ifc_F, c1]), (by simp [-Int32.not_lt, A_paper, ifc_T, ifc_F, c1])⟩

