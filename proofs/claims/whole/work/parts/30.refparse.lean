theorem isC_1 {b : Nat → Int32} {len p : Nat} {c : Int32} : (p < len ∧ isB c c (b p)) ↔ isC b len p c := ⟨fun h => ⟨h.1, isB_1.mp h.2⟩, fun h => ⟨h.1, isB_1.mpr h.2⟩⟩
theorem mw_same {M : Mm} {k j : Nat} {x : Int32} (h : M k j = x) : mw M k j x = M := by
  funext k'
  by_cases e : k' = k
  · subst e
    rw [mw_row]
    funext j'
    by_cases f : j' = j
    · subst f; rw [pk_us, h]
    · rw [pk_un f]
  · rw [mw_nk _ _ _ e]
theorem mw_mw {M : Mm} {k j : Nat} {x y : Int32} : mw (mw M k j x) k j y = mw M k j y := by
  funext k'
  by_cases e : k' = k
  · subst e
    rw [mw_row, mw_row, mw_row]
    funext j'
    by_cases f : j' = j
    · subst f; rw [pk_us, pk_us]
    · rw [pk_un f, pk_un f, pk_un f]
  · rw [mw_nk _ _ _ e, mw_nk _ _ _ e, mw_nk _ _ _ e]
def nvR (b : Nat → Int32) (q : Nat) : Nat → Int32
  | 0 => 0
  | k + 1 => 10 * nvR b q k + b (q + k) - 48
theorem nvR_eq {b : Nat → Int32} {q : Nat} : ∀ k, nvR b q k = nv b q k := by
  intro k
  induction k with
  | zero => rfl
  | succ k ih => show 10 * nvR b q k + b (q + k) - 48 = nv b q k * 10 + b (q + k) - 48; rw [ih, Int32.mul_comm]
theorem wm_inj : ∀ w, w < 11 → ∀ v, v < 11 → wm w = wm v → w = v := by decide +kernel
theorem wm_sur : ∀ i, i < 11 → ∃ w, w < 11 ∧ wm w = i := by
  have H : ∀ i, i < 11 → (List.range 11).any (fun w => wm w == i) = true := by decide +kernel
  intro i hi
  obtain ⟨w, h1, h2⟩ := List.any_eq_true.mp (H i hi)
  exact ⟨w, List.mem_range.mp h1, by simpa using h2⟩
theorem str_u : ∀ i, i < 11 → ∀ v, v < 11 → lenL.getD i 0 = lenL.getD v 0 → (∀ j, j < lenL.getD i 0 → chr i j = chr v j) → i = v := by decide +kernel
theorem smW_u {b : Nat → Int32} {p e i v : Nat} (hi : i < 11) (hv : v < 11) (h1 : smW b i p e) (h2 : smW b v p e) : i = v := by
  have e1 : lenL.getD i 0 = lenL.getD v 0 := h1.1.symm.trans h2.1
  exact str_u i hi v hv e1 (fun j hj => (h1.2 j hj).symm.trans (h2.2 j (by omega)))
noncomputable def fwR (b : Nat → Int32) (p e : Nat) : Option Nat := fnd (fun w => ifc (smW b (wm w) p e) (some w) none) 11 0
theorem fnd_n {α : Type} {g : Nat → Option α} : ∀ (k i : Nat), fnd g k i = none → ∀ j, i ≤ j → j < i + k → g j = none := by
  intro k
  induction k with
  | zero => intro i _ j h1 h2; omega
  | succ k ih =>
    intro i h j h1 h2
    cases c : g i with
    | some a => rw [fnd_some c] at h; cases h
    | none =>
      rw [fnd_none c] at h
      by_cases e : j = i
      · rw [e]; exact c
      · exact ih (i + 1) h j (by omega) (by omega)
theorem fw_some {b : Nat → Int32} {p e i : Nat} (hi : i < 11) (h : smW b i p e) : fw b p e = some i := by
  cases c : fw b p e with
  | none =>
    have := fnd_n _ _ c i (by omega) (by omega)
    rw [ifc_t h] at this
    cases this
  | some v =>
    obtain ⟨h1, h2⟩ := fw_in c
    rw [smW_u hi h1 h h2]
theorem fwR_s {b : Nat → Int32} {p e w : Nat} (h : fwR b p e = some w) : w < 11 ∧ fw b p e = some (wm w) := by
  obtain ⟨j, -, h2, h3⟩ := fnd_in _ _ h
  by_cases c : smW b (wm j) p e
  · rw [ifc_t c] at h3
    cases h3
    exact ⟨by omega, fw_some (wm_lt _ (by omega)) c⟩
  · rw [ifc_f c] at h3; cases h3
theorem fwR_n {b : Nat → Int32} {p e : Nat} (h : fwR b p e = none) : fw b p e = none := by
  cases c : fw b p e with
  | none => rfl
  | some i =>
    obtain ⟨h1, h2⟩ := fw_in c
    obtain ⟨w, hw, rfl⟩ := wm_sur i h1
    have := fnd_n _ _ h w (by omega) (by omega)
    rw [ifc_t h2] at this
    cases this
theorem many_1 : ∀ w, w < 11 → ((w < 3 → ar (wm w) = 3) ∧ (3 ≤ w → w < 7 → ar (wm w) = 2) ∧ (7 ≤ w → ar (wm w) = 1)) := by decide +kernel
/-- behind a word -/
def twP (b : Nat → Int32) (len p c : Nat) (M : Mm) : Int32 → Mm → Prop := fun r m => SameT M m ∧ m 85 = M 85 ∧ m 65 16 = M 65 16 ∧ (∀ j, ¬ j = c → m 84 j = M 84 j) ∧ ((r = 1 ∧ ∃ w, w < 11 ∧ fw b p (eo b len p) = some (wm w) ∧ m 84 c = nI w ∧ m 65 15 = nI (eo b len p)) ∨ (r = 0 ∧ fw b p (eo b len p) = none ∧ m 65 15 = nI p))
/-- behind a deed -/
def taJ (b : Nat → Int32) (len : Nat) (M : Mm) (c : Nat) (m : Mm) : Prop := ∃ m0, prJ 65 15 85 84 65 16 wm b len M c m0 ∧ cmdP 65 15 85 84 65 16 wm b len (ps b len c) c (c + 1) m0 1 m
theorem cf_X7_isAt : CF yX7_isAt cX7_isAt 3 (some .boolean) 2 := ⟨cd_X7_isAt, iz_X7, by decide, by decide +kernel, by decide +kernel, by decide +kernel⟩
set_option maxRecDepth 100000 in
set_option maxHeartbeats 4000000 in
theorem c_X7_isAt {l : Launch} {E : Ev} {M : Mm} {b : Nat → Int32} {len p : Nat} (hI : ∀ k, k < 108 → k ∈ E.2.1) (hb : M 83 = b) (hl : M 65 14 = nI len) (hp : M 65 15 = nI p) (hlen : len ≤ 100) (hple : p ≤ len) {x y : Int32} : Cm l E yX7_isAt cX7_isAt 3 (some .boolean) 1 [.ref (E.2.2.1 65), .int x, .int y] M (pB (p < len ∧ isB x y (b p)) M) := by
  refine Cm.of (by decide) (Nat.le_of_ble_eq_true rfl) (fun K k kt => ?_)
  show G l E K 0 [(0, .ref (E.2.2.1 65)), (1, .int x), (2, .int y)] [] M
  refine gs_aload_n (q := 0) k rfl rfl dX7_isAt_0 ?_
  refine gs_get (C := RX7) (T := TX7) (N := 27) (ci := 7) (k0 := 65) (j := 15) k (hI 65 (by omega)) rfl rfl inX7 (by decide) fl_X7_286 rfl rfl dX7_isAt_1 ?_
  refine gs_aload_n (q := 0) k rfl rfl dX7_isAt_4 ?_
  refine gs_get (C := RX7) (T := TX7) (N := 27) (ci := 7) (k0 := 65) (j := 14) k (hI 65 (by omega)) rfl rfl inX7 (by decide) fl_X7_261 rfl rfl dX7_isAt_5 ?_
  refine gs_icmpN_ge (a := p) (b := len) (tgt := 35) k hp hl (by omega) (by omega) (by decide) dX7_isAt_8 (fun c1 => ?_) (fun c1 => ?_)
  · refine gs_iconst (v := 0) k (by decide) dX7_isAt_35 ?_
    exact gs_zret k kt (by decide) dX7_isAt_36 (pB0 (fun q => absurd q.1 (by omega)))
  · refine gs_aload_n (q := 0) k rfl rfl dX7_isAt_11 ?_
    refine gs_get (C := RX7) (T := TX7) (N := 27) (ci := 7) (k0 := 65) (j := 13) k (hI 65 (by omega)) rfl rfl inX7 (by decide) fl_X7_51 rfl rfl dX7_isAt_12 ?_
    refine gs_aload_n (q := 0) k rfl rfl dX7_isAt_15 ?_
    refine gs_get (C := RX7) (T := TX7) (N := 27) (ci := 7) (k0 := 65) (j := 15) k (hI 65 (by omega)) rfl rfl inX7 (by decide) fl_X7_286 rfl rfl dX7_isAt_16 ?_
    refine gs_baldN (k0 := 83) (n := 100) (e := p) k (hI 83 (by omega)) (fun _ => rfl) hp (by omega) (by decide) dX7_isAt_19 ?_
    refine gs_top (y := b p) ((congrFun hb _)) ?_
    refine gs_i2l k dX7_isAt_20 ?_
    refine gs_iload_n (q := 1) k rfl rfl dX7_isAt_21 ?_
    refine gs_i2l k dX7_isAt_22 ?_
    refine gs_iload_n (q := 2) k rfl rfl dX7_isAt_23 ?_
    refine gs_i2l k dX7_isAt_24 ?_
    refine gs_callS (As := [.long ((b p).toInt64), .long (x.toInt64), .long (y.toInt64)]) k (Cm.iff (isBL (a := x) (b := y) (Int32.toInt_toInt64 _) (Int32.toInt_toInt64 _)) c_X7_in) cf_X7_in sm_X7_in ml_X7_79 (by decide) rfl rfl (Nat.le_of_ble_eq_true rfl) dX7_isAt_25 (ppB (fun c2 => ?_) (fun c2 => ?_))
    · refine gs_if_eq (tgt := 35) k (by decide) dX7_isAt_28 (fun h => absurd h (by decide)) (fun _ => ?_)
      refine gs_iconst (v := 1) k (by decide) dX7_isAt_31 ?_
      refine gs_goto (tgt := 36) k (by decide) dX7_isAt_32 ?_
      exact gs_zret k kt (by decide) dX7_isAt_36 (pB1 ⟨c1, c2⟩)
    · refine gs_if_eq (tgt := 35) k (by decide) dX7_isAt_28 (fun _ => ?_) (fun h => absurd h (by decide))
      refine gs_iconst (v := 0) k (by decide) dX7_isAt_35 ?_
      exact gs_zret k kt (by decide) dX7_isAt_36 (pB0 (fun q => c2 q.2))

theorem cf_X7_isWord : CF yX7_isWord cX7_isWord 6 (some .boolean) 2 := ⟨cd_X7_isWord, iz_X7, by decide, by decide +kernel, by decide +kernel, by decide +kernel⟩
set_option maxRecDepth 100000 in
set_option maxHeartbeats 4000000 in
theorem c_X7_isWord {l : Launch} {E : Ev} {M : Mm} {b : Nat → Int32} (hI : ∀ k, k < 108 → k ∈ E.2.1) (hb : M 83 = b) {w p e : Nat} (hw : w < 11) (hpe : p ≤ e) (he : e ≤ 100) (hp : M 65 15 = nI e) {x y : Int32} (hx : x = nI w) (hy : y = nI p) : Cm l E yX7_isWord cX7_isWord 6 (some .boolean) 4 [.ref (E.2.2.1 65), .int x, .int y] M (pB (smW b (wm w) p e) M) := by
  refine Cm.of (by decide) (Nat.le_of_ble_eq_true rfl) (fun K k kt => ?_)
  show G l E K 0 [(0, .ref (E.2.2.1 65)), (1, .int x), (2, .int y)] [] M
  subst hx
  subst hy
  have hi := wm_lt w hw
  have hle := len_ok _ hi
  refine gs_iload_n (q := 1) k rfl rfl dX7_isWord_0 ?_
  refine gs_callS (As := [.int (nI w)]) k (c_X7_wordOf (w := w) (by omega)) cf_X7_wordOf sm_X7_wordOf ml_X7_289 (by decide) rfl rfl (Nat.le_of_ble_eq_true rfl) dX7_isWord_1 (ppA ?_)
  refine gs_astore_n (lv' := [(3, .ref (E.2.2.2.2.2.1 (wm w))), (0, .ref (E.2.2.1 65)), (1, .int (nI w)), (2, .int (nI p))]) k rfl (by decide) rfl dX7_isWord_4 ?_
  refine gs_aload_n (q := 1) k rfl rfl dX7_isWord_5 ?_
  refine gs_get (C := RX7) (T := TX7) (N := 27) (ci := 7) (k0 := 65) (j := 15) k (hI 65 (by omega)) rfl rfl inX7 (by decide) fl_X7_286 rfl rfl dX7_isWord_6 ?_
  refine gs_iload_n (q := 3) k rfl rfl dX7_isWord_9 ?_
  refine gs_isubN (a := e) (b := p) k hp rfl (by omega) dX7_isWord_10 ?_
  refine gs_aload_n (q := 0) k rfl rfl dX7_isWord_11 ?_
  refine gs_callK (i := (wm w)) (As := []) k (c_J0_length_8abf5 hi) cf_J0_length_8abf5 im_J0_length_8abf5 sl_J0_length_8abf5 ml_X7_293 hi rfl (by decide) rfl rfl (Nat.le_of_ble_eq_true rfl) dX7_isWord_12 (ppI ?_)
  refine gs_icmpN_ne (a := e - p) (b := lenL.getD (wm w) 0) (tgt := 22) k rfl rfl (by omega) (by omega) (by decide) dX7_isWord_15 (fun c1 => ?_) (fun c1 => ?_)
  · refine gs_iconst (v := 0) k (by decide) dX7_isWord_22 ?_
    refine gs_istore (lv' := [(4, .int 0), (3, .ref (E.2.2.2.2.2.1 (wm w))), (0, .ref (E.2.2.1 65)), (1, .int (nI w)), (2, .int (nI p))]) k (by decide) rfl dX7_isWord_23 ?_
    refine gs_iconst (v := 0) k (by decide) dX7_isWord_25 ?_
    refine gs_istore (lv' := [(5, .int 0), (4, .int 0), (3, .ref (E.2.2.2.2.2.1 (wm w))), (0, .ref (E.2.2.1 65)), (1, .int (nI w)), (2, .int (nI p))]) k (by decide) rfl dX7_isWord_26 ?_
    refine gs_iload (q := 1) k rfl dX7_isWord_28 ?_
    refine gs_if_eq (tgt := 73) k (by decide) dX7_isWord_30 (fun _ => ?_) (fun h => absurd h (by decide))
    refine gs_iload (q := 1) k rfl dX7_isWord_73 ?_
    exact gs_zret k kt (by decide) dX7_isWord_75 (pB0 (fun q => c1 q.1))
  · have hlq := c1
    refine gs_iconst (v := 1) k (by decide) dX7_isWord_18 ?_
    refine gs_goto (tgt := 23) k (by decide) dX7_isWord_19 ?_
    refine gs_istore (lv' := [(4, .int 1), (3, .ref (E.2.2.2.2.2.1 (wm w))), (0, .ref (E.2.2.1 65)), (1, .int (nI w)), (2, .int (nI p))]) k (by decide) rfl dX7_isWord_23 ?_
    refine gs_iconst (v := 0) k (by decide) dX7_isWord_25 ?_
    refine gs_istore (lv' := [(5, .int 0), (4, .int 1), (3, .ref (E.2.2.2.2.2.1 (wm w))), (0, .ref (E.2.2.1 65)), (1, .int (nI w)), (2, .int (nI p))]) k (by decide) rfl dX7_isWord_26 ?_
    refine gs_lv (lv' := [(0, .ref (E.2.2.1 65)), (1, .int (nI w)), (2, .int (nI p)), (3, .ref (E.2.2.2.2.2.1 (wm w))), (4, .int 1), (5, .int 0)]) [3, 4, 5, 2, 1, 0] rfl ?_
    refine for_al (fun j => G l E K 28 [(0, .ref (E.2.2.1 65)), (1, .int (nI w)), (2, .int (nI p)), (3, .ref (E.2.2.2.2.2.1 (wm w))), (4, .int 1), (5, .int (nI j))] [] M) (fun j => b (p + j) = chr (wm w) j) (lenL.getD (wm w) 0) 0 (fun j hjs hj hBj hGj => ?_) (fun hEj => ?_) (lenL.getD (wm w) 0) 0 (by omega) (Nat.le_refl _) (fun j h1 h2 => absurd h2 (by omega))
    · show G l E K 28 [(0, .ref (E.2.2.1 65)), (1, .int (nI w)), (2, .int (nI p)), (3, .ref (E.2.2.2.2.2.1 (wm w))), (4, .int 1), (5, .int (nI j))] [] M
      refine gs_iload (q := 4) k rfl dX7_isWord_28 ?_
      refine gs_if_eq (tgt := 73) k (by decide) dX7_isWord_30 (fun h => absurd h (by decide)) (fun _ => ?_)
      refine gs_iload (q := 5) k rfl dX7_isWord_33 ?_
      refine gs_aload_n (q := 3) k rfl rfl dX7_isWord_35 ?_
      refine gs_callK (i := (wm w)) (As := []) k (c_J0_length_8abf5 hi) cf_J0_length_8abf5 im_J0_length_8abf5 sl_J0_length_8abf5 ml_X7_293 hi rfl (by decide) rfl rfl (Nat.le_of_ble_eq_true rfl) dX7_isWord_36 (ppI ?_)
      refine gs_icmpN_ge (a := j) (b := lenL.getD (wm w) 0) (tgt := 73) k rfl rfl (by omega) (by omega) (by decide) dX7_isWord_39 (fun c2 => absurd c2 (by omega)) (fun c2 => ?_)
      refine gs_aload_n (q := 0) k rfl rfl dX7_isWord_42 ?_
      refine gs_get (C := RX7) (T := TX7) (N := 27) (ci := 7) (k0 := 65) (j := 13) k (hI 65 (by omega)) rfl rfl inX7 (by decide) fl_X7_51 rfl rfl dX7_isWord_43 ?_
      refine gs_iload_n (q := 2) k rfl rfl dX7_isWord_46 ?_
      refine gs_iload (q := 5) k rfl dX7_isWord_47 ?_
      refine gs_iaddN (a := p) (b := j) k rfl rfl dX7_isWord_49 ?_
      refine gs_baldN (k0 := 83) (n := 100) (e := p + j) k (hI 83 (by omega)) (fun _ => rfl) rfl (by omega) (by decide) dX7_isWord_50 ?_
      refine gs_top (y := b (p + j)) ((congrFun hb _)) ?_
      refine gs_aload_n (q := 3) k rfl rfl dX7_isWord_51 ?_
      refine gs_iload (q := 5) k rfl dX7_isWord_52 ?_
      refine gs_callK (i := (wm w)) (As := [.int (nI j)]) k (c_J0_charAt_5068e hi (j := j) (by omega)) cf_J0_charAt_5068e im_J0_charAt_5068e sl_J0_charAt_5068e ml_X7_298 hi rfl (by decide) rfl rfl (Nat.le_of_ble_eq_true rfl) dX7_isWord_54 (ppI ?_)
      refine gs_icmp_ne (tgt := 64) k (by decide) dX7_isWord_57 (fun c3 => ?_) (fun c3 => ?_)
      · refine gs_iconst (v := 0) k (by decide) dX7_isWord_64 ?_
        refine gs_istore (lv' := [(4, .int 0), (0, .ref (E.2.2.1 65)), (1, .int (nI w)), (2, .int (nI p)), (3, .ref (E.2.2.2.2.2.1 (wm w))), (5, .int (nI j))]) k (by decide) rfl dX7_isWord_65 ?_
        refine gs_iincN (q := 5) (a := j) (c := 1) (lv' := [(5, .int (nI (j + 1))), (4, .int 0), (0, .ref (E.2.2.1 65)), (1, .int (nI w)), (2, .int (nI p)), (3, .ref (E.2.2.2.2.2.1 (wm w)))]) k rfl rfl (by decide) rfl dX7_isWord_67 ?_
        refine gs_goto (tgt := 28) k (by decide) dX7_isWord_70 ?_
        refine gs_iload (q := 1) k rfl dX7_isWord_28 ?_
        refine gs_if_eq (tgt := 73) k (by decide) dX7_isWord_30 (fun _ => ?_) (fun h => absurd h (by decide))
        refine gs_iload (q := 1) k rfl dX7_isWord_73 ?_
        exact gs_zret k kt (by decide) dX7_isWord_75 (pB0 (fun q => c3 (q.2 j hj)))
      · refine gs_iconst (v := 1) k (by decide) dX7_isWord_60 ?_
        refine gs_goto (tgt := 65) k (by decide) dX7_isWord_61 ?_
        refine gs_istore (lv' := [(4, .int 1), (0, .ref (E.2.2.1 65)), (1, .int (nI w)), (2, .int (nI p)), (3, .ref (E.2.2.2.2.2.1 (wm w))), (5, .int (nI j))]) k (by decide) rfl dX7_isWord_65 ?_
        refine gs_iincN (q := 5) (a := j) (c := 1) (lv' := [(5, .int (nI (j + 1))), (4, .int 1), (0, .ref (E.2.2.1 65)), (1, .int (nI w)), (2, .int (nI p)), (3, .ref (E.2.2.2.2.2.1 (wm w)))]) k rfl rfl (by decide) rfl dX7_isWord_67 ?_
        refine gs_goto (tgt := 28) k (by decide) dX7_isWord_70 ?_
        refine gs_lv (lv' := [(0, .ref (E.2.2.1 65)), (1, .int (nI w)), (2, .int (nI p)), (3, .ref (E.2.2.2.2.2.1 (wm w))), (4, .int 1), (5, .int (nI (j + 1)))]) [2, 3, 4, 5, 1, 0] rfl ?_
        exact hGj c3
    · show G l E K 28 [(0, .ref (E.2.2.1 65)), (1, .int (nI w)), (2, .int (nI p)), (3, .ref (E.2.2.2.2.2.1 (wm w))), (4, .int 1), (5, .int (nI (lenL.getD (wm w) 0)))] [] M
      refine gs_iload (q := 4) k rfl dX7_isWord_28 ?_
      refine gs_if_eq (tgt := 73) k (by decide) dX7_isWord_30 (fun h => absurd h (by decide)) (fun _ => ?_)
      refine gs_iload (q := 5) k rfl dX7_isWord_33 ?_
      refine gs_aload_n (q := 3) k rfl rfl dX7_isWord_35 ?_
      refine gs_callK (i := (wm w)) (As := []) k (c_J0_length_8abf5 hi) cf_J0_length_8abf5 im_J0_length_8abf5 sl_J0_length_8abf5 ml_X7_293 hi rfl (by decide) rfl rfl (Nat.le_of_ble_eq_true rfl) dX7_isWord_36 (ppI ?_)
      refine gs_icmpN_ge (a := lenL.getD (wm w) 0) (b := lenL.getD (wm w) 0) (tgt := 73) k rfl rfl (by omega) (by omega) (by decide) dX7_isWord_39 (fun c2 => ?_) (fun c2 => absurd c2 (by omega))
      refine gs_iload (q := 4) k rfl dX7_isWord_73 ?_
      exact gs_zret k kt (by decide) dX7_isWord_75 (pB1 ⟨hlq, fun j hj => hEj j (Nat.zero_le _) hj⟩)

theorem cf_X7_takesWord : CF yX7_takesWord cX7_takesWord 3 (some .boolean) 0 := ⟨cd_X7_takesWord, iz_X7, by decide, by decide +kernel, by decide +kernel, by decide +kernel⟩
set_option maxRecDepth 100000 in
set_option maxHeartbeats 4000000 in
theorem c_X7_takesWord {l : Launch} {E : Ev} {M : Mm} {b : Nat → Int32} {len p : Nat} (hI : ∀ k, k < 108 → k ∈ E.2.1) (hb : M 83 = b) (hl : M 65 14 = nI len) (hp : M 65 15 = nI p) (hlen : len ≤ 100) (hple : p ≤ len) {c : Nat} (hc : c < 100) (ht : M 65 16 = nI c) : Cm l E yX7_takesWord cX7_takesWord 3 (some .boolean) 5 [.ref (E.2.2.1 65)] M (pZ (twP b len p c M)) := by
  refine Cm.of (by decide) (Nat.le_of_ble_eq_true rfl) (fun K k kt => ?_)
  show G l E K 0 [(0, .ref (E.2.2.1 65))] [] M
  refine gs_aload_n (q := 0) k rfl rfl dX7_takesWord_0 ?_
  refine gs_get (C := RX7) (T := TX7) (N := 27) (ci := 7) (k0 := 65) (j := 15) k (hI 65 (by omega)) rfl rfl inX7 (by decide) fl_X7_286 rfl rfl dX7_takesWord_1 ?_
  refine gs_top (y := nI p) hp ?_
  refine gs_istore_n (lv' := [(1, .int (nI p)), (0, .ref (E.2.2.1 65))]) k rfl (by decide) rfl dX7_takesWord_4 ?_
  refine gs_M (M' := (mw M 65 15 (nI (p + 0)))) (mw_same hp).symm ?_
  refine gs_lv (lv' := [(0, .ref (E.2.2.1 65)), (1, .int (nI p))]) [1, 0] rfl ?_
  refine for_wh (σ := Unit) (fun ix _u => G l E K 5 [(0, .ref (E.2.2.1 65)), (1, .int (nI p))] [] (mw M 65 15 (nI (p + ix)))) (fun ix _u => p + ix ≤ len ∧ eow b len (len - p) p = eow b len (len - (p + ix)) (p + ix)) 101 (fun ix _u hJ hG => ?_) 0 () ⟨hple, rfl⟩
  show G l E K 5 [(0, .ref (E.2.2.1 65)), (1, .int (nI p))] [] (mw M 65 15 (nI (p + ix)))
  have hJ1 := hJ.1
  refine gs_aload_n (q := 0) k rfl rfl dX7_takesWord_5 ?_
  refine gs_bipush (v := 97) k (by decide) dX7_takesWord_6 ?_
  refine gs_bipush (v := 122) k (by decide) dX7_takesWord_8 ?_
  refine gs_callV (As := [.int 97, .int 122]) (k0 := 65) (ci := 7) (T := TX7) (N := 27) k (c_X7_isAt (x := 97) (y := 122) hI (rown (by omega) (hb)) (rdj (by decide) (hl)) (mw_eq _ _ _ _) hlen (by omega)) cf_X7_isAt im_X7_isAt sl_X7_isAt ml_X7_302 (hI 65 (by omega)) rfl rfl (by decide) rfl rfl (Nat.le_of_ble_eq_true rfl) dX7_takesWord_10 (ppB (fun c1 => ?_) (fun c1 => ?_))
  · have xc1 := c1.1
    refine gs_if_eq (tgt := 29) k (by decide) dX7_takesWord_13 (fun h => absurd h (by decide)) (fun _ => ?_)
    refine gs_aload_n (q := 0) k rfl rfl dX7_takesWord_16 ?_
    refine gs_dup k rfl dX7_takesWord_17 ?_
    refine gs_get (C := RX7) (T := TX7) (N := 27) (ci := 7) (k0 := 65) (j := 15) k (hI 65 (by omega)) rfl rfl inX7 (by decide) fl_X7_286 rfl rfl dX7_takesWord_18 ?_
    refine gs_top (y := nI (p + ix)) (mw_eq _ _ _ _) ?_
    refine gs_iconst (v := 1) k (by decide) dX7_takesWord_21 ?_
    refine gs_iaddN (a := (p + ix)) (b := 1) k rfl rfl dX7_takesWord_22 ?_
    refine gs_put (C := RX7) (T := TX7) (N := 27) (ci := 7) (k0 := 65) (j := 15) (ty := .int) k (hI 65 (by omega)) rfl rfl rfl inX7 tyX7 tyX7_ok nmX7 (by decide) fl_X7_286 rfl rfl (tyX7_ok 15 (by decide)) rfl rfl (Nat.le_of_ble_eq_true rfl) dX7_takesWord_23 ?_
    refine gs_goto (tgt := 5) k (by decide) dX7_takesWord_26 ?_
    refine gs_M (M' := (mw M 65 15 (nI (p + (ix + 1))))) mw_mw ?_
    exact hG (by omega) () ⟨(by omega), hJ.2.trans (eow_s c1)⟩
  · have heo : eo b len p = p + ix := hJ.2.trans (eow_e c1)
    refine gs_if_eq (tgt := 29) k (by decide) dX7_takesWord_13 (fun _ => ?_) (fun h => absurd h (by decide))
    refine gs_iconst (v := 0) k (by decide) dX7_takesWord_29 ?_
    refine gs_istore_n (lv' := [(2, .int 0), (0, .ref (E.2.2.1 65)), (1, .int (nI p))]) k rfl (by decide) rfl dX7_takesWord_30 ?_
    refine gs_lv (lv' := [(0, .ref (E.2.2.1 65)), (1, .int (nI p)), (2, .int 0)]) [1, 2, 0] rfl ?_
    refine for_fnd (fun w => G l E K 31 [(0, .ref (E.2.2.1 65)), (1, .int (nI p)), (2, .int (nI w))] [] (mw M 65 15 (nI (p + ix)))) (fun w => ifc (smW b (wm w) p (p + ix)) (some w) none) 11 (fwR b p (p + ix)) (fun w hw hXw hNw => ?_) (fun hEw => ?_) 11 0 (by omega) rfl
    · show G l E K 31 [(0, .ref (E.2.2.1 65)), (1, .int (nI p)), (2, .int (nI w))] [] (mw M 65 15 (nI (p + ix)))
      refine gs_iload_n (q := 2) k rfl rfl dX7_takesWord_31 ?_
      refine gs_bipush (v := 11) k (by decide) dX7_takesWord_32 ?_
      refine gs_icmpN_ge (a := w) (b := 11) (tgt := 52) k rfl rfl (by omega) (by omega) (by decide) dX7_takesWord_34 (fun c2 => absurd c2 (by omega)) (fun c2 => ?_)
      refine gs_aload_n (q := 0) k rfl rfl dX7_takesWord_37 ?_
      refine gs_iload_n (q := 2) k rfl rfl dX7_takesWord_38 ?_
      refine gs_iload_n (q := 1) k rfl rfl dX7_takesWord_39 ?_
      refine gs_callV (As := [.int (nI w), .int (nI p)]) (k0 := 65) (ci := 7) (T := TX7) (N := 27) k (c_X7_isWord (w := w) (p := p) (e := p + ix) hI (rown (by omega) (hb)) (by omega) (by omega) (by omega) (mw_eq _ _ _ _) rfl rfl) cf_X7_isWord im_X7_isWord sl_X7_isWord ml_X7_306 (hI 65 (by omega)) rfl rfl (by decide) rfl rfl (Nat.le_of_ble_eq_true rfl) dX7_takesWord_40 (ppB (fun c3 => ?_) (fun c3 => ?_))
      · refine gs_if_ne (tgt := 52) k (by decide) dX7_takesWord_43 (fun _ => ?_) (fun h => absurd h (by decide))
        refine gs_aload_n (q := 0) k rfl rfl dX7_takesWord_52 ?_
        refine gs_get (C := RX7) (T := TX7) (N := 27) (ci := 7) (k0 := 65) (j := 17) k (hI 65 (by omega)) rfl rfl inX7 (by decide) fl_X7_55 rfl rfl dX7_takesWord_53 ?_
        refine gs_aload_n (q := 0) k rfl rfl dX7_takesWord_56 ?_
        refine gs_get (C := RX7) (T := TX7) (N := 27) (ci := 7) (k0 := 65) (j := 16) k (hI 65 (by omega)) rfl rfl inX7 (by decide) fl_X7_309 rfl rfl dX7_takesWord_57 ?_
        refine gs_top (y := M 65 16) (rdj (by decide) (rfl)) ?_
        refine gs_top (y := nI c) ht ?_
        refine gs_iload_n (q := 2) k rfl rfl dX7_takesWord_60 ?_
        refine gs_iastN (k0 := 84) (n := 100) (e := c) k (hI 84 (by omega)) (fun _ => rfl) rfl (by omega) (by decide) dX7_takesWord_61 ?_
        refine gs_iload_n (q := 2) k rfl rfl dX7_takesWord_62 ?_
        refine gs_bipush (v := 11) k (by decide) dX7_takesWord_63 ?_
        refine gs_icmpN_ne (a := w) (b := 11) (tgt := 73) k rfl rfl (by omega) (by omega) (by decide) dX7_takesWord_65 (fun c4 => ?_) (fun c4 => absurd c4 (by omega))
        refine gs_iload_n (q := 2) k rfl rfl dX7_takesWord_73 ?_
        refine gs_bipush (v := 11) k (by decide) dX7_takesWord_74 ?_
        refine gs_icmpN_ge (a := w) (b := 11) (tgt := 83) k rfl rfl (by omega) (by omega) (by decide) dX7_takesWord_76 (fun c5 => absurd c5 (by omega)) (fun c5 => ?_)
        refine gs_iconst (v := 1) k (by decide) dX7_takesWord_79 ?_
        refine gs_goto (tgt := 84) k (by decide) dX7_takesWord_80 ?_
        exact gs_zret k kt (by decide) dX7_takesWord_84 ⟨_, rfl, (SameT.m1 (SameT.m1 SameT.rf (by unfold scrT scr; omega)) (by unfold scrT scr; omega)), (rown (by omega) (rown (by omega) (rfl))), (rdn (by omega) (rdj (by decide) (rfl))), fun j hj => (rdj hj (rdn (by omega) (rfl))), Or.inl ⟨rfl, _, (fwR_s (hXw _ (ifc_t c3))).1, (by rw [heo]; exact (fwR_s (hXw _ (ifc_t c3))).2), (mw_eq _ _ _ _), (rdn (by omega) (mw_eq _ _ _ _)).trans (congrArg nI heo.symm)⟩⟩
      · refine gs_if_ne (tgt := 52) k (by decide) dX7_takesWord_43 (fun h => absurd h (by decide)) (fun _ => ?_)
        refine gs_iincN (q := 2) (a := w) (c := 1) (lv' := [(2, .int (nI (w + 1))), (0, .ref (E.2.2.1 65)), (1, .int (nI p))]) k rfl rfl (by decide) rfl dX7_takesWord_46 ?_
        refine gs_goto (tgt := 31) k (by decide) dX7_takesWord_49 ?_
        refine gs_lv (lv' := [(0, .ref (E.2.2.1 65)), (1, .int (nI p)), (2, .int (nI (w + 1)))]) [1, 2, 0] rfl ?_
        exact hNw (ifc_f c3)
    · show G l E K 31 [(0, .ref (E.2.2.1 65)), (1, .int (nI p)), (2, .int (nI 11))] [] (mw M 65 15 (nI (p + ix)))
      refine gs_iload_n (q := 2) k rfl rfl dX7_takesWord_31 ?_
      refine gs_bipush (v := 11) k (by decide) dX7_takesWord_32 ?_
      refine gs_icmpN_ge (a := 11) (b := 11) (tgt := 52) k rfl rfl (by omega) (by omega) (by decide) dX7_takesWord_34 (fun c2 => ?_) (fun c2 => absurd c2 (by omega))
      refine gs_aload_n (q := 0) k rfl rfl dX7_takesWord_52 ?_
      refine gs_get (C := RX7) (T := TX7) (N := 27) (ci := 7) (k0 := 65) (j := 17) k (hI 65 (by omega)) rfl rfl inX7 (by decide) fl_X7_55 rfl rfl dX7_takesWord_53 ?_
      refine gs_aload_n (q := 0) k rfl rfl dX7_takesWord_56 ?_
      refine gs_get (C := RX7) (T := TX7) (N := 27) (ci := 7) (k0 := 65) (j := 16) k (hI 65 (by omega)) rfl rfl inX7 (by decide) fl_X7_309 rfl rfl dX7_takesWord_57 ?_
      refine gs_top (y := M 65 16) (rdj (by decide) (rfl)) ?_
      refine gs_top (y := nI c) ht ?_
      refine gs_iload_n (q := 2) k rfl rfl dX7_takesWord_60 ?_
      refine gs_iastN (k0 := 84) (n := 100) (e := c) k (hI 84 (by omega)) (fun _ => rfl) rfl (by omega) (by decide) dX7_takesWord_61 ?_
      refine gs_iload_n (q := 2) k rfl rfl dX7_takesWord_62 ?_
      refine gs_bipush (v := 11) k (by decide) dX7_takesWord_63 ?_
      refine gs_icmpN_ne (a := 11) (b := 11) (tgt := 73) k rfl rfl (by omega) (by omega) (by decide) dX7_takesWord_65 (fun c3 => absurd rfl c3) (fun c3 => ?_)
      refine gs_aload_n (q := 0) k rfl rfl dX7_takesWord_68 ?_
      refine gs_iload_n (q := 1) k rfl rfl dX7_takesWord_69 ?_
      refine gs_put (C := RX7) (T := TX7) (N := 27) (ci := 7) (k0 := 65) (j := 15) (ty := .int) k (hI 65 (by omega)) rfl rfl rfl inX7 tyX7 tyX7_ok nmX7 (by decide) fl_X7_286 rfl rfl (tyX7_ok 15 (by decide)) rfl rfl (Nat.le_of_ble_eq_true rfl) dX7_takesWord_70 ?_
      refine gs_iload_n (q := 2) k rfl rfl dX7_takesWord_73 ?_
      refine gs_bipush (v := 11) k (by decide) dX7_takesWord_74 ?_
      refine gs_icmpN_ge (a := 11) (b := 11) (tgt := 83) k rfl rfl (by omega) (by omega) (by decide) dX7_takesWord_76 (fun c4 => ?_) (fun c4 => absurd c4 (by omega))
      refine gs_iconst (v := 0) k (by decide) dX7_takesWord_83 ?_
      exact gs_zret k kt (by decide) dX7_takesWord_84 ⟨_, rfl, (SameT.m1 (SameT.m1 (SameT.m1 SameT.rf (by unfold scrT scr; omega)) (by unfold scrT scr; omega)) (by unfold scrT scr; omega)), (rown (by omega) (rown (by omega) (rown (by omega) (rfl)))), (rdj (by decide) (rdn (by omega) (rdj (by decide) (rfl)))), fun j hj => (rdn (by omega) (rdj hj (rdn (by omega) (rfl)))), Or.inr ⟨rfl, (by rw [heo]; exact fwR_n hEw), (mw_eq _ _ _ _)⟩⟩

theorem cf_X7_takesNumber : CF yX7_takesNumber cX7_takesNumber 5 (some .boolean) 1 := ⟨cd_X7_takesNumber, iz_X7, by decide, by decide +kernel, by decide +kernel, by decide +kernel⟩
set_option maxRecDepth 100000 in
set_option maxHeartbeats 4000000 in
theorem c_X7_takesNumber {l : Launch} {E : Ev} {M : Mm} {b : Nat → Int32} {len p : Nat} (hI : ∀ k, k < 108 → k ∈ E.2.1) (hb : M 83 = b) (hl : M 65 14 = nI len) (hp : M 65 15 = nI p) (hlen : len ≤ 100) (hple : p ≤ len) {c g : Nat} (hc : c < 100) (hg : g < 3) (ht : M 65 16 = nI c) {y : Int32} (hy : y = nI g) : Cm l E yX7_takesNumber cX7_takesNumber 5 (some .boolean) 2 [.ref (E.2.2.1 65), .int y] M (pZ (numP 65 15 85 84 65 16 b len p (3 * c + g) M)) := by
  refine Cm.of (by decide) (Nat.le_of_ble_eq_true rfl) (fun K k kt => ?_)
  show G l E K 0 [(0, .ref (E.2.2.1 65)), (1, .int y)] [] M
  refine gs_aload_n (q := 0) k rfl rfl dX7_takesNumber_0 ?_
  refine gs_bipush (v := 32) k (by decide) dX7_takesNumber_1 ?_
  refine gs_bipush (v := 32) k (by decide) dX7_takesNumber_3 ?_
  refine gs_callV (As := [.int 32, .int 32]) (k0 := 65) (ci := 7) (T := TX7) (N := 27) k (Cm.iff isC_1 (c_X7_isAt (x := 32) (y := 32) hI (hb) (hl) (hp) hlen (by omega))) cf_X7_isAt im_X7_isAt sl_X7_isAt ml_X7_302 (hI 65 (by omega)) rfl rfl (by decide) rfl rfl (Nat.le_of_ble_eq_true rfl) dX7_takesNumber_5 (ppB (fun c1 => ?_) (fun c1 => ?_))
  · have xc1 := c1.1
    refine gs_if_ne (tgt := 13) k (by decide) dX7_takesNumber_8 (fun _ => ?_) (fun h => absurd h (by decide))
    refine gs_aload_n (q := 0) k rfl rfl dX7_takesNumber_13 ?_
    refine gs_dup k rfl dX7_takesNumber_14 ?_
    refine gs_get (C := RX7) (T := TX7) (N := 27) (ci := 7) (k0 := 65) (j := 15) k (hI 65 (by omega)) rfl rfl inX7 (by decide) fl_X7_286 rfl rfl dX7_takesNumber_15 ?_
    refine gs_iconst (v := 1) k (by decide) dX7_takesNumber_18 ?_
    refine gs_iaddN (a := p) (b := 1) k hp rfl dX7_takesNumber_19 ?_
    refine gs_put (C := RX7) (T := TX7) (N := 27) (ci := 7) (k0 := 65) (j := 15) (ty := .int) k (hI 65 (by omega)) rfl rfl rfl inX7 tyX7 tyX7_ok nmX7 (by decide) fl_X7_286 rfl rfl (tyX7_ok 15 (by decide)) rfl rfl (Nat.le_of_ble_eq_true rfl) dX7_takesNumber_20 ?_
    refine gs_aload_n (q := 0) k rfl rfl dX7_takesNumber_23 ?_
    refine gs_bipush (v := 45) k (by decide) dX7_takesNumber_24 ?_
    refine gs_bipush (v := 45) k (by decide) dX7_takesNumber_26 ?_
    refine gs_callV (As := [.int 45, .int 45]) (k0 := 65) (ci := 7) (T := TX7) (N := 27) k (Cm.iff isC_1 (c_X7_isAt (x := 45) (y := 45) hI (rown (by omega) (hb)) (rdj (by decide) (hl)) (mw_eq _ _ _ _) hlen (by omega))) cf_X7_isAt im_X7_isAt sl_X7_isAt ml_X7_302 (hI 65 (by omega)) rfl rfl (by decide) rfl rfl (Nat.le_of_ble_eq_true rfl) dX7_takesNumber_28 (ppB (fun c2 => ?_) (fun c2 => ?_))
    · have xc2 := c2.1
      refine gs_istore_n (lv' := [(2, .int 1), (0, .ref (E.2.2.1 65)), (1, .int y)]) k rfl (by decide) rfl dX7_takesNumber_31 ?_
      refine gs_iload_n (q := 0) k rfl rfl dX7_takesNumber_32 ?_
      refine gs_if_eq (tgt := 46) k (by decide) dX7_takesNumber_33 (fun h => absurd h (by decide)) (fun _ => ?_)
      refine gs_aload_n (q := 1) k rfl rfl dX7_takesNumber_36 ?_
      refine gs_dup k rfl dX7_takesNumber_37 ?_
      refine gs_get (C := RX7) (T := TX7) (N := 27) (ci := 7) (k0 := 65) (j := 15) k (hI 65 (by omega)) rfl rfl inX7 (by decide) fl_X7_286 rfl rfl dX7_takesNumber_38 ?_
      refine gs_top (y := nI (p + 1)) (mw_eq _ _ _ _) ?_
      refine gs_iconst (v := 1) k (by decide) dX7_takesNumber_41 ?_
      refine gs_iaddN (a := (p + 1)) (b := 1) k rfl rfl dX7_takesNumber_42 ?_
      refine gs_put (C := RX7) (T := TX7) (N := 27) (ci := 7) (k0 := 65) (j := 15) (ty := .int) k (hI 65 (by omega)) rfl rfl rfl inX7 tyX7 tyX7_ok nmX7 (by decide) fl_X7_286 rfl rfl (tyX7_ok 15 (by decide)) rfl rfl (Nat.le_of_ble_eq_true rfl) dX7_takesNumber_43 ?_
      refine gs_aload_n (q := 1) k rfl rfl dX7_takesNumber_46 ?_
      refine gs_bipush (v := 48) k (by decide) dX7_takesNumber_47 ?_
      refine gs_bipush (v := 57) k (by decide) dX7_takesNumber_49 ?_
      refine gs_callV (As := [.int 48, .int 57]) (k0 := 65) (ci := 7) (T := TX7) (N := 27) k (c_X7_isAt (x := 48) (y := 57) hI (rown (by omega) (rown (by omega) (hb))) (rdj (by decide) (rdj (by decide) (hl))) (mw_eq _ _ _ _) hlen (by omega)) cf_X7_isAt im_X7_isAt sl_X7_isAt ml_X7_302 (hI 65 (by omega)) rfl rfl (by decide) rfl rfl (Nat.le_of_ble_eq_true rfl) dX7_takesNumber_51 (ppB (fun c3 => ?_) (fun c3 => ?_))
      · have xc3 := c3.1
        refine gs_if_ne (tgt := 59) k (by decide) dX7_takesNumber_54 (fun _ => ?_) (fun h => absurd h (by decide))
        refine gs_iconst (v := 0) k (by decide) dX7_takesNumber_59 ?_
        refine gs_istore_n (lv' := [(3, .int 0), (2, .int 1), (0, .ref (E.2.2.1 65)), (1, .int y)]) k rfl (by decide) rfl dX7_takesNumber_60 ?_
        refine gs_iconst (v := 0) k (by decide) dX7_takesNumber_61 ?_
        refine gs_istore (lv' := [(4, .int 0), (3, .int 0), (2, .int 1), (0, .ref (E.2.2.1 65)), (1, .int y)]) k (by decide) rfl dX7_takesNumber_62 ?_
        refine gs_iload (q := 0) k rfl dX7_takesNumber_64 ?_
        refine gs_iconst (v := 3) k (by decide) dX7_takesNumber_66 ?_
        refine gs_icmp_ge (tgt := 115) k (by decide) dX7_takesNumber_67 (fun h => absurd h (by decide)) (fun _ => ?_)
        refine gs_aload_n (q := 3) k rfl rfl dX7_takesNumber_70 ?_
        refine gs_bipush (v := 48) k (by decide) dX7_takesNumber_71 ?_
        refine gs_bipush (v := 57) k (by decide) dX7_takesNumber_73 ?_
        refine gs_callV (As := [.int 48, .int 57]) (k0 := 65) (ci := 7) (T := TX7) (N := 27) k (c_X7_isAt (x := 48) (y := 57) hI (rown (by omega) (rown (by omega) (hb))) (rdj (by decide) (rdj (by decide) (hl))) (mw_eq _ _ _ _) hlen (by omega)) cf_X7_isAt im_X7_isAt sl_X7_isAt ml_X7_302 (hI 65 (by omega)) rfl rfl (by decide) rfl rfl (Nat.le_of_ble_eq_true rfl) dX7_takesNumber_75 (ppB (fun c4 => ?_) (fun c4 => absurd c3 c4))
        have xc4 := c4.1
        refine gs_if_eq (tgt := 115) k (by decide) dX7_takesNumber_78 (fun h => absurd h (by decide)) (fun _ => ?_)
        refine gs_bipush (v := 10) k (by decide) dX7_takesNumber_81 ?_
        refine gs_iload_n (q := 1) k rfl rfl dX7_takesNumber_83 ?_
        refine gs_imul k dX7_takesNumber_84 ?_
        refine gs_aload_n (q := 3) k rfl rfl dX7_takesNumber_85 ?_
        refine gs_get (C := RX7) (T := TX7) (N := 27) (ci := 7) (k0 := 65) (j := 13) k (hI 65 (by omega)) rfl rfl inX7 (by decide) fl_X7_51 rfl rfl dX7_takesNumber_86 ?_
        refine gs_aload_n (q := 3) k rfl rfl dX7_takesNumber_89 ?_
        refine gs_get (C := RX7) (T := TX7) (N := 27) (ci := 7) (k0 := 65) (j := 15) k (hI 65 (by omega)) rfl rfl inX7 (by decide) fl_X7_286 rfl rfl dX7_takesNumber_90 ?_
        refine gs_top (y := nI ((p + 1) + 1)) (mw_eq _ _ _ _) ?_
        refine gs_baldN (k0 := 83) (n := 100) (e := ((p + 1) + 1)) k (hI 83 (by omega)) (fun _ => rfl) rfl (by omega) (by decide) dX7_takesNumber_93 ?_
        refine gs_top (y := b ((p + 1) + 1)) (rdn (by omega) (rdn (by omega) ((congrFun hb _)))) ?_
        refine gs_iadd k dX7_takesNumber_94 ?_
        refine gs_bipush (v := 48) k (by decide) dX7_takesNumber_95 ?_
        refine gs_isub k dX7_takesNumber_97 ?_
        refine gs_istore_n (lv' := [(3, .int (((10 * 0) + (b ((p + 1) + 1))) - 48)), (4, .int 0), (2, .int 1), (0, .ref (E.2.2.1 65)), (1, .int y)]) k rfl (by decide) rfl dX7_takesNumber_98 ?_
        refine gs_aload_n (q := 3) k rfl rfl dX7_takesNumber_99 ?_
        refine gs_dup k rfl dX7_takesNumber_100 ?_
        refine gs_get (C := RX7) (T := TX7) (N := 27) (ci := 7) (k0 := 65) (j := 15) k (hI 65 (by omega)) rfl rfl inX7 (by decide) fl_X7_286 rfl rfl dX7_takesNumber_101 ?_
        refine gs_top (y := nI ((p + 1) + 1)) (mw_eq _ _ _ _) ?_
        refine gs_iconst (v := 1) k (by decide) dX7_takesNumber_104 ?_
        refine gs_iaddN (a := ((p + 1) + 1)) (b := 1) k rfl rfl dX7_takesNumber_105 ?_
        refine gs_put (C := RX7) (T := TX7) (N := 27) (ci := 7) (k0 := 65) (j := 15) (ty := .int) k (hI 65 (by omega)) rfl rfl rfl inX7 tyX7 tyX7_ok nmX7 (by decide) fl_X7_286 rfl rfl (tyX7_ok 15 (by decide)) rfl rfl (Nat.le_of_ble_eq_true rfl) dX7_takesNumber_106 ?_
        refine gs_iinc (q := 1) (v := 1) (lv' := [(4, .int 1), (3, .int (((10 * 0) + (b ((p + 1) + 1))) - 48)), (2, .int 1), (0, .ref (E.2.2.1 65)), (1, .int y)]) k rfl (by decide) (by decide) rfl dX7_takesNumber_109 ?_
        refine gs_goto (tgt := 64) k (by decide) dX7_takesNumber_112 ?_
        refine gs_iload (q := 0) k rfl dX7_takesNumber_64 ?_
        refine gs_iconst (v := 3) k (by decide) dX7_takesNumber_66 ?_
        refine gs_icmp_ge (tgt := 115) k (by decide) dX7_takesNumber_67 (fun h => absurd h (by decide)) (fun _ => ?_)
        refine gs_aload_n (q := 3) k rfl rfl dX7_takesNumber_70 ?_
        refine gs_bipush (v := 48) k (by decide) dX7_takesNumber_71 ?_
        refine gs_bipush (v := 57) k (by decide) dX7_takesNumber_73 ?_
        refine gs_callV (As := [.int 48, .int 57]) (k0 := 65) (ci := 7) (T := TX7) (N := 27) k (c_X7_isAt (x := 48) (y := 57) hI (rown (by omega) (rown (by omega) (rown (by omega) (hb)))) (rdj (by decide) (rdj (by decide) (rdj (by decide) (hl)))) (mw_eq _ _ _ _) hlen (by omega)) cf_X7_isAt im_X7_isAt sl_X7_isAt ml_X7_302 (hI 65 (by omega)) rfl rfl (by decide) rfl rfl (Nat.le_of_ble_eq_true rfl) dX7_takesNumber_75 (ppB (fun c5 => ?_) (fun c5 => ?_))
        · have xc5 := c5.1
          refine gs_if_eq (tgt := 115) k (by decide) dX7_takesNumber_78 (fun h => absurd h (by decide)) (fun _ => ?_)
          refine gs_bipush (v := 10) k (by decide) dX7_takesNumber_81 ?_
          refine gs_iload_n (q := 1) k rfl rfl dX7_takesNumber_83 ?_
          refine gs_imul k dX7_takesNumber_84 ?_
          refine gs_aload_n (q := 3) k rfl rfl dX7_takesNumber_85 ?_
          refine gs_get (C := RX7) (T := TX7) (N := 27) (ci := 7) (k0 := 65) (j := 13) k (hI 65 (by omega)) rfl rfl inX7 (by decide) fl_X7_51 rfl rfl dX7_takesNumber_86 ?_
          refine gs_aload_n (q := 3) k rfl rfl dX7_takesNumber_89 ?_
          refine gs_get (C := RX7) (T := TX7) (N := 27) (ci := 7) (k0 := 65) (j := 15) k (hI 65 (by omega)) rfl rfl inX7 (by decide) fl_X7_286 rfl rfl dX7_takesNumber_90 ?_
          refine gs_top (y := nI (((p + 1) + 1) + 1)) (mw_eq _ _ _ _) ?_
          refine gs_baldN (k0 := 83) (n := 100) (e := (((p + 1) + 1) + 1)) k (hI 83 (by omega)) (fun _ => rfl) rfl (by omega) (by decide) dX7_takesNumber_93 ?_
          refine gs_top (y := b (((p + 1) + 1) + 1)) (rdn (by omega) (rdn (by omega) (rdn (by omega) ((congrFun hb _))))) ?_
          refine gs_iadd k dX7_takesNumber_94 ?_
          refine gs_bipush (v := 48) k (by decide) dX7_takesNumber_95 ?_
          refine gs_isub k dX7_takesNumber_97 ?_
          refine gs_istore_n (lv' := [(3, .int (((10 * (((10 * 0) + (b ((p + 1) + 1))) - 48)) + (b (((p + 1) + 1) + 1))) - 48)), (4, .int 1), (2, .int 1), (0, .ref (E.2.2.1 65)), (1, .int y)]) k rfl (by decide) rfl dX7_takesNumber_98 ?_
          refine gs_aload_n (q := 3) k rfl rfl dX7_takesNumber_99 ?_
          refine gs_dup k rfl dX7_takesNumber_100 ?_
          refine gs_get (C := RX7) (T := TX7) (N := 27) (ci := 7) (k0 := 65) (j := 15) k (hI 65 (by omega)) rfl rfl inX7 (by decide) fl_X7_286 rfl rfl dX7_takesNumber_101 ?_
          refine gs_top (y := nI (((p + 1) + 1) + 1)) (mw_eq _ _ _ _) ?_
          refine gs_iconst (v := 1) k (by decide) dX7_takesNumber_104 ?_
          refine gs_iaddN (a := (((p + 1) + 1) + 1)) (b := 1) k rfl rfl dX7_takesNumber_105 ?_
          refine gs_put (C := RX7) (T := TX7) (N := 27) (ci := 7) (k0 := 65) (j := 15) (ty := .int) k (hI 65 (by omega)) rfl rfl rfl inX7 tyX7 tyX7_ok nmX7 (by decide) fl_X7_286 rfl rfl (tyX7_ok 15 (by decide)) rfl rfl (Nat.le_of_ble_eq_true rfl) dX7_takesNumber_106 ?_
          refine gs_iinc (q := 1) (v := 2) (lv' := [(4, .int 2), (3, .int (((10 * (((10 * 0) + (b ((p + 1) + 1))) - 48)) + (b (((p + 1) + 1) + 1))) - 48)), (2, .int 1), (0, .ref (E.2.2.1 65)), (1, .int y)]) k rfl (by decide) (by decide) rfl dX7_takesNumber_109 ?_
          refine gs_goto (tgt := 64) k (by decide) dX7_takesNumber_112 ?_
          refine gs_iload (q := 0) k rfl dX7_takesNumber_64 ?_
          refine gs_iconst (v := 3) k (by decide) dX7_takesNumber_66 ?_
          refine gs_icmp_ge (tgt := 115) k (by decide) dX7_takesNumber_67 (fun h => absurd h (by decide)) (fun _ => ?_)
          refine gs_aload_n (q := 3) k rfl rfl dX7_takesNumber_70 ?_
          refine gs_bipush (v := 48) k (by decide) dX7_takesNumber_71 ?_
          refine gs_bipush (v := 57) k (by decide) dX7_takesNumber_73 ?_
          refine gs_callV (As := [.int 48, .int 57]) (k0 := 65) (ci := 7) (T := TX7) (N := 27) k (c_X7_isAt (x := 48) (y := 57) hI (rown (by omega) (rown (by omega) (rown (by omega) (rown (by omega) (hb))))) (rdj (by decide) (rdj (by decide) (rdj (by decide) (rdj (by decide) (hl))))) (mw_eq _ _ _ _) hlen (by omega)) cf_X7_isAt im_X7_isAt sl_X7_isAt ml_X7_302 (hI 65 (by omega)) rfl rfl (by decide) rfl rfl (Nat.le_of_ble_eq_true rfl) dX7_takesNumber_75 (ppB (fun c6 => ?_) (fun c6 => ?_))
          · have xc6 := c6.1
            refine gs_if_eq (tgt := 115) k (by decide) dX7_takesNumber_78 (fun h => absurd h (by decide)) (fun _ => ?_)
            refine gs_bipush (v := 10) k (by decide) dX7_takesNumber_81 ?_
            refine gs_iload_n (q := 1) k rfl rfl dX7_takesNumber_83 ?_
            refine gs_imul k dX7_takesNumber_84 ?_
            refine gs_aload_n (q := 3) k rfl rfl dX7_takesNumber_85 ?_
            refine gs_get (C := RX7) (T := TX7) (N := 27) (ci := 7) (k0 := 65) (j := 13) k (hI 65 (by omega)) rfl rfl inX7 (by decide) fl_X7_51 rfl rfl dX7_takesNumber_86 ?_
            refine gs_aload_n (q := 3) k rfl rfl dX7_takesNumber_89 ?_
            refine gs_get (C := RX7) (T := TX7) (N := 27) (ci := 7) (k0 := 65) (j := 15) k (hI 65 (by omega)) rfl rfl inX7 (by decide) fl_X7_286 rfl rfl dX7_takesNumber_90 ?_
            refine gs_top (y := nI ((((p + 1) + 1) + 1) + 1)) (mw_eq _ _ _ _) ?_
            refine gs_baldN (k0 := 83) (n := 100) (e := ((((p + 1) + 1) + 1) + 1)) k (hI 83 (by omega)) (fun _ => rfl) rfl (by omega) (by decide) dX7_takesNumber_93 ?_
            refine gs_top (y := b ((((p + 1) + 1) + 1) + 1)) (rdn (by omega) (rdn (by omega) (rdn (by omega) (rdn (by omega) ((congrFun hb _)))))) ?_
            refine gs_iadd k dX7_takesNumber_94 ?_
            refine gs_bipush (v := 48) k (by decide) dX7_takesNumber_95 ?_
            refine gs_isub k dX7_takesNumber_97 ?_
            refine gs_istore_n (lv' := [(3, .int (((10 * (((10 * (((10 * 0) + (b ((p + 1) + 1))) - 48)) + (b (((p + 1) + 1) + 1))) - 48)) + (b ((((p + 1) + 1) + 1) + 1))) - 48)), (4, .int 2), (2, .int 1), (0, .ref (E.2.2.1 65)), (1, .int y)]) k rfl (by decide) rfl dX7_takesNumber_98 ?_
            refine gs_aload_n (q := 3) k rfl rfl dX7_takesNumber_99 ?_
            refine gs_dup k rfl dX7_takesNumber_100 ?_
            refine gs_get (C := RX7) (T := TX7) (N := 27) (ci := 7) (k0 := 65) (j := 15) k (hI 65 (by omega)) rfl rfl inX7 (by decide) fl_X7_286 rfl rfl dX7_takesNumber_101 ?_
            refine gs_top (y := nI ((((p + 1) + 1) + 1) + 1)) (mw_eq _ _ _ _) ?_
            refine gs_iconst (v := 1) k (by decide) dX7_takesNumber_104 ?_
            refine gs_iaddN (a := ((((p + 1) + 1) + 1) + 1)) (b := 1) k rfl rfl dX7_takesNumber_105 ?_
            refine gs_put (C := RX7) (T := TX7) (N := 27) (ci := 7) (k0 := 65) (j := 15) (ty := .int) k (hI 65 (by omega)) rfl rfl rfl inX7 tyX7 tyX7_ok nmX7 (by decide) fl_X7_286 rfl rfl (tyX7_ok 15 (by decide)) rfl rfl (Nat.le_of_ble_eq_true rfl) dX7_takesNumber_106 ?_
            refine gs_iinc (q := 1) (v := 3) (lv' := [(4, .int 3), (3, .int (((10 * (((10 * (((10 * 0) + (b ((p + 1) + 1))) - 48)) + (b (((p + 1) + 1) + 1))) - 48)) + (b ((((p + 1) + 1) + 1) + 1))) - 48)), (2, .int 1), (0, .ref (E.2.2.1 65)), (1, .int y)]) k rfl (by decide) (by decide) rfl dX7_takesNumber_109 ?_
            refine gs_goto (tgt := 64) k (by decide) dX7_takesNumber_112 ?_
            refine gs_iload (q := 0) k rfl dX7_takesNumber_64 ?_
            refine gs_iconst (v := 3) k (by decide) dX7_takesNumber_66 ?_
            refine gs_icmp_ge (tgt := 115) k (by decide) dX7_takesNumber_67 (fun _ => ?_) (fun h => absurd h (by decide))
            refine gs_aload_n (q := 3) k rfl rfl dX7_takesNumber_115 ?_
            refine gs_get (C := RX7) (T := TX7) (N := 27) (ci := 7) (k0 := 65) (j := 18) k (hI 65 (by omega)) rfl rfl inX7 (by decide) fl_X7_58 rfl rfl dX7_takesNumber_116 ?_
            refine gs_iconst (v := 3) k (by decide) dX7_takesNumber_119 ?_
            refine gs_aload_n (q := 3) k rfl rfl dX7_takesNumber_120 ?_
            refine gs_get (C := RX7) (T := TX7) (N := 27) (ci := 7) (k0 := 65) (j := 16) k (hI 65 (by omega)) rfl rfl inX7 (by decide) fl_X7_309 rfl rfl dX7_takesNumber_121 ?_
            refine gs_top (y := M 65 16) (rdj (by decide) (rdj (by decide) (rdj (by decide) (rdj (by decide) (rdj (by decide) (rfl)))))) ?_
            refine gs_top (y := nI c) ht ?_
            refine gs_imulN (a := 3) (b := c) k rfl rfl dX7_takesNumber_124 ?_
            refine gs_iload_n (q := 4) k rfl rfl dX7_takesNumber_125 ?_
            refine gs_iaddN (a := 3 * c) (b := g) k rfl hy dX7_takesNumber_126 ?_
            refine gs_iload_n (q := 2) k rfl rfl dX7_takesNumber_127 ?_
            refine gs_if_eq (tgt := 136) k (by decide) dX7_takesNumber_128 (fun h => absurd h (by decide)) (fun _ => ?_)
            refine gs_iload_n (q := 1) k rfl rfl dX7_takesNumber_131 ?_
            refine gs_ineg k dX7_takesNumber_132 ?_
            refine gs_goto (tgt := 137) k (by decide) dX7_takesNumber_133 ?_
            refine gs_iastN (k0 := 85) (n := 300) (e := (3 * c) + g) k (hI 85 (by omega)) (fun _ => rfl) rfl (by omega) (by decide) dX7_takesNumber_137 ?_
            refine gs_iconst (v := 1) k (by decide) dX7_takesNumber_138 ?_
            exact gs_zret k kt (by decide) dX7_takesNumber_139 ⟨_, rfl, (SameT.m1 (SameT.m1 (SameT.m1 (SameT.m1 (SameT.m1 (SameT.m1 SameT.rf (by unfold scrT scr; omega)) (by unfold scrT scr; omega)) (by unfold scrT scr; omega)) (by unfold scrT scr; omega)) (by unfold scrT scr; omega)) (by unfold scrT scr; omega)), (rdn (by omega) (mw_eq _ _ _ _)).trans (congrArg nI (nl_13 c1 c2 c3 c5 c6).1.symm), fun j hj => rdj hj (rdn (by omega) (rdn (by omega) (rdn (by omega) (rdn (by omega) (rdn (by omega) (rfl)))))), (rown (by omega) (rown (by omega) (rown (by omega) (rown (by omega) (rown (by omega) (rown (by omega) (rfl))))))), (rdn (by omega) (rdj (by decide) (rdj (by decide) (rdj (by decide) (rdj (by decide) (rdj (by decide) (rfl))))))), Or.inl ⟨rfl, (nl_13 c1 c2 c3 c5 c6).2.2, (mw_eq _ _ _ _).trans ((show -(nvR b (p + 1 + 1) 3) = -(nv b (p + 1 + 1) 3) by rw [nvR_eq]).trans (nl_13 c1 c2 c3 c5 c6).2.1.symm)⟩⟩
          · refine gs_if_eq (tgt := 115) k (by decide) dX7_takesNumber_78 (fun _ => ?_) (fun h => absurd h (by decide))
            refine gs_aload_n (q := 3) k rfl rfl dX7_takesNumber_115 ?_
            refine gs_get (C := RX7) (T := TX7) (N := 27) (ci := 7) (k0 := 65) (j := 18) k (hI 65 (by omega)) rfl rfl inX7 (by decide) fl_X7_58 rfl rfl dX7_takesNumber_116 ?_
            refine gs_iconst (v := 3) k (by decide) dX7_takesNumber_119 ?_
            refine gs_aload_n (q := 3) k rfl rfl dX7_takesNumber_120 ?_
            refine gs_get (C := RX7) (T := TX7) (N := 27) (ci := 7) (k0 := 65) (j := 16) k (hI 65 (by omega)) rfl rfl inX7 (by decide) fl_X7_309 rfl rfl dX7_takesNumber_121 ?_
            refine gs_top (y := M 65 16) (rdj (by decide) (rdj (by decide) (rdj (by decide) (rdj (by decide) (rfl))))) ?_
            refine gs_top (y := nI c) ht ?_
            refine gs_imulN (a := 3) (b := c) k rfl rfl dX7_takesNumber_124 ?_
            refine gs_iload_n (q := 4) k rfl rfl dX7_takesNumber_125 ?_
            refine gs_iaddN (a := 3 * c) (b := g) k rfl hy dX7_takesNumber_126 ?_
            refine gs_iload_n (q := 2) k rfl rfl dX7_takesNumber_127 ?_
            refine gs_if_eq (tgt := 136) k (by decide) dX7_takesNumber_128 (fun h => absurd h (by decide)) (fun _ => ?_)
            refine gs_iload_n (q := 1) k rfl rfl dX7_takesNumber_131 ?_
            refine gs_ineg k dX7_takesNumber_132 ?_
            refine gs_goto (tgt := 137) k (by decide) dX7_takesNumber_133 ?_
            refine gs_iastN (k0 := 85) (n := 300) (e := (3 * c) + g) k (hI 85 (by omega)) (fun _ => rfl) rfl (by omega) (by decide) dX7_takesNumber_137 ?_
            refine gs_iconst (v := 1) k (by decide) dX7_takesNumber_138 ?_
            exact gs_zret k kt (by decide) dX7_takesNumber_139 ⟨_, rfl, (SameT.m1 (SameT.m1 (SameT.m1 (SameT.m1 (SameT.m1 SameT.rf (by unfold scrT scr; omega)) (by unfold scrT scr; omega)) (by unfold scrT scr; omega)) (by unfold scrT scr; omega)) (by unfold scrT scr; omega)), (rdn (by omega) (mw_eq _ _ _ _)).trans (congrArg nI (nl_12 c1 c2 c3 c5 c6).1.symm), fun j hj => rdj hj (rdn (by omega) (rdn (by omega) (rdn (by omega) (rdn (by omega) (rfl))))), (rown (by omega) (rown (by omega) (rown (by omega) (rown (by omega) (rown (by omega) (rfl)))))), (rdn (by omega) (rdj (by decide) (rdj (by decide) (rdj (by decide) (rdj (by decide) (rfl)))))), Or.inl ⟨rfl, (nl_12 c1 c2 c3 c5 c6).2.2, (mw_eq _ _ _ _).trans ((show -(nvR b (p + 1 + 1) 2) = -(nv b (p + 1 + 1) 2) by rw [nvR_eq]).trans (nl_12 c1 c2 c3 c5 c6).2.1.symm)⟩⟩
        · refine gs_if_eq (tgt := 115) k (by decide) dX7_takesNumber_78 (fun _ => ?_) (fun h => absurd h (by decide))
          refine gs_aload_n (q := 3) k rfl rfl dX7_takesNumber_115 ?_
          refine gs_get (C := RX7) (T := TX7) (N := 27) (ci := 7) (k0 := 65) (j := 18) k (hI 65 (by omega)) rfl rfl inX7 (by decide) fl_X7_58 rfl rfl dX7_takesNumber_116 ?_
          refine gs_iconst (v := 3) k (by decide) dX7_takesNumber_119 ?_
          refine gs_aload_n (q := 3) k rfl rfl dX7_takesNumber_120 ?_
          refine gs_get (C := RX7) (T := TX7) (N := 27) (ci := 7) (k0 := 65) (j := 16) k (hI 65 (by omega)) rfl rfl inX7 (by decide) fl_X7_309 rfl rfl dX7_takesNumber_121 ?_
          refine gs_top (y := M 65 16) (rdj (by decide) (rdj (by decide) (rdj (by decide) (rfl)))) ?_
          refine gs_top (y := nI c) ht ?_
          refine gs_imulN (a := 3) (b := c) k rfl rfl dX7_takesNumber_124 ?_
          refine gs_iload_n (q := 4) k rfl rfl dX7_takesNumber_125 ?_
          refine gs_iaddN (a := 3 * c) (b := g) k rfl hy dX7_takesNumber_126 ?_
          refine gs_iload_n (q := 2) k rfl rfl dX7_takesNumber_127 ?_
          refine gs_if_eq (tgt := 136) k (by decide) dX7_takesNumber_128 (fun h => absurd h (by decide)) (fun _ => ?_)
          refine gs_iload_n (q := 1) k rfl rfl dX7_takesNumber_131 ?_
          refine gs_ineg k dX7_takesNumber_132 ?_
          refine gs_goto (tgt := 137) k (by decide) dX7_takesNumber_133 ?_
          refine gs_iastN (k0 := 85) (n := 300) (e := (3 * c) + g) k (hI 85 (by omega)) (fun _ => rfl) rfl (by omega) (by decide) dX7_takesNumber_137 ?_
          refine gs_iconst (v := 1) k (by decide) dX7_takesNumber_138 ?_
          exact gs_zret k kt (by decide) dX7_takesNumber_139 ⟨_, rfl, (SameT.m1 (SameT.m1 (SameT.m1 (SameT.m1 SameT.rf (by unfold scrT scr; omega)) (by unfold scrT scr; omega)) (by unfold scrT scr; omega)) (by unfold scrT scr; omega)), (rdn (by omega) (mw_eq _ _ _ _)).trans (congrArg nI (nl_11 c1 c2 c3 c5).1.symm), fun j hj => rdj hj (rdn (by omega) (rdn (by omega) (rdn (by omega) (rfl)))), (rown (by omega) (rown (by omega) (rown (by omega) (rown (by omega) (rfl))))), (rdn (by omega) (rdj (by decide) (rdj (by decide) (rdj (by decide) (rfl))))), Or.inl ⟨rfl, (nl_11 c1 c2 c3 c5).2.2, (mw_eq _ _ _ _).trans ((show -(nvR b (p + 1 + 1) 1) = -(nv b (p + 1 + 1) 1) by rw [nvR_eq]).trans (nl_11 c1 c2 c3 c5).2.1.symm)⟩⟩
      · refine gs_if_ne (tgt := 59) k (by decide) dX7_takesNumber_54 (fun h => absurd h (by decide)) (fun _ => ?_)
        refine gs_iconst (v := 0) k (by decide) dX7_takesNumber_57 ?_
        exact gs_zret k kt (by decide) dX7_takesNumber_58 ⟨_, rfl, (SameT.m1 (SameT.m1 SameT.rf (by unfold scrT scr; omega)) (by unfold scrT scr; omega)), (mw_eq _ _ _ _).trans (congrArg nI (nl_10 c1 c2 c3).1.symm), fun j hj => (rdn (by omega) (rdn (by omega) (rfl))), (rown (by omega) (rown (by omega) (rfl))), (rdj (by decide) (rdj (by decide) (rfl))), Or.inr ⟨rfl, (nl_10 c1 c2 c3).2.2⟩⟩
    · refine gs_istore_n (lv' := [(2, .int 0), (0, .ref (E.2.2.1 65)), (1, .int y)]) k rfl (by decide) rfl dX7_takesNumber_31 ?_
      refine gs_iload_n (q := 0) k rfl rfl dX7_takesNumber_32 ?_
      refine gs_if_eq (tgt := 46) k (by decide) dX7_takesNumber_33 (fun _ => ?_) (fun h => absurd h (by decide))
      refine gs_aload_n (q := 1) k rfl rfl dX7_takesNumber_46 ?_
      refine gs_bipush (v := 48) k (by decide) dX7_takesNumber_47 ?_
      refine gs_bipush (v := 57) k (by decide) dX7_takesNumber_49 ?_
      refine gs_callV (As := [.int 48, .int 57]) (k0 := 65) (ci := 7) (T := TX7) (N := 27) k (c_X7_isAt (x := 48) (y := 57) hI (rown (by omega) (hb)) (rdj (by decide) (hl)) (mw_eq _ _ _ _) hlen (by omega)) cf_X7_isAt im_X7_isAt sl_X7_isAt ml_X7_302 (hI 65 (by omega)) rfl rfl (by decide) rfl rfl (Nat.le_of_ble_eq_true rfl) dX7_takesNumber_51 (ppB (fun c7 => ?_) (fun c7 => ?_))
      · have xc7 := c7.1
        refine gs_if_ne (tgt := 59) k (by decide) dX7_takesNumber_54 (fun _ => ?_) (fun h => absurd h (by decide))
        refine gs_iconst (v := 0) k (by decide) dX7_takesNumber_59 ?_
        refine gs_istore_n (lv' := [(3, .int 0), (2, .int 0), (0, .ref (E.2.2.1 65)), (1, .int y)]) k rfl (by decide) rfl dX7_takesNumber_60 ?_
        refine gs_iconst (v := 0) k (by decide) dX7_takesNumber_61 ?_
        refine gs_istore (lv' := [(4, .int 0), (3, .int 0), (2, .int 0), (0, .ref (E.2.2.1 65)), (1, .int y)]) k (by decide) rfl dX7_takesNumber_62 ?_
        refine gs_iload (q := 0) k rfl dX7_takesNumber_64 ?_
        refine gs_iconst (v := 3) k (by decide) dX7_takesNumber_66 ?_
        refine gs_icmp_ge (tgt := 115) k (by decide) dX7_takesNumber_67 (fun h => absurd h (by decide)) (fun _ => ?_)
        refine gs_aload_n (q := 3) k rfl rfl dX7_takesNumber_70 ?_
        refine gs_bipush (v := 48) k (by decide) dX7_takesNumber_71 ?_
        refine gs_bipush (v := 57) k (by decide) dX7_takesNumber_73 ?_
        refine gs_callV (As := [.int 48, .int 57]) (k0 := 65) (ci := 7) (T := TX7) (N := 27) k (c_X7_isAt (x := 48) (y := 57) hI (rown (by omega) (hb)) (rdj (by decide) (hl)) (mw_eq _ _ _ _) hlen (by omega)) cf_X7_isAt im_X7_isAt sl_X7_isAt ml_X7_302 (hI 65 (by omega)) rfl rfl (by decide) rfl rfl (Nat.le_of_ble_eq_true rfl) dX7_takesNumber_75 (ppB (fun c8 => ?_) (fun c8 => absurd c7 c8))
        have xc8 := c8.1
        refine gs_if_eq (tgt := 115) k (by decide) dX7_takesNumber_78 (fun h => absurd h (by decide)) (fun _ => ?_)
        refine gs_bipush (v := 10) k (by decide) dX7_takesNumber_81 ?_
        refine gs_iload_n (q := 1) k rfl rfl dX7_takesNumber_83 ?_
        refine gs_imul k dX7_takesNumber_84 ?_
        refine gs_aload_n (q := 3) k rfl rfl dX7_takesNumber_85 ?_
        refine gs_get (C := RX7) (T := TX7) (N := 27) (ci := 7) (k0 := 65) (j := 13) k (hI 65 (by omega)) rfl rfl inX7 (by decide) fl_X7_51 rfl rfl dX7_takesNumber_86 ?_
        refine gs_aload_n (q := 3) k rfl rfl dX7_takesNumber_89 ?_
        refine gs_get (C := RX7) (T := TX7) (N := 27) (ci := 7) (k0 := 65) (j := 15) k (hI 65 (by omega)) rfl rfl inX7 (by decide) fl_X7_286 rfl rfl dX7_takesNumber_90 ?_
        refine gs_top (y := nI (p + 1)) (mw_eq _ _ _ _) ?_
        refine gs_baldN (k0 := 83) (n := 100) (e := (p + 1)) k (hI 83 (by omega)) (fun _ => rfl) rfl (by omega) (by decide) dX7_takesNumber_93 ?_
        refine gs_top (y := b (p + 1)) (rdn (by omega) ((congrFun hb _))) ?_
        refine gs_iadd k dX7_takesNumber_94 ?_
        refine gs_bipush (v := 48) k (by decide) dX7_takesNumber_95 ?_
        refine gs_isub k dX7_takesNumber_97 ?_
        refine gs_istore_n (lv' := [(3, .int (((10 * 0) + (b (p + 1))) - 48)), (4, .int 0), (2, .int 0), (0, .ref (E.2.2.1 65)), (1, .int y)]) k rfl (by decide) rfl dX7_takesNumber_98 ?_
        refine gs_aload_n (q := 3) k rfl rfl dX7_takesNumber_99 ?_
        refine gs_dup k rfl dX7_takesNumber_100 ?_
        refine gs_get (C := RX7) (T := TX7) (N := 27) (ci := 7) (k0 := 65) (j := 15) k (hI 65 (by omega)) rfl rfl inX7 (by decide) fl_X7_286 rfl rfl dX7_takesNumber_101 ?_
        refine gs_top (y := nI (p + 1)) (mw_eq _ _ _ _) ?_
        refine gs_iconst (v := 1) k (by decide) dX7_takesNumber_104 ?_
        refine gs_iaddN (a := (p + 1)) (b := 1) k rfl rfl dX7_takesNumber_105 ?_
        refine gs_put (C := RX7) (T := TX7) (N := 27) (ci := 7) (k0 := 65) (j := 15) (ty := .int) k (hI 65 (by omega)) rfl rfl rfl inX7 tyX7 tyX7_ok nmX7 (by decide) fl_X7_286 rfl rfl (tyX7_ok 15 (by decide)) rfl rfl (Nat.le_of_ble_eq_true rfl) dX7_takesNumber_106 ?_
        refine gs_iinc (q := 1) (v := 1) (lv' := [(4, .int 1), (3, .int (((10 * 0) + (b (p + 1))) - 48)), (2, .int 0), (0, .ref (E.2.2.1 65)), (1, .int y)]) k rfl (by decide) (by decide) rfl dX7_takesNumber_109 ?_
        refine gs_goto (tgt := 64) k (by decide) dX7_takesNumber_112 ?_
        refine gs_iload (q := 0) k rfl dX7_takesNumber_64 ?_
        refine gs_iconst (v := 3) k (by decide) dX7_takesNumber_66 ?_
        refine gs_icmp_ge (tgt := 115) k (by decide) dX7_takesNumber_67 (fun h => absurd h (by decide)) (fun _ => ?_)
        refine gs_aload_n (q := 3) k rfl rfl dX7_takesNumber_70 ?_
        refine gs_bipush (v := 48) k (by decide) dX7_takesNumber_71 ?_
        refine gs_bipush (v := 57) k (by decide) dX7_takesNumber_73 ?_
        refine gs_callV (As := [.int 48, .int 57]) (k0 := 65) (ci := 7) (T := TX7) (N := 27) k (c_X7_isAt (x := 48) (y := 57) hI (rown (by omega) (rown (by omega) (hb))) (rdj (by decide) (rdj (by decide) (hl))) (mw_eq _ _ _ _) hlen (by omega)) cf_X7_isAt im_X7_isAt sl_X7_isAt ml_X7_302 (hI 65 (by omega)) rfl rfl (by decide) rfl rfl (Nat.le_of_ble_eq_true rfl) dX7_takesNumber_75 (ppB (fun c9 => ?_) (fun c9 => ?_))
        · have xc9 := c9.1
          refine gs_if_eq (tgt := 115) k (by decide) dX7_takesNumber_78 (fun h => absurd h (by decide)) (fun _ => ?_)
          refine gs_bipush (v := 10) k (by decide) dX7_takesNumber_81 ?_
          refine gs_iload_n (q := 1) k rfl rfl dX7_takesNumber_83 ?_
          refine gs_imul k dX7_takesNumber_84 ?_
          refine gs_aload_n (q := 3) k rfl rfl dX7_takesNumber_85 ?_
          refine gs_get (C := RX7) (T := TX7) (N := 27) (ci := 7) (k0 := 65) (j := 13) k (hI 65 (by omega)) rfl rfl inX7 (by decide) fl_X7_51 rfl rfl dX7_takesNumber_86 ?_
          refine gs_aload_n (q := 3) k rfl rfl dX7_takesNumber_89 ?_
          refine gs_get (C := RX7) (T := TX7) (N := 27) (ci := 7) (k0 := 65) (j := 15) k (hI 65 (by omega)) rfl rfl inX7 (by decide) fl_X7_286 rfl rfl dX7_takesNumber_90 ?_
          refine gs_top (y := nI ((p + 1) + 1)) (mw_eq _ _ _ _) ?_
          refine gs_baldN (k0 := 83) (n := 100) (e := ((p + 1) + 1)) k (hI 83 (by omega)) (fun _ => rfl) rfl (by omega) (by decide) dX7_takesNumber_93 ?_
          refine gs_top (y := b ((p + 1) + 1)) (rdn (by omega) (rdn (by omega) ((congrFun hb _)))) ?_
          refine gs_iadd k dX7_takesNumber_94 ?_
          refine gs_bipush (v := 48) k (by decide) dX7_takesNumber_95 ?_
          refine gs_isub k dX7_takesNumber_97 ?_
          refine gs_istore_n (lv' := [(3, .int (((10 * (((10 * 0) + (b (p + 1))) - 48)) + (b ((p + 1) + 1))) - 48)), (4, .int 1), (2, .int 0), (0, .ref (E.2.2.1 65)), (1, .int y)]) k rfl (by decide) rfl dX7_takesNumber_98 ?_
          refine gs_aload_n (q := 3) k rfl rfl dX7_takesNumber_99 ?_
          refine gs_dup k rfl dX7_takesNumber_100 ?_
          refine gs_get (C := RX7) (T := TX7) (N := 27) (ci := 7) (k0 := 65) (j := 15) k (hI 65 (by omega)) rfl rfl inX7 (by decide) fl_X7_286 rfl rfl dX7_takesNumber_101 ?_
          refine gs_top (y := nI ((p + 1) + 1)) (mw_eq _ _ _ _) ?_
          refine gs_iconst (v := 1) k (by decide) dX7_takesNumber_104 ?_
          refine gs_iaddN (a := ((p + 1) + 1)) (b := 1) k rfl rfl dX7_takesNumber_105 ?_
          refine gs_put (C := RX7) (T := TX7) (N := 27) (ci := 7) (k0 := 65) (j := 15) (ty := .int) k (hI 65 (by omega)) rfl rfl rfl inX7 tyX7 tyX7_ok nmX7 (by decide) fl_X7_286 rfl rfl (tyX7_ok 15 (by decide)) rfl rfl (Nat.le_of_ble_eq_true rfl) dX7_takesNumber_106 ?_
          refine gs_iinc (q := 1) (v := 2) (lv' := [(4, .int 2), (3, .int (((10 * (((10 * 0) + (b (p + 1))) - 48)) + (b ((p + 1) + 1))) - 48)), (2, .int 0), (0, .ref (E.2.2.1 65)), (1, .int y)]) k rfl (by decide) (by decide) rfl dX7_takesNumber_109 ?_
          refine gs_goto (tgt := 64) k (by decide) dX7_takesNumber_112 ?_
          refine gs_iload (q := 0) k rfl dX7_takesNumber_64 ?_
          refine gs_iconst (v := 3) k (by decide) dX7_takesNumber_66 ?_
          refine gs_icmp_ge (tgt := 115) k (by decide) dX7_takesNumber_67 (fun h => absurd h (by decide)) (fun _ => ?_)
          refine gs_aload_n (q := 3) k rfl rfl dX7_takesNumber_70 ?_
          refine gs_bipush (v := 48) k (by decide) dX7_takesNumber_71 ?_
          refine gs_bipush (v := 57) k (by decide) dX7_takesNumber_73 ?_
          refine gs_callV (As := [.int 48, .int 57]) (k0 := 65) (ci := 7) (T := TX7) (N := 27) k (c_X7_isAt (x := 48) (y := 57) hI (rown (by omega) (rown (by omega) (rown (by omega) (hb)))) (rdj (by decide) (rdj (by decide) (rdj (by decide) (hl)))) (mw_eq _ _ _ _) hlen (by omega)) cf_X7_isAt im_X7_isAt sl_X7_isAt ml_X7_302 (hI 65 (by omega)) rfl rfl (by decide) rfl rfl (Nat.le_of_ble_eq_true rfl) dX7_takesNumber_75 (ppB (fun c10 => ?_) (fun c10 => ?_))
          · have xc10 := c10.1
            refine gs_if_eq (tgt := 115) k (by decide) dX7_takesNumber_78 (fun h => absurd h (by decide)) (fun _ => ?_)
            refine gs_bipush (v := 10) k (by decide) dX7_takesNumber_81 ?_
            refine gs_iload_n (q := 1) k rfl rfl dX7_takesNumber_83 ?_
            refine gs_imul k dX7_takesNumber_84 ?_
            refine gs_aload_n (q := 3) k rfl rfl dX7_takesNumber_85 ?_
            refine gs_get (C := RX7) (T := TX7) (N := 27) (ci := 7) (k0 := 65) (j := 13) k (hI 65 (by omega)) rfl rfl inX7 (by decide) fl_X7_51 rfl rfl dX7_takesNumber_86 ?_
            refine gs_aload_n (q := 3) k rfl rfl dX7_takesNumber_89 ?_
            refine gs_get (C := RX7) (T := TX7) (N := 27) (ci := 7) (k0 := 65) (j := 15) k (hI 65 (by omega)) rfl rfl inX7 (by decide) fl_X7_286 rfl rfl dX7_takesNumber_90 ?_
            refine gs_top (y := nI (((p + 1) + 1) + 1)) (mw_eq _ _ _ _) ?_
            refine gs_baldN (k0 := 83) (n := 100) (e := (((p + 1) + 1) + 1)) k (hI 83 (by omega)) (fun _ => rfl) rfl (by omega) (by decide) dX7_takesNumber_93 ?_
            refine gs_top (y := b (((p + 1) + 1) + 1)) (rdn (by omega) (rdn (by omega) (rdn (by omega) ((congrFun hb _))))) ?_
            refine gs_iadd k dX7_takesNumber_94 ?_
            refine gs_bipush (v := 48) k (by decide) dX7_takesNumber_95 ?_
            refine gs_isub k dX7_takesNumber_97 ?_
            refine gs_istore_n (lv' := [(3, .int (((10 * (((10 * (((10 * 0) + (b (p + 1))) - 48)) + (b ((p + 1) + 1))) - 48)) + (b (((p + 1) + 1) + 1))) - 48)), (4, .int 2), (2, .int 0), (0, .ref (E.2.2.1 65)), (1, .int y)]) k rfl (by decide) rfl dX7_takesNumber_98 ?_
            refine gs_aload_n (q := 3) k rfl rfl dX7_takesNumber_99 ?_
            refine gs_dup k rfl dX7_takesNumber_100 ?_
            refine gs_get (C := RX7) (T := TX7) (N := 27) (ci := 7) (k0 := 65) (j := 15) k (hI 65 (by omega)) rfl rfl inX7 (by decide) fl_X7_286 rfl rfl dX7_takesNumber_101 ?_
            refine gs_top (y := nI (((p + 1) + 1) + 1)) (mw_eq _ _ _ _) ?_
            refine gs_iconst (v := 1) k (by decide) dX7_takesNumber_104 ?_
            refine gs_iaddN (a := (((p + 1) + 1) + 1)) (b := 1) k rfl rfl dX7_takesNumber_105 ?_
            refine gs_put (C := RX7) (T := TX7) (N := 27) (ci := 7) (k0 := 65) (j := 15) (ty := .int) k (hI 65 (by omega)) rfl rfl rfl inX7 tyX7 tyX7_ok nmX7 (by decide) fl_X7_286 rfl rfl (tyX7_ok 15 (by decide)) rfl rfl (Nat.le_of_ble_eq_true rfl) dX7_takesNumber_106 ?_
            refine gs_iinc (q := 1) (v := 3) (lv' := [(4, .int 3), (3, .int (((10 * (((10 * (((10 * 0) + (b (p + 1))) - 48)) + (b ((p + 1) + 1))) - 48)) + (b (((p + 1) + 1) + 1))) - 48)), (2, .int 0), (0, .ref (E.2.2.1 65)), (1, .int y)]) k rfl (by decide) (by decide) rfl dX7_takesNumber_109 ?_
            refine gs_goto (tgt := 64) k (by decide) dX7_takesNumber_112 ?_
            refine gs_iload (q := 0) k rfl dX7_takesNumber_64 ?_
            refine gs_iconst (v := 3) k (by decide) dX7_takesNumber_66 ?_
            refine gs_icmp_ge (tgt := 115) k (by decide) dX7_takesNumber_67 (fun _ => ?_) (fun h => absurd h (by decide))
            refine gs_aload_n (q := 3) k rfl rfl dX7_takesNumber_115 ?_
            refine gs_get (C := RX7) (T := TX7) (N := 27) (ci := 7) (k0 := 65) (j := 18) k (hI 65 (by omega)) rfl rfl inX7 (by decide) fl_X7_58 rfl rfl dX7_takesNumber_116 ?_
            refine gs_iconst (v := 3) k (by decide) dX7_takesNumber_119 ?_
            refine gs_aload_n (q := 3) k rfl rfl dX7_takesNumber_120 ?_
            refine gs_get (C := RX7) (T := TX7) (N := 27) (ci := 7) (k0 := 65) (j := 16) k (hI 65 (by omega)) rfl rfl inX7 (by decide) fl_X7_309 rfl rfl dX7_takesNumber_121 ?_
            refine gs_top (y := M 65 16) (rdj (by decide) (rdj (by decide) (rdj (by decide) (rdj (by decide) (rfl))))) ?_
            refine gs_top (y := nI c) ht ?_
            refine gs_imulN (a := 3) (b := c) k rfl rfl dX7_takesNumber_124 ?_
            refine gs_iload_n (q := 4) k rfl rfl dX7_takesNumber_125 ?_
            refine gs_iaddN (a := 3 * c) (b := g) k rfl hy dX7_takesNumber_126 ?_
            refine gs_iload_n (q := 2) k rfl rfl dX7_takesNumber_127 ?_
            refine gs_if_eq (tgt := 136) k (by decide) dX7_takesNumber_128 (fun _ => ?_) (fun h => absurd h (by decide))
            refine gs_iload_n (q := 1) k rfl rfl dX7_takesNumber_136 ?_
            refine gs_iastN (k0 := 85) (n := 300) (e := (3 * c) + g) k (hI 85 (by omega)) (fun _ => rfl) rfl (by omega) (by decide) dX7_takesNumber_137 ?_
            refine gs_iconst (v := 1) k (by decide) dX7_takesNumber_138 ?_
            exact gs_zret k kt (by decide) dX7_takesNumber_139 ⟨_, rfl, (SameT.m1 (SameT.m1 (SameT.m1 (SameT.m1 (SameT.m1 SameT.rf (by unfold scrT scr; omega)) (by unfold scrT scr; omega)) (by unfold scrT scr; omega)) (by unfold scrT scr; omega)) (by unfold scrT scr; omega)), (rdn (by omega) (mw_eq _ _ _ _)).trans (congrArg nI (nl_03 c1 c2 c7 c9 c10).1.symm), fun j hj => rdj hj (rdn (by omega) (rdn (by omega) (rdn (by omega) (rdn (by omega) (rfl))))), (rown (by omega) (rown (by omega) (rown (by omega) (rown (by omega) (rown (by omega) (rfl)))))), (rdn (by omega) (rdj (by decide) (rdj (by decide) (rdj (by decide) (rdj (by decide) (rfl)))))), Or.inl ⟨rfl, (nl_03 c1 c2 c7 c9 c10).2.2, (mw_eq _ _ _ _).trans ((show nvR b (p + 1) 3 = nv b (p + 1) 3 by rw [nvR_eq]).trans (nl_03 c1 c2 c7 c9 c10).2.1.symm)⟩⟩
          · refine gs_if_eq (tgt := 115) k (by decide) dX7_takesNumber_78 (fun _ => ?_) (fun h => absurd h (by decide))
            refine gs_aload_n (q := 3) k rfl rfl dX7_takesNumber_115 ?_
            refine gs_get (C := RX7) (T := TX7) (N := 27) (ci := 7) (k0 := 65) (j := 18) k (hI 65 (by omega)) rfl rfl inX7 (by decide) fl_X7_58 rfl rfl dX7_takesNumber_116 ?_
            refine gs_iconst (v := 3) k (by decide) dX7_takesNumber_119 ?_
            refine gs_aload_n (q := 3) k rfl rfl dX7_takesNumber_120 ?_
            refine gs_get (C := RX7) (T := TX7) (N := 27) (ci := 7) (k0 := 65) (j := 16) k (hI 65 (by omega)) rfl rfl inX7 (by decide) fl_X7_309 rfl rfl dX7_takesNumber_121 ?_
            refine gs_top (y := M 65 16) (rdj (by decide) (rdj (by decide) (rdj (by decide) (rfl)))) ?_
            refine gs_top (y := nI c) ht ?_
            refine gs_imulN (a := 3) (b := c) k rfl rfl dX7_takesNumber_124 ?_
            refine gs_iload_n (q := 4) k rfl rfl dX7_takesNumber_125 ?_
            refine gs_iaddN (a := 3 * c) (b := g) k rfl hy dX7_takesNumber_126 ?_
            refine gs_iload_n (q := 2) k rfl rfl dX7_takesNumber_127 ?_
            refine gs_if_eq (tgt := 136) k (by decide) dX7_takesNumber_128 (fun _ => ?_) (fun h => absurd h (by decide))
            refine gs_iload_n (q := 1) k rfl rfl dX7_takesNumber_136 ?_
            refine gs_iastN (k0 := 85) (n := 300) (e := (3 * c) + g) k (hI 85 (by omega)) (fun _ => rfl) rfl (by omega) (by decide) dX7_takesNumber_137 ?_
            refine gs_iconst (v := 1) k (by decide) dX7_takesNumber_138 ?_
            exact gs_zret k kt (by decide) dX7_takesNumber_139 ⟨_, rfl, (SameT.m1 (SameT.m1 (SameT.m1 (SameT.m1 SameT.rf (by unfold scrT scr; omega)) (by unfold scrT scr; omega)) (by unfold scrT scr; omega)) (by unfold scrT scr; omega)), (rdn (by omega) (mw_eq _ _ _ _)).trans (congrArg nI (nl_02 c1 c2 c7 c9 c10).1.symm), fun j hj => rdj hj (rdn (by omega) (rdn (by omega) (rdn (by omega) (rfl)))), (rown (by omega) (rown (by omega) (rown (by omega) (rown (by omega) (rfl))))), (rdn (by omega) (rdj (by decide) (rdj (by decide) (rdj (by decide) (rfl))))), Or.inl ⟨rfl, (nl_02 c1 c2 c7 c9 c10).2.2, (mw_eq _ _ _ _).trans ((show nvR b (p + 1) 2 = nv b (p + 1) 2 by rw [nvR_eq]).trans (nl_02 c1 c2 c7 c9 c10).2.1.symm)⟩⟩
        · refine gs_if_eq (tgt := 115) k (by decide) dX7_takesNumber_78 (fun _ => ?_) (fun h => absurd h (by decide))
          refine gs_aload_n (q := 3) k rfl rfl dX7_takesNumber_115 ?_
          refine gs_get (C := RX7) (T := TX7) (N := 27) (ci := 7) (k0 := 65) (j := 18) k (hI 65 (by omega)) rfl rfl inX7 (by decide) fl_X7_58 rfl rfl dX7_takesNumber_116 ?_
          refine gs_iconst (v := 3) k (by decide) dX7_takesNumber_119 ?_
          refine gs_aload_n (q := 3) k rfl rfl dX7_takesNumber_120 ?_
          refine gs_get (C := RX7) (T := TX7) (N := 27) (ci := 7) (k0 := 65) (j := 16) k (hI 65 (by omega)) rfl rfl inX7 (by decide) fl_X7_309 rfl rfl dX7_takesNumber_121 ?_
          refine gs_top (y := M 65 16) (rdj (by decide) (rdj (by decide) (rfl))) ?_
          refine gs_top (y := nI c) ht ?_
          refine gs_imulN (a := 3) (b := c) k rfl rfl dX7_takesNumber_124 ?_
          refine gs_iload_n (q := 4) k rfl rfl dX7_takesNumber_125 ?_
          refine gs_iaddN (a := 3 * c) (b := g) k rfl hy dX7_takesNumber_126 ?_
          refine gs_iload_n (q := 2) k rfl rfl dX7_takesNumber_127 ?_
          refine gs_if_eq (tgt := 136) k (by decide) dX7_takesNumber_128 (fun _ => ?_) (fun h => absurd h (by decide))
          refine gs_iload_n (q := 1) k rfl rfl dX7_takesNumber_136 ?_
          refine gs_iastN (k0 := 85) (n := 300) (e := (3 * c) + g) k (hI 85 (by omega)) (fun _ => rfl) rfl (by omega) (by decide) dX7_takesNumber_137 ?_
          refine gs_iconst (v := 1) k (by decide) dX7_takesNumber_138 ?_
          exact gs_zret k kt (by decide) dX7_takesNumber_139 ⟨_, rfl, (SameT.m1 (SameT.m1 (SameT.m1 SameT.rf (by unfold scrT scr; omega)) (by unfold scrT scr; omega)) (by unfold scrT scr; omega)), (rdn (by omega) (mw_eq _ _ _ _)).trans (congrArg nI (nl_01 c1 c2 c7 c9).1.symm), fun j hj => rdj hj (rdn (by omega) (rdn (by omega) (rfl))), (rown (by omega) (rown (by omega) (rown (by omega) (rfl)))), (rdn (by omega) (rdj (by decide) (rdj (by decide) (rfl)))), Or.inl ⟨rfl, (nl_01 c1 c2 c7 c9).2.2, (mw_eq _ _ _ _).trans ((show nvR b (p + 1) 1 = nv b (p + 1) 1 by rw [nvR_eq]).trans (nl_01 c1 c2 c7 c9).2.1.symm)⟩⟩
      · refine gs_if_ne (tgt := 59) k (by decide) dX7_takesNumber_54 (fun h => absurd h (by decide)) (fun _ => ?_)
        refine gs_iconst (v := 0) k (by decide) dX7_takesNumber_57 ?_
        exact gs_zret k kt (by decide) dX7_takesNumber_58 ⟨_, rfl, (SameT.m1 SameT.rf (by unfold scrT scr; omega)), (mw_eq _ _ _ _).trans (congrArg nI (nl_00 c1 c2 c7).1.symm), fun j hj => (rdn (by omega) (rfl)), (rown (by omega) (rfl)), (rdj (by decide) (rfl)), Or.inr ⟨rfl, (nl_00 c1 c2 c7).2.2⟩⟩
  · refine gs_if_ne (tgt := 13) k (by decide) dX7_takesNumber_8 (fun h => absurd h (by decide)) (fun _ => ?_)
    refine gs_iconst (v := 0) k (by decide) dX7_takesNumber_11 ?_
    exact gs_zret k kt (by decide) dX7_takesNumber_12 ⟨_, rfl, SameT.rf, hp.trans (congrArg nI (nl_n c1).1.symm), fun _ _ => rfl, rfl, rfl, Or.inr ⟨rfl, (nl_n c1).2⟩⟩

theorem cf_X7_manyOf : CF yX7_manyOf cX7_manyOf 1 (some .int) 1 := ⟨cd_X7_manyOf, iz_X7, by decide, by decide +kernel, by decide +kernel, by decide +kernel⟩
set_option maxRecDepth 100000 in
set_option maxHeartbeats 4000000 in
theorem c_X7_manyOf {l : Launch} {E : Ev} {M : Mm} {x : Int32} {w : Nat} (hx : x = nI w) (hw : w < 11) : Cm l E yX7_manyOf cX7_manyOf 1 (some .int) 0 [.int x] M (pI (nI (ar (wm w))) M) := by
  refine Cm.of (by decide) (Nat.le_of_ble_eq_true rfl) (fun K k kt => ?_)
  show G l E K 0 [(0, .int x)] [] M
  refine gs_iload_n (q := 0) k rfl rfl dX7_manyOf_0 ?_
  refine gs_iconst (v := 3) k (by decide) dX7_manyOf_1 ?_
  refine gs_icmpN_ge (a := w) (b := 3) (tgt := 9) k hx rfl (by omega) (by omega) (by decide) dX7_manyOf_2 (fun c1 => ?_) (fun c1 => ?_)
  · refine gs_iload_n (q := 0) k rfl rfl dX7_manyOf_9 ?_
    refine gs_bipush (v := 7) k (by decide) dX7_manyOf_10 ?_
    refine gs_icmpN_ge (a := w) (b := 7) (tgt := 19) k hx rfl (by omega) (by omega) (by decide) dX7_manyOf_12 (fun c2 => ?_) (fun c2 => ?_)
    · refine gs_iconst (v := 1) k (by decide) dX7_manyOf_19 ?_
      exact gs_iret k kt dX7_manyOf_20 ⟨(by rw [(many_1 w hw).2.2 c2]; rfl), rfl⟩
    · refine gs_iconst (v := 2) k (by decide) dX7_manyOf_15 ?_
      refine gs_goto (tgt := 20) k (by decide) dX7_manyOf_16 ?_
      exact gs_iret k kt dX7_manyOf_20 ⟨(by rw [(many_1 w hw).2.1 c1 c2]; rfl), rfl⟩
  · refine gs_iconst (v := 3) k (by decide) dX7_manyOf_5 ?_
    refine gs_goto (tgt := 20) k (by decide) dX7_manyOf_6 ?_
    exact gs_iret k kt dX7_manyOf_20 ⟨(by rw [(many_1 w hw).1 c1]; rfl), rfl⟩

theorem cf_X7_takesDeed : CF yX7_takesDeed cX7_takesDeed 2 (some .boolean) 0 := ⟨cd_X7_takesDeed, iz_X7, by decide, by decide +kernel, by decide +kernel, by decide +kernel⟩
set_option maxRecDepth 100000 in
set_option maxHeartbeats 4000000 in
theorem c_X7_takesDeed {l : Launch} {E : Ev} {M : Mm} {b : Nat → Int32} {len p : Nat} (hI : ∀ k, k < 108 → k ∈ E.2.1) (hb : M 83 = b) (hl : M 65 14 = nI len) (hp : M 65 15 = nI p) (hlen : len ≤ 100) (hple : p ≤ len) {c : Nat} (hc : c < 100) (ht : M 65 16 = nI c) : Cm l E yX7_takesDeed cX7_takesDeed 2 (some .boolean) 6 [.ref (E.2.2.1 65)] M (pZ (cmdP 65 15 85 84 65 16 wm b len p c (c + 1) M)) := by
  refine Cm.of (by decide) (Nat.le_of_ble_eq_true rfl) (fun K k kt => ?_)
  show G l E K 0 [(0, .ref (E.2.2.1 65))] [] M
  refine gs_aload_n (q := 0) k rfl rfl dX7_takesDeed_0 ?_
  refine gs_callV (As := []) (k0 := 65) (ci := 7) (T := TX7) (N := 27) k (c_X7_takesWord hI (hb) (hl) (hp) hlen hple hc ht) cf_X7_takesWord im_X7_takesWord sl_X7_takesWord ml_X7_312 (hI 65 (by omega)) rfl rfl (by decide) rfl rfl (Nat.le_of_ble_eq_true rfl) dX7_takesDeed_1 (ppZ (fun rm1 m1 hm1 => ?_))
  rcases hm1 with ⟨w1, w2, w3, w4, ⟨rfl, w, hw, hF, w5, w6⟩ | ⟨rfl, hF, w5⟩⟩
  · obtain ⟨ha1, ha3, han⟩ := ar_ok _ (wm_lt w hw)
    have he := eo_b (b := b) hple
    show G l E K 4 [(0, .ref (E.2.2.1 65))] [.int 1] m1
    refine gs_if_ne (tgt := 9) k (by decide) dX7_takesDeed_4 (fun _ => ?_) (fun h => absurd h (by decide))
    refine gs_iconst (v := 0) k (by decide) dX7_takesDeed_9 ?_
    refine gs_istore_n (lv' := [(1, .int 0), (0, .ref (E.2.2.1 65))]) k rfl (by decide) rfl dX7_takesDeed_10 ?_
    refine gs_lv (lv' := [(0, .ref (E.2.2.1 65)), (1, .int 0)]) [1, 0] rfl ?_
    refine for_wh (σ := Mm) (fun ix m => G l E K 11 [(0, .ref (E.2.2.1 65)), (1, .int (nI ix))] [] m) (fun ix m => rcJ 65 15 85 84 65 16 (nI w) b len (eo b len p) (wm w) c M ix m) 3 (fun ix m hJ hG => ?_) 0 m1 ⟨w1, w6, fun j hj => absurd hj (by omega), fun j hj => congrFun w2 j, w4, w5, w3, Nat.zero_le _⟩
    show G l E K 11 [(0, .ref (E.2.2.1 65)), (1, .int (nI ix))] [] m
    have hb := rb_same hJ.1 hb
    have hl := rl_same hJ.1 hl
    have hp := hJ.2.1
    have ht := hJ.2.2.2.2.2.2.1.trans ht
    have hq2 := (nq_b (b := b) he.2 ix).2
    have hix := hJ.2.2.2.2.2.2.2
    refine gs_iload_n (q := 1) k rfl rfl dX7_takesDeed_11 ?_
    refine gs_aload_n (q := 0) k rfl rfl dX7_takesDeed_12 ?_
    refine gs_get (C := RX7) (T := TX7) (N := 27) (ci := 7) (k0 := 65) (j := 17) k (hI 65 (by omega)) rfl rfl inX7 (by decide) fl_X7_55 rfl rfl dX7_takesDeed_13 ?_
    refine gs_aload_n (q := 0) k rfl rfl dX7_takesDeed_16 ?_
    refine gs_get (C := RX7) (T := TX7) (N := 27) (ci := 7) (k0 := 65) (j := 16) k (hI 65 (by omega)) rfl rfl inX7 (by decide) fl_X7_309 rfl rfl dX7_takesDeed_17 ?_
    refine gs_top (y := nI c) ht ?_
    refine gs_ialdN (k0 := 84) (n := 100) (e := c) k (hI 84 (by omega)) (fun _ => rfl) rfl (by omega) (by decide) dX7_takesDeed_20 ?_
    refine gs_top (y := nI w) hJ.2.2.2.2.2.1 ?_
    refine gs_callS (As := [.int (nI w)]) k (c_X7_manyOf (w := w) rfl hw) cf_X7_manyOf sm_X7_manyOf ml_X7_315 (by decide) rfl rfl (Nat.le_of_ble_eq_true rfl) dX7_takesDeed_21 (ppI ?_)
    refine gs_icmpN_ge (a := ix) (b := ar (wm w)) (tgt := 43) k rfl rfl (by omega) (by omega) (by decide) dX7_takesDeed_24 (fun c1 => ?_) (fun c1 => ?_)
    · refine gs_aload_n (q := 0) k rfl rfl dX7_takesDeed_43 ?_
      refine gs_dup k rfl dX7_takesDeed_44 ?_
      refine gs_get (C := RX7) (T := TX7) (N := 27) (ci := 7) (k0 := 65) (j := 16) k (hI 65 (by omega)) rfl rfl inX7 (by decide) fl_X7_309 rfl rfl dX7_takesDeed_45 ?_
      refine gs_top (y := nI c) ht ?_
      refine gs_iconst (v := 1) k (by decide) dX7_takesDeed_48 ?_
      refine gs_iaddN (a := c) (b := 1) k rfl rfl dX7_takesDeed_49 ?_
      refine gs_put (C := RX7) (T := TX7) (N := 27) (ci := 7) (k0 := 65) (j := 16) (ty := .int) k (hI 65 (by omega)) rfl rfl rfl inX7 tyX7 tyX7_ok nmX7 (by decide) fl_X7_309 rfl rfl (tyX7_ok 16 (by decide)) rfl rfl (Nat.le_of_ble_eq_true rfl) dX7_takesDeed_50 ?_
      refine gs_iconst (v := 1) k (by decide) dX7_takesDeed_53 ?_
      exact gs_zret k kt (by decide) dX7_takesDeed_54 ⟨_, rfl, cmd_ok (wd := wm) hw hF hJ c1 (SameT.m1 SameT.rf (by unfold scrT scr; omega)) (rdj (by decide) rfl) rfl rfl (mw_eq _ _ _ _)⟩
    · refine gs_aload_n (q := 0) k rfl rfl dX7_takesDeed_27 ?_
      refine gs_iload_n (q := 1) k rfl rfl dX7_takesDeed_28 ?_
      refine gs_callV (As := [.int (nI ix)]) (k0 := 65) (ci := 7) (T := TX7) (N := 27) k (c_X7_takesNumber (c := c) (g := ix) hI (hb) (hl) (hp) hlen hq2 hc (by omega) ht rfl) cf_X7_takesNumber im_X7_takesNumber sl_X7_takesNumber ml_X7_318 (hI 65 (by omega)) rfl rfl (by decide) rfl rfl (Nat.le_of_ble_eq_true rfl) dX7_takesDeed_29 (ppZ (fun rm2 m2 hm2 => ?_))
      rcases hm2 with ⟨s1, s2, s3, s4, s5, ⟨rfl, s6, s7⟩ | ⟨rfl, s6⟩⟩
      · show G l E K 32 [(0, .ref (E.2.2.1 65)), (1, .int (nI ix))] [.int 1] m2
        refine gs_if_ne (tgt := 37) k (by decide) dX7_takesDeed_32 (fun _ => ?_) (fun h => absurd h (by decide))
        refine gs_iincN (q := 1) (a := ix) (c := 1) (lv' := [(1, .int (nI (ix + 1))), (0, .ref (E.2.2.1 65))]) k rfl rfl (by decide) rfl dX7_takesDeed_37 ?_
        refine gs_goto (tgt := 11) k (by decide) dX7_takesDeed_40 ?_
        refine gs_lv (lv' := [(0, .ref (E.2.2.1 65)), (1, .int (nI (ix + 1)))]) [1, 0] rfl ?_
        exact hG (by omega) _ (rcJ_s (q := 3 * c + ix) (r := 1) rfl c1 hJ s1 s2 s3 s4 s5 s6 s7)
      · show G l E K 32 [(0, .ref (E.2.2.1 65)), (1, .int (nI ix))] [.int 0] m2
        refine gs_if_ne (tgt := 37) k (by decide) dX7_takesDeed_32 (fun h => absurd h (by decide)) (fun _ => ?_)
        refine gs_iconst (v := 0) k (by decide) dX7_takesDeed_35 ?_
        exact gs_zret k kt (by decide) dX7_takesDeed_36 ⟨_, rfl, cmd_no (wd := wm) (q := 3 * c + ix) rfl hF hJ c1 s1 s2 s3 s4 s6⟩
  · show G l E K 4 [(0, .ref (E.2.2.1 65))] [.int 0] m1
    refine gs_if_ne (tgt := 9) k (by decide) dX7_takesDeed_4 (fun h => absurd h (by decide)) (fun _ => ?_)
    refine gs_iconst (v := 0) k (by decide) dX7_takesDeed_7 ?_
    exact gs_zret k kt (by decide) dX7_takesDeed_8 ⟨_, rfl, w1, w5.trans (congrArg nI (cEnd_fw hF).1.symm), fun _ _ => congrFun w2 _, w4, Or.inr ⟨rfl, (cEnd_fw hF).2⟩⟩

theorem cf_X7_takesAll : CF yX7_takesAll cX7_takesAll 1 (some .boolean) 0 := ⟨cd_X7_takesAll, iz_X7, by decide, by decide +kernel, by decide +kernel, by decide +kernel⟩
set_option maxRecDepth 100000 in
set_option maxHeartbeats 4000000 in
theorem c_X7_takesAll {l : Launch} {E : Ev} {M : Mm} {b : Nat → Int32} {len : Nat} (hI : ∀ k, k < 108 → k ∈ E.2.1) (hb : M 83 = b) (hl : M 65 14 = nI len) (hlen : len ≤ 100) : Cm l E yX7_takesAll cX7_takesAll 1 (some .boolean) 7 [.ref (E.2.2.1 65)] M (pZ (fun r m => prsP 65 15 85 84 65 16 wm b len M (r = 1) (fun e => r = 0 ∧ m 65 15 = nI e) m)) := by
  refine Cm.of (by decide) (Nat.le_of_ble_eq_true rfl) (fun K k kt => ?_)
  show G l E K 0 [(0, .ref (E.2.2.1 65))] [] M
  refine gs_aload_n (q := 0) k rfl rfl dX7_takesAll_0 ?_
  refine gs_iconst (v := 0) k (by decide) dX7_takesAll_1 ?_
  refine gs_put (C := RX7) (T := TX7) (N := 27) (ci := 7) (k0 := 65) (j := 15) (ty := .int) k (hI 65 (by omega)) rfl rfl rfl inX7 tyX7 tyX7_ok nmX7 (by decide) fl_X7_286 rfl rfl (tyX7_ok 15 (by decide)) rfl rfl (Nat.le_of_ble_eq_true rfl) dX7_takesAll_2 ?_
  refine gs_aload_n (q := 0) k rfl rfl dX7_takesAll_5 ?_
  refine gs_iconst (v := 0) k (by decide) dX7_takesAll_6 ?_
  refine gs_put (C := RX7) (T := TX7) (N := 27) (ci := 7) (k0 := 65) (j := 16) (ty := .int) k (hI 65 (by omega)) rfl rfl rfl inX7 tyX7 tyX7_ok nmX7 (by decide) fl_X7_309 rfl rfl (tyX7_ok 16 (by decide)) rfl rfl (Nat.le_of_ble_eq_true rfl) dX7_takesAll_7 ?_
  refine gs_aload_n (q := 0) k rfl rfl dX7_takesAll_10 ?_
  refine gs_callV (As := []) (k0 := 65) (ci := 7) (T := TX7) (N := 27) k (c_X7_takesDeed (c := 0) hI (rown (by omega) (rown (by omega) (hb))) (rdj (by decide) (rdj (by decide) (hl))) (rdj (by decide) (mw_eq _ _ _ _)) hlen (Nat.zero_le _) (by omega) (mw_eq _ _ _ _)) cf_X7_takesDeed im_X7_takesDeed sl_X7_takesDeed ml_X7_321 (hI 65 (by omega)) rfl rfl (by decide) rfl rfl (Nat.le_of_ble_eq_true rfl) dX7_takesAll_11 (ppZ (fun rm1 m1 hm1 => ?_))
  have hJ0 : prJ 65 15 85 84 65 16 wm b len M 0 (mw (mw M 65 15 (0)) 65 16 (0)) := ⟨SameT.m1 (SameT.m1 SameT.rf (by unfold scrT scr; omega)) (by unfold scrT scr; omega), mw_eq _ _ _ _, rdj (by decide) (mw_eq _ _ _ _), fun i hi => absurd hi (by omega)⟩
  have hm3 := hm1
  obtain ⟨s1, s2, s3, s4, s5⟩ := hm1
  rcases s5 with ⟨rfl, s6, s7, -⟩ | ⟨rfl, s6⟩
  · show G l E K 14 [(0, .ref (E.2.2.1 65))] [.int 1] m1
    refine gs_if_ne (tgt := 19) k (by decide) dX7_takesAll_14 (fun _ => ?_) (fun h => absurd h (by decide))
    refine for_wh (σ := Mm) (fun ix m => G l E K 19 [(0, .ref (E.2.2.1 65))] [] m) (fun ix m => taJ b len M ix m) 20 (fun ix m hJ hG => ?_) 0 m1 ⟨_, hJ0, hm3⟩
    show G l E K 19 [(0, .ref (E.2.2.1 65))] [] m
    obtain ⟨m0, hJ0, hm3⟩ := hJ
    have hm4 := hm3
    obtain ⟨s1, s2, s3, s4, s5⟩ := hm4
    rcases s5 with ⟨-, s6, s7, -⟩ | ⟨s5, -⟩
    case inr => exact absurd s5 (by decide)
    have hb := rb_same (SameT.tr hJ0.1 s1) hb
    have hl := rl_same (SameT.tr hJ0.1 s1) hl
    have hps := ps_b (b := b) (len := len) ix (fun i hi => (hJ0.2.2.2 i hi).1)
    have hce := cEnd_b (b := b) hps.2 s6
    refine gs_aload_n (q := 0) k rfl rfl dX7_takesAll_19 ?_
    refine gs_get (C := RX7) (T := TX7) (N := 27) (ci := 7) (k0 := 65) (j := 15) k (hI 65 (by omega)) rfl rfl inX7 (by decide) fl_X7_286 rfl rfl dX7_takesAll_20 ?_
    refine gs_top (y := nI (cEnd b len (ps b len ix))) s2 ?_
    refine gs_aload_n (q := 0) k rfl rfl dX7_takesAll_23 ?_
    refine gs_get (C := RX7) (T := TX7) (N := 27) (ci := 7) (k0 := 65) (j := 14) k (hI 65 (by omega)) rfl rfl inX7 (by decide) fl_X7_261 rfl rfl dX7_takesAll_24 ?_
    refine gs_top (y := nI len) hl ?_
    refine gs_icmpN_ge (a := cEnd b len (ps b len ix)) (b := len) (tgt := 62) k rfl rfl (by omega) (by omega) (by decide) dX7_takesAll_27 (fun c1 => ?_) (fun c1 => ?_)
    · refine gs_iconst (v := 1) k (by decide) dX7_takesAll_62 ?_
      exact gs_zret k kt (by decide) dX7_takesAll_63 ⟨_, rfl, prs_ok wm_lt hJ0 hm3 rfl c1 SameT.rf rfl rfl s7 rfl⟩
    · refine gs_aload_n (q := 0) k rfl rfl dX7_takesAll_30 ?_
      refine gs_bipush (v := 59) k (by decide) dX7_takesAll_31 ?_
      refine gs_bipush (v := 59) k (by decide) dX7_takesAll_33 ?_
      refine gs_callV (As := [.int 59, .int 59]) (k0 := 65) (ci := 7) (T := TX7) (N := 27) k (Cm.iff isC_1 (c_X7_isAt (x := 59) (y := 59) hI hb hl s2 hlen (by omega))) cf_X7_isAt im_X7_isAt sl_X7_isAt ml_X7_302 (hI 65 (by omega)) rfl rfl (by decide) rfl rfl (Nat.le_of_ble_eq_true rfl) dX7_takesAll_35 (ppB (fun c2 => ?_) (fun c2 => ?_))
      · have hJ1 : prJ 65 15 85 84 65 16 wm b len M (ix + 1) (mw m 65 15 (nI (cEnd b len (ps b len ix) + 1))) := prJ_s wm_lt hJ0 hm3 rfl c2 (SameT.m1 SameT.rf (by unfold scrT scr; omega)) rfl rfl (rdj (by decide) s7) (mw_eq _ _ _ _)
        have hp1 := ps_b (b := b) (len := len) (ix + 1) (fun i hi => (hJ1.2.2.2 i hi).1)
        have tb3 : m 83 = b → (mw m 65 15 (nI (cEnd b len (ps b len ix) + 1))) 83 = b := fun z => rown (by omega) z
        have tl3 : m 65 14 = nI len → (mw m 65 15 (nI (cEnd b len (ps b len ix) + 1))) 65 14 = nI len := fun z => rdj (by decide) z
        refine gs_if_ne (tgt := 43) k (by decide) dX7_takesAll_38 (fun _ => ?_) (fun h => absurd h (by decide))
        refine gs_aload_n (q := 0) k rfl rfl dX7_takesAll_43 ?_
        refine gs_dup k rfl dX7_takesAll_44 ?_
        refine gs_get (C := RX7) (T := TX7) (N := 27) (ci := 7) (k0 := 65) (j := 15) k (hI 65 (by omega)) rfl rfl inX7 (by decide) fl_X7_286 rfl rfl dX7_takesAll_45 ?_
        refine gs_top (y := nI (cEnd b len (ps b len ix))) s2 ?_
        refine gs_iconst (v := 1) k (by decide) dX7_takesAll_48 ?_
        refine gs_iaddN (a := cEnd b len (ps b len ix)) (b := 1) k rfl rfl dX7_takesAll_49 ?_
        refine gs_put (C := RX7) (T := TX7) (N := 27) (ci := 7) (k0 := 65) (j := 15) (ty := .int) k (hI 65 (by omega)) rfl rfl rfl inX7 tyX7 tyX7_ok nmX7 (by decide) fl_X7_286 rfl rfl (tyX7_ok 15 (by decide)) rfl rfl (Nat.le_of_ble_eq_true rfl) dX7_takesAll_50 ?_
        refine gs_aload_n (q := 0) k rfl rfl dX7_takesAll_53 ?_
        refine gs_callV (As := []) (k0 := 65) (ci := 7) (T := TX7) (N := 27) k (c_X7_takesDeed (c := ix + 1) hI (tb3 hb) (tl3 hl) hJ1.2.2.1 hlen hp1.2 (by omega) hJ1.2.1) cf_X7_takesDeed im_X7_takesDeed sl_X7_takesDeed ml_X7_321 (hI 65 (by omega)) rfl rfl (by decide) rfl rfl (Nat.le_of_ble_eq_true rfl) dX7_takesAll_54 (ppZ (fun rm1 m1 hm1 => ?_))
        have hm3 := hm1
        obtain ⟨u1, u2, u3, u4, u5⟩ := hm1
        rcases u5 with ⟨rfl, u6, u7, -⟩ | ⟨rfl, u6⟩
        · show G l E K 57 [(0, .ref (E.2.2.1 65))] [.int 1] m1
          refine gs_if_ne (tgt := 19) k (by decide) dX7_takesAll_57 (fun _ => ?_) (fun h => absurd h (by decide))
          exact hG (by omega) _ ⟨_, hJ1, hm3⟩
        · show G l E K 57 [(0, .ref (E.2.2.1 65))] [.int 0] m1
          refine gs_if_ne (tgt := 19) k (by decide) dX7_takesAll_57 (fun h => absurd h (by decide)) (fun _ => ?_)
          refine gs_iconst (v := 0) k (by decide) dX7_takesAll_60 ?_
          exact gs_zret k kt (by decide) dX7_takesAll_61 ⟨_, rfl, prs_no hJ1 hm3 (Or.inl rfl) SameT.rf ⟨rfl, u2⟩⟩
      · refine gs_if_ne (tgt := 43) k (by decide) dX7_takesAll_38 (fun h => absurd h (by decide)) (fun _ => ?_)
        refine gs_iconst (v := 0) k (by decide) dX7_takesAll_41 ?_
        exact gs_zret k kt (by decide) dX7_takesAll_42 ⟨_, rfl, prs_no hJ0 hm3 (Or.inr ⟨c1, fun z => c2 ⟨c1, z⟩⟩) SameT.rf ⟨rfl, s2⟩⟩
  · show G l E K 14 [(0, .ref (E.2.2.1 65))] [.int 0] m1
    refine gs_if_ne (tgt := 19) k (by decide) dX7_takesAll_14 (fun h => absurd h (by decide)) (fun _ => ?_)
    refine gs_iconst (v := 0) k (by decide) dX7_takesAll_17 ?_
    exact gs_zret k kt (by decide) dX7_takesAll_18 ⟨_, rfl, prs_no hJ0 hm3 (Or.inl rfl) SameT.rf ⟨rfl, s2⟩⟩

