theorem SameT.row {M m : Mm} {k : Nat} (h : SameT M m) (hk : ∀ j, ¬ scrT k j) : m k = M k := funext fun j => h k j (hk j)
theorem tb_same {M m : Mm} {b : Nat → Int32} (h : SameT M m) (hb : M 55 = b) : m 55 = b := (h.row (fun j => by unfold scrT scr; omega)).trans hb
theorem tl_same {M m : Mm} {len : Nat} (h : SameT M m) (hl : M 52 0 = nI len) : m 52 0 = nI len := (h 52 0 (by unfold scrT scr; omega)).trans hl
theorem rb_same {M m : Mm} {b : Nat → Int32} (h : SameT M m) (hb : M 83 = b) : m 83 = b := (h.row (fun j => by unfold scrT scr; omega)).trans hb
theorem rl_same {M m : Mm} {len : Nat} (h : SameT M m) (hl : M 65 14 = nI len) : m 65 14 = nI len := (h 65 14 (by unfold scrT scr; omega)).trans hl
/-- inside the numbers of a command -/
def rcJ (ka ja kn kw kc jc : Nat) (w : Int32) (b : Nat → Int32) (len e i c : Nat) (M : Mm) (ix : Nat) (m : Mm) : Prop := SameT M m ∧ m ka ja = nI (nq b len e ix) ∧ (∀ j, j < ix → nOk b len (nq b len e j) ∧ m kn (3 * c + j) = nVal b len (nq b len e j)) ∧ (∀ j, j < 3 * c → m kn j = M kn j) ∧ (∀ j, ¬ j = c → m kw j = M kw j) ∧ m kw c = w ∧ m kc jc = M kc jc ∧ ix ≤ ar i
theorem rcJ_s {ka ja kn kw kc jc : Nat} {w r : Int32} {b : Nat → Int32} {len e i c ix q : Nat} {M m m2 : Mm} (hq : q = 3 * c + ix) (hlt : ix < ar i) (h : rcJ ka ja kn kw kc jc w b len e i c M ix m) (hs : SameT m m2) (h1 : m2 ka ja = nI (nEnd b len (nq b len e ix))) (h2 : ∀ j, ¬ j = q → m2 kn j = m kn j) (h3 : m2 kw = m kw) (h4 : m2 kc jc = m kc jc) (h5 : nOk b len (nq b len e ix)) (h6 : m2 kn q = nVal b len (nq b len e ix)) : rcJ ka ja kn kw kc jc w b len e i c M (ix + 1) m2 := by
  subst hq
  obtain ⟨a1, a2, a3, a4, a5, a6, a7, a8⟩ := h
  refine ⟨SameT.tr a1 hs, h1, fun j hj => ?_, fun j hj => (h2 j (by omega)).trans (a4 j hj), fun j hj => (congrFun h3 j).trans (a5 j hj), (congrFun h3 c).trans a6, h4.trans a7, by omega⟩
  by_cases g : j = ix
  · subst g; exact ⟨h5, h6⟩
  · obtain ⟨b1, b2⟩ := a3 j (by omega)
    exact ⟨b1, (h2 _ (by omega)).trans b2⟩
theorem cmd_ok {ka ja kn kw kc jc : Nat} {wd : Nat → Nat} {b : Nat → Int32} {len p c c' w ix : Nat} {M m m2 : Mm} (hw : w < 11) (hF : fw b p (eo b len p) = some (wd w)) (h : rcJ ka ja kn kw kc jc (nI w) b len (eo b len p) (wd w) c M ix m) (hge : ar (wd w) ≤ ix) (hs : SameT m m2) (h1 : m2 ka ja = m ka ja) (h2 : m2 kn = m kn) (h3 : m2 kw = m kw) (hc : m2 kc jc = nI c') : cmdP ka ja kn kw kc jc wd b len p c c' M 1 m2 := by
  obtain ⟨a1, a2, a3, a4, a5, a6, a7, a8⟩ := h
  have e : ix = ar (wd w) := by omega
  rw [e] at a2 a3
  exact ⟨SameT.tr a1 hs, (h1.trans a2).trans (congrArg nI (cEnd_ok hF (fun j hj => (a3 j hj).1)).symm), fun j hj => (congrFun h2 j).trans (a4 j hj), fun j hj => (congrFun h3 j).trans (a5 j hj), Or.inl ⟨rfl, ⟨_, hF, fun j hj => (a3 j hj).1⟩, hc, w, hw, hF, (congrFun h3 c).trans a6, fun j hj => (congrFun h2 _).trans (a3 j hj).2⟩⟩
theorem cmd_no {ka ja kn kw kc jc : Nat} {wd : Nat → Nat} {w : Int32} {b : Nat → Int32} {len p c c' i ix q : Nat} {M m m2 : Mm} (hq : q = 3 * c + ix) (hF : fw b p (eo b len p) = some i) (h : rcJ ka ja kn kw kc jc w b len (eo b len p) i c M ix m) (hlt : ix < ar i) (hs : SameT m m2) (h1 : m2 ka ja = nI (nEnd b len (nq b len (eo b len p) ix))) (h2 : ∀ j, ¬ j = q → m2 kn j = m kn j) (h3 : m2 kw = m kw) (h5 : ¬ nOk b len (nq b len (eo b len p) ix)) : cmdP ka ja kn kw kc jc wd b len p c c' M 0 m2 := by
  subst hq
  obtain ⟨a1, a2, a3, a4, a5, a6, a7, a8⟩ := h
  obtain ⟨e1, e2⟩ := cEnd_no hF hlt (fun k hk => (a3 k hk).1) h5
  exact ⟨SameT.tr a1 hs, h1.trans (congrArg nI e1.symm), fun j hj => (h2 j (by omega)).trans (a4 j hj), fun j hj => (congrFun h3 j).trans (a5 j hj), Or.inr ⟨rfl, e2⟩⟩
theorem stdP_keep {kn kw : Nat} {wd : Nat → Nat} {b : Nat → Int32} {len i c : Nat} {m m2 : Mm} (hwd : ∀ w, w < 11 → wd w < 11) (hi : i < c) (h2 : ∀ j, j < 3 * c → m2 kn j = m kn j) (h3 : ∀ j, ¬ j = c → m2 kw j = m kw j) (h : stdP kn kw wd b len i m) : stdP kn kw wd b len i m2 := by
  obtain ⟨w, hw, hF, e1, e2⟩ := h
  refine ⟨w, hw, hF, (h3 i (by omega)).trans e1, fun j hj => ?_⟩
  have := ar_ok (wd w) (hwd w hw)
  exact (h2 _ (by omega)).trans (e2 j hj)
/-- between two commands -/
def prJ (ka ja kn kw kc jc : Nat) (wd : Nat → Nat) (b : Nat → Int32) (len : Nat) (M : Mm) (c : Nat) (m : Mm) : Prop := SameT M m ∧ m kc jc = nI c ∧ m ka ja = nI (ps b len c) ∧ ∀ i, i < c → good b len i ∧ stdP kn kw wd b len i m
/-- what is read: c is the last command -/
def prsP (ka ja kn kw kc jc : Nat) (wd : Nat → Nat) (b : Nat → Int32) (len : Nat) (M : Mm) (ok : Prop) (no : Nat → Prop) (m : Mm) : Prop := SameT M m ∧ ∃ c, (∀ i, i < c → good b len i) ∧ ¬ good b len c ∧ ((cOk b len (ps b len c) ∧ len ≤ cEnd b len (ps b len c) ∧ ok ∧ m kc jc = nI (c + 1) ∧ ∀ i, i < c + 1 → stdP kn kw wd b len i m) ∨ (¬ (cOk b len (ps b len c) ∧ len ≤ cEnd b len (ps b len c)) ∧ no (cEnd b len (ps b len c))))
theorem prJ_s {ka ja kn kw kc jc : Nat} {wd : Nat → Nat} {b : Nat → Int32} {len c c' : Nat} {M m m2 m3 : Mm} {r : Int32} (hwd : ∀ w, w < 11 → wd w < 11) (h : prJ ka ja kn kw kc jc wd b len M c m) (h1 : cmdP ka ja kn kw kc jc wd b len (ps b len c) c c' m r m2) (hr : r = 1) (h7 : isC b len (cEnd b len (ps b len c)) 59) (hs : SameT m2 m3) (h2 : m3 kn = m2 kn) (h3 : m3 kw = m2 kw) (h4 : m3 kc jc = nI (c + 1)) (h5 : m3 ka ja = nI (cEnd b len (ps b len c) + 1)) : prJ ka ja kn kw kc jc wd b len M (c + 1) m3 := by
  obtain ⟨a1, a2, a3, a4⟩ := h
  obtain ⟨b1, b2, b3, b4, b5⟩ := h1
  rcases b5 with ⟨-, b6, b7, w, hw, hF, b8, b9⟩ | ⟨b6, -⟩
  · refine ⟨SameT.tr a1 (SameT.tr b1 hs), h4, h5, fun i hi => ?_⟩
    by_cases e : i = c
    · subst e
      exact ⟨⟨b6, h7⟩, w, hw, hF, (congrFun h3 _).trans b8, fun j hj => (congrFun h2 _).trans (b9 j hj)⟩
    · obtain ⟨g, s⟩ := a4 i (by omega)
      exact ⟨g, stdP_keep hwd (show i < c by omega) (fun j hj => (congrFun h2 j).trans (b3 j hj)) (fun j hj => (congrFun h3 j).trans (b4 j hj)) s⟩
  · rw [hr] at b6; exact absurd b6 (by decide)
theorem prs_ok {ka ja kn kw kc jc : Nat} {wd : Nat → Nat} {b : Nat → Int32} {len c c' : Nat} {M m m2 m3 : Mm} {r : Int32} {ok : Prop} {no : Nat → Prop} (hwd : ∀ w, w < 11 → wd w < 11) (h : prJ ka ja kn kw kc jc wd b len M c m) (h1 : cmdP ka ja kn kw kc jc wd b len (ps b len c) c c' m r m2) (hr : r = 1) (h7 : len ≤ cEnd b len (ps b len c)) (hs : SameT m2 m3) (h2 : m3 kn = m2 kn) (h3 : m3 kw = m2 kw) (h4 : m3 kc jc = nI (c + 1)) (hok : ok) : prsP ka ja kn kw kc jc wd b len M ok no m3 := by
  obtain ⟨a1, a2, a3, a4⟩ := h
  obtain ⟨b1, b2, b3, b4, b5⟩ := h1
  rcases b5 with ⟨-, b6, b7, w, hw, hF, b8, b9⟩ | ⟨b6, -⟩
  · refine ⟨SameT.tr a1 (SameT.tr b1 hs), c, fun i hi => (a4 i hi).1, fun z => absurd z.2.1 (by omega), Or.inl ⟨b6, h7, hok, h4, fun i hi => ?_⟩⟩
    by_cases e : i = c
    · subst e
      exact ⟨w, hw, hF, (congrFun h3 _).trans b8, fun j hj => (congrFun h2 _).trans (b9 j hj)⟩
    · exact stdP_keep hwd (show i < c by omega) (fun j hj => (congrFun h2 j).trans (b3 j hj)) (fun j hj => (congrFun h3 j).trans (b4 j hj)) (a4 i (by omega)).2
  · rw [hr] at b6; exact absurd b6 (by decide)
theorem prs_no {ka ja kn kw kc jc : Nat} {wd : Nat → Nat} {b : Nat → Int32} {len c c' : Nat} {M m m2 m3 : Mm} {r : Int32} {ok : Prop} {no : Nat → Prop} (h : prJ ka ja kn kw kc jc wd b len M c m) (h1 : cmdP ka ja kn kw kc jc wd b len (ps b len c) c c' m r m2) (hr : r = 0 ∨ cEnd b len (ps b len c) < len ∧ ¬ b (cEnd b len (ps b len c)) = 59) (hs : SameT m2 m3) (hno : no (cEnd b len (ps b len c))) : prsP ka ja kn kw kc jc wd b len M ok no m3 := by
  obtain ⟨a1, a2, a3, a4⟩ := h
  obtain ⟨b1, b2, b3, b4, b5⟩ := h1
  refine ⟨SameT.tr a1 (SameT.tr b1 hs), c, fun i hi => (a4 i hi).1, fun z => ?_, Or.inr ⟨fun z => ?_, hno⟩⟩
  · rcases hr with hr | hr
    · rcases b5 with ⟨b5, -⟩ | ⟨-, b5⟩
      · rw [hr] at b5; exact absurd b5 (by decide)
      · exact b5 z.1
    · exact hr.2 z.2.2
  · rcases hr with hr | hr
    · rcases b5 with ⟨b5, -⟩ | ⟨-, b5⟩
      · rw [hr] at b5; exact absurd b5 (by decide)
      · exact b5 z.1
    · omega
theorem cf_X4_readNumber : CF yX4_readNumber cX4_readNumber 5 (some .boolean) 1 := ⟨cd_X4_readNumber, iz_X4, by decide, by decide +kernel, by decide +kernel, by decide +kernel⟩
set_option maxRecDepth 100000 in
set_option maxHeartbeats 4000000 in
theorem c_X4_readNumber {l : Launch} {E : Ev} {M : Mm} {b : Nat → Int32} {len p : Nat} (hI : ∀ k, k < 108 → k ∈ E.2.1) (hb : M 55 = b) (hl : M 52 0 = nI len) (hp : M 52 5 = nI p) (hlen : len ≤ 100) (hple : p ≤ len) {y : Int32} {q : Nat} (hy : y = nI q) (hq : q < 60) : Cm l E yX4_readNumber cX4_readNumber 5 (some .boolean) 1 [.ref (E.2.2.1 52), .int y] M (pZ (numP 52 5 54 53 52 1 b len p q M)) := by
  refine Cm.of (by decide) (Nat.le_of_ble_eq_true rfl) (fun K k kt => ?_)
  show G l E K 0 [(0, .ref (E.2.2.1 52)), (1, .int y)] [] M
  refine gs_aload_n (q := 0) k rfl rfl dX4_readNumber_0 ?_
  refine gs_bipush (v := 32) k (by decide) dX4_readNumber_1 ?_
  refine gs_callV (As := [.int 32]) (k0 := 52) (ci := 4) (T := TX4) (N := 6) k (c_X4_isNext hI (hb) (hl) (hp) hlen (by omega)) cf_X4_isNext im_X4_isNext sl_X4_isNext ml_X4_52 (hI 52 (by omega)) rfl rfl (by decide) rfl rfl (Nat.le_of_ble_eq_true rfl) dX4_readNumber_3 (ppB (fun c1 => ?_) (fun c1 => ?_))
  · have xc1 := c1.1
    refine gs_if_ne (tgt := 11) k (by decide) dX4_readNumber_6 (fun _ => ?_) (fun h => absurd h (by decide))
    refine gs_aload_n (q := 0) k rfl rfl dX4_readNumber_11 ?_
    refine gs_dup k rfl dX4_readNumber_12 ?_
    refine gs_get (C := RX4) (T := TX4) (N := 6) (ci := 4) (k0 := 52) (j := 5) k (hI 52 (by omega)) rfl rfl inX4 (by decide) fl_X4_28 rfl rfl dX4_readNumber_13 ?_
    refine gs_iconst (v := 1) k (by decide) dX4_readNumber_16 ?_
    refine gs_iaddN (a := p) (b := 1) k hp rfl dX4_readNumber_17 ?_
    refine gs_put (C := RX4) (T := TX4) (N := 6) (ci := 4) (k0 := 52) (j := 5) (ty := .int) k (hI 52 (by omega)) rfl rfl rfl inX4 tyX4 tyX4_ok nmX4 (by decide) fl_X4_28 rfl rfl (tyX4_ok 5 (by decide)) rfl rfl (Nat.le_of_ble_eq_true rfl) dX4_readNumber_18 ?_
    refine gs_aload_n (q := 0) k rfl rfl dX4_readNumber_21 ?_
    refine gs_bipush (v := 45) k (by decide) dX4_readNumber_22 ?_
    refine gs_callV (As := [.int 45]) (k0 := 52) (ci := 4) (T := TX4) (N := 6) k (c_X4_isNext hI (rown (by omega) (hb)) (rdj (by decide) (hl)) (mw_eq _ _ _ _) hlen (by omega)) cf_X4_isNext im_X4_isNext sl_X4_isNext ml_X4_52 (hI 52 (by omega)) rfl rfl (by decide) rfl rfl (Nat.le_of_ble_eq_true rfl) dX4_readNumber_24 (ppB (fun c2 => ?_) (fun c2 => ?_))
    · have xc2 := c2.1
      refine gs_istore_n (lv' := [(2, .int 1), (0, .ref (E.2.2.1 52)), (1, .int y)]) k rfl (by decide) rfl dX4_readNumber_27 ?_
      refine gs_iload_n (q := 0) k rfl rfl dX4_readNumber_28 ?_
      refine gs_if_eq (tgt := 42) k (by decide) dX4_readNumber_29 (fun h => absurd h (by decide)) (fun _ => ?_)
      refine gs_aload_n (q := 1) k rfl rfl dX4_readNumber_32 ?_
      refine gs_dup k rfl dX4_readNumber_33 ?_
      refine gs_get (C := RX4) (T := TX4) (N := 6) (ci := 4) (k0 := 52) (j := 5) k (hI 52 (by omega)) rfl rfl inX4 (by decide) fl_X4_28 rfl rfl dX4_readNumber_34 ?_
      refine gs_top (y := nI (p + 1)) (mw_eq _ _ _ _) ?_
      refine gs_iconst (v := 1) k (by decide) dX4_readNumber_37 ?_
      refine gs_iaddN (a := p + 1) (b := 1) k rfl rfl dX4_readNumber_38 ?_
      refine gs_put (C := RX4) (T := TX4) (N := 6) (ci := 4) (k0 := 52) (j := 5) (ty := .int) k (hI 52 (by omega)) rfl rfl rfl inX4 tyX4 tyX4_ok nmX4 (by decide) fl_X4_28 rfl rfl (tyX4_ok 5 (by decide)) rfl rfl (Nat.le_of_ble_eq_true rfl) dX4_readNumber_39 ?_
      refine gs_iconst (v := 0) k (by decide) dX4_readNumber_42 ?_
      refine gs_istore_n (lv' := [(3, .int 0), (2, .int 1), (0, .ref (E.2.2.1 52)), (1, .int y)]) k rfl (by decide) rfl dX4_readNumber_43 ?_
      refine gs_iconst (v := 0) k (by decide) dX4_readNumber_44 ?_
      refine gs_istore (lv' := [(4, .int 0), (3, .int 0), (2, .int 1), (0, .ref (E.2.2.1 52)), (1, .int y)]) k (by decide) rfl dX4_readNumber_45 ?_
      refine gs_iload_n (q := 1) k rfl rfl dX4_readNumber_47 ?_
      refine gs_iconst (v := 3) k (by decide) dX4_readNumber_48 ?_
      refine gs_icmp_ge (tgt := 95) k (by decide) dX4_readNumber_49 (fun h => absurd h (by decide)) (fun _ => ?_)
      refine gs_aload_n (q := 3) k rfl rfl dX4_readNumber_52 ?_
      refine gs_callV (As := []) (k0 := 52) (ci := 4) (T := TX4) (N := 6) k (c_X4_isDigitNext hI (rown (by omega) (rown (by omega) (hb))) (rdj (by decide) (rdj (by decide) (hl))) (mw_eq _ _ _ _) hlen (by omega)) cf_X4_isDigitNext im_X4_isDigitNext sl_X4_isDigitNext ml_X4_56 (hI 52 (by omega)) rfl rfl (by decide) rfl rfl (Nat.le_of_ble_eq_true rfl) dX4_readNumber_53 (ppB (fun c3 => ?_) (fun c3 => ?_))
      · have xc3 := c3.1
        refine gs_if_eq (tgt := 95) k (by decide) dX4_readNumber_56 (fun h => absurd h (by decide)) (fun _ => ?_)
        refine gs_iload (q := 0) k rfl dX4_readNumber_59 ?_
        refine gs_bipush (v := 10) k (by decide) dX4_readNumber_61 ?_
        refine gs_imul k dX4_readNumber_63 ?_
        refine gs_aload_n (q := 3) k rfl rfl dX4_readNumber_64 ?_
        refine gs_get (C := RX4) (T := TX4) (N := 6) (ci := 4) (k0 := 52) (j := 4) k (hI 52 (by omega)) rfl rfl inX4 (by decide) fl_X4_16 rfl rfl dX4_readNumber_65 ?_
        refine gs_aload_n (q := 3) k rfl rfl dX4_readNumber_68 ?_
        refine gs_get (C := RX4) (T := TX4) (N := 6) (ci := 4) (k0 := 52) (j := 5) k (hI 52 (by omega)) rfl rfl inX4 (by decide) fl_X4_28 rfl rfl dX4_readNumber_69 ?_
        refine gs_top (y := nI ((p + 1) + 1)) (mw_eq _ _ _ _) ?_
        refine gs_baldN (k0 := 55) (n := 100) (e := ((p + 1) + 1)) k (hI 55 (by omega)) (fun _ => rfl) rfl (by omega) (by decide) dX4_readNumber_72 ?_
        refine gs_top (y := b ((p + 1) + 1)) (rdn (by omega) (rdn (by omega) ((congrFun hb _)))) ?_
        refine gs_iadd k dX4_readNumber_73 ?_
        refine gs_bipush (v := 48) k (by decide) dX4_readNumber_74 ?_
        refine gs_isub k dX4_readNumber_76 ?_
        refine gs_istore (lv' := [(4, .int (((0 * 10) + (b ((p + 1) + 1))) - 48)), (3, .int 0), (2, .int 1), (0, .ref (E.2.2.1 52)), (1, .int y)]) k (by decide) rfl dX4_readNumber_77 ?_
        refine gs_iinc (q := 1) (v := 1) (lv' := [(3, .int 1), (4, .int (((0 * 10) + (b ((p + 1) + 1))) - 48)), (2, .int 1), (0, .ref (E.2.2.1 52)), (1, .int y)]) k rfl (by decide) (by decide) rfl dX4_readNumber_79 ?_
        refine gs_aload_n (q := 3) k rfl rfl dX4_readNumber_82 ?_
        refine gs_dup k rfl dX4_readNumber_83 ?_
        refine gs_get (C := RX4) (T := TX4) (N := 6) (ci := 4) (k0 := 52) (j := 5) k (hI 52 (by omega)) rfl rfl inX4 (by decide) fl_X4_28 rfl rfl dX4_readNumber_84 ?_
        refine gs_top (y := nI ((p + 1) + 1)) (mw_eq _ _ _ _) ?_
        refine gs_iconst (v := 1) k (by decide) dX4_readNumber_87 ?_
        refine gs_iaddN (a := ((p + 1) + 1)) (b := 1) k rfl rfl dX4_readNumber_88 ?_
        refine gs_put (C := RX4) (T := TX4) (N := 6) (ci := 4) (k0 := 52) (j := 5) (ty := .int) k (hI 52 (by omega)) rfl rfl rfl inX4 tyX4 tyX4_ok nmX4 (by decide) fl_X4_28 rfl rfl (tyX4_ok 5 (by decide)) rfl rfl (Nat.le_of_ble_eq_true rfl) dX4_readNumber_89 ?_
        refine gs_goto (tgt := 47) k (by decide) dX4_readNumber_92 ?_
        refine gs_iload_n (q := 0) k rfl rfl dX4_readNumber_47 ?_
        refine gs_iconst (v := 3) k (by decide) dX4_readNumber_48 ?_
        refine gs_icmp_ge (tgt := 95) k (by decide) dX4_readNumber_49 (fun h => absurd h (by decide)) (fun _ => ?_)
        refine gs_aload_n (q := 3) k rfl rfl dX4_readNumber_52 ?_
        refine gs_callV (As := []) (k0 := 52) (ci := 4) (T := TX4) (N := 6) k (c_X4_isDigitNext hI (rown (by omega) (rown (by omega) (rown (by omega) (hb)))) (rdj (by decide) (rdj (by decide) (rdj (by decide) (hl)))) (mw_eq _ _ _ _) hlen (by omega)) cf_X4_isDigitNext im_X4_isDigitNext sl_X4_isDigitNext ml_X4_56 (hI 52 (by omega)) rfl rfl (by decide) rfl rfl (Nat.le_of_ble_eq_true rfl) dX4_readNumber_53 (ppB (fun c4 => ?_) (fun c4 => ?_))
        · have xc4 := c4.1
          refine gs_if_eq (tgt := 95) k (by decide) dX4_readNumber_56 (fun h => absurd h (by decide)) (fun _ => ?_)
          refine gs_iload (q := 1) k rfl dX4_readNumber_59 ?_
          refine gs_bipush (v := 10) k (by decide) dX4_readNumber_61 ?_
          refine gs_imul k dX4_readNumber_63 ?_
          refine gs_aload_n (q := 3) k rfl rfl dX4_readNumber_64 ?_
          refine gs_get (C := RX4) (T := TX4) (N := 6) (ci := 4) (k0 := 52) (j := 4) k (hI 52 (by omega)) rfl rfl inX4 (by decide) fl_X4_16 rfl rfl dX4_readNumber_65 ?_
          refine gs_aload_n (q := 3) k rfl rfl dX4_readNumber_68 ?_
          refine gs_get (C := RX4) (T := TX4) (N := 6) (ci := 4) (k0 := 52) (j := 5) k (hI 52 (by omega)) rfl rfl inX4 (by decide) fl_X4_28 rfl rfl dX4_readNumber_69 ?_
          refine gs_top (y := nI (((p + 1) + 1) + 1)) (mw_eq _ _ _ _) ?_
          refine gs_baldN (k0 := 55) (n := 100) (e := (((p + 1) + 1) + 1)) k (hI 55 (by omega)) (fun _ => rfl) rfl (by omega) (by decide) dX4_readNumber_72 ?_
          refine gs_top (y := b (((p + 1) + 1) + 1)) (rdn (by omega) (rdn (by omega) (rdn (by omega) ((congrFun hb _))))) ?_
          refine gs_iadd k dX4_readNumber_73 ?_
          refine gs_bipush (v := 48) k (by decide) dX4_readNumber_74 ?_
          refine gs_isub k dX4_readNumber_76 ?_
          refine gs_istore (lv' := [(4, .int ((((((0 * 10) + (b ((p + 1) + 1))) - 48) * 10) + (b (((p + 1) + 1) + 1))) - 48)), (3, .int 1), (2, .int 1), (0, .ref (E.2.2.1 52)), (1, .int y)]) k (by decide) rfl dX4_readNumber_77 ?_
          refine gs_iinc (q := 1) (v := 2) (lv' := [(3, .int 2), (4, .int ((((((0 * 10) + (b ((p + 1) + 1))) - 48) * 10) + (b (((p + 1) + 1) + 1))) - 48)), (2, .int 1), (0, .ref (E.2.2.1 52)), (1, .int y)]) k rfl (by decide) (by decide) rfl dX4_readNumber_79 ?_
          refine gs_aload_n (q := 3) k rfl rfl dX4_readNumber_82 ?_
          refine gs_dup k rfl dX4_readNumber_83 ?_
          refine gs_get (C := RX4) (T := TX4) (N := 6) (ci := 4) (k0 := 52) (j := 5) k (hI 52 (by omega)) rfl rfl inX4 (by decide) fl_X4_28 rfl rfl dX4_readNumber_84 ?_
          refine gs_top (y := nI (((p + 1) + 1) + 1)) (mw_eq _ _ _ _) ?_
          refine gs_iconst (v := 1) k (by decide) dX4_readNumber_87 ?_
          refine gs_iaddN (a := (((p + 1) + 1) + 1)) (b := 1) k rfl rfl dX4_readNumber_88 ?_
          refine gs_put (C := RX4) (T := TX4) (N := 6) (ci := 4) (k0 := 52) (j := 5) (ty := .int) k (hI 52 (by omega)) rfl rfl rfl inX4 tyX4 tyX4_ok nmX4 (by decide) fl_X4_28 rfl rfl (tyX4_ok 5 (by decide)) rfl rfl (Nat.le_of_ble_eq_true rfl) dX4_readNumber_89 ?_
          refine gs_goto (tgt := 47) k (by decide) dX4_readNumber_92 ?_
          refine gs_iload_n (q := 0) k rfl rfl dX4_readNumber_47 ?_
          refine gs_iconst (v := 3) k (by decide) dX4_readNumber_48 ?_
          refine gs_icmp_ge (tgt := 95) k (by decide) dX4_readNumber_49 (fun h => absurd h (by decide)) (fun _ => ?_)
          refine gs_aload_n (q := 3) k rfl rfl dX4_readNumber_52 ?_
          refine gs_callV (As := []) (k0 := 52) (ci := 4) (T := TX4) (N := 6) k (c_X4_isDigitNext hI (rown (by omega) (rown (by omega) (rown (by omega) (rown (by omega) (hb))))) (rdj (by decide) (rdj (by decide) (rdj (by decide) (rdj (by decide) (hl))))) (mw_eq _ _ _ _) hlen (by omega)) cf_X4_isDigitNext im_X4_isDigitNext sl_X4_isDigitNext ml_X4_56 (hI 52 (by omega)) rfl rfl (by decide) rfl rfl (Nat.le_of_ble_eq_true rfl) dX4_readNumber_53 (ppB (fun c5 => ?_) (fun c5 => ?_))
          · have xc5 := c5.1
            refine gs_if_eq (tgt := 95) k (by decide) dX4_readNumber_56 (fun h => absurd h (by decide)) (fun _ => ?_)
            refine gs_iload (q := 1) k rfl dX4_readNumber_59 ?_
            refine gs_bipush (v := 10) k (by decide) dX4_readNumber_61 ?_
            refine gs_imul k dX4_readNumber_63 ?_
            refine gs_aload_n (q := 3) k rfl rfl dX4_readNumber_64 ?_
            refine gs_get (C := RX4) (T := TX4) (N := 6) (ci := 4) (k0 := 52) (j := 4) k (hI 52 (by omega)) rfl rfl inX4 (by decide) fl_X4_16 rfl rfl dX4_readNumber_65 ?_
            refine gs_aload_n (q := 3) k rfl rfl dX4_readNumber_68 ?_
            refine gs_get (C := RX4) (T := TX4) (N := 6) (ci := 4) (k0 := 52) (j := 5) k (hI 52 (by omega)) rfl rfl inX4 (by decide) fl_X4_28 rfl rfl dX4_readNumber_69 ?_
            refine gs_top (y := nI ((((p + 1) + 1) + 1) + 1)) (mw_eq _ _ _ _) ?_
            refine gs_baldN (k0 := 55) (n := 100) (e := ((((p + 1) + 1) + 1) + 1)) k (hI 55 (by omega)) (fun _ => rfl) rfl (by omega) (by decide) dX4_readNumber_72 ?_
            refine gs_top (y := b ((((p + 1) + 1) + 1) + 1)) (rdn (by omega) (rdn (by omega) (rdn (by omega) (rdn (by omega) ((congrFun hb _)))))) ?_
            refine gs_iadd k dX4_readNumber_73 ?_
            refine gs_bipush (v := 48) k (by decide) dX4_readNumber_74 ?_
            refine gs_isub k dX4_readNumber_76 ?_
            refine gs_istore (lv' := [(4, .int (((((((((0 * 10) + (b ((p + 1) + 1))) - 48) * 10) + (b (((p + 1) + 1) + 1))) - 48) * 10) + (b ((((p + 1) + 1) + 1) + 1))) - 48)), (3, .int 2), (2, .int 1), (0, .ref (E.2.2.1 52)), (1, .int y)]) k (by decide) rfl dX4_readNumber_77 ?_
            refine gs_iinc (q := 1) (v := 3) (lv' := [(3, .int 3), (4, .int (((((((((0 * 10) + (b ((p + 1) + 1))) - 48) * 10) + (b (((p + 1) + 1) + 1))) - 48) * 10) + (b ((((p + 1) + 1) + 1) + 1))) - 48)), (2, .int 1), (0, .ref (E.2.2.1 52)), (1, .int y)]) k rfl (by decide) (by decide) rfl dX4_readNumber_79 ?_
            refine gs_aload_n (q := 3) k rfl rfl dX4_readNumber_82 ?_
            refine gs_dup k rfl dX4_readNumber_83 ?_
            refine gs_get (C := RX4) (T := TX4) (N := 6) (ci := 4) (k0 := 52) (j := 5) k (hI 52 (by omega)) rfl rfl inX4 (by decide) fl_X4_28 rfl rfl dX4_readNumber_84 ?_
            refine gs_top (y := nI ((((p + 1) + 1) + 1) + 1)) (mw_eq _ _ _ _) ?_
            refine gs_iconst (v := 1) k (by decide) dX4_readNumber_87 ?_
            refine gs_iaddN (a := ((((p + 1) + 1) + 1) + 1)) (b := 1) k rfl rfl dX4_readNumber_88 ?_
            refine gs_put (C := RX4) (T := TX4) (N := 6) (ci := 4) (k0 := 52) (j := 5) (ty := .int) k (hI 52 (by omega)) rfl rfl rfl inX4 tyX4 tyX4_ok nmX4 (by decide) fl_X4_28 rfl rfl (tyX4_ok 5 (by decide)) rfl rfl (Nat.le_of_ble_eq_true rfl) dX4_readNumber_89 ?_
            refine gs_goto (tgt := 47) k (by decide) dX4_readNumber_92 ?_
            refine gs_iload_n (q := 0) k rfl rfl dX4_readNumber_47 ?_
            refine gs_iconst (v := 3) k (by decide) dX4_readNumber_48 ?_
            refine gs_icmp_ge (tgt := 95) k (by decide) dX4_readNumber_49 (fun _ => ?_) (fun h => absurd h (by decide))
            refine gs_aload_n (q := 3) k rfl rfl dX4_readNumber_95 ?_
            refine gs_get (C := RX4) (T := TX4) (N := 6) (ci := 4) (k0 := 52) (j := 3) k (hI 52 (by omega)) rfl rfl inX4 (by decide) fl_X4_13 rfl rfl dX4_readNumber_96 ?_
            refine gs_iload_n (q := 4) k rfl rfl dX4_readNumber_99 ?_
            refine gs_iload_n (q := 2) k rfl rfl dX4_readNumber_100 ?_
            refine gs_if_eq (tgt := 110) k (by decide) dX4_readNumber_101 (fun h => absurd h (by decide)) (fun _ => ?_)
            refine gs_iload (q := 1) k rfl dX4_readNumber_104 ?_
            refine gs_ineg k dX4_readNumber_106 ?_
            refine gs_goto (tgt := 112) k (by decide) dX4_readNumber_107 ?_
            refine gs_iastN (k0 := 54) (n := 60) (e := q) k (hI 54 (by omega)) (fun _ => rfl) hy (by omega) (by decide) dX4_readNumber_112 ?_
            refine gs_iload_n (q := 0) k rfl rfl dX4_readNumber_113 ?_
            refine gs_if_le (tgt := 121) k (by decide) dX4_readNumber_114 (fun h => absurd h (by decide)) (fun _ => ?_)
            refine gs_iconst (v := 1) k (by decide) dX4_readNumber_117 ?_
            refine gs_goto (tgt := 122) k (by decide) dX4_readNumber_118 ?_
            exact gs_zret k kt (by decide) dX4_readNumber_122 ⟨_, rfl, (SameT.m1 (SameT.m1 (SameT.m1 (SameT.m1 (SameT.m1 (SameT.m1 SameT.rf (by unfold scrT scr; omega)) (by unfold scrT scr; omega)) (by unfold scrT scr; omega)) (by unfold scrT scr; omega)) (by unfold scrT scr; omega)) (by unfold scrT scr; omega)), (rdn (by omega) (mw_eq _ _ _ _)).trans (congrArg nI (nl_13 c1 c2 c3 c4 c5).1.symm), fun j hj => rdj hj (rdn (by omega) (rdn (by omega) (rdn (by omega) (rdn (by omega) (rdn (by omega) (rfl)))))), (rown (by omega) (rown (by omega) (rown (by omega) (rown (by omega) (rown (by omega) (rown (by omega) (rfl))))))), (rdn (by omega) (rdj (by decide) (rdj (by decide) (rdj (by decide) (rdj (by decide) (rdj (by decide) (rfl))))))), Or.inl ⟨rfl, (nl_13 c1 c2 c3 c4 c5).2.2, (mw_eq _ _ _ _).trans (nl_13 c1 c2 c3 c4 c5).2.1.symm⟩⟩
          · refine gs_if_eq (tgt := 95) k (by decide) dX4_readNumber_56 (fun _ => ?_) (fun h => absurd h (by decide))
            refine gs_aload_n (q := 3) k rfl rfl dX4_readNumber_95 ?_
            refine gs_get (C := RX4) (T := TX4) (N := 6) (ci := 4) (k0 := 52) (j := 3) k (hI 52 (by omega)) rfl rfl inX4 (by decide) fl_X4_13 rfl rfl dX4_readNumber_96 ?_
            refine gs_iload_n (q := 4) k rfl rfl dX4_readNumber_99 ?_
            refine gs_iload_n (q := 2) k rfl rfl dX4_readNumber_100 ?_
            refine gs_if_eq (tgt := 110) k (by decide) dX4_readNumber_101 (fun h => absurd h (by decide)) (fun _ => ?_)
            refine gs_iload (q := 1) k rfl dX4_readNumber_104 ?_
            refine gs_ineg k dX4_readNumber_106 ?_
            refine gs_goto (tgt := 112) k (by decide) dX4_readNumber_107 ?_
            refine gs_iastN (k0 := 54) (n := 60) (e := q) k (hI 54 (by omega)) (fun _ => rfl) hy (by omega) (by decide) dX4_readNumber_112 ?_
            refine gs_iload_n (q := 0) k rfl rfl dX4_readNumber_113 ?_
            refine gs_if_le (tgt := 121) k (by decide) dX4_readNumber_114 (fun h => absurd h (by decide)) (fun _ => ?_)
            refine gs_iconst (v := 1) k (by decide) dX4_readNumber_117 ?_
            refine gs_goto (tgt := 122) k (by decide) dX4_readNumber_118 ?_
            exact gs_zret k kt (by decide) dX4_readNumber_122 ⟨_, rfl, (SameT.m1 (SameT.m1 (SameT.m1 (SameT.m1 (SameT.m1 SameT.rf (by unfold scrT scr; omega)) (by unfold scrT scr; omega)) (by unfold scrT scr; omega)) (by unfold scrT scr; omega)) (by unfold scrT scr; omega)), (rdn (by omega) (mw_eq _ _ _ _)).trans (congrArg nI (nl_12 c1 c2 c3 c4 c5).1.symm), fun j hj => rdj hj (rdn (by omega) (rdn (by omega) (rdn (by omega) (rdn (by omega) (rfl))))), (rown (by omega) (rown (by omega) (rown (by omega) (rown (by omega) (rown (by omega) (rfl)))))), (rdn (by omega) (rdj (by decide) (rdj (by decide) (rdj (by decide) (rdj (by decide) (rfl)))))), Or.inl ⟨rfl, (nl_12 c1 c2 c3 c4 c5).2.2, (mw_eq _ _ _ _).trans (nl_12 c1 c2 c3 c4 c5).2.1.symm⟩⟩
        · refine gs_if_eq (tgt := 95) k (by decide) dX4_readNumber_56 (fun _ => ?_) (fun h => absurd h (by decide))
          refine gs_aload_n (q := 3) k rfl rfl dX4_readNumber_95 ?_
          refine gs_get (C := RX4) (T := TX4) (N := 6) (ci := 4) (k0 := 52) (j := 3) k (hI 52 (by omega)) rfl rfl inX4 (by decide) fl_X4_13 rfl rfl dX4_readNumber_96 ?_
          refine gs_iload_n (q := 4) k rfl rfl dX4_readNumber_99 ?_
          refine gs_iload_n (q := 2) k rfl rfl dX4_readNumber_100 ?_
          refine gs_if_eq (tgt := 110) k (by decide) dX4_readNumber_101 (fun h => absurd h (by decide)) (fun _ => ?_)
          refine gs_iload (q := 1) k rfl dX4_readNumber_104 ?_
          refine gs_ineg k dX4_readNumber_106 ?_
          refine gs_goto (tgt := 112) k (by decide) dX4_readNumber_107 ?_
          refine gs_iastN (k0 := 54) (n := 60) (e := q) k (hI 54 (by omega)) (fun _ => rfl) hy (by omega) (by decide) dX4_readNumber_112 ?_
          refine gs_iload_n (q := 0) k rfl rfl dX4_readNumber_113 ?_
          refine gs_if_le (tgt := 121) k (by decide) dX4_readNumber_114 (fun h => absurd h (by decide)) (fun _ => ?_)
          refine gs_iconst (v := 1) k (by decide) dX4_readNumber_117 ?_
          refine gs_goto (tgt := 122) k (by decide) dX4_readNumber_118 ?_
          exact gs_zret k kt (by decide) dX4_readNumber_122 ⟨_, rfl, (SameT.m1 (SameT.m1 (SameT.m1 (SameT.m1 SameT.rf (by unfold scrT scr; omega)) (by unfold scrT scr; omega)) (by unfold scrT scr; omega)) (by unfold scrT scr; omega)), (rdn (by omega) (mw_eq _ _ _ _)).trans (congrArg nI (nl_11 c1 c2 c3 c4).1.symm), fun j hj => rdj hj (rdn (by omega) (rdn (by omega) (rdn (by omega) (rfl)))), (rown (by omega) (rown (by omega) (rown (by omega) (rown (by omega) (rfl))))), (rdn (by omega) (rdj (by decide) (rdj (by decide) (rdj (by decide) (rfl))))), Or.inl ⟨rfl, (nl_11 c1 c2 c3 c4).2.2, (mw_eq _ _ _ _).trans (nl_11 c1 c2 c3 c4).2.1.symm⟩⟩
      · refine gs_if_eq (tgt := 95) k (by decide) dX4_readNumber_56 (fun _ => ?_) (fun h => absurd h (by decide))
        refine gs_aload_n (q := 3) k rfl rfl dX4_readNumber_95 ?_
        refine gs_get (C := RX4) (T := TX4) (N := 6) (ci := 4) (k0 := 52) (j := 3) k (hI 52 (by omega)) rfl rfl inX4 (by decide) fl_X4_13 rfl rfl dX4_readNumber_96 ?_
        refine gs_iload_n (q := 4) k rfl rfl dX4_readNumber_99 ?_
        refine gs_iload_n (q := 2) k rfl rfl dX4_readNumber_100 ?_
        refine gs_if_eq (tgt := 110) k (by decide) dX4_readNumber_101 (fun h => absurd h (by decide)) (fun _ => ?_)
        refine gs_iload (q := 0) k rfl dX4_readNumber_104 ?_
        refine gs_ineg k dX4_readNumber_106 ?_
        refine gs_goto (tgt := 112) k (by decide) dX4_readNumber_107 ?_
        refine gs_iastN (k0 := 54) (n := 60) (e := q) k (hI 54 (by omega)) (fun _ => rfl) hy (by omega) (by decide) dX4_readNumber_112 ?_
        refine gs_iload_n (q := 1) k rfl rfl dX4_readNumber_113 ?_
        refine gs_if_le (tgt := 121) k (by decide) dX4_readNumber_114 (fun _ => ?_) (fun h => absurd h (by decide))
        refine gs_iconst (v := 0) k (by decide) dX4_readNumber_121 ?_
        exact gs_zret k kt (by decide) dX4_readNumber_122 ⟨_, rfl, (SameT.m1 (SameT.m1 (SameT.m1 SameT.rf (by unfold scrT scr; omega)) (by unfold scrT scr; omega)) (by unfold scrT scr; omega)), (rdn (by omega) (mw_eq _ _ _ _)).trans (congrArg nI (nl_10 c1 c2 c3).1.symm), fun j hj => rdj hj (rdn (by omega) (rdn (by omega) (rfl))), (rown (by omega) (rown (by omega) (rown (by omega) (rfl)))), (rdn (by omega) (rdj (by decide) (rdj (by decide) (rfl)))), Or.inr ⟨rfl, (nl_10 c1 c2 c3).2.2⟩⟩
    · refine gs_istore_n (lv' := [(2, .int 0), (0, .ref (E.2.2.1 52)), (1, .int y)]) k rfl (by decide) rfl dX4_readNumber_27 ?_
      refine gs_iload_n (q := 0) k rfl rfl dX4_readNumber_28 ?_
      refine gs_if_eq (tgt := 42) k (by decide) dX4_readNumber_29 (fun _ => ?_) (fun h => absurd h (by decide))
      refine gs_iconst (v := 0) k (by decide) dX4_readNumber_42 ?_
      refine gs_istore_n (lv' := [(3, .int 0), (2, .int 0), (0, .ref (E.2.2.1 52)), (1, .int y)]) k rfl (by decide) rfl dX4_readNumber_43 ?_
      refine gs_iconst (v := 0) k (by decide) dX4_readNumber_44 ?_
      refine gs_istore (lv' := [(4, .int 0), (3, .int 0), (2, .int 0), (0, .ref (E.2.2.1 52)), (1, .int y)]) k (by decide) rfl dX4_readNumber_45 ?_
      refine gs_iload_n (q := 1) k rfl rfl dX4_readNumber_47 ?_
      refine gs_iconst (v := 3) k (by decide) dX4_readNumber_48 ?_
      refine gs_icmp_ge (tgt := 95) k (by decide) dX4_readNumber_49 (fun h => absurd h (by decide)) (fun _ => ?_)
      refine gs_aload_n (q := 3) k rfl rfl dX4_readNumber_52 ?_
      refine gs_callV (As := []) (k0 := 52) (ci := 4) (T := TX4) (N := 6) k (c_X4_isDigitNext hI (rown (by omega) (hb)) (rdj (by decide) (hl)) (mw_eq _ _ _ _) hlen (by omega)) cf_X4_isDigitNext im_X4_isDigitNext sl_X4_isDigitNext ml_X4_56 (hI 52 (by omega)) rfl rfl (by decide) rfl rfl (Nat.le_of_ble_eq_true rfl) dX4_readNumber_53 (ppB (fun c6 => ?_) (fun c6 => ?_))
      · have xc6 := c6.1
        refine gs_if_eq (tgt := 95) k (by decide) dX4_readNumber_56 (fun h => absurd h (by decide)) (fun _ => ?_)
        refine gs_iload (q := 0) k rfl dX4_readNumber_59 ?_
        refine gs_bipush (v := 10) k (by decide) dX4_readNumber_61 ?_
        refine gs_imul k dX4_readNumber_63 ?_
        refine gs_aload_n (q := 3) k rfl rfl dX4_readNumber_64 ?_
        refine gs_get (C := RX4) (T := TX4) (N := 6) (ci := 4) (k0 := 52) (j := 4) k (hI 52 (by omega)) rfl rfl inX4 (by decide) fl_X4_16 rfl rfl dX4_readNumber_65 ?_
        refine gs_aload_n (q := 3) k rfl rfl dX4_readNumber_68 ?_
        refine gs_get (C := RX4) (T := TX4) (N := 6) (ci := 4) (k0 := 52) (j := 5) k (hI 52 (by omega)) rfl rfl inX4 (by decide) fl_X4_28 rfl rfl dX4_readNumber_69 ?_
        refine gs_top (y := nI (p + 1)) (mw_eq _ _ _ _) ?_
        refine gs_baldN (k0 := 55) (n := 100) (e := p + 1) k (hI 55 (by omega)) (fun _ => rfl) rfl (by omega) (by decide) dX4_readNumber_72 ?_
        refine gs_top (y := b (p + 1)) (rdn (by omega) ((congrFun hb _))) ?_
        refine gs_iadd k dX4_readNumber_73 ?_
        refine gs_bipush (v := 48) k (by decide) dX4_readNumber_74 ?_
        refine gs_isub k dX4_readNumber_76 ?_
        refine gs_istore (lv' := [(4, .int (((0 * 10) + (b (p + 1))) - 48)), (3, .int 0), (2, .int 0), (0, .ref (E.2.2.1 52)), (1, .int y)]) k (by decide) rfl dX4_readNumber_77 ?_
        refine gs_iinc (q := 1) (v := 1) (lv' := [(3, .int 1), (4, .int (((0 * 10) + (b (p + 1))) - 48)), (2, .int 0), (0, .ref (E.2.2.1 52)), (1, .int y)]) k rfl (by decide) (by decide) rfl dX4_readNumber_79 ?_
        refine gs_aload_n (q := 3) k rfl rfl dX4_readNumber_82 ?_
        refine gs_dup k rfl dX4_readNumber_83 ?_
        refine gs_get (C := RX4) (T := TX4) (N := 6) (ci := 4) (k0 := 52) (j := 5) k (hI 52 (by omega)) rfl rfl inX4 (by decide) fl_X4_28 rfl rfl dX4_readNumber_84 ?_
        refine gs_top (y := nI (p + 1)) (mw_eq _ _ _ _) ?_
        refine gs_iconst (v := 1) k (by decide) dX4_readNumber_87 ?_
        refine gs_iaddN (a := p + 1) (b := 1) k rfl rfl dX4_readNumber_88 ?_
        refine gs_put (C := RX4) (T := TX4) (N := 6) (ci := 4) (k0 := 52) (j := 5) (ty := .int) k (hI 52 (by omega)) rfl rfl rfl inX4 tyX4 tyX4_ok nmX4 (by decide) fl_X4_28 rfl rfl (tyX4_ok 5 (by decide)) rfl rfl (Nat.le_of_ble_eq_true rfl) dX4_readNumber_89 ?_
        refine gs_goto (tgt := 47) k (by decide) dX4_readNumber_92 ?_
        refine gs_iload_n (q := 0) k rfl rfl dX4_readNumber_47 ?_
        refine gs_iconst (v := 3) k (by decide) dX4_readNumber_48 ?_
        refine gs_icmp_ge (tgt := 95) k (by decide) dX4_readNumber_49 (fun h => absurd h (by decide)) (fun _ => ?_)
        refine gs_aload_n (q := 3) k rfl rfl dX4_readNumber_52 ?_
        refine gs_callV (As := []) (k0 := 52) (ci := 4) (T := TX4) (N := 6) k (c_X4_isDigitNext hI (rown (by omega) (rown (by omega) (hb))) (rdj (by decide) (rdj (by decide) (hl))) (mw_eq _ _ _ _) hlen (by omega)) cf_X4_isDigitNext im_X4_isDigitNext sl_X4_isDigitNext ml_X4_56 (hI 52 (by omega)) rfl rfl (by decide) rfl rfl (Nat.le_of_ble_eq_true rfl) dX4_readNumber_53 (ppB (fun c7 => ?_) (fun c7 => ?_))
        · have xc7 := c7.1
          refine gs_if_eq (tgt := 95) k (by decide) dX4_readNumber_56 (fun h => absurd h (by decide)) (fun _ => ?_)
          refine gs_iload (q := 1) k rfl dX4_readNumber_59 ?_
          refine gs_bipush (v := 10) k (by decide) dX4_readNumber_61 ?_
          refine gs_imul k dX4_readNumber_63 ?_
          refine gs_aload_n (q := 3) k rfl rfl dX4_readNumber_64 ?_
          refine gs_get (C := RX4) (T := TX4) (N := 6) (ci := 4) (k0 := 52) (j := 4) k (hI 52 (by omega)) rfl rfl inX4 (by decide) fl_X4_16 rfl rfl dX4_readNumber_65 ?_
          refine gs_aload_n (q := 3) k rfl rfl dX4_readNumber_68 ?_
          refine gs_get (C := RX4) (T := TX4) (N := 6) (ci := 4) (k0 := 52) (j := 5) k (hI 52 (by omega)) rfl rfl inX4 (by decide) fl_X4_28 rfl rfl dX4_readNumber_69 ?_
          refine gs_top (y := nI ((p + 1) + 1)) (mw_eq _ _ _ _) ?_
          refine gs_baldN (k0 := 55) (n := 100) (e := ((p + 1) + 1)) k (hI 55 (by omega)) (fun _ => rfl) rfl (by omega) (by decide) dX4_readNumber_72 ?_
          refine gs_top (y := b ((p + 1) + 1)) (rdn (by omega) (rdn (by omega) ((congrFun hb _)))) ?_
          refine gs_iadd k dX4_readNumber_73 ?_
          refine gs_bipush (v := 48) k (by decide) dX4_readNumber_74 ?_
          refine gs_isub k dX4_readNumber_76 ?_
          refine gs_istore (lv' := [(4, .int ((((((0 * 10) + (b (p + 1))) - 48) * 10) + (b ((p + 1) + 1))) - 48)), (3, .int 1), (2, .int 0), (0, .ref (E.2.2.1 52)), (1, .int y)]) k (by decide) rfl dX4_readNumber_77 ?_
          refine gs_iinc (q := 1) (v := 2) (lv' := [(3, .int 2), (4, .int ((((((0 * 10) + (b (p + 1))) - 48) * 10) + (b ((p + 1) + 1))) - 48)), (2, .int 0), (0, .ref (E.2.2.1 52)), (1, .int y)]) k rfl (by decide) (by decide) rfl dX4_readNumber_79 ?_
          refine gs_aload_n (q := 3) k rfl rfl dX4_readNumber_82 ?_
          refine gs_dup k rfl dX4_readNumber_83 ?_
          refine gs_get (C := RX4) (T := TX4) (N := 6) (ci := 4) (k0 := 52) (j := 5) k (hI 52 (by omega)) rfl rfl inX4 (by decide) fl_X4_28 rfl rfl dX4_readNumber_84 ?_
          refine gs_top (y := nI ((p + 1) + 1)) (mw_eq _ _ _ _) ?_
          refine gs_iconst (v := 1) k (by decide) dX4_readNumber_87 ?_
          refine gs_iaddN (a := ((p + 1) + 1)) (b := 1) k rfl rfl dX4_readNumber_88 ?_
          refine gs_put (C := RX4) (T := TX4) (N := 6) (ci := 4) (k0 := 52) (j := 5) (ty := .int) k (hI 52 (by omega)) rfl rfl rfl inX4 tyX4 tyX4_ok nmX4 (by decide) fl_X4_28 rfl rfl (tyX4_ok 5 (by decide)) rfl rfl (Nat.le_of_ble_eq_true rfl) dX4_readNumber_89 ?_
          refine gs_goto (tgt := 47) k (by decide) dX4_readNumber_92 ?_
          refine gs_iload_n (q := 0) k rfl rfl dX4_readNumber_47 ?_
          refine gs_iconst (v := 3) k (by decide) dX4_readNumber_48 ?_
          refine gs_icmp_ge (tgt := 95) k (by decide) dX4_readNumber_49 (fun h => absurd h (by decide)) (fun _ => ?_)
          refine gs_aload_n (q := 3) k rfl rfl dX4_readNumber_52 ?_
          refine gs_callV (As := []) (k0 := 52) (ci := 4) (T := TX4) (N := 6) k (c_X4_isDigitNext hI (rown (by omega) (rown (by omega) (rown (by omega) (hb)))) (rdj (by decide) (rdj (by decide) (rdj (by decide) (hl)))) (mw_eq _ _ _ _) hlen (by omega)) cf_X4_isDigitNext im_X4_isDigitNext sl_X4_isDigitNext ml_X4_56 (hI 52 (by omega)) rfl rfl (by decide) rfl rfl (Nat.le_of_ble_eq_true rfl) dX4_readNumber_53 (ppB (fun c8 => ?_) (fun c8 => ?_))
          · have xc8 := c8.1
            refine gs_if_eq (tgt := 95) k (by decide) dX4_readNumber_56 (fun h => absurd h (by decide)) (fun _ => ?_)
            refine gs_iload (q := 1) k rfl dX4_readNumber_59 ?_
            refine gs_bipush (v := 10) k (by decide) dX4_readNumber_61 ?_
            refine gs_imul k dX4_readNumber_63 ?_
            refine gs_aload_n (q := 3) k rfl rfl dX4_readNumber_64 ?_
            refine gs_get (C := RX4) (T := TX4) (N := 6) (ci := 4) (k0 := 52) (j := 4) k (hI 52 (by omega)) rfl rfl inX4 (by decide) fl_X4_16 rfl rfl dX4_readNumber_65 ?_
            refine gs_aload_n (q := 3) k rfl rfl dX4_readNumber_68 ?_
            refine gs_get (C := RX4) (T := TX4) (N := 6) (ci := 4) (k0 := 52) (j := 5) k (hI 52 (by omega)) rfl rfl inX4 (by decide) fl_X4_28 rfl rfl dX4_readNumber_69 ?_
            refine gs_top (y := nI (((p + 1) + 1) + 1)) (mw_eq _ _ _ _) ?_
            refine gs_baldN (k0 := 55) (n := 100) (e := (((p + 1) + 1) + 1)) k (hI 55 (by omega)) (fun _ => rfl) rfl (by omega) (by decide) dX4_readNumber_72 ?_
            refine gs_top (y := b (((p + 1) + 1) + 1)) (rdn (by omega) (rdn (by omega) (rdn (by omega) ((congrFun hb _))))) ?_
            refine gs_iadd k dX4_readNumber_73 ?_
            refine gs_bipush (v := 48) k (by decide) dX4_readNumber_74 ?_
            refine gs_isub k dX4_readNumber_76 ?_
            refine gs_istore (lv' := [(4, .int (((((((((0 * 10) + (b (p + 1))) - 48) * 10) + (b ((p + 1) + 1))) - 48) * 10) + (b (((p + 1) + 1) + 1))) - 48)), (3, .int 2), (2, .int 0), (0, .ref (E.2.2.1 52)), (1, .int y)]) k (by decide) rfl dX4_readNumber_77 ?_
            refine gs_iinc (q := 1) (v := 3) (lv' := [(3, .int 3), (4, .int (((((((((0 * 10) + (b (p + 1))) - 48) * 10) + (b ((p + 1) + 1))) - 48) * 10) + (b (((p + 1) + 1) + 1))) - 48)), (2, .int 0), (0, .ref (E.2.2.1 52)), (1, .int y)]) k rfl (by decide) (by decide) rfl dX4_readNumber_79 ?_
            refine gs_aload_n (q := 3) k rfl rfl dX4_readNumber_82 ?_
            refine gs_dup k rfl dX4_readNumber_83 ?_
            refine gs_get (C := RX4) (T := TX4) (N := 6) (ci := 4) (k0 := 52) (j := 5) k (hI 52 (by omega)) rfl rfl inX4 (by decide) fl_X4_28 rfl rfl dX4_readNumber_84 ?_
            refine gs_top (y := nI (((p + 1) + 1) + 1)) (mw_eq _ _ _ _) ?_
            refine gs_iconst (v := 1) k (by decide) dX4_readNumber_87 ?_
            refine gs_iaddN (a := (((p + 1) + 1) + 1)) (b := 1) k rfl rfl dX4_readNumber_88 ?_
            refine gs_put (C := RX4) (T := TX4) (N := 6) (ci := 4) (k0 := 52) (j := 5) (ty := .int) k (hI 52 (by omega)) rfl rfl rfl inX4 tyX4 tyX4_ok nmX4 (by decide) fl_X4_28 rfl rfl (tyX4_ok 5 (by decide)) rfl rfl (Nat.le_of_ble_eq_true rfl) dX4_readNumber_89 ?_
            refine gs_goto (tgt := 47) k (by decide) dX4_readNumber_92 ?_
            refine gs_iload_n (q := 0) k rfl rfl dX4_readNumber_47 ?_
            refine gs_iconst (v := 3) k (by decide) dX4_readNumber_48 ?_
            refine gs_icmp_ge (tgt := 95) k (by decide) dX4_readNumber_49 (fun _ => ?_) (fun h => absurd h (by decide))
            refine gs_aload_n (q := 3) k rfl rfl dX4_readNumber_95 ?_
            refine gs_get (C := RX4) (T := TX4) (N := 6) (ci := 4) (k0 := 52) (j := 3) k (hI 52 (by omega)) rfl rfl inX4 (by decide) fl_X4_13 rfl rfl dX4_readNumber_96 ?_
            refine gs_iload_n (q := 4) k rfl rfl dX4_readNumber_99 ?_
            refine gs_iload_n (q := 2) k rfl rfl dX4_readNumber_100 ?_
            refine gs_if_eq (tgt := 110) k (by decide) dX4_readNumber_101 (fun _ => ?_) (fun h => absurd h (by decide))
            refine gs_iload (q := 1) k rfl dX4_readNumber_110 ?_
            refine gs_iastN (k0 := 54) (n := 60) (e := q) k (hI 54 (by omega)) (fun _ => rfl) hy (by omega) (by decide) dX4_readNumber_112 ?_
            refine gs_iload_n (q := 0) k rfl rfl dX4_readNumber_113 ?_
            refine gs_if_le (tgt := 121) k (by decide) dX4_readNumber_114 (fun h => absurd h (by decide)) (fun _ => ?_)
            refine gs_iconst (v := 1) k (by decide) dX4_readNumber_117 ?_
            refine gs_goto (tgt := 122) k (by decide) dX4_readNumber_118 ?_
            exact gs_zret k kt (by decide) dX4_readNumber_122 ⟨_, rfl, (SameT.m1 (SameT.m1 (SameT.m1 (SameT.m1 (SameT.m1 SameT.rf (by unfold scrT scr; omega)) (by unfold scrT scr; omega)) (by unfold scrT scr; omega)) (by unfold scrT scr; omega)) (by unfold scrT scr; omega)), (rdn (by omega) (mw_eq _ _ _ _)).trans (congrArg nI (nl_03 c1 c2 c6 c7 c8).1.symm), fun j hj => rdj hj (rdn (by omega) (rdn (by omega) (rdn (by omega) (rdn (by omega) (rfl))))), (rown (by omega) (rown (by omega) (rown (by omega) (rown (by omega) (rown (by omega) (rfl)))))), (rdn (by omega) (rdj (by decide) (rdj (by decide) (rdj (by decide) (rdj (by decide) (rfl)))))), Or.inl ⟨rfl, (nl_03 c1 c2 c6 c7 c8).2.2, (mw_eq _ _ _ _).trans (nl_03 c1 c2 c6 c7 c8).2.1.symm⟩⟩
          · refine gs_if_eq (tgt := 95) k (by decide) dX4_readNumber_56 (fun _ => ?_) (fun h => absurd h (by decide))
            refine gs_aload_n (q := 3) k rfl rfl dX4_readNumber_95 ?_
            refine gs_get (C := RX4) (T := TX4) (N := 6) (ci := 4) (k0 := 52) (j := 3) k (hI 52 (by omega)) rfl rfl inX4 (by decide) fl_X4_13 rfl rfl dX4_readNumber_96 ?_
            refine gs_iload_n (q := 4) k rfl rfl dX4_readNumber_99 ?_
            refine gs_iload_n (q := 2) k rfl rfl dX4_readNumber_100 ?_
            refine gs_if_eq (tgt := 110) k (by decide) dX4_readNumber_101 (fun _ => ?_) (fun h => absurd h (by decide))
            refine gs_iload (q := 1) k rfl dX4_readNumber_110 ?_
            refine gs_iastN (k0 := 54) (n := 60) (e := q) k (hI 54 (by omega)) (fun _ => rfl) hy (by omega) (by decide) dX4_readNumber_112 ?_
            refine gs_iload_n (q := 0) k rfl rfl dX4_readNumber_113 ?_
            refine gs_if_le (tgt := 121) k (by decide) dX4_readNumber_114 (fun h => absurd h (by decide)) (fun _ => ?_)
            refine gs_iconst (v := 1) k (by decide) dX4_readNumber_117 ?_
            refine gs_goto (tgt := 122) k (by decide) dX4_readNumber_118 ?_
            exact gs_zret k kt (by decide) dX4_readNumber_122 ⟨_, rfl, (SameT.m1 (SameT.m1 (SameT.m1 (SameT.m1 SameT.rf (by unfold scrT scr; omega)) (by unfold scrT scr; omega)) (by unfold scrT scr; omega)) (by unfold scrT scr; omega)), (rdn (by omega) (mw_eq _ _ _ _)).trans (congrArg nI (nl_02 c1 c2 c6 c7 c8).1.symm), fun j hj => rdj hj (rdn (by omega) (rdn (by omega) (rdn (by omega) (rfl)))), (rown (by omega) (rown (by omega) (rown (by omega) (rown (by omega) (rfl))))), (rdn (by omega) (rdj (by decide) (rdj (by decide) (rdj (by decide) (rfl))))), Or.inl ⟨rfl, (nl_02 c1 c2 c6 c7 c8).2.2, (mw_eq _ _ _ _).trans (nl_02 c1 c2 c6 c7 c8).2.1.symm⟩⟩
        · refine gs_if_eq (tgt := 95) k (by decide) dX4_readNumber_56 (fun _ => ?_) (fun h => absurd h (by decide))
          refine gs_aload_n (q := 3) k rfl rfl dX4_readNumber_95 ?_
          refine gs_get (C := RX4) (T := TX4) (N := 6) (ci := 4) (k0 := 52) (j := 3) k (hI 52 (by omega)) rfl rfl inX4 (by decide) fl_X4_13 rfl rfl dX4_readNumber_96 ?_
          refine gs_iload_n (q := 4) k rfl rfl dX4_readNumber_99 ?_
          refine gs_iload_n (q := 2) k rfl rfl dX4_readNumber_100 ?_
          refine gs_if_eq (tgt := 110) k (by decide) dX4_readNumber_101 (fun _ => ?_) (fun h => absurd h (by decide))
          refine gs_iload (q := 1) k rfl dX4_readNumber_110 ?_
          refine gs_iastN (k0 := 54) (n := 60) (e := q) k (hI 54 (by omega)) (fun _ => rfl) hy (by omega) (by decide) dX4_readNumber_112 ?_
          refine gs_iload_n (q := 0) k rfl rfl dX4_readNumber_113 ?_
          refine gs_if_le (tgt := 121) k (by decide) dX4_readNumber_114 (fun h => absurd h (by decide)) (fun _ => ?_)
          refine gs_iconst (v := 1) k (by decide) dX4_readNumber_117 ?_
          refine gs_goto (tgt := 122) k (by decide) dX4_readNumber_118 ?_
          exact gs_zret k kt (by decide) dX4_readNumber_122 ⟨_, rfl, (SameT.m1 (SameT.m1 (SameT.m1 SameT.rf (by unfold scrT scr; omega)) (by unfold scrT scr; omega)) (by unfold scrT scr; omega)), (rdn (by omega) (mw_eq _ _ _ _)).trans (congrArg nI (nl_01 c1 c2 c6 c7).1.symm), fun j hj => rdj hj (rdn (by omega) (rdn (by omega) (rfl))), (rown (by omega) (rown (by omega) (rown (by omega) (rfl)))), (rdn (by omega) (rdj (by decide) (rdj (by decide) (rfl)))), Or.inl ⟨rfl, (nl_01 c1 c2 c6 c7).2.2, (mw_eq _ _ _ _).trans (nl_01 c1 c2 c6 c7).2.1.symm⟩⟩
      · refine gs_if_eq (tgt := 95) k (by decide) dX4_readNumber_56 (fun _ => ?_) (fun h => absurd h (by decide))
        refine gs_aload_n (q := 3) k rfl rfl dX4_readNumber_95 ?_
        refine gs_get (C := RX4) (T := TX4) (N := 6) (ci := 4) (k0 := 52) (j := 3) k (hI 52 (by omega)) rfl rfl inX4 (by decide) fl_X4_13 rfl rfl dX4_readNumber_96 ?_
        refine gs_iload_n (q := 4) k rfl rfl dX4_readNumber_99 ?_
        refine gs_iload_n (q := 2) k rfl rfl dX4_readNumber_100 ?_
        refine gs_if_eq (tgt := 110) k (by decide) dX4_readNumber_101 (fun _ => ?_) (fun h => absurd h (by decide))
        refine gs_iload (q := 0) k rfl dX4_readNumber_110 ?_
        refine gs_iastN (k0 := 54) (n := 60) (e := q) k (hI 54 (by omega)) (fun _ => rfl) hy (by omega) (by decide) dX4_readNumber_112 ?_
        refine gs_iload_n (q := 1) k rfl rfl dX4_readNumber_113 ?_
        refine gs_if_le (tgt := 121) k (by decide) dX4_readNumber_114 (fun _ => ?_) (fun h => absurd h (by decide))
        refine gs_iconst (v := 0) k (by decide) dX4_readNumber_121 ?_
        exact gs_zret k kt (by decide) dX4_readNumber_122 ⟨_, rfl, (SameT.m1 (SameT.m1 SameT.rf (by unfold scrT scr; omega)) (by unfold scrT scr; omega)), (rdn (by omega) (mw_eq _ _ _ _)).trans (congrArg nI (nl_00 c1 c2 c6).1.symm), fun j hj => rdj hj (rdn (by omega) (rfl)), (rown (by omega) (rown (by omega) (rfl))), (rdn (by omega) (rdj (by decide) (rfl))), Or.inr ⟨rfl, (nl_00 c1 c2 c6).2.2⟩⟩
  · refine gs_if_ne (tgt := 11) k (by decide) dX4_readNumber_6 (fun h => absurd h (by decide)) (fun _ => ?_)
    refine gs_iconst (v := 0) k (by decide) dX4_readNumber_9 ?_
    exact gs_zret k kt (by decide) dX4_readNumber_10 ⟨_, rfl, SameT.rf, hp.trans (congrArg nI (nl_n c1).1.symm), fun _ _ => rfl, rfl, rfl, Or.inr ⟨rfl, (nl_n c1).2⟩⟩

theorem cf_X4_readCommand : CF yX4_readCommand cX4_readCommand 5 (some .boolean) 1 := ⟨cd_X4_readCommand, iz_X4, by decide, by decide +kernel, by decide +kernel, by decide +kernel⟩
set_option maxRecDepth 100000 in
set_option maxHeartbeats 4000000 in
theorem c_X4_readCommand {l : Launch} {E : Ev} {M : Mm} {b : Nat → Int32} {len p : Nat} (hI : ∀ k, k < 108 → k ∈ E.2.1) (hb : M 55 = b) (hl : M 52 0 = nI len) (hp : M 52 5 = nI p) (hlen : len ≤ 100) (hple : p ≤ len) {y : Int32} {c : Nat} (hy : y = nI c) (hc20 : c < 20) (hc : M 52 1 = nI c) : Cm l E yX4_readCommand cX4_readCommand 5 (some .boolean) 6 [.ref (E.2.2.1 52), .int y] M (pZ (cmdP 52 5 54 53 52 1 (fun w => w) b len p c c M)) := by
  refine Cm.of (by decide) (Nat.le_of_ble_eq_true rfl) (fun K k kt => ?_)
  show G l E K 0 [(0, .ref (E.2.2.1 52)), (1, .int y)] [] M
  refine gs_aload_n (q := 0) k rfl rfl dX4_readCommand_0 ?_
  refine gs_aload_n (q := 0) k rfl rfl dX4_readCommand_1 ?_
  refine gs_get (C := RX4) (T := TX4) (N := 6) (ci := 4) (k0 := 52) (j := 5) k (hI 52 (by omega)) rfl rfl inX4 (by decide) fl_X4_28 rfl rfl dX4_readCommand_2 ?_
  refine gs_callV (As := [.int (M 52 5)]) (k0 := 52) (ci := 4) (T := TX4) (N := 6) k (c_X4_endOfWord (p := p) hI (hb) (hl) hlen hp hple) cf_X4_endOfWord im_X4_endOfWord sl_X4_endOfWord ml_X4_38 (hI 52 (by omega)) rfl rfl (by decide) rfl rfl (Nat.le_of_ble_eq_true rfl) dX4_readCommand_5 (ppI ?_)
  have he := eo_b (b := b) hple
  refine gs_istore_n (lv' := [(2, .int (nI (eo b len p))), (0, .ref (E.2.2.1 52)), (1, .int y)]) k rfl (by decide) rfl dX4_readCommand_8 ?_
  refine gs_aload_n (q := 1) k rfl rfl dX4_readCommand_9 ?_
  refine gs_aload_n (q := 1) k rfl rfl dX4_readCommand_10 ?_
  refine gs_get (C := RX4) (T := TX4) (N := 6) (ci := 4) (k0 := 52) (j := 5) k (hI 52 (by omega)) rfl rfl inX4 (by decide) fl_X4_28 rfl rfl dX4_readCommand_11 ?_
  refine gs_iload_n (q := 0) k rfl rfl dX4_readCommand_14 ?_
  refine gs_callV (As := [.int (M 52 5), .int (nI (eo b len p))]) (k0 := 52) (ci := 4) (T := TX4) (N := 6) k (c_X4_findWord (p := p) (e := eo b len p) hI (hb) (by omega) (by omega) hp rfl) cf_X4_findWord im_X4_findWord sl_X4_findWord ml_X4_42 (hI 52 (by omega)) rfl rfl (by decide) rfl rfl (Nat.le_of_ble_eq_true rfl) dX4_readCommand_15 (ppI ?_)
  rcases hF : fw b p (eo b len p) with _ | i
  · show G l E K 18 [(2, .int (nI (eo b len p))), (0, .ref (E.2.2.1 52)), (1, .int y)] [.int (-1)] M
    refine gs_istore_n (lv' := [(3, .int (-1)), (2, .int (nI (eo b len p))), (0, .ref (E.2.2.1 52)), (1, .int y)]) k rfl (by decide) rfl dX4_readCommand_18 ?_
    refine gs_iload_n (q := 0) k rfl rfl dX4_readCommand_19 ?_
    refine gs_iconst (v := -1) k (by decide) dX4_readCommand_20 ?_
    refine gs_icmp_ne (tgt := 26) k (by decide) dX4_readCommand_21 (fun h => absurd h (by decide)) (fun _ => ?_)
    refine gs_iconst (v := 0) k (by decide) dX4_readCommand_24 ?_
    exact gs_zret k kt (by decide) dX4_readCommand_25 ⟨_, rfl, SameT.rf, hp.trans (congrArg nI (cEnd_fw hF).1.symm), fun _ _ => rfl, fun _ _ => rfl, Or.inr ⟨rfl, (cEnd_fw hF).2⟩⟩
  · have hi := (fw_in hF).1
    obtain ⟨ha1, ha3, han⟩ := ar_ok i hi
    show G l E K 18 [(2, .int (nI (eo b len p))), (0, .ref (E.2.2.1 52)), (1, .int y)] [.int (nI i)] M
    refine gs_istore_n (lv' := [(3, .int (nI i)), (2, .int (nI (eo b len p))), (0, .ref (E.2.2.1 52)), (1, .int y)]) k rfl (by decide) rfl dX4_readCommand_18 ?_
    refine gs_iload_n (q := 0) k rfl rfl dX4_readCommand_19 ?_
    refine gs_iconst (v := -1) k (by decide) dX4_readCommand_20 ?_
    refine gs_icmp_ne (tgt := 26) k (by decide) dX4_readCommand_21 (fun _ => ?_) (fun h => absurd h (nnne rfl (by omega) (by decide)))
    refine gs_aload_n (q := 2) k rfl rfl dX4_readCommand_26 ?_
    refine gs_iload_n (q := 1) k rfl rfl dX4_readCommand_27 ?_
    refine gs_put (C := RX4) (T := TX4) (N := 6) (ci := 4) (k0 := 52) (j := 5) (ty := .int) k (hI 52 (by omega)) rfl rfl rfl inX4 tyX4 tyX4_ok nmX4 (by decide) fl_X4_28 rfl rfl (tyX4_ok 5 (by decide)) rfl rfl (Nat.le_of_ble_eq_true rfl) dX4_readCommand_28 ?_
    refine gs_aload_n (q := 2) k rfl rfl dX4_readCommand_31 ?_
    refine gs_get (C := RX4) (T := TX4) (N := 6) (ci := 4) (k0 := 52) (j := 2) k (hI 52 (by omega)) rfl rfl inX4 (by decide) fl_X4_9 rfl rfl dX4_readCommand_32 ?_
    refine gs_iload_n (q := 3) k rfl rfl dX4_readCommand_35 ?_
    refine gs_iload_n (q := 0) k rfl rfl dX4_readCommand_36 ?_
    refine gs_iastN (k0 := 53) (n := 20) (e := c) k (hI 53 (by omega)) (fun _ => rfl) hy (by omega) (by decide) dX4_readCommand_37 ?_
    refine gs_iconst (v := 0) k (by decide) dX4_readCommand_38 ?_
    refine gs_istore (lv' := [(4, .int 0), (3, .int (nI i)), (2, .int (nI (eo b len p))), (0, .ref (E.2.2.1 52)), (1, .int y)]) k (by decide) rfl dX4_readCommand_39 ?_
    refine gs_lv (lv' := [(0, .ref (E.2.2.1 52)), (1, .int y), (2, .int (nI (eo b len p))), (3, .int (nI i)), (4, .int 0)]) [3, 4, 2, 1, 0] rfl ?_
    refine for_wh (σ := Mm) (fun ix m => G l E K 41 [(0, .ref (E.2.2.1 52)), (1, .int y), (2, .int (nI (eo b len p))), (3, .int (nI i)), (4, .int (nI ix))] [] m) (fun ix m => rcJ 52 5 54 53 52 1 (nI i) b len (eo b len p) i c M ix m) 3 (fun ix m hJ hG => ?_) 0 (mw (mw M 52 5 (nI (eo b len p))) 53 c (nI i)) ⟨SameT.m1 (SameT.m1 SameT.rf (by unfold scrT scr; omega)) (by unfold scrT scr; omega), rdn (by omega) (mw_eq _ _ _ _), fun j hj => absurd hj (by omega), fun j hj => rdn (by omega) (rdn (by omega) rfl), fun j hj => rdj hj (rdn (by omega) rfl), mw_eq _ _ _ _, rdn (by omega) (rdj (by decide) rfl), Nat.zero_le _⟩
    show G l E K 41 [(0, .ref (E.2.2.1 52)), (1, .int y), (2, .int (nI (eo b len p))), (3, .int (nI i)), (4, .int (nI ix))] [] m
    have hb := tb_same hJ.1 hb
    have hl := tl_same hJ.1 hl
    have hp := hJ.2.1
    have hq2 := (nq_b (b := b) he.2 ix).2
    have hix := hJ.2.2.2.2.2.2.2
    refine gs_iload (q := 4) k rfl dX4_readCommand_41 ?_
    refine gs_getsNUMBERS k fl_X4_46 dX4_readCommand_43 ?_
    refine gs_iload_n (q := 3) k rfl rfl dX4_readCommand_46 ?_
    refine gs_tabN (e := i) (v := numbersL.getD i 0) k rfl (by omega) rfl dX4_readCommand_47 ?_
    refine gs_top (y := nI (ar i)) han ?_
    refine gs_icmpN_ge (a := ix) (b := ar i) (tgt := 72) k rfl rfl (by omega) (by omega) (by decide) dX4_readCommand_48 (fun c1 => ?_) (fun c1 => ?_)
    · refine gs_iconst (v := 1) k (by decide) dX4_readCommand_72 ?_
      exact gs_zret k kt (by decide) dX4_readCommand_73 ⟨_, rfl, cmd_ok (wd := fun w => w) hi hF hJ c1 SameT.rf rfl rfl rfl (hJ.2.2.2.2.2.2.1.trans hc)⟩
    · refine gs_aload_n (q := 0) k rfl rfl dX4_readCommand_51 ?_
      refine gs_iload_n (q := 1) k rfl rfl dX4_readCommand_52 ?_
      refine gs_iconst (v := 3) k (by decide) dX4_readCommand_53 ?_
      refine gs_imulN (a := c) (b := 3) k hy rfl dX4_readCommand_54 ?_
      refine gs_iload (q := 4) k rfl dX4_readCommand_55 ?_
      refine gs_iaddN (a := c * 3) (b := ix) k rfl rfl dX4_readCommand_57 ?_
      refine gs_callV (As := [.int (nI ((c * 3) + ix))]) (k0 := 52) (ci := 4) (T := TX4) (N := 6) k (c_X4_readNumber (q := (c * 3) + ix) hI (hb) (hl) (hp) hlen hq2 rfl (by omega)) cf_X4_readNumber im_X4_readNumber sl_X4_readNumber ml_X4_49 (hI 52 (by omega)) rfl rfl (by decide) rfl rfl (Nat.le_of_ble_eq_true rfl) dX4_readCommand_58 (ppZ (fun rm2 m2 hm2 => ?_))
      rcases hm2 with ⟨s1, s2, s3, s4, s5, ⟨rfl, s6, s7⟩ | ⟨rfl, s6⟩⟩
      · show G l E K 61 [(0, .ref (E.2.2.1 52)), (1, .int y), (2, .int (nI (eo b len p))), (3, .int (nI i)), (4, .int (nI ix))] [.int 1] m2
        refine gs_if_ne (tgt := 66) k (by decide) dX4_readCommand_61 (fun _ => ?_) (fun h => absurd h (by decide))
        refine gs_iincN (q := 4) (a := ix) (c := 1) (lv' := [(4, .int (nI (ix + 1))), (0, .ref (E.2.2.1 52)), (1, .int y), (2, .int (nI (eo b len p))), (3, .int (nI i))]) k rfl rfl (by decide) rfl dX4_readCommand_66 ?_
        refine gs_goto (tgt := 41) k (by decide) dX4_readCommand_69 ?_
        refine gs_lv (lv' := [(0, .ref (E.2.2.1 52)), (1, .int y), (2, .int (nI (eo b len p))), (3, .int (nI i)), (4, .int (nI (ix + 1)))]) [1, 2, 3, 4, 0] rfl ?_
        exact hG (by omega) _ (rcJ_s (q := c * 3 + ix) (r := 1) (by omega) c1 hJ s1 s2 s3 s4 s5 s6 s7)
      · show G l E K 61 [(0, .ref (E.2.2.1 52)), (1, .int y), (2, .int (nI (eo b len p))), (3, .int (nI i)), (4, .int (nI ix))] [.int 0] m2
        refine gs_if_ne (tgt := 66) k (by decide) dX4_readCommand_61 (fun h => absurd h (by decide)) (fun _ => ?_)
        refine gs_iconst (v := 0) k (by decide) dX4_readCommand_64 ?_
        exact gs_zret k kt (by decide) dX4_readCommand_65 ⟨_, rfl, cmd_no (wd := fun w => w) (q := c * 3 + ix) (by omega) hF hJ c1 s1 s2 s3 s4 s6⟩

theorem cf_X4_parse : CF yX4_parse cX4_parse 1 (some .int) 0 := ⟨cd_X4_parse, iz_X4, by decide, by decide +kernel, by decide +kernel, by decide +kernel⟩
set_option maxRecDepth 100000 in
set_option maxHeartbeats 4000000 in
theorem c_X4_parse {l : Launch} {E : Ev} {M : Mm} {b : Nat → Int32} {len : Nat} (hI : ∀ k, k < 108 → k ∈ E.2.1) (hb : M 55 = b) (hl : M 52 0 = nI len) (hlen : len ≤ 100) : Cm l E yX4_parse cX4_parse 1 (some .int) 7 [.ref (E.2.2.1 52)] M (pZ (fun r m => prsP 52 5 54 53 52 1 (fun w => w) b len M (r = -1) (fun e => r = nI e) m)) := by
  refine Cm.of (by decide) (Nat.le_of_ble_eq_true rfl) (fun K k kt => ?_)
  show G l E K 0 [(0, .ref (E.2.2.1 52))] [] M
  refine gs_aload_n (q := 0) k rfl rfl dX4_parse_0 ?_
  refine gs_iconst (v := 0) k (by decide) dX4_parse_1 ?_
  refine gs_put (C := RX4) (T := TX4) (N := 6) (ci := 4) (k0 := 52) (j := 5) (ty := .int) k (hI 52 (by omega)) rfl rfl rfl inX4 tyX4 tyX4_ok nmX4 (by decide) fl_X4_28 rfl rfl (tyX4_ok 5 (by decide)) rfl rfl (Nat.le_of_ble_eq_true rfl) dX4_parse_2 ?_
  refine gs_aload_n (q := 0) k rfl rfl dX4_parse_5 ?_
  refine gs_iconst (v := 0) k (by decide) dX4_parse_6 ?_
  refine gs_put (C := RX4) (T := TX4) (N := 6) (ci := 4) (k0 := 52) (j := 1) (ty := .int) k (hI 52 (by omega)) rfl rfl rfl inX4 tyX4 tyX4_ok nmX4 (by decide) fl_X4_31 rfl rfl (tyX4_ok 1 (by decide)) rfl rfl (Nat.le_of_ble_eq_true rfl) dX4_parse_7 ?_
  refine for_wh (σ := Mm) (fun ix m => G l E K 10 [(0, .ref (E.2.2.1 52))] [] m) (fun ix m => prJ 52 5 54 53 52 1 (fun w => w) b len M ix m) 20 (fun ix m hJ hG => ?_) 0 (mw (mw M 52 5 (0)) 52 1 (0)) ⟨SameT.m1 (SameT.m1 SameT.rf (by unfold scrT scr; omega)) (by unfold scrT scr; omega), mw_eq _ _ _ _, rdj (by decide) (mw_eq _ _ _ _), fun i hi => absurd hi (by omega)⟩
  show G l E K 10 [(0, .ref (E.2.2.1 52))] [] m
  have hb := tb_same hJ.1 hb
  have hl := tl_same hJ.1 hl
  have hp := hJ.2.2.1
  have hps := ps_b (b := b) (len := len) ix (fun i hi => (hJ.2.2.2 i hi).1)
  refine gs_aload_n (q := 0) k rfl rfl dX4_parse_10 ?_
  refine gs_get (C := RX4) (T := TX4) (N := 6) (ci := 4) (k0 := 52) (j := 1) k (hI 52 (by omega)) rfl rfl inX4 (by decide) fl_X4_31 rfl rfl dX4_parse_11 ?_
  refine gs_top (y := nI ix) hJ.2.1 ?_
  refine gs_bipush (v := 20) k (by decide) dX4_parse_14 ?_
  refine gs_icmpN_ge (a := ix) (b := 20) (tgt := 90) k rfl rfl (by omega) (by omega) (by decide) dX4_parse_16 (fun c1 => absurd c1 (by omega)) (fun c1 => ?_)
  refine gs_aload_n (q := 0) k rfl rfl dX4_parse_19 ?_
  refine gs_aload_n (q := 0) k rfl rfl dX4_parse_20 ?_
  refine gs_get (C := RX4) (T := TX4) (N := 6) (ci := 4) (k0 := 52) (j := 1) k (hI 52 (by omega)) rfl rfl inX4 (by decide) fl_X4_31 rfl rfl dX4_parse_21 ?_
  refine gs_top (y := nI ix) hJ.2.1 ?_
  refine gs_callV (As := [.int (nI ix)]) (k0 := 52) (ci := 4) (T := TX4) (N := 6) k (c_X4_readCommand (c := ix) hI (hb) (hl) (hp) hlen hps.2 rfl (by omega) hJ.2.1) cf_X4_readCommand im_X4_readCommand sl_X4_readCommand ml_X4_34 (hI 52 (by omega)) rfl rfl (by decide) rfl rfl (Nat.le_of_ble_eq_true rfl) dX4_parse_24 (ppZ (fun rm2 m2 hm2 => ?_))
  have hm3 := hm2
  obtain ⟨s1, s2, s3, s4, s5⟩ := hm2
  rcases s5 with ⟨rfl, s6, s7, -⟩ | ⟨rfl, s6⟩
  · have hb := tb_same s1 hb
    have hl := tl_same s1 hl
    have hce := cEnd_b (b := b) hps.2 s6
    show G l E K 27 [(0, .ref (E.2.2.1 52))] [.int 1] m2
    refine gs_if_ne (tgt := 35) k (by decide) dX4_parse_27 (fun _ => ?_) (fun h => absurd h (by decide))
    refine gs_aload_n (q := 0) k rfl rfl dX4_parse_35 ?_
    refine gs_dup k rfl dX4_parse_36 ?_
    refine gs_get (C := RX4) (T := TX4) (N := 6) (ci := 4) (k0 := 52) (j := 1) k (hI 52 (by omega)) rfl rfl inX4 (by decide) fl_X4_31 rfl rfl dX4_parse_37 ?_
    refine gs_top (y := nI ix) s7 ?_
    refine gs_iconst (v := 1) k (by decide) dX4_parse_40 ?_
    refine gs_iaddN (a := ix) (b := 1) k rfl rfl dX4_parse_41 ?_
    refine gs_put (C := RX4) (T := TX4) (N := 6) (ci := 4) (k0 := 52) (j := 1) (ty := .int) k (hI 52 (by omega)) rfl rfl rfl inX4 tyX4 tyX4_ok nmX4 (by decide) fl_X4_31 rfl rfl (tyX4_ok 1 (by decide)) rfl rfl (Nat.le_of_ble_eq_true rfl) dX4_parse_42 ?_
    refine gs_aload_n (q := 0) k rfl rfl dX4_parse_45 ?_
    refine gs_get (C := RX4) (T := TX4) (N := 6) (ci := 4) (k0 := 52) (j := 5) k (hI 52 (by omega)) rfl rfl inX4 (by decide) fl_X4_28 rfl rfl dX4_parse_46 ?_
    refine gs_top (y := m2 52 5) (rdj (by decide) (rfl)) ?_
    refine gs_top (y := nI (cEnd b len (ps b len ix))) s2 ?_
    refine gs_aload_n (q := 0) k rfl rfl dX4_parse_49 ?_
    refine gs_get (C := RX4) (T := TX4) (N := 6) (ci := 4) (k0 := 52) (j := 0) k (hI 52 (by omega)) rfl rfl inX4 (by decide) fl_X4_20 rfl rfl dX4_parse_50 ?_
    refine gs_top (y := m2 52 0) (rdj (by decide) (rfl)) ?_
    refine gs_icmpN_lt (a := cEnd b len (ps b len ix)) (b := len) (tgt := 58) k rfl hl (by omega) (by omega) (by decide) dX4_parse_53 (fun c2 => ?_) (fun c2 => ?_)
    · refine gs_aload_n (q := 0) k rfl rfl dX4_parse_58 ?_
      refine gs_get (C := RX4) (T := TX4) (N := 6) (ci := 4) (k0 := 52) (j := 4) k (hI 52 (by omega)) rfl rfl inX4 (by decide) fl_X4_16 rfl rfl dX4_parse_59 ?_
      refine gs_aload_n (q := 0) k rfl rfl dX4_parse_62 ?_
      refine gs_get (C := RX4) (T := TX4) (N := 6) (ci := 4) (k0 := 52) (j := 5) k (hI 52 (by omega)) rfl rfl inX4 (by decide) fl_X4_28 rfl rfl dX4_parse_63 ?_
      refine gs_top (y := m2 52 5) (rdj (by decide) (rfl)) ?_
      refine gs_top (y := nI (cEnd b len (ps b len ix))) s2 ?_
      refine gs_baldN (k0 := 55) (n := 100) (e := cEnd b len (ps b len ix)) k (hI 55 (by omega)) (fun _ => rfl) rfl (by omega) (by decide) dX4_parse_66 ?_
      refine gs_top (y := b (cEnd b len (ps b len ix))) (rdn (by omega) ((congrFun hb _))) ?_
      refine gs_bipush (v := 59) k (by decide) dX4_parse_67 ?_
      refine gs_icmp_eq (tgt := 77) k (by decide) dX4_parse_69 (fun c3 => ?_) (fun c3 => ?_)
      · refine gs_aload_n (q := 0) k rfl rfl dX4_parse_77 ?_
        refine gs_dup k rfl dX4_parse_78 ?_
        refine gs_get (C := RX4) (T := TX4) (N := 6) (ci := 4) (k0 := 52) (j := 5) k (hI 52 (by omega)) rfl rfl inX4 (by decide) fl_X4_28 rfl rfl dX4_parse_79 ?_
        refine gs_top (y := m2 52 5) (rdj (by decide) (rfl)) ?_
        refine gs_top (y := nI (cEnd b len (ps b len ix))) s2 ?_
        refine gs_iconst (v := 1) k (by decide) dX4_parse_82 ?_
        refine gs_iaddN (a := cEnd b len (ps b len ix)) (b := 1) k rfl rfl dX4_parse_83 ?_
        refine gs_put (C := RX4) (T := TX4) (N := 6) (ci := 4) (k0 := 52) (j := 5) (ty := .int) k (hI 52 (by omega)) rfl rfl rfl inX4 tyX4 tyX4_ok nmX4 (by decide) fl_X4_28 rfl rfl (tyX4_ok 5 (by decide)) rfl rfl (Nat.le_of_ble_eq_true rfl) dX4_parse_84 ?_
        refine gs_goto (tgt := 10) k (by decide) dX4_parse_87 ?_
        exact hG (by omega) _ (prJ_s (fun w h => h) hJ hm3 rfl ⟨c2, c3⟩ (SameT.m1 (SameT.m1 SameT.rf (by unfold scrT scr; omega)) (by unfold scrT scr; omega)) rfl rfl (rdj (by decide) (mw_eq _ _ _ _)) (mw_eq _ _ _ _))
      · refine gs_aload_n (q := 0) k rfl rfl dX4_parse_72 ?_
        refine gs_get (C := RX4) (T := TX4) (N := 6) (ci := 4) (k0 := 52) (j := 5) k (hI 52 (by omega)) rfl rfl inX4 (by decide) fl_X4_28 rfl rfl dX4_parse_73 ?_
        refine gs_top (y := m2 52 5) (rdj (by decide) (rfl)) ?_
        refine gs_top (y := nI (cEnd b len (ps b len ix))) s2 ?_
        exact gs_iret k kt dX4_parse_76 ⟨_, rfl, prs_no hJ hm3 (Or.inr ⟨c2, c3⟩) (SameT.m1 SameT.rf (by unfold scrT scr; omega)) rfl⟩
    · refine gs_iconst (v := -1) k (by decide) dX4_parse_56 ?_
      exact gs_iret k kt dX4_parse_57 ⟨_, rfl, prs_ok (fun w h => h) hJ hm3 rfl c2 (SameT.m1 SameT.rf (by unfold scrT scr; omega)) rfl rfl (mw_eq _ _ _ _) rfl⟩
  · show G l E K 27 [(0, .ref (E.2.2.1 52))] [.int 0] m2
    refine gs_if_ne (tgt := 35) k (by decide) dX4_parse_27 (fun h => absurd h (by decide)) (fun _ => ?_)
    refine gs_aload_n (q := 0) k rfl rfl dX4_parse_30 ?_
    refine gs_get (C := RX4) (T := TX4) (N := 6) (ci := 4) (k0 := 52) (j := 5) k (hI 52 (by omega)) rfl rfl inX4 (by decide) fl_X4_28 rfl rfl dX4_parse_31 ?_
    refine gs_top (y := nI (cEnd b len (ps b len ix))) s2 ?_
    exact gs_iret k kt dX4_parse_34 ⟨_, rfl, prs_no hJ hm3 (Or.inl rfl) SameT.rf rfl⟩

