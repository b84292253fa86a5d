/-! bounds -/
def bd (B : Nat) (x : Int32) : Prop := -(B : Int) ≤ x.toInt ∧ x.toInt ≤ (B : Int)
theorem bd_add {A B : Nat} {x y : Int32} (h1 : bd A x) (h2 : bd B y) (h : A + B ≤ 1000000) : bd (A + B) (x + y) := by
  obtain ⟨a1, a2⟩ := h1
  obtain ⟨b1, b2⟩ := h2
  unfold bd
  rw [Int32.toInt_add, i_bmod (by omega) (by omega)]
  omega
theorem bd_mono {A B : Nat} {x : Int32} (h : bd A x) (hAB : A ≤ B) : bd B x := ⟨by have := h.1; omega, by have := h.2; omega⟩
theorem bd_0 : bd 0 0 := by unfold bd; decide
theorem bd_V {A : Nat} {x : Int32} (h : bd A x) (hA : A ≤ 999999) : isV x := by
  obtain ⟨a1, a2⟩ := h
  unfold isV isB
  rw [Int32.lt_iff_toInt_lt, Int32.lt_iff_toInt_lt, show (-999999 : Int32).toInt = -999999 by decide, show (999999 : Int32).toInt = 999999 by decide]
  omega
theorem bd_100 {x : Int32} (h : inR x 100) : bd 100 x := by
  obtain ⟨a1, a2⟩ := h
  unfold bd
  omega
theorem bd_99 {x : Int32} (h : isB (-99) 99 x) : bd 100 x := by
  obtain ⟨a1, a2⟩ := h
  rw [Int32.lt_iff_toInt_lt] at a1 a2
  rw [show (-99 : Int32).toInt = -99 by decide] at a1
  rw [show (99 : Int32).toInt = 99 by decide] at a2
  unfold bd
  omega
theorem bd_N {m : Nat} (h : m ≤ 6) : bd 6 (nI m) := by
  unfold bd
  rw [nI_toInt (by omega)]
  omega
theorem bd_min {A : Nat} {x y : Int32} (h1 : bd A x) (h2 : bd A y) : bd A (imin x y) := by
  unfold imin
  split
  · exact h2
  · exact h1
theorem bd_7 {x : Int32} (h : inR x 7) : bd 6 x := by
  obtain ⟨a1, a2⟩ := h
  unfold bd
  omega
theorem wsum_V {w : Nat → Int32} {n S : Nat} (hn : n ≤ 6) (h : ∀ j, j < 6 → isB (-99) 99 (w j)) : isV (wsum w n S) := by
  have k : bd (100 * n) (wsum w n S) := lp_J (fun i t => bd (100 * i) t) n (fun i t hi ht => by
    split
    · exact bd_mono (bd_add ht (bd_99 (h i (by omega))) (by omega)) (by omega)
    · exact bd_mono ht (by omega)) n 0 0 (by omega) bd_0
  exact bd_V k (by omega)
theorem vsum_V {d w : Nat → Int32} {x : Int32} (h : ∀ j, j < 8 → inR (w j) 100) : isV (vsum d w x) := by
  have k : bd (100 * 8) (vsum d w x) := lp_J (fun i t => bd (100 * i) t) 8 (fun i t hi ht => by
    split
    · exact bd_mono ht (by omega)
    · exact bd_mono (bd_add ht (bd_100 (h i hi)) (by omega)) (by omega)) 8 0 0 (by omega) bd_0
  exact bd_V k (by omega)
theorem bcnt_le {bl : Nat → Int32} {n S b : Nat} : bcnt bl n S b ≤ n :=
  lp_J (fun i c => c ≤ i) n (fun i c hi hc => by
    split <;> omega) n 0 0 (by omega) (Nat.le_refl _)
theorem ksum_V {bl cp : Nat → Int32} {n S : Nat} (hn : n ≤ 6) (h : ∀ j, j < 6 → inR (cp j) 7) : isV (ksum bl cp n S) := by
  have k : bd (100 * 6) (ksum bl cp n S) := lp_J (fun i t => bd (100 * i) t) 6 (fun i t hi ht => by
    have := bcnt_le (bl := bl) (n := n) (S := S) (b := i)
    exact bd_mono (bd_add ht (bd_min (bd_N (by omega)) (bd_7 (h i hi))) (by omega)) (by omega)) 6 0 0 (by omega) bd_0
  exact bd_V k (by omega)
theorem csum_V {ld : Nat → Int32} {n S : Nat} (hn : n ≤ 6) (h : ∀ j, j < 36 → inR (ld j) 100) : isV (csum ld n S) := by
  have k : bd (600 * n) (csum ld n S) := lp_J (fun i t => bd (600 * i) t) n (fun i t hi ht => by
    have k2 : bd (600 * i + 100 * n) (lp (fun j u => if S.testBit i = true ∧ ¬ S.testBit j = true then u + ld (i * 6 + j) else u) n 0 t) := lp_J (fun j u => bd (600 * i + 100 * j) u) n (fun j u hj hu => by
      split
      · exact bd_mono (bd_add hu (bd_100 (h (i * 6 + j) (by omega))) (by omega)) (by omega)
      · exact bd_mono hu (by omega)) n 0 t (by omega) (bd_mono ht (by omega))
    exact bd_mono k2 (by omega)) n 0 0 (by omega) bd_0
  exact bd_V k (by omega)
theorem gKind {W : Wd} {k : Int32} {g : Nat → Int32} {f : Int32} (h : GW W) (hk : inR k 6) (hg : ∀ s, s < 2 ^ W.1 → isV (g s)) : GW (sKind W k g f) := ifc_pr (fun _ => GW_set h (fun _ => hk) (fun e => absurd e (by
  intro e
  have h1 := hk.1
  have h2 := Int32.lt_iff_toInt_lt.mp e
  have h0 : (0 : Int32).toInt = 0 := by decide
  omega)) hg) (fun _ => h)
/-! tell, clear -/
noncomputable def sTell (W : Wd) (f w v : Int32) : Wd := ifc (inR f 6) (ifc (inR w (2 ^ W.1) ∧ isV v) (setF W (tn f) 0 (upd (W.2.2.2 (tn f)) (tn w) v)) W) W
theorem gTell {W : Wd} {f w v : Int32} (h : GW W) : GW (sTell W f w v) := ifc_pr (fun c1 => ifc_pr (fun c2 => GW_set h (fun _ => by unfold inR; decide) (fun e => absurd e (by decide)) (fun s hs => by
  by_cases e : s = tn w
  · rw [e, pk_us]; exact c2.2
  · rw [pk_un e]; exact (h.2.1 _ (inR_lt c1)).2.2 s hs)) (fun _ => h)) (fun _ => h)
theorem CO_tell {M : Mm} {W : Wd} {t s : Nat} {v : Int32} (h : CW M W) (ht : t < 6) (hs : s < 2 ^ W.1) : CO M (mw (mw M (11 + 2 * t) s v) (10 + 2 * t) 0 0) (setF W t 0 (upd (W.2.2.2 t) s v)) := by
  refine ⟨⟨Cn_mw (by omega) (Cn_mw (by omega) h.1), fun f hf => ?_, fun i hi => ?_⟩, fun k' j' hs ho => rdn (by omega) (rdn (by omega) rfl)⟩
  · show _ = upd W.2.2.1 t 0 f ∧ (upd W.2.2.1 t 0 f < 0 → upd W.2.2.1 t 0 f = -1) ∧ ∀ s', s' < 2 ^ W.1 → mw (mw M (11 + 2 * t) s v) (10 + 2 * t) 0 0 (11 + 2 * f) s' = (if f = t then upd (W.2.2.2 t) s v else W.2.2.2 f) s'
    obtain ⟨h1, h2, h3⟩ := h.2.1 f hf
    by_cases e : f = t
    · subst e
      rw [pk_us, if_pos rfl]
      refine ⟨mw_eq _ _ _ _, fun z => absurd z (by decide), fun s' hs' => ?_⟩
      by_cases g : s' = s
      · subst g; rw [pk_us]; exact rdn (by omega) (mw_eq _ _ _ _)
      · rw [pk_un g]; exact rdn (by omega) (rdj g (h3 s' hs'))
    · rw [pk_un e, if_neg e]
      exact ⟨rdn (by omega) (rdn (by omega) h1), h2, fun s' hs' => rdn (by omega) (rdn (by omega) (h3 s' hs'))⟩
  · rw [mw_nk _ _ _ (by omega), mw_nk _ _ _ (by omega), h.2.2 i hi]; rfl
theorem RO_tell {M : Mm} {W : Wd} {t s : Nat} {v : Int32} (h : RW M W) (hg : GW W) (ht : t < 6) (hs : s < 2 ^ W.1) : RO M (ifc (0 ≤ W.2.2.1 t) (mw (mw M 72 t 0) (74 + t) s v) (mw (mw (rset M (74 + t) (setr (2 ^ W.1) (fun _ => 0) (M (74 + t)))) 72 t 0) (74 + t) s v)) (setF W t 0 (upd (W.2.2.2 t) s v)) := by
  refine ifc_pr (R := fun m => RO M m (setF W t 0 (upd (W.2.2.2 t) s v))) (fun c => ?_) (fun c => ?_)
  · refine ⟨⟨Rn_mw (by omega) (Rn_mw (by omega) h.1), fun f hf => ?_, fun i hi => ?_⟩, fun k' j' hs _ ho => rdn (by omega) (rdn (by omega) rfl)⟩
    · show _ = upd W.2.2.1 t 0 f ∧ (upd W.2.2.1 t 0 f < 0 → upd W.2.2.1 t 0 f = -1) ∧ (¬ upd W.2.2.1 t 0 f < 0 → ∀ s', s' < 2 ^ W.1 → mw (mw M 72 t 0) (74 + t) s v (74 + f) s' = (if f = t then upd (W.2.2.2 t) s v else W.2.2.2 f) s')
      obtain ⟨h1, h2, h3⟩ := h.2.1 f hf
      by_cases e : f = t
      · subst e
        rw [pk_us, if_pos rfl]
        refine ⟨rdn (by omega) (mw_eq _ _ _ _), fun z => absurd z (by decide), fun _ s' hs' => ?_⟩
        by_cases g : s' = s
        · subst g; rw [pk_us]; exact mw_eq _ _ _ _
        · rw [pk_un g]; exact rdj g (rdn (by omega) (h3 (Int32.not_lt.mpr c) s' hs'))
      · rw [pk_un e, if_neg e]
        exact ⟨rdn (by omega) (rdj e h1), h2, fun q s' hs' => rdn (by omega) (rdn (by omega) (h3 q s' hs'))⟩
    · rw [mw_nk _ _ _ (by omega), mw_nk _ _ _ (by omega), h.2.2 i hi]; rfl
  · refine ⟨⟨Rn_mw (by omega) (Rn_mw (by omega) (Rn_rs (by omega) h.1)), fun f hf => ?_, fun i hi => ?_⟩, fun k' j' hs _ ho => rdn (by omega) (rdn (by omega) (rdr (by omega) rfl))⟩
    · show _ = upd W.2.2.1 t 0 f ∧ (upd W.2.2.1 t 0 f < 0 → upd W.2.2.1 t 0 f = -1) ∧ (¬ upd W.2.2.1 t 0 f < 0 → ∀ s', s' < 2 ^ W.1 → mw (mw (rset M (74 + t) (setr (2 ^ W.1) (fun _ => 0) (M (74 + t)))) 72 t 0) (74 + t) s v (74 + f) s' = (if f = t then upd (W.2.2.2 t) s v else W.2.2.2 f) s')
      obtain ⟨h1, h2, h3⟩ := h.2.1 f hf
      by_cases e : f = t
      · subst e
        rw [pk_us, if_pos rfl]
        refine ⟨rdn (by omega) (mw_eq _ _ _ _), fun z => absurd z (by decide), fun _ s' hs' => ?_⟩
        by_cases g : s' = s
        · subst g; rw [pk_us]; exact mw_eq _ _ _ _
        · rw [pk_un g]
          refine rdj g (rdn (by omega) ((congrFun (rset_eq _ _ _) _).trans ((setr_in hs').trans ?_)))
          exact ((hg.2.1 f hf).2.1 (Int32.not_le.mp c) s' hs').symm
      · rw [pk_un e, if_neg e]
        exact ⟨rdn (by omega) (rdj e (rdr (by omega) h1)), h2, fun q s' hs' => rdn (by omega) (rdn (by omega) (rdr (by omega) (h3 q s' hs')))⟩
    · rw [mw_nk _ _ _ (by omega), mw_nk _ _ _ (by omega), rset_ne _ _ (by omega), h.2.2 i hi]; rfl
noncomputable def sClear (W : Wd) (f : Int32) : Wd := ifc (inR f 6) (ifc (¬ W.2.2.1 (tn f) < 0) (setF W (tn f) (-1) (fun _ => 0)) W) W
theorem gClear {W : Wd} {f : Int32} (h : GW W) : GW (sClear W f) := ifc_pr (fun c1 => ifc_pr (fun c2 => GW_set h (fun e => absurd (by decide) e) (fun _ _ _ => rfl) (fun s hs => isV_0)) (fun _ => h)) (fun _ => h)
theorem CO_clear {M : Mm} {W : Wd} {t : Nat} (h : CW M W) (ht : t < 6) : CO M (van1 t M) (setF W t (-1) (fun _ => 0)) := by
  have h6 := p2_le6 h.1.2.2
  refine ⟨⟨Cn_rs (by omega) (Cn_mw (by omega) h.1), fun f hf => ?_, fun i hi => ?_⟩, fun k' j' hs ho => rdr (by omega) (rdn (by omega) rfl)⟩
  · show van1 t M (10 + 2 * f) 0 = upd W.2.2.1 t (-1) f ∧ (upd W.2.2.1 t (-1) f < 0 → upd W.2.2.1 t (-1) f = -1) ∧ ∀ s', s' < 2 ^ W.1 → van1 t M (11 + 2 * f) s' = (if f = t then fun _ => 0 else W.2.2.2 f) s'
    obtain ⟨h1, h2, h3⟩ := h.2.1 f hf
    by_cases e : f = t
    · subst e
      rw [pk_us, if_pos rfl]
      exact ⟨rdr (by omega) (mw_eq _ _ _ _), fun _ => rfl, fun s' hs' => (congrFun (rset_eq _ _ _) _).trans (setr_in (by omega))⟩
    · rw [pk_un e, if_neg e]
      exact ⟨rdr (by omega) (rdn (by omega) h1), h2, fun s' hs' => rdr (by omega) (rdn (by omega) (h3 s' hs'))⟩
  · unfold van1
    rw [rset_ne _ _ (by omega), mw_nk _ _ _ (by omega), h.2.2 i hi]; rfl
theorem RO_clear {M : Mm} {W : Wd} {t : Nat} (h : RW M W) (ht : t < 6) : RO M (mw M 72 t (-1)) (setF W t (-1) (fun _ => 0)) := by
  refine ⟨⟨Rn_mw (by omega) h.1, fun f hf => ?_, fun i hi => ?_⟩, fun k' j' hs _ ho => rdn (by omega) rfl⟩
  · show _ = upd W.2.2.1 t (-1) f ∧ (upd W.2.2.1 t (-1) f < 0 → upd W.2.2.1 t (-1) f = -1) ∧ (¬ upd W.2.2.1 t (-1) f < 0 → ∀ s', s' < 2 ^ W.1 → mw M 72 t (-1) (74 + f) s' = (if f = t then fun _ => 0 else W.2.2.2 f) s')
    obtain ⟨h1, h2, h3⟩ := h.2.1 f hf
    by_cases e : f = t
    · subst e
      rw [pk_us]
      exact ⟨mw_eq _ _ _ _, fun _ => rfl, fun q => absurd (by decide) q⟩
    · rw [pk_un e, if_neg e]
      exact ⟨rdj e h1, h2, fun q s' hs' => rdn (by omega) (h3 q s' hs')⟩
  · rw [mw_nk _ _ _ (by omega), h.2.2 i hi]; rfl
theorem oC_tell {l : Launch} {E : Ev} {M : Mm} {S : As} (hI : ∀ k, k < 108 → k ∈ E.2.1) (h : CA M S) (hg : GW S.1) {f w v : Int32} : Cm l E yX6_tell cX6_tell 6 (some .int) 2 [.ref (E.2.2.1 0), .int f, .int w, .int v] M (hp (.int (A_tell S.1.1 S.1.2.2.2 f w v)) (fun m => CO M m (sTell S.1 f w v))) := by
  have c := c_X6_tell (l := l) (M := M) (f := f) (w := w) (v := v) hI h.1.1 h.1.2.1
  exact ho_CI (by unfold UC_tell sTell; exact ifc_rel (R := CO M) (fun c1 => ifc_rel (R := CO M) (fun c2 => CO_tell h.1 (inR_lt c1) (inR_lt c2.1)) (fun _ => CO.rf h.1)) (fun _ => CO.rf h.1)) c
theorem sC_tell {l : Launch} {E : Ev} {M : Mm} {S : As} (hI : ∀ k, k < 108 → k ∈ E.2.1) (h : CA M S) (hg : GW S.1) {f w v : Int32} : Cm l E yX6_tell cX6_tell 6 (some .int) 2 [.ref (E.2.2.1 0), .int f, .int w, .int v] M (hp (.int (A_tell S.1.1 S.1.2.2.2 f w v)) (hC (sTell S.1 f w v, S.2) M)) := hs_Co h (oC_tell hI h hg)
theorem oR_tell {l : Launch} {E : Ev} {M : Mm} {S : As} (hI : ∀ k, k < 108 → k ∈ E.2.1) (h : RA M S) (hg : GW S.1) {f w v : Int32} : Cm l E yX7_tell cX7_tell 6 (some .int) 3 [.ref (E.2.2.1 65), .int f, .int w, .int v] M (hp (.int (A_tell S.1.1 S.1.2.2.2 f w v)) (fun m => RO M m (sTell S.1 f w v))) := by
  have c := c_X7_tell (l := l) (M := M) (f := f) (w := w) (v := v) hI h.1.1 h.1.2.1 (fun f hf q s hs => (hg.2.1 f hf).2.1 q s hs)
  exact ho_RI (by unfold UR_tell sTell; exact ifc_rel (R := RO M) (fun c1 => ifc_rel (R := RO M) (fun c2 => RO_tell h.1 hg (inR_lt c1) (inR_lt c2.1)) (fun _ => RO.rf h.1)) (fun _ => RO.rf h.1)) c
theorem sR_tell {l : Launch} {E : Ev} {M : Mm} {S : As} (hI : ∀ k, k < 108 → k ∈ E.2.1) (h : RA M S) (hg : GW S.1) {f w v : Int32} : Cm l E yX7_tell cX7_tell 6 (some .int) 3 [.ref (E.2.2.1 65), .int f, .int w, .int v] M (hp (.int (A_tell S.1.1 S.1.2.2.2 f w v)) (hR (sTell S.1 f w v, S.2) M)) := hs_Ro h (oR_tell hI h hg)
theorem oC_clear {l : Launch} {E : Ev} {M : Mm} {S : As} (hI : ∀ k, k < 108 → k ∈ E.2.1) (h : CA M S) {f : Int32} : Cm l E yX6_clear cX6_clear 4 (some .int) 2 [.ref (E.2.2.1 0), .int f] M (hp (.int (A_clear S.1.2.2.1 f)) (fun m => CO M m (sClear S.1 f))) := by
  have c := c_X6_clear (l := l) (M := M) (f := f) hI h.1.1 h.1.2.1
  exact ho_CI (by unfold U_clear sClear; exact ifc_rel (R := CO M) (fun c1 => ifc_rel (R := CO M) (fun c2 => CO_clear h.1 (inR_lt c1)) (fun _ => CO.rf h.1)) (fun _ => CO.rf h.1)) c
theorem sC_clear {l : Launch} {E : Ev} {M : Mm} {S : As} (hI : ∀ k, k < 108 → k ∈ E.2.1) (h : CA M S) {f : Int32} : Cm l E yX6_clear cX6_clear 4 (some .int) 2 [.ref (E.2.2.1 0), .int f] M (hp (.int (A_clear S.1.2.2.1 f)) (hC (sClear S.1 f, S.2) M)) := hs_Co h (oC_clear hI h)
theorem oR_clear {l : Launch} {E : Ev} {M : Mm} {S : As} (hI : ∀ k, k < 108 → k ∈ E.2.1) (h : RA M S) {f : Int32} : Cm l E yX7_clear cX7_clear 3 (some .int) 3 [.ref (E.2.2.1 65), .int f] M (hp (.int (A_clear S.1.2.2.1 f)) (fun m => RO M m (sClear S.1 f))) := by
  have c := c_X7_clear (l := l) (M := M) (f := f) hI h.1.1 h.1.2.1
  exact ho_RI (by unfold U_clear sClear; exact ifc_rel (R := RO M) (fun c1 => ifc_rel (R := RO M) (fun c2 => RO_clear h.1 (inR_lt c1)) (fun _ => RO.rf h.1)) (fun _ => RO.rf h.1)) c
theorem sR_clear {l : Launch} {E : Ev} {M : Mm} {S : As} (hI : ∀ k, k < 108 → k ∈ E.2.1) (h : RA M S) {f : Int32} : Cm l E yX7_clear cX7_clear 3 (some .int) 3 [.ref (E.2.2.1 65), .int f] M (hp (.int (A_clear S.1.2.2.1 f)) (hR (sClear S.1 f, S.2) M)) := hs_Ro h (oR_clear hI h)
/-! points -/
def ptsW (W : Wd) (x : Int32) : Wd := (tn x, (fun i => setr (rsz i) (fun _ => if i = 4 then 1 else 0) (W.2.1 i)), (fun _ => -1), fun _ _ => 0)
noncomputable def sPoints (W : Wd) (x : Int32) : Wd := ifc (isB 1 6 x) (ptsW W x) W
theorem isB16 {x : Int32} (h : isB 1 6 x) : x = nI (tn x) ∧ 1 ≤ tn x ∧ tn x ≤ 6 := by
  have h1 := h.1
  have h2 := h.2
  rw [Int32.lt_iff_toInt_lt] at h1 h2
  rw [show (1 : Int32).toInt = 1 by decide] at h1
  rw [show (6 : Int32).toInt = 6 by decide] at h2
  have hr : inR x 7 := by unfold inR; omega
  have h3 := tn_toInt (x := x) (by omega)
  exact ⟨inR_eq hr, by omega, by omega⟩
theorem setr_c {n : Nat} {P : Int32 → Prop} {c : Int32} {r : Nat → Int32} (hc : P c) : ∀ j, j < n → P (setr n (fun _ => c) r j) := fun j hj => by rw [setr_in hj]; exact hc
theorem gPoints {W : Wd} {x : Int32} (h : GW W) : GW (sPoints W x) := ifc_pr (fun c => by
  obtain ⟨-, h1, h6⟩ := isB16 c
  refine ⟨⟨h1, h6⟩, fun f hf => ⟨fun e => absurd (show (-1 : Int32) < 0 by decide) e, fun _ _ _ => rfl, fun _ _ => isV_0⟩, ?_, ?_, ?_, ?_, ?_⟩
  · exact setr_c (P := fun z => inR z 100) (n := 36) (by unfold inR; decide)
  · exact setr_c (P := fun z => inR z 100) (n := 8) (by unfold inR; decide)
  · exact setr_c (P := fun z => inR z 6) (n := 6) (by unfold inR; decide)
  · exact setr_c (P := fun z => inR z 7) (n := 6) (by unfold inR; decide)
  · exact setr_c (P := fun z => isB (-99) 99 z) (n := 6) (by unfold isB; decide)) (fun _ => h)
theorem six {P : Nat → Prop} (h0 : P 0) (h1 : P 1) (h2 : P 2) (h3 : P 3) (h4 : P 4) (h5 : P 5) : ∀ i, i < 6 → P i
  | 0, _ => h0
  | 1, _ => h1
  | 2, _ => h2
  | 3, _ => h3
  | 4, _ => h4
  | 5, _ => h5
  | i + 6, h => absurd h (by omega)
def sta0 (x : Int32) (M : Mm) : Mm := (rset (rset (rset (rset (rset (rset (mw M 1 0 x) 2 (setr 36 (fun _ => 0) ((mw M 1 0 x) 2))) 3 (setr 8 (fun _ => 0) ((rset (mw M 1 0 x) 2 (setr 36 (fun _ => 0) ((mw M 1 0 x) 2))) 3))) 4 (setr 8 (fun _ => 0) ((rset (rset (mw M 1 0 x) 2 (setr 36 (fun _ => 0) ((mw M 1 0 x) 2))) 3 (setr 8 (fun _ => 0) ((rset (mw M 1 0 x) 2 (setr 36 (fun _ => 0) ((mw M 1 0 x) 2))) 3))) 4))) 5 (setr 6 (fun _ => 0) ((rset (rset (rset (mw M 1 0 x) 2 (setr 36 (fun _ => 0) ((mw M 1 0 x) 2))) 3 (setr 8 (fun _ => 0) ((rset (mw M 1 0 x) 2 (setr 36 (fun _ => 0) ((mw M 1 0 x) 2))) 3))) 4 (setr 8 (fun _ => 0) ((rset (rset (mw M 1 0 x) 2 (setr 36 (fun _ => 0) ((mw M 1 0 x) 2))) 3 (setr 8 (fun _ => 0) ((rset (mw M 1 0 x) 2 (setr 36 (fun _ => 0) ((mw M 1 0 x) 2))) 3))) 4))) 5))) 6 (setr 6 (fun _ => 1) ((rset (rset (rset (rset (mw M 1 0 x) 2 (setr 36 (fun _ => 0) ((mw M 1 0 x) 2))) 3 (setr 8 (fun _ => 0) ((rset (mw M 1 0 x) 2 (setr 36 (fun _ => 0) ((mw M 1 0 x) 2))) 3))) 4 (setr 8 (fun _ => 0) ((rset (rset (mw M 1 0 x) 2 (setr 36 (fun _ => 0) ((mw M 1 0 x) 2))) 3 (setr 8 (fun _ => 0) ((rset (mw M 1 0 x) 2 (setr 36 (fun _ => 0) ((mw M 1 0 x) 2))) 3))) 4))) 5 (setr 6 (fun _ => 0) ((rset (rset (rset (mw M 1 0 x) 2 (setr 36 (fun _ => 0) ((mw M 1 0 x) 2))) 3 (setr 8 (fun _ => 0) ((rset (mw M 1 0 x) 2 (setr 36 (fun _ => 0) ((mw M 1 0 x) 2))) 3))) 4 (setr 8 (fun _ => 0) ((rset (rset (mw M 1 0 x) 2 (setr 36 (fun _ => 0) ((mw M 1 0 x) 2))) 3 (setr 8 (fun _ => 0) ((rset (mw M 1 0 x) 2 (setr 36 (fun _ => 0) ((mw M 1 0 x) 2))) 3))) 4))) 5))) 6))) 7 (setr 6 (fun _ => 0) ((rset (rset (rset (rset (rset (mw M 1 0 x) 2 (setr 36 (fun _ => 0) ((mw M 1 0 x) 2))) 3 (setr 8 (fun _ => 0) ((rset (mw M 1 0 x) 2 (setr 36 (fun _ => 0) ((mw M 1 0 x) 2))) 3))) 4 (setr 8 (fun _ => 0) ((rset (rset (mw M 1 0 x) 2 (setr 36 (fun _ => 0) ((mw M 1 0 x) 2))) 3 (setr 8 (fun _ => 0) ((rset (mw M 1 0 x) 2 (setr 36 (fun _ => 0) ((mw M 1 0 x) 2))) 3))) 4))) 5 (setr 6 (fun _ => 0) ((rset (rset (rset (mw M 1 0 x) 2 (setr 36 (fun _ => 0) ((mw M 1 0 x) 2))) 3 (setr 8 (fun _ => 0) ((rset (mw M 1 0 x) 2 (setr 36 (fun _ => 0) ((mw M 1 0 x) 2))) 3))) 4 (setr 8 (fun _ => 0) ((rset (rset (mw M 1 0 x) 2 (setr 36 (fun _ => 0) ((mw M 1 0 x) 2))) 3 (setr 8 (fun _ => 0) ((rset (mw M 1 0 x) 2 (setr 36 (fun _ => 0) ((mw M 1 0 x) 2))) 3))) 4))) 5))) 6 (setr 6 (fun _ => 1) ((rset (rset (rset (rset (mw M 1 0 x) 2 (setr 36 (fun _ => 0) ((mw M 1 0 x) 2))) 3 (setr 8 (fun _ => 0) ((rset (mw M 1 0 x) 2 (setr 36 (fun _ => 0) ((mw M 1 0 x) 2))) 3))) 4 (setr 8 (fun _ => 0) ((rset (rset (mw M 1 0 x) 2 (setr 36 (fun _ => 0) ((mw M 1 0 x) 2))) 3 (setr 8 (fun _ => 0) ((rset (mw M 1 0 x) 2 (setr 36 (fun _ => 0) ((mw M 1 0 x) 2))) 3))) 4))) 5 (setr 6 (fun _ => 0) ((rset (rset (rset (mw M 1 0 x) 2 (setr 36 (fun _ => 0) ((mw M 1 0 x) 2))) 3 (setr 8 (fun _ => 0) ((rset (mw M 1 0 x) 2 (setr 36 (fun _ => 0) ((mw M 1 0 x) 2))) 3))) 4 (setr 8 (fun _ => 0) ((rset (rset (mw M 1 0 x) 2 (setr 36 (fun _ => 0) ((mw M 1 0 x) 2))) 3 (setr 8 (fun _ => 0) ((rset (mw M 1 0 x) 2 (setr 36 (fun _ => 0) ((mw M 1 0 x) 2))) 3))) 4))) 5))) 6))) 7)))
theorem sta0_row {x : Int32} {M : Mm} : ∀ i, i < 6 → sta0 x M (2 + i) = setr (rsz i) (fun _ => if i = 4 then 1 else 0) (M (2 + i)) :=
  six (P := fun i => sta0 x M (2 + i) = setr (rsz i) (fun _ => if i = 4 then 1 else 0) (M (2 + i)))
    (((rset_ne _ _ (by omega)).trans ((rset_ne _ _ (by omega)).trans ((rset_ne _ _ (by omega)).trans ((rset_ne _ _ (by omega)).trans ((rset_ne _ _ (by omega)).trans (rset_eq _ _ _)))))).trans (congrArg (setr 36 (fun _ => 0)) ((mw_nk _ _ _ (by omega)))))
    (((rset_ne _ _ (by omega)).trans ((rset_ne _ _ (by omega)).trans ((rset_ne _ _ (by omega)).trans ((rset_ne _ _ (by omega)).trans (rset_eq _ _ _))))).trans (congrArg (setr 8 (fun _ => 0)) ((rset_ne _ _ (by omega)).trans ((mw_nk _ _ _ (by omega))))))
    (((rset_ne _ _ (by omega)).trans ((rset_ne _ _ (by omega)).trans ((rset_ne _ _ (by omega)).trans (rset_eq _ _ _)))).trans (congrArg (setr 8 (fun _ => 0)) ((rset_ne _ _ (by omega)).trans ((rset_ne _ _ (by omega)).trans ((mw_nk _ _ _ (by omega)))))))
    (((rset_ne _ _ (by omega)).trans ((rset_ne _ _ (by omega)).trans (rset_eq _ _ _))).trans (congrArg (setr 6 (fun _ => 0)) ((rset_ne _ _ (by omega)).trans ((rset_ne _ _ (by omega)).trans ((rset_ne _ _ (by omega)).trans ((mw_nk _ _ _ (by omega))))))))
    (((rset_ne _ _ (by omega)).trans (rset_eq _ _ _)).trans (congrArg (setr 6 (fun _ => 1)) ((rset_ne _ _ (by omega)).trans ((rset_ne _ _ (by omega)).trans ((rset_ne _ _ (by omega)).trans ((rset_ne _ _ (by omega)).trans ((mw_nk _ _ _ (by omega)))))))))
    ((rset_eq _ _ _).trans (congrArg (setr 6 (fun _ => 0)) ((rset_ne _ _ (by omega)).trans ((rset_ne _ _ (by omega)).trans ((rset_ne _ _ (by omega)).trans ((rset_ne _ _ (by omega)).trans ((rset_ne _ _ (by omega)).trans ((mw_nk _ _ _ (by omega))))))))))
theorem CO_points {M : Mm} {W : Wd} {x : Int32} (h : CW M W) (c : isB 1 6 x) : CO M (sta1 x M) (ptsW W x) := by
  obtain ⟨e, h1, h6⟩ := isB16 c
  have hp := p2_le6 h6
  have key : (∀ k j, (k < 10 ∨ 21 < k) → sta1 x M k j = sta0 x M k j) ∧ ∀ f, f < 6 → sta1 x M (10 + 2 * f) 0 = -1 ∧ ∀ s, s < 64 → sta1 x M (11 + 2 * f) s = 0 := by
    have k2 := lp_J (fun (i : Nat) (m : Mm) => (∀ k j, (k < 10 ∨ 21 < k) → m k j = sta0 x M k j) ∧ ∀ f, f < i → m (10 + 2 * f) 0 = -1 ∧ ∀ s, s < 64 → m (11 + 2 * f) s = 0) (f := fun f m => van1 f m) 6 (fun i m hi hm => by
      refine ⟨fun k j hk => rdr (by omega) (rdn (by omega) (hm.1 k j hk)), fun f hf => ?_⟩
      by_cases g : f = i
      · subst g
        exact ⟨rdr (by omega) (mw_eq _ _ _ _), fun s hs => (congrFun (rset_eq _ _ _) _).trans (setr_in hs)⟩
      · obtain ⟨a1, a2⟩ := hm.2 f (by omega)
        exact ⟨rdr (by omega) (rdn (by omega) a1), fun s hs => rdr (by omega) (rdn (by omega) (a2 s hs))⟩) 6 0 (sta0 x M) (by omega) ⟨fun _ _ _ => rfl, fun f hf => absurd hf (by omega)⟩
    exact k2
  refine ⟨⟨⟨?_, h1, h6⟩, fun f hf => ?_, fun i hi => ?_⟩, fun k j hs ho => ?_⟩
  · rw [key.1 1 0 (by omega)]
    exact (rdr (by omega) (rdr (by omega) (rdr (by omega) (rdr (by omega) (rdr (by omega) (rdr (by omega) (mw_eq _ _ _ _))))))).trans e
  · obtain ⟨a1, a2⟩ := key.2 f hf
    exact ⟨a1, fun _ => rfl, fun s hs => a2 s (by have : s < 2 ^ tn x := hs; omega)⟩
  · show _ = setr (rsz i) (fun _ => if i = 4 then 1 else 0) (W.2.1 i)
    rw [← h.2.2 i hi, ← sta0_row i hi]
    exact funext fun j => key.1 _ j (by omega)
  · rw [key.1 k j (by omega)]
    exact rdr (by omega) (rdr (by omega) (rdr (by omega) (rdr (by omega) (rdr (by omega) (rdr (by omega) (rdn (by omega) rfl))))))
theorem emp1_ok {M : Mm} : (∀ k j, ¬ k = 66 → emp1 M k j = M k j) ∧ emp1 M 66 = setr 36 (fun _ => 0) (M 66) := by
  have k2 := lp_J (fun (i : Nat) (m : Mm) => (∀ k j, ¬ k = 66 → m k j = M k j) ∧ (∀ j, j < i → m 66 j = 0) ∧ (∀ j, ¬ j < i → m 66 j = M 66 j)) (f := fun j m => mw m 66 j 0) 36 (fun i m hi hm => by
    refine ⟨fun k j hk => rdn (by omega) (hm.1 k j hk), fun j hj => ?_, fun j hj => ?_⟩
    · by_cases e : j = i
      · subst e; exact mw_eq _ _ _ _
      · exact rdj e (hm.2.1 j (by omega))
    · exact rdj (by omega) (hm.2.2 j (by omega))) 36 0 M (by omega) ⟨fun _ _ _ => rfl, fun j hj => absurd hj (by omega), fun j _ => rfl⟩
  exact ⟨k2.1, funext fun j => by
    by_cases c : j < 36
    · rw [setr_in c]; exact k2.2.1 j c
    · rw [setr_out c]; exact k2.2.2 j c⟩
theorem emp2_ok {M : Mm} : (∀ k j, ¬ k = 67 ∧ ¬ k = 68 → emp2 M k j = M k j) ∧ emp2 M 67 = setr 8 (fun _ => 0) (M 67) ∧ emp2 M 68 = setr 8 (fun _ => 0) (M 68) := by
  have k2 := lp_J (fun (i : Nat) (m : Mm) => (∀ k j, ¬ k = 67 ∧ ¬ k = 68 → m k j = M k j) ∧ (∀ j, j < i → m 67 j = 0) ∧ (∀ j, ¬ j < i → m 67 j = M 67 j) ∧ (∀ j, j < i → m 68 j = 0) ∧ (∀ j, ¬ j < i → m 68 j = M 68 j)) (f := fun j m => mw (mw m 67 j 0) 68 j 0) 8 (fun i m hi hm => by
    refine ⟨fun k j hk => rdn (by omega) (rdn (by omega) (hm.1 k j hk)), fun j hj => ?_, fun j hj => ?_, fun j hj => ?_, fun j hj => ?_⟩
    · by_cases e : j = i
      · subst e; exact rdn (by omega) (mw_eq _ _ _ _)
      · exact rdn (by omega) (rdj e (hm.2.1 j (by omega)))
    · exact rdn (by omega) (rdj (by omega) (hm.2.2.1 j (by omega)))
    · by_cases e : j = i
      · subst e; exact mw_eq _ _ _ _
      · exact rdj e (rdn (by omega) (hm.2.2.2.1 j (by omega)))
    · exact rdj (by omega) (rdn (by omega) (hm.2.2.2.2 j (by omega)))) 8 0 M (by omega) ⟨fun _ _ _ => rfl, fun j hj => absurd hj (by omega), fun j _ => rfl, fun j hj => absurd hj (by omega), fun j _ => rfl⟩
  exact ⟨k2.1, funext fun j => by
    by_cases c : j < 8
    · rw [setr_in c]; exact k2.2.1 j c
    · rw [setr_out c]; exact k2.2.2.1 j c, funext fun j => by
    by_cases c : j < 8
    · rw [setr_in c]; exact k2.2.2.2.1 j c
    · rw [setr_out c]; exact k2.2.2.2.2 j c⟩
theorem emp3_ok {M : Mm} : (∀ k j, ¬ k = 69 ∧ ¬ k = 71 ∧ ¬ k = 70 → emp3 M k j = M k j) ∧ emp3 M 69 = setr 6 (fun _ => 0) (M 69) ∧ emp3 M 71 = setr 6 (fun _ => 0) (M 71) ∧ emp3 M 70 = setr 6 (fun _ => 1) (M 70) := by
  have k2 := lp_J (fun (i : Nat) (m : Mm) => (∀ k j, ¬ k = 69 ∧ ¬ k = 71 ∧ ¬ k = 70 → m k j = M k j) ∧ (∀ j, j < i → m 69 j = 0) ∧ (∀ j, ¬ j < i → m 69 j = M 69 j) ∧ (∀ j, j < i → m 71 j = 0) ∧ (∀ j, ¬ j < i → m 71 j = M 71 j) ∧ (∀ j, j < i → m 70 j = 1) ∧ (∀ j, ¬ j < i → m 70 j = M 70 j)) (f := fun j m => mw (mw (mw m 69 j 0) 71 j 0) 70 j 1) 6 (fun i m hi hm => by
    refine ⟨fun k j hk => rdn (by omega) (rdn (by omega) (rdn (by omega) (hm.1 k j hk))), fun j hj => ?_, fun j hj => ?_, fun j hj => ?_, fun j hj => ?_, fun j hj => ?_, fun j hj => ?_⟩
    · by_cases e : j = i
      · subst e; exact rdn (by omega) (rdn (by omega) (mw_eq _ _ _ _))
      · exact rdn (by omega) (rdn (by omega) (rdj e (hm.2.1 j (by omega))))
    · exact rdn (by omega) (rdn (by omega) (rdj (by omega) (hm.2.2.1 j (by omega))))
    · by_cases e : j = i
      · subst e; exact rdn (by omega) (mw_eq _ _ _ _)
      · exact rdn (by omega) (rdj e (rdn (by omega) (hm.2.2.2.1 j (by omega))))
    · exact rdn (by omega) (rdj (by omega) (rdn (by omega) (hm.2.2.2.2.1 j (by omega))))
    · by_cases e : j = i
      · subst e; exact mw_eq _ _ _ _
      · exact rdj e (rdn (by omega) (rdn (by omega) (hm.2.2.2.2.2.1 j (by omega))))
    · exact rdj (by omega) (rdn (by omega) (rdn (by omega) (hm.2.2.2.2.2.2 j (by omega))))) 6 0 M (by omega) ⟨fun _ _ _ => rfl, fun j hj => absurd hj (by omega), fun j _ => rfl, fun j hj => absurd hj (by omega), fun j _ => rfl, fun j hj => absurd hj (by omega), fun j _ => rfl⟩
  exact ⟨k2.1, funext fun j => by
    by_cases c : j < 6
    · rw [setr_in c]; exact k2.2.1 j c
    · rw [setr_out c]; exact k2.2.2.1 j c, funext fun j => by
    by_cases c : j < 6
    · rw [setr_in c]; exact k2.2.2.2.1 j c
    · rw [setr_out c]; exact k2.2.2.2.2.1 j c, funext fun j => by
    by_cases c : j < 6
    · rw [setr_in c]; exact k2.2.2.2.2.2.1 j c
    · rw [setr_out c]; exact k2.2.2.2.2.2.2 j c⟩
theorem emp4_ok {M : Mm} : (∀ k j, ¬ k = 72 → emp4 M k j = M k j) ∧ emp4 M 72 = setr 6 (fun _ => -1) (M 72) := by
  have k2 := lp_J (fun (i : Nat) (m : Mm) => (∀ k j, ¬ k = 72 → m k j = M k j) ∧ (∀ j, j < i → m 72 j = -1) ∧ (∀ j, ¬ j < i → m 72 j = M 72 j)) (f := fun j m => mw m 72 j (-1)) 6 (fun i m hi hm => by
    refine ⟨fun k j hk => rdn (by omega) (hm.1 k j hk), fun j hj => ?_, fun j hj => ?_⟩
    · by_cases e : j = i
      · subst e; exact mw_eq _ _ _ _
      · exact rdj e (hm.2.1 j (by omega))
    · exact rdj (by omega) (hm.2.2 j (by omega))) 6 0 M (by omega) ⟨fun _ _ _ => rfl, fun j hj => absurd hj (by omega), fun j _ => rfl⟩
  exact ⟨k2.1, funext fun j => by
    by_cases c : j < 6
    · rw [setr_in c]; exact k2.2.1 j c
    · rw [setr_out c]; exact k2.2.2 j c⟩
theorem RO_points {M : Mm} {W : Wd} {x : Int32} (h : RW M W) (c : isB 1 6 x) : RO M (emp (mw M 65 0 x)) (ptsW W x) := by
  obtain ⟨e, h1, h6⟩ := isB16 c
  unfold emp
  generalize hM0 : mw M 65 0 x = M0
  obtain ⟨a1, a2⟩ := emp1_ok (M := M0)
  generalize hM1 : emp1 M0 = M1 at a1 a2
  obtain ⟨b1, b2, b3⟩ := emp2_ok (M := M1)
  generalize hM2 : emp2 M1 = M2 at b1 b2 b3
  obtain ⟨d1, d2, d3, d4⟩ := emp3_ok (M := M2)
  generalize hM3 : emp3 M2 = M3 at d1 d2 d3 d4
  obtain ⟨f1, f2⟩ := emp4_ok (M := M3)
  have out : ∀ k j, k < 66 ∨ 72 < k → emp4 M3 k j = M0 k j := fun k j hk => (f1 k j (by omega)).trans ((d1 k j (by omega)).trans ((b1 k j (by omega)).trans (a1 k j (by omega))))
  have o0 : ∀ k j, ¬ k = 65 → M0 k j = M k j := fun k j hk => by rw [← hM0]; exact rdn hk rfl
  refine ⟨⟨⟨(out 65 0 (by omega)).trans (by rw [← hM0, mw_eq]; exact e), h1, h6⟩, fun f hf => ⟨?_, fun _ => rfl, fun q => absurd (show (-1 : Int32) < 0 by decide) q⟩, fun i hi => ?_⟩, fun k j hs h0 ho => ?_⟩
  · rw [f2, setr_in hf]; rfl
  · show _ = setr (rsz i) (fun _ => if i = 4 then 1 else 0) (W.2.1 i)
    rw [← h.2.2 i hi]
    have hr : ∀ k, ¬ k = 65 → M0 k = M k := fun k hk => funext fun j => o0 k j hk
    revert hi
    revert i
    refine six (P := fun i => emp4 M3 (66 + i) = setr (rsz i) (fun _ => if i = 4 then 1 else 0) (M (66 + i))) ?_ ?_ ?_ ?_ ?_ ?_
    · exact (funext fun j => (f1 66 j (by omega)).trans ((d1 66 j (by omega)).trans (b1 66 j (by omega)))).trans (a2.trans (congrArg (setr 36 (fun _ => 0)) (hr 66 (by omega))))
    · exact (funext fun j => (f1 67 j (by omega)).trans (d1 67 j (by omega))).trans (b2.trans (congrArg (setr 8 (fun _ => 0)) ((funext fun j => a1 67 j (by omega)).trans (hr 67 (by omega)))))
    · exact (funext fun j => (f1 68 j (by omega)).trans (d1 68 j (by omega))).trans (b3.trans (congrArg (setr 8 (fun _ => 0)) ((funext fun j => a1 68 j (by omega)).trans (hr 68 (by omega)))))
    · exact (funext fun j => f1 69 j (by omega)).trans (d2.trans (congrArg (setr 6 (fun _ => 0)) ((funext fun j => (b1 69 j (by omega)).trans (a1 69 j (by omega))).trans (hr 69 (by omega)))))
    · exact (funext fun j => f1 70 j (by omega)).trans (d4.trans (congrArg (setr 6 (fun _ => 1)) ((funext fun j => (b1 70 j (by omega)).trans (a1 70 j (by omega))).trans (hr 70 (by omega)))))
    · exact (funext fun j => f1 71 j (by omega)).trans (d3.trans (congrArg (setr 6 (fun _ => 0)) ((funext fun j => (b1 71 j (by omega)).trans (a1 71 j (by omega))).trans (hr 71 (by omega)))))
  · by_cases hk : k = 65
    · subst hk
      rw [out 65 j (by omega), ← hM0]
      exact rdj (by omega) rfl
    · rw [out k j (by omega)]
      exact o0 k j hk
theorem oC_points {l : Launch} {E : Ev} {M : Mm} {S : As} (hI : ∀ k, k < 108 → k ∈ E.2.1) (h : CA M S) {x : Int32} : Cm l E yX6_points cX6_points 3 (some .int) 3 [.ref (E.2.2.1 0), .int x] M (hp (.int (A_points S.1.1 x)) (fun m => CO M m (sPoints S.1 x))) := by
  have c := c_X6_points (l := l) (M := M) (x := x) hI h.1.1
  exact ho_CI (by unfold sPoints; exact ifc_rel (R := CO M) (fun c1 => CO_points h.1 c1) (fun _ => CO.rf h.1)) c
theorem sC_points {l : Launch} {E : Ev} {M : Mm} {S : As} (hI : ∀ k, k < 108 → k ∈ E.2.1) (h : CA M S) {x : Int32} : Cm l E yX6_points cX6_points 3 (some .int) 3 [.ref (E.2.2.1 0), .int x] M (hp (.int (A_points S.1.1 x)) (hC (sPoints S.1 x, S.2) M)) := hs_Co h (oC_points hI h)
theorem oR_points {l : Launch} {E : Ev} {M : Mm} {S : As} (hI : ∀ k, k < 108 → k ∈ E.2.1) (h : RA M S) {x : Int32} : Cm l E yX7_points cX7_points 3 (some .int) 1 [.ref (E.2.2.1 65), .int x] M (hp (.int (A_points S.1.1 x)) (fun m => RO M m (sPoints S.1 x))) := by
  have c := c_X7_points (l := l) (M := M) (x := x) hI h.1.1
  exact ho_RI (by unfold sPoints; exact ifc_rel (R := RO M) (fun c1 => RO_points h.1 c1) (fun _ => RO.rf h.1)) c
theorem sR_points {l : Launch} {E : Ev} {M : Mm} {S : As} (hI : ∀ k, k < 108 → k ∈ E.2.1) (h : RA M S) {x : Int32} : Cm l E yX7_points cX7_points 3 (some .int) 1 [.ref (E.2.2.1 65), .int x] M (hp (.int (A_points S.1.1 x)) (hR (sPoints S.1 x, S.2) M)) := hs_Ro h (oR_points hI h)
