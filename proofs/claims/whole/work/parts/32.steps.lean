theorem CO.put {M0 M : Mm} {W : Wd} {i j : Nat} {x : Int32} (h : CO M0 M W) (hi : i < 6) : CO M0 (mw M (2 + i) j x) (putR W i j x) :=
  ⟨(CO_put h.1 hi).1, fun k j' hs ho => ((CO_put (j := j) (x := x) h.1 hi).2 k j' hs ho).trans (h.2 k j' hs ho)⟩
theorem RO.put {M0 M : Mm} {W : Wd} {i j : Nat} {x : Int32} (h : RO M0 M W) (hi : i < 6) : RO M0 (mw M (66 + i) j x) (putR W i j x) :=
  ⟨(RO_put h.1 hi).1, fun k j' hs h0 ho => ((RO_put (j := j) (x := x) h.1 hi).2 k j' hs h0 ho).trans (h.2 k j' hs h0 ho)⟩
noncomputable def sArc (W : Wd) (i j v : Int32) : Wd := ifc (okArc W.1 i j) (ifc (inR v 100) (putR W 0 (tn i * 6 + tn j) v) W) W
noncomputable def sItem (W : Wd) (i v s : Int32) : Wd := ifc (inR i 8) (ifc (inR v 100 ∧ inR s (2 ^ W.1)) (putR (putR W 1 (tn i) v) 2 (tn i) s) W) W
noncomputable def sBlock (W : Wd) (p b : Int32) : Wd := ifc (inR p W.1 ∧ inR b 6) (putR W 3 (tn p) b) W
noncomputable def sCap (W : Wd) (b v : Int32) : Wd := ifc (inR b 6) (ifc (inR v 7) (putR W 4 (tn b) v) W) W
noncomputable def sWeight (W : Wd) (p v : Int32) : Wd := ifc (inR p W.1) (ifc (isB (-99) 99 v) (putR W 5 (tn p) v) W) W
noncomputable def sKind (W : Wd) (k : Int32) (g : Nat → Int32) (f : Int32) : Wd := ifc (inR f 6) (setF W (tn f) k g) W
theorem gArc {W : Wd} {i j v : Int32} (h : GW W) : GW (sArc W i j v) := ifc_pr (fun _ => ifc_pr (fun c => GW_put h ⟨(fun _ => c), (fun e => absurd e (by decide)), (fun e => absurd e (by decide)), (fun e => absurd e (by decide)), (fun e => absurd e (by decide))⟩) (fun _ => h)) (fun _ => h)
theorem gItem {W : Wd} {i v s : Int32} (h : GW W) : GW (sItem W i v s) := ifc_pr (fun _ => ifc_pr (fun c => GW_put (GW_put h ⟨(fun e => absurd e (by decide)), (fun _ => c.1), (fun e => absurd e (by decide)), (fun e => absurd e (by decide)), (fun e => absurd e (by decide))⟩) ⟨(fun e => absurd e (by decide)), (fun e => absurd e (by decide)), (fun e => absurd e (by decide)), (fun e => absurd e (by decide)), (fun e => absurd e (by decide))⟩) (fun _ => h)) (fun _ => h)
theorem gBlock {W : Wd} {p b : Int32} (h : GW W) : GW (sBlock W p b) := ifc_pr (fun c => GW_put h ⟨(fun e => absurd e (by decide)), (fun e => absurd e (by decide)), (fun _ => c.2), (fun e => absurd e (by decide)), (fun e => absurd e (by decide))⟩) (fun _ => h)
theorem gCap {W : Wd} {b v : Int32} (h : GW W) : GW (sCap W b v) := ifc_pr (fun _ => ifc_pr (fun c => GW_put h ⟨(fun e => absurd e (by decide)), (fun e => absurd e (by decide)), (fun e => absurd e (by decide)), (fun _ => c), (fun e => absurd e (by decide))⟩) (fun _ => h)) (fun _ => h)
theorem gWeight {W : Wd} {p v : Int32} (h : GW W) : GW (sWeight W p v) := ifc_pr (fun _ => ifc_pr (fun c => GW_put h ⟨(fun e => absurd e (by decide)), (fun e => absurd e (by decide)), (fun e => absurd e (by decide)), (fun e => absurd e (by decide)), (fun _ => c)⟩) (fun _ => h)) (fun _ => h)
theorem sC_arc {l : Launch} {E : Ev} {M : Mm} {S : As} (hI : ∀ k, k < 108 → k ∈ E.2.1) (h : CA M S) {i j v : Int32} : Cm l E yX6_arc cX6_arc 6 (some .int) 1 [.ref (E.2.2.1 0), .int i, .int j, .int v] M (hp (.int (A_arc S.1.1 (S.1.2.1 0) i j v)) (hC (sArc S.1 i j v, S.2) M)) := by
  have c := c_X6_arc (l := l) (M := M) (i := i) (j := j) (v := v) hI h.1.1
  rw [show M 2 = S.1.2.1 0 from h.1.2.2 0 (by omega)] at c
  exact hs_CI h (by unfold U_arc sArc; exact ifc_rel (R := CO M) (fun c1 => ifc_rel (R := CO M) (fun c2 => CO_put h.1 (i := 0) (by omega)) (fun _ => CO.rf h.1)) (fun _ => CO.rf h.1)) c
theorem sR_arc {l : Launch} {E : Ev} {M : Mm} {S : As} (hI : ∀ k, k < 108 → k ∈ E.2.1) (h : RA M S) {i j v : Int32} : Cm l E yX7_arc cX7_arc 5 (some .int) 2 [.ref (E.2.2.1 65), .int i, .int j, .int v] M (hp (.int (A_arc S.1.1 (S.1.2.1 0) i j v)) (hR (sArc S.1 i j v, S.2) M)) := by
  have c := c_X7_arc (l := l) (M := M) (i := i) (j := j) (v := v) hI h.1.1
  rw [show M 66 = S.1.2.1 0 from h.1.2.2 0 (by omega)] at c
  exact hs_RI h (by unfold U_arc sArc; exact ifc_rel (R := RO M) (fun c1 => ifc_rel (R := RO M) (fun c2 => RO_put h.1 (i := 0) (by omega)) (fun _ => RO.rf h.1)) (fun _ => RO.rf h.1)) c
theorem sC_item {l : Launch} {E : Ev} {M : Mm} {S : As} (hI : ∀ k, k < 108 → k ∈ E.2.1) (h : CA M S) {i v s : Int32} : Cm l E yX6_item cX6_item 5 (some .int) 2 [.ref (E.2.2.1 0), .int i, .int v, .int s] M (hp (.int (A_item S.1.1 (S.1.2.1 1) i v s)) (hC (sItem S.1 i v s, S.2) M)) := by
  have c := c_X6_item (l := l) (M := M) (i := i) (v := v) (s := s) hI h.1.1
  rw [show M 3 = S.1.2.1 1 from h.1.2.2 1 (by omega)] at c
  exact hs_CI h (by unfold U_item sItem; exact ifc_rel (R := CO M) (fun c1 => ifc_rel (R := CO M) (fun c2 => CO.put (CO_put h.1 (i := 1) (by omega)) (i := 2) (by omega)) (fun _ => CO.rf h.1)) (fun _ => CO.rf h.1)) c
theorem sR_item {l : Launch} {E : Ev} {M : Mm} {S : As} (hI : ∀ k, k < 108 → k ∈ E.2.1) (h : RA M S) {i v s : Int32} : Cm l E yX7_item cX7_item 5 (some .int) 3 [.ref (E.2.2.1 65), .int i, .int v, .int s] M (hp (.int (A_item S.1.1 (S.1.2.1 1) i v s)) (hR (sItem S.1 i v s, S.2) M)) := by
  have c := c_X7_item (l := l) (M := M) (i := i) (v := v) (s := s) hI h.1.1
  rw [show M 67 = S.1.2.1 1 from h.1.2.2 1 (by omega)] at c
  exact hs_RI h (by unfold U_item sItem; exact ifc_rel (R := RO M) (fun c1 => ifc_rel (R := RO M) (fun c2 => RO.put (RO_put h.1 (i := 1) (by omega)) (i := 2) (by omega)) (fun _ => RO.rf h.1)) (fun _ => RO.rf h.1)) c
theorem sC_block {l : Launch} {E : Ev} {M : Mm} {S : As} (hI : ∀ k, k < 108 → k ∈ E.2.1) (h : CA M S) {p b : Int32} : Cm l E yX6_block cX6_block 4 (some .int) 1 [.ref (E.2.2.1 0), .int p, .int b] M (hp (.int (A_block S.1.1 (S.1.2.1 3) p b)) (hC (sBlock S.1 p b, S.2) M)) := by
  have c := c_X6_block (l := l) (M := M) (p := p) (b := b) hI h.1.1
  rw [show M 5 = S.1.2.1 3 from h.1.2.2 3 (by omega)] at c
  exact hs_CI h (by unfold U_block sBlock; exact ifc_rel (R := CO M) (fun c1 => CO_put h.1 (i := 3) (by omega)) (fun _ => CO.rf h.1)) c
theorem sR_block {l : Launch} {E : Ev} {M : Mm} {S : As} (hI : ∀ k, k < 108 → k ∈ E.2.1) (h : RA M S) {p b : Int32} : Cm l E yX7_block cX7_block 4 (some .int) 2 [.ref (E.2.2.1 65), .int p, .int b] M (hp (.int (A_block S.1.1 (S.1.2.1 3) p b)) (hR (sBlock S.1 p b, S.2) M)) := by
  have c := c_X7_block (l := l) (M := M) (p := p) (b := b) hI h.1.1
  rw [show M 69 = S.1.2.1 3 from h.1.2.2 3 (by omega)] at c
  exact hs_RI h (by unfold U_block sBlock; exact ifc_rel (R := RO M) (fun c1 => RO_put h.1 (i := 3) (by omega)) (fun _ => RO.rf h.1)) c
theorem sC_cap {l : Launch} {E : Ev} {M : Mm} {S : As} (hI : ∀ k, k < 108 → k ∈ E.2.1) (h : CA M S) {b v : Int32} : Cm l E yX6_cap cX6_cap 4 (some .int) 1 [.ref (E.2.2.1 0), .int b, .int v] M (hp (.int (A_cap (S.1.2.1 4) b v)) (hC (sCap S.1 b v, S.2) M)) := by
  have c := c_X6_cap (l := l) (M := M) (b := b) (v := v) hI
  rw [show M 6 = S.1.2.1 4 from h.1.2.2 4 (by omega)] at c
  exact hs_CI h (by unfold U_cap sCap; exact ifc_rel (R := CO M) (fun c1 => ifc_rel (R := CO M) (fun c2 => CO_put h.1 (i := 4) (by omega)) (fun _ => CO.rf h.1)) (fun _ => CO.rf h.1)) c
theorem sR_cap {l : Launch} {E : Ev} {M : Mm} {S : As} (hI : ∀ k, k < 108 → k ∈ E.2.1) (h : RA M S) {b v : Int32} : Cm l E yX7_cap cX7_cap 4 (some .int) 2 [.ref (E.2.2.1 65), .int b, .int v] M (hp (.int (A_cap (S.1.2.1 4) b v)) (hR (sCap S.1 b v, S.2) M)) := by
  have c := c_X7_cap (l := l) (M := M) (b := b) (v := v) hI
  rw [show M 70 = S.1.2.1 4 from h.1.2.2 4 (by omega)] at c
  exact hs_RI h (by unfold U_cap sCap; exact ifc_rel (R := RO M) (fun c1 => ifc_rel (R := RO M) (fun c2 => RO_put h.1 (i := 4) (by omega)) (fun _ => RO.rf h.1)) (fun _ => RO.rf h.1)) c
theorem sC_weight {l : Launch} {E : Ev} {M : Mm} {S : As} (hI : ∀ k, k < 108 → k ∈ E.2.1) (h : CA M S) {p v : Int32} : Cm l E yX6_weight cX6_weight 4 (some .int) 1 [.ref (E.2.2.1 0), .int p, .int v] M (hp (.int (A_weight S.1.1 (S.1.2.1 5) p v)) (hC (sWeight S.1 p v, S.2) M)) := by
  have c := c_X6_weight (l := l) (M := M) (p := p) (v := v) hI h.1.1
  rw [show M 7 = S.1.2.1 5 from h.1.2.2 5 (by omega)] at c
  exact hs_CI h (by unfold U_weight sWeight; exact ifc_rel (R := CO M) (fun c1 => ifc_rel (R := CO M) (fun c2 => CO_put h.1 (i := 5) (by omega)) (fun _ => CO.rf h.1)) (fun _ => CO.rf h.1)) c
theorem sR_weight {l : Launch} {E : Ev} {M : Mm} {S : As} (hI : ∀ k, k < 108 → k ∈ E.2.1) (h : RA M S) {p v : Int32} : Cm l E yX7_weight cX7_weight 4 (some .int) 2 [.ref (E.2.2.1 65), .int p, .int v] M (hp (.int (A_weight S.1.1 (S.1.2.1 5) p v)) (hR (sWeight S.1 p v, S.2) M)) := by
  have c := c_X7_weight (l := l) (M := M) (p := p) (v := v) hI h.1.1
  rw [show M 71 = S.1.2.1 5 from h.1.2.2 5 (by omega)] at c
  exact hs_RI h (by unfold U_weight sWeight; exact ifc_rel (R := RO M) (fun c1 => ifc_rel (R := RO M) (fun c2 => RO_put h.1 (i := 5) (by omega)) (fun _ => RO.rf h.1)) (fun _ => RO.rf h.1)) c
theorem sC_cut {l : Launch} {E : Ev} {M : Mm} {S : As} (hI : ∀ k, k < 108 → k ∈ E.2.1) (h : CA M S) {f : Int32} : Cm l E yX6_cut cX6_cut 2 (some .int) 4 [.ref (E.2.2.1 0), .int f] M (hp (.int (A_kind (csum (S.1.2.1 0) S.1.1 (2 ^ S.1.1 - 2)) f)) (hC (sKind S.1 1 (fun s => csum (S.1.2.1 0) S.1.1 s) f, S.2) M)) := by
  have c := c_X6_cut (l := l) (M := M) (f := f) hI h.1.1
  rw [show M 2 = S.1.2.1 0 from h.1.2.2 0 (by omega)] at c
  exact hs_CR h (by unfold U_kind sKind; exact ifc_rel (R := CO M) (fun c1 => CO_fset h.1 (t := tn f) (by have := inR_lt c1; omega) (fun e => absurd e (by decide))) (fun _ => CO.rf h.1)) c
theorem sR_cut {l : Launch} {E : Ev} {M : Mm} {S : As} (hI : ∀ k, k < 108 → k ∈ E.2.1) (h : RA M S) {f : Int32} : Cm l E yX7_cut cX7_cut 2 (some .int) 3 [.ref (E.2.2.1 65), .int f] M (hp (.int (A_kind (csum (S.1.2.1 0) S.1.1 (2 ^ S.1.1 - 2)) f)) (hR (sKind S.1 1 (fun s => csum (S.1.2.1 0) S.1.1 s) f, S.2) M)) := by
  have c := c_X7_cut (l := l) (M := M) (f := f) hI h.1.1
  rw [show M 66 = S.1.2.1 0 from h.1.2.2 0 (by omega)] at c
  exact hs_RR h (by unfold U_kind sKind; exact ifc_rel (R := RO M) (fun c1 => RO_bec h.1 (t := tn f) (by have := inR_lt c1; omega) (fun e => absurd e (by decide))) (fun _ => RO.rf h.1)) c
theorem sC_cover {l : Launch} {E : Ev} {M : Mm} {S : As} (hI : ∀ k, k < 108 → k ∈ E.2.1) (h : CA M S) {f : Int32} : Cm l E yX6_cover cX6_cover 2 (some .int) 4 [.ref (E.2.2.1 0), .int f] M (hp (.int (A_kind (vsum (S.1.2.1 2) (S.1.2.1 1) (nI (2 ^ S.1.1 - 1))) f)) (hC (sKind S.1 2 (fun s => vsum (S.1.2.1 2) (S.1.2.1 1) (nI s)) f, S.2) M)) := by
  have c := c_X6_cover (l := l) (M := M) (f := f) hI h.1.1
  rw [show M 4 = S.1.2.1 2 from h.1.2.2 2 (by omega)] at c
  rw [show M 3 = S.1.2.1 1 from h.1.2.2 1 (by omega)] at c
  exact hs_CR h (by unfold U_kind sKind; exact ifc_rel (R := CO M) (fun c1 => CO_fset h.1 (t := tn f) (by have := inR_lt c1; omega) (fun e => absurd e (by decide))) (fun _ => CO.rf h.1)) c
theorem sR_cover {l : Launch} {E : Ev} {M : Mm} {S : As} (hI : ∀ k, k < 108 → k ∈ E.2.1) (h : RA M S) {f : Int32} : Cm l E yX7_cover cX7_cover 2 (some .int) 3 [.ref (E.2.2.1 65), .int f] M (hp (.int (A_kind (vsum (S.1.2.1 2) (S.1.2.1 1) (nI (2 ^ S.1.1 - 1))) f)) (hR (sKind S.1 2 (fun s => vsum (S.1.2.1 2) (S.1.2.1 1) (nI s)) f, S.2) M)) := by
  have c := c_X7_cover (l := l) (M := M) (f := f) hI h.1.1
  rw [show M 68 = S.1.2.1 2 from h.1.2.2 2 (by omega)] at c
  rw [show M 67 = S.1.2.1 1 from h.1.2.2 1 (by omega)] at c
  exact hs_RR h (by unfold U_kind sKind; exact ifc_rel (R := RO M) (fun c1 => RO_bec h.1 (t := tn f) (by have := inR_lt c1; omega) (fun e => absurd e (by decide))) (fun _ => RO.rf h.1)) c
theorem sC_capped {l : Launch} {E : Ev} {M : Mm} {S : As} (hI : ∀ k, k < 108 → k ∈ E.2.1) (h : CA M S) (hg : GW S.1) {f : Int32} : Cm l E yX6_capped cX6_capped 2 (some .int) 4 [.ref (E.2.2.1 0), .int f] M (hp (.int (A_kind (ksum (S.1.2.1 3) (S.1.2.1 4) S.1.1 (2 ^ S.1.1 - 1)) f)) (hC (sKind S.1 3 (fun s => ksum (S.1.2.1 3) (S.1.2.1 4) S.1.1 s) f, S.2) M)) := by
  have c := c_X6_capped (l := l) (M := M) (f := f) hI h.1.1 (fun p hp => by rw [show M 5 = S.1.2.1 3 from h.1.2.2 3 (by omega)]; exact hg.2.2.2.2.1 p hp)
  rw [show M 5 = S.1.2.1 3 from h.1.2.2 3 (by omega)] at c
  rw [show M 6 = S.1.2.1 4 from h.1.2.2 4 (by omega)] at c
  exact hs_CR h (by unfold U_kind sKind; exact ifc_rel (R := CO M) (fun c1 => CO_fset h.1 (t := tn f) (by have := inR_lt c1; omega) (fun e => absurd e (by decide))) (fun _ => CO.rf h.1)) c
theorem sR_capped {l : Launch} {E : Ev} {M : Mm} {S : As} (hI : ∀ k, k < 108 → k ∈ E.2.1) (h : RA M S) (hg : GW S.1) {f : Int32} : Cm l E yX7_capped cX7_capped 2 (some .int) 3 [.ref (E.2.2.1 65), .int f] M (hp (.int (A_kind (ksum (S.1.2.1 3) (S.1.2.1 4) S.1.1 (2 ^ S.1.1 - 1)) f)) (hR (sKind S.1 3 (fun s => ksum (S.1.2.1 3) (S.1.2.1 4) S.1.1 s) f, S.2) M)) := by
  have c := c_X7_capped (l := l) (M := M) (f := f) hI h.1.1
  rw [show M 69 = S.1.2.1 3 from h.1.2.2 3 (by omega)] at c
  rw [show M 70 = S.1.2.1 4 from h.1.2.2 4 (by omega)] at c
  exact hs_RR h (by unfold U_kind sKind; exact ifc_rel (R := RO M) (fun c1 => RO_bec h.1 (t := tn f) (by have := inR_lt c1; omega) (fun e => absurd e (by decide))) (fun _ => RO.rf h.1)) c
theorem sC_weighed {l : Launch} {E : Ev} {M : Mm} {S : As} (hI : ∀ k, k < 108 → k ∈ E.2.1) (h : CA M S) {f : Int32} : Cm l E yX6_weighed cX6_weighed 2 (some .int) 4 [.ref (E.2.2.1 0), .int f] M (hp (.int (A_kind (wsum (S.1.2.1 5) S.1.1 (2 ^ S.1.1 - 1) + 1000) f)) (hC (sKind S.1 4 (fun s => wsum (S.1.2.1 5) S.1.1 s) f, S.2) M)) := by
  have c := c_X6_weighed (l := l) (M := M) (f := f) hI h.1.1
  rw [show M 7 = S.1.2.1 5 from h.1.2.2 5 (by omega)] at c
  exact hs_CR h (by unfold U_kind sKind; exact ifc_rel (R := CO M) (fun c1 => CO_fset h.1 (t := tn f) (by have := inR_lt c1; omega) (fun e => absurd e (by decide))) (fun _ => CO.rf h.1)) c
theorem sR_weighed {l : Launch} {E : Ev} {M : Mm} {S : As} (hI : ∀ k, k < 108 → k ∈ E.2.1) (h : RA M S) {f : Int32} : Cm l E yX7_weighed cX7_weighed 2 (some .int) 3 [.ref (E.2.2.1 65), .int f] M (hp (.int (A_kind (wsum (S.1.2.1 5) S.1.1 (2 ^ S.1.1 - 1) + 1000) f)) (hR (sKind S.1 4 (fun s => wsum (S.1.2.1 5) S.1.1 s) f, S.2) M)) := by
  have c := c_X7_weighed (l := l) (M := M) (f := f) hI h.1.1
  rw [show M 71 = S.1.2.1 5 from h.1.2.2 5 (by omega)] at c
  exact hs_RR h (by unfold U_kind sKind; exact ifc_rel (R := RO M) (fun c1 => RO_bec h.1 (t := tn f) (by have := inR_lt c1; omega) (fun e => absurd e (by decide))) (fun _ => RO.rf h.1)) c
noncomputable def sSum (W : Wd) (f g t : Int32) : Wd := ifc (inR f 6 ∧ inR g 6 ∧ inR t 6) (ifc (¬ W.2.2.1 (tn f) < 0 ∧ ¬ W.2.2.1 (tn g) < 0) (ifc (allV (2 ^ W.1) (fun s => W.2.2.2 (tn f) s + W.2.2.2 (tn g) s)) (setF W (tn t) 5 (fun s => W.2.2.2 (tn f) s + W.2.2.2 (tn g) s)) W) W) W
theorem gSum {W : Wd} {f g t : Int32} (h : GW W) : GW (sSum W f g t) := ifc_pr (fun c1 => ifc_pr (fun c2 => ifc_pr (fun c3 => GW_set h (fun _ => by unfold inR; decide) (fun e => absurd e (by decide)) (fun s hs => c3 s hs)) (fun _ => h)) (fun _ => h)) (fun _ => h)
theorem sC_sum {l : Launch} {E : Ev} {M : Mm} {S : As} (hI : ∀ k, k < 108 → k ∈ E.2.1) (h : CA M S) {f g t : Int32} : Cm l E yX6_sum cX6_sum 7 (some .int) 3 [.ref (E.2.2.1 0), .int f, .int g, .int t] M (hp (.int (A_sum S.1.1 S.1.2.2.1 S.1.2.2.2 f g t)) (hC (sSum S.1 f g t, S.2) M)) := by
  have c := c_X6_sum (l := l) (M := M) (f := f) (g := g) (t := t) hI h.1.1 h.1.2.1
  exact hs_CR h (by unfold U_sum sSum; exact ifc_rel (R := CO M) (fun c1 => ifc_rel (R := CO M) (fun c2 => ifc_rel (R := CO M) (fun c3 => CO_fset h.1 (t := tn t) (inR_lt c1.2.2) (fun e => absurd e (by decide))) (fun _ => CO.rf h.1)) (fun _ => CO.rf h.1)) (fun _ => CO.rf h.1)) c
theorem sR_sum {l : Launch} {E : Ev} {M : Mm} {S : As} (hI : ∀ k, k < 108 → k ∈ E.2.1) (h : RA M S) {f g t : Int32} : Cm l E yX7_sum cX7_sum 5 (some .int) 4 [.ref (E.2.2.1 65), .int f, .int g, .int t] M (hp (.int (A_sum S.1.1 S.1.2.2.1 S.1.2.2.2 f g t)) (hR (sSum S.1 f g t, S.2) M)) := by
  have c := c_X7_sum (l := l) (M := M) (f := f) (g := g) (t := t) hI h.1.1 h.1.2.1
  exact hs_RR h (by unfold U_sum sSum; exact ifc_rel (R := RO M) (fun c1 => ifc_rel (R := RO M) (fun c2 => ifc_rel (R := RO M) (fun c3 => RO_bec h.1 (t := tn t) (inR_lt c1.2.2) (fun e => absurd e (by decide))) (fun _ => RO.rf h.1)) (fun _ => RO.rf h.1)) (fun _ => RO.rf h.1)) c
noncomputable def sTurn (W : Wd) (f t : Int32) : Wd := ifc (inR t 6 ∧ inR f 6) (ifc (¬ W.2.2.1 (tn f) < 0) (ifc (allV (2 ^ W.1) (fun s => W.2.2.2 (tn f) (2 ^ W.1 - 1 - s))) (setF W (tn t) 5 (fun s => W.2.2.2 (tn f) (2 ^ W.1 - 1 - s))) W) W) W
theorem gTurn {W : Wd} {f t : Int32} (h : GW W) : GW (sTurn W f t) := ifc_pr (fun c1 => ifc_pr (fun c2 => ifc_pr (fun c3 => GW_set h (fun _ => by unfold inR; decide) (fun e => absurd e (by decide)) (fun s hs => c3 s hs)) (fun _ => h)) (fun _ => h)) (fun _ => h)
theorem sC_turn {l : Launch} {E : Ev} {M : Mm} {S : As} (hI : ∀ k, k < 108 → k ∈ E.2.1) (h : CA M S) {f t : Int32} : Cm l E yX6_turn cX6_turn 6 (some .int) 3 [.ref (E.2.2.1 0), .int f, .int t] M (hp (.int (A_turn S.1.1 S.1.2.2.1 S.1.2.2.2 f t)) (hC (sTurn S.1 f t, S.2) M)) := by
  have c := c_X6_turn (l := l) (M := M) (f := f) (t := t) hI h.1.1 h.1.2.1
  exact hs_CR h (by unfold U_turn sTurn; exact ifc_rel (R := CO M) (fun c1 => ifc_rel (R := CO M) (fun c2 => ifc_rel (R := CO M) (fun c3 => CO_fset h.1 (t := tn t) (inR_lt c1.1) (fun e => absurd e (by decide))) (fun _ => CO.rf h.1)) (fun _ => CO.rf h.1)) (fun _ => CO.rf h.1)) c
theorem sR_turn {l : Launch} {E : Ev} {M : Mm} {S : As} (hI : ∀ k, k < 108 → k ∈ E.2.1) (h : RA M S) {f t : Int32} : Cm l E yX7_turn cX7_turn 4 (some .int) 4 [.ref (E.2.2.1 65), .int f, .int t] M (hp (.int (A_turn S.1.1 S.1.2.2.1 S.1.2.2.2 f t)) (hR (sTurn S.1 f t, S.2) M)) := by
  have c := c_X7_turn (l := l) (M := M) (f := f) (t := t) hI h.1.1 h.1.2.1
  exact hs_RR h (by unfold U_turn sTurn; exact ifc_rel (R := RO M) (fun c1 => ifc_rel (R := RO M) (fun c2 => ifc_rel (R := RO M) (fun c3 => RO_bec h.1 (t := tn t) (inR_lt c1.1) (fun e => absurd e (by decide))) (fun _ => RO.rf h.1)) (fun _ => RO.rf h.1)) (fun _ => RO.rf h.1)) c
noncomputable def sHeld (W : Wd) (f v t : Int32) : Wd := ifc (inR f 6 ∧ inR t 6) (ifc (isV v) (ifc (¬ W.2.2.1 (tn f) < 0) (ifc (allV (2 ^ W.1) (fun s => imin (W.2.2.2 (tn f) s) v)) (setF W (tn t) 5 (fun s => imin (W.2.2.2 (tn f) s) v)) W) W) W) W
theorem gHeld {W : Wd} {f v t : Int32} (h : GW W) : GW (sHeld W f v t) := ifc_pr (fun c1 => ifc_pr (fun c2 => ifc_pr (fun c3 => ifc_pr (fun c4 => GW_set h (fun _ => by unfold inR; decide) (fun e => absurd e (by decide)) (fun s hs => c4 s hs)) (fun _ => h)) (fun _ => h)) (fun _ => h)) (fun _ => h)
theorem sC_held {l : Launch} {E : Ev} {M : Mm} {S : As} (hI : ∀ k, k < 108 → k ∈ E.2.1) (h : CA M S) {f v t : Int32} : Cm l E yX6_held cX6_held 6 (some .int) 3 [.ref (E.2.2.1 0), .int f, .int v, .int t] M (hp (.int (A_held S.1.1 S.1.2.2.1 S.1.2.2.2 f v t)) (hC (sHeld S.1 f v t, S.2) M)) := by
  have c := c_X6_held (l := l) (M := M) (f := f) (v := v) (t := t) hI h.1.1 h.1.2.1
  exact hs_CR h (by unfold U_held sHeld; exact ifc_rel (R := CO M) (fun c1 => ifc_rel (R := CO M) (fun c2 => ifc_rel (R := CO M) (fun c3 => ifc_rel (R := CO M) (fun c4 => CO_fset h.1 (t := tn t) (inR_lt c1.2) (fun e => absurd e (by decide))) (fun _ => CO.rf h.1)) (fun _ => CO.rf h.1)) (fun _ => CO.rf h.1)) (fun _ => CO.rf h.1)) c
theorem sR_held {l : Launch} {E : Ev} {M : Mm} {S : As} (hI : ∀ k, k < 108 → k ∈ E.2.1) (h : RA M S) {f v t : Int32} : Cm l E yX7_held cX7_held 5 (some .int) 4 [.ref (E.2.2.1 65), .int f, .int v, .int t] M (hp (.int (A_held S.1.1 S.1.2.2.1 S.1.2.2.2 f v t)) (hR (sHeld S.1 f v t, S.2) M)) := by
  have c := c_X7_held (l := l) (M := M) (f := f) (v := v) (t := t) hI h.1.1 h.1.2.1
  exact hs_RR h (by unfold U_held sHeld; exact ifc_rel (R := RO M) (fun c1 => ifc_rel (R := RO M) (fun c2 => ifc_rel (R := RO M) (fun c3 => ifc_rel (R := RO M) (fun c4 => RO_bec h.1 (t := tn t) (inR_lt c1.2) (fun e => absurd e (by decide))) (fun _ => RO.rf h.1)) (fun _ => RO.rf h.1)) (fun _ => RO.rf h.1)) (fun _ => RO.rf h.1)) c
noncomputable def sPart (W : Wd) (f a w t : Int32) : Wd := ifc (inR f 6 ∧ inR t 6) (ifc (inR a (2 ^ W.1) ∧ inR w 2) (ifc (¬ W.2.2.1 (tn f) < 0) (ifc (allV (2 ^ W.1) (fun s => if w = 0 then W.2.2.2 (tn f) (s &&& tn a) else W.2.2.2 (tn f) (s ||| tn a) - W.2.2.2 (tn f) (tn a))) (setF W (tn t) 5 (fun s => if w = 0 then W.2.2.2 (tn f) (s &&& tn a) else W.2.2.2 (tn f) (s ||| tn a) - W.2.2.2 (tn f) (tn a))) W) W) W) W
theorem gPart {W : Wd} {f a w t : Int32} (h : GW W) : GW (sPart W f a w t) := ifc_pr (fun c1 => ifc_pr (fun c2 => ifc_pr (fun c3 => ifc_pr (fun c4 => GW_set h (fun _ => by unfold inR; decide) (fun e => absurd e (by decide)) (fun s hs => c4 s hs)) (fun _ => h)) (fun _ => h)) (fun _ => h)) (fun _ => h)
theorem sC_part {l : Launch} {E : Ev} {M : Mm} {S : As} (hI : ∀ k, k < 108 → k ∈ E.2.1) (h : CA M S) {f a w t : Int32} : Cm l E yX6_part cX6_part 7 (some .int) 3 [.ref (E.2.2.1 0), .int f, .int a, .int w, .int t] M (hp (.int (A_part S.1.1 S.1.2.2.1 S.1.2.2.2 f a w t)) (hC (sPart S.1 f a w t, S.2) M)) := by
  have c := c_X6_part (l := l) (M := M) (f := f) (a := a) (w := w) (t := t) hI h.1.1 h.1.2.1
  exact hs_CR h (by unfold U_part sPart; exact ifc_rel (R := CO M) (fun c1 => ifc_rel (R := CO M) (fun c2 => ifc_rel (R := CO M) (fun c3 => ifc_rel (R := CO M) (fun c4 => CO_fset h.1 (t := tn t) (inR_lt c1.2) (fun e => absurd e (by decide))) (fun _ => CO.rf h.1)) (fun _ => CO.rf h.1)) (fun _ => CO.rf h.1)) (fun _ => CO.rf h.1)) c
theorem sR_part {l : Launch} {E : Ev} {M : Mm} {S : As} (hI : ∀ k, k < 108 → k ∈ E.2.1) (h : RA M S) {f a w t : Int32} : Cm l E yX7_part cX7_part 6 (some .int) 4 [.ref (E.2.2.1 65), .int f, .int a, .int w, .int t] M (hp (.int (A_part S.1.1 S.1.2.2.1 S.1.2.2.2 f a w t)) (hR (sPart S.1 f a w t, S.2) M)) := by
  have c := c_X7_part (l := l) (M := M) (f := f) (a := a) (w := w) (t := t) hI h.1.1 h.1.2.1
  exact hs_RR h (by unfold U_part sPart; exact ifc_rel (R := RO M) (fun c1 => ifc_rel (R := RO M) (fun c2 => ifc_rel (R := RO M) (fun c3 => ifc_rel (R := RO M) (fun c4 => RO_bec h.1 (t := tn t) (inR_lt c1.2) (fun e => absurd e (by decide))) (fun _ => RO.rf h.1)) (fun _ => RO.rf h.1)) (fun _ => RO.rf h.1)) (fun _ => RO.rf h.1)) c
noncomputable def sCutBack (W : Wd) (f t : Int32) : Wd := ifc (inR t 6 ∧ inR f 6) (ifc (¬ W.2.2.1 (tn f) < 0) (ifc (allV (2 ^ W.1) (fun s => cbk (W.2.2.2 (tn f)) (W.2.1 5) W.1 s)) (setF W (tn t) 5 (fun s => cbk (W.2.2.2 (tn f)) (W.2.1 5) W.1 s)) W) W) W
theorem gCutBack {W : Wd} {f t : Int32} (h : GW W) : GW (sCutBack W f t) := ifc_pr (fun c1 => ifc_pr (fun c2 => ifc_pr (fun c3 => GW_set h (fun _ => by unfold inR; decide) (fun e => absurd e (by decide)) (fun s hs => c3 s hs)) (fun _ => h)) (fun _ => h)) (fun _ => h)
theorem sC_cutBack {l : Launch} {E : Ev} {M : Mm} {S : As} (hI : ∀ k, k < 108 → k ∈ E.2.1) (h : CA M S) {f t : Int32} : Cm l E yX6_cutBack cX6_cutBack 6 (some .int) 3 [.ref (E.2.2.1 0), .int f, .int t] M (hp (.int (A_cutBack (S.1.2.1 5) S.1.1 S.1.2.2.1 S.1.2.2.2 f t)) (hC (sCutBack S.1 f t, S.2) M)) := by
  have c := c_X6_cutBack (l := l) (M := M) (f := f) (t := t) hI h.1.1 h.1.2.1
  rw [show M 7 = S.1.2.1 5 from h.1.2.2 5 (by omega)] at c
  exact hs_CR h (by unfold U_cutBack sCutBack; exact ifc_rel (R := CO M) (fun c1 => ifc_rel (R := CO M) (fun c2 => ifc_rel (R := CO M) (fun c3 => CO_fset h.1 (t := tn t) (inR_lt c1.1) (fun e => absurd e (by decide))) (fun _ => CO.rf h.1)) (fun _ => CO.rf h.1)) (fun _ => CO.rf h.1)) c
theorem sR_cutBack {l : Launch} {E : Ev} {M : Mm} {S : As} (hI : ∀ k, k < 108 → k ∈ E.2.1) (h : RA M S) {f t : Int32} : Cm l E yX7_cutBack cX7_cutBack 5 (some .int) 4 [.ref (E.2.2.1 65), .int f, .int t] M (hp (.int (A_cutBack (S.1.2.1 5) S.1.1 S.1.2.2.1 S.1.2.2.2 f t)) (hR (sCutBack S.1 f t, S.2) M)) := by
  have c := c_X7_cutBack (l := l) (M := M) (f := f) (t := t) hI h.1.1 h.1.2.1
  rw [show M 71 = S.1.2.1 5 from h.1.2.2 5 (by omega)] at c
  exact hs_RR h (by unfold U_cutBack sCutBack; exact ifc_rel (R := RO M) (fun c1 => ifc_rel (R := RO M) (fun c2 => ifc_rel (R := RO M) (fun c3 => RO_bec h.1 (t := tn t) (inR_lt c1.1) (fun e => absurd e (by decide))) (fun _ => RO.rf h.1)) (fun _ => RO.rf h.1)) (fun _ => RO.rf h.1)) c
noncomputable def sLay (S : As) (f a : Int32) : Wd := ifc (inR f 6 ∧ inR a 4) (ifc (¬ S.2.2.1.1 (tn a) < 0) (ifc (tn (S.2.2.1.1 (tn a)) ≤ 2 ^ S.1.1) (ifc (allV (2 ^ S.1.1) (fun s => if s < tn (S.2.2.1.1 (tn a)) then S.2.2.1.2 (tn a) s else 0)) (setF S.1 (tn f) 0 (fun s => if s < tn (S.2.2.1.1 (tn a)) then S.2.2.1.2 (tn a) s else 0)) S.1) S.1) S.1) S.1
theorem gLay {S : As} {f a : Int32} (h : GW S.1) : GW (sLay S f a) := ifc_pr (fun c1 => ifc_pr (fun c2 => ifc_pr (fun c3 => ifc_pr (fun c4 => GW_set h (fun _ => by unfold inR; decide) (fun e => absurd e (by decide)) (fun s hs => c4 s hs)) (fun _ => h)) (fun _ => h)) (fun _ => h)) (fun _ => h)
theorem sC_lay {l : Launch} {E : Ev} {M : Mm} {S : As} (hI : ∀ k, k < 108 → k ∈ E.2.1) (h : CA M S) {f a : Int32} : Cm l E yX6_lay cX6_lay 5 (some .int) 2 [.ref (E.2.2.1 0), .int f, .int a] M (hp (.int (A_lay S.1.1 S.2.2.1.1 S.2.2.1.2 f a)) (hC (sLay S f a, S.2) M)) := by
  have c := c_X6_lay (l := l) (M := M) (kd := fun _ => 0) (V := fun _ _ => 0) (f := f) (a := a) hI h.1.1 h.2.2.1
  exact hs_CR h (by unfold U_lay sLay; exact ifc_rel (R := CO M) (fun c1 => ifc_rel (R := CO M) (fun c2 => ifc_rel (R := CO M) (fun c3 => ifc_rel (R := CO M) (fun c4 => CO_fset h.1 (t := tn f) (inR_lt c1.1) (fun e => absurd e (by decide))) (fun _ => CO.rf h.1)) (fun _ => CO.rf h.1)) (fun _ => CO.rf h.1)) (fun _ => CO.rf h.1)) c
theorem sR_lay {l : Launch} {E : Ev} {M : Mm} {S : As} (hI : ∀ k, k < 108 → k ∈ E.2.1) (h : RA M S) {f a : Int32} : Cm l E yX7_lay cX7_lay 5 (some .int) 3 [.ref (E.2.2.1 65), .int f, .int a] M (hp (.int (A_lay S.1.1 S.2.2.1.1 S.2.2.1.2 f a)) (hR (sLay S f a, S.2) M)) := by
  have c := c_X7_lay (l := l) (M := M) (kd := fun _ => 0) (V := fun _ _ => 0) (f := f) (a := a) hI h.1.1 h.2.2.1
  exact hs_RR h (by unfold U_lay sLay; exact ifc_rel (R := RO M) (fun c1 => ifc_rel (R := RO M) (fun c2 => ifc_rel (R := RO M) (fun c3 => ifc_rel (R := RO M) (fun c4 => RO_bec h.1 (t := tn f) (inR_lt c1.1) (fun e => absurd e (by decide))) (fun _ => RO.rf h.1)) (fun _ => RO.rf h.1)) (fun _ => RO.rf h.1)) (fun _ => RO.rf h.1)) c
