theorem cpr22_r {M : Mm} : ∀ i, i < 6 → cpr22 M (23 + i) = setr (rsz i) (M (2 + i)) (M (23 + i)) :=
  six (P := fun i => cpr22 M (23 + i) = setr (rsz i) (M (2 + i)) (M (23 + i)))
    ((rset_ne _ _ (by omega)).trans ((rset_ne _ _ (by omega)).trans ((rset_ne _ _ (by omega)).trans ((rset_ne _ _ (by omega)).trans ((rset_ne _ _ (by omega)).trans (rset_eq _ _ _))))))
    ((rset_ne _ _ (by omega)).trans ((rset_ne _ _ (by omega)).trans ((rset_ne _ _ (by omega)).trans ((rset_ne _ _ (by omega)).trans (rset_eq _ _ _)))))
    ((rset_ne _ _ (by omega)).trans ((rset_ne _ _ (by omega)).trans ((rset_ne _ _ (by omega)).trans (rset_eq _ _ _))))
    ((rset_ne _ _ (by omega)).trans ((rset_ne _ _ (by omega)).trans (rset_eq _ _ _)))
    ((rset_ne _ _ (by omega)).trans (rset_eq _ _ _))
    (rset_eq _ _ _)
theorem cpr1_r {M : Mm} : ∀ i, i < 6 → cpr1 M (2 + i) = setr (rsz i) (M (23 + i)) (M (2 + i)) :=
  six (P := fun i => cpr1 M (2 + i) = setr (rsz i) (M (23 + i)) (M (2 + i)))
    ((rset_ne _ _ (by omega)).trans ((rset_ne _ _ (by omega)).trans ((rset_ne _ _ (by omega)).trans ((rset_ne _ _ (by omega)).trans ((rset_ne _ _ (by omega)).trans (rset_eq _ _ _))))))
    ((rset_ne _ _ (by omega)).trans ((rset_ne _ _ (by omega)).trans ((rset_ne _ _ (by omega)).trans ((rset_ne _ _ (by omega)).trans (rset_eq _ _ _)))))
    ((rset_ne _ _ (by omega)).trans ((rset_ne _ _ (by omega)).trans ((rset_ne _ _ (by omega)).trans (rset_eq _ _ _))))
    ((rset_ne _ _ (by omega)).trans ((rset_ne _ _ (by omega)).trans (rset_eq _ _ _)))
    ((rset_ne _ _ (by omega)).trans (rset_eq _ _ _))
    (rset_eq _ _ _)
theorem imR_r {M : Mm} : ∀ i, i < 6 → imR M (94 + i) = setr (rsz i) (M (66 + i)) (M (94 + i)) :=
  six (P := fun i => imR M (94 + i) = setr (rsz i) (M (66 + i)) (M (94 + i)))
    ((rset_ne _ _ (by omega)).trans ((rset_ne _ _ (by omega)).trans ((rset_ne _ _ (by omega)).trans ((rset_ne _ _ (by omega)).trans ((rset_ne _ _ (by omega)).trans ((rset_ne _ _ (by omega)).trans ((rset_ne _ _ (by omega)).trans ((rset_ne _ _ (by omega)).trans ((rset_ne _ _ (by omega)).trans ((rset_ne _ _ (by omega)).trans ((rset_ne _ _ (by omega)).trans ((rset_ne _ _ (by omega)).trans (rset_eq _ _ _)))))))))))))
    ((rset_ne _ _ (by omega)).trans ((rset_ne _ _ (by omega)).trans ((rset_ne _ _ (by omega)).trans ((rset_ne _ _ (by omega)).trans ((rset_ne _ _ (by omega)).trans ((rset_ne _ _ (by omega)).trans ((rset_ne _ _ (by omega)).trans ((rset_ne _ _ (by omega)).trans ((rset_ne _ _ (by omega)).trans ((rset_ne _ _ (by omega)).trans ((rset_ne _ _ (by omega)).trans (rset_eq _ _ _))))))))))))
    ((rset_ne _ _ (by omega)).trans ((rset_ne _ _ (by omega)).trans ((rset_ne _ _ (by omega)).trans ((rset_ne _ _ (by omega)).trans ((rset_ne _ _ (by omega)).trans ((rset_ne _ _ (by omega)).trans ((rset_ne _ _ (by omega)).trans ((rset_ne _ _ (by omega)).trans ((rset_ne _ _ (by omega)).trans ((rset_ne _ _ (by omega)).trans (rset_eq _ _ _)))))))))))
    ((rset_ne _ _ (by omega)).trans ((rset_ne _ _ (by omega)).trans ((rset_ne _ _ (by omega)).trans ((rset_ne _ _ (by omega)).trans ((rset_ne _ _ (by omega)).trans ((rset_ne _ _ (by omega)).trans ((rset_ne _ _ (by omega)).trans ((rset_ne _ _ (by omega)).trans ((rset_ne _ _ (by omega)).trans (rset_eq _ _ _))))))))))
    ((rset_ne _ _ (by omega)).trans ((rset_ne _ _ (by omega)).trans ((rset_ne _ _ (by omega)).trans ((rset_ne _ _ (by omega)).trans ((rset_ne _ _ (by omega)).trans ((rset_ne _ _ (by omega)).trans ((rset_ne _ _ (by omega)).trans ((rset_ne _ _ (by omega)).trans (rset_eq _ _ _)))))))))
    ((rset_ne _ _ (by omega)).trans ((rset_ne _ _ (by omega)).trans ((rset_ne _ _ (by omega)).trans ((rset_ne _ _ (by omega)).trans ((rset_ne _ _ (by omega)).trans ((rset_ne _ _ (by omega)).trans ((rset_ne _ _ (by omega)).trans (rset_eq _ _ _))))))))
theorem bkR_r {M : Mm} : ∀ i, i < 6 → bkR M (66 + i) = setr (rsz i) (M (94 + i)) (M (66 + i)) :=
  six (P := fun i => bkR M (66 + i) = setr (rsz i) (M (94 + i)) (M (66 + i)))
    ((rset_ne _ _ (by omega)).trans ((rset_ne _ _ (by omega)).trans ((rset_ne _ _ (by omega)).trans ((rset_ne _ _ (by omega)).trans ((rset_ne _ _ (by omega)).trans ((rset_ne _ _ (by omega)).trans ((rset_ne _ _ (by omega)).trans ((rset_ne _ _ (by omega)).trans ((rset_ne _ _ (by omega)).trans ((rset_ne _ _ (by omega)).trans ((rset_ne _ _ (by omega)).trans ((rset_ne _ _ (by omega)).trans (rset_eq _ _ _)))))))))))))
    ((rset_ne _ _ (by omega)).trans ((rset_ne _ _ (by omega)).trans ((rset_ne _ _ (by omega)).trans ((rset_ne _ _ (by omega)).trans ((rset_ne _ _ (by omega)).trans ((rset_ne _ _ (by omega)).trans ((rset_ne _ _ (by omega)).trans ((rset_ne _ _ (by omega)).trans ((rset_ne _ _ (by omega)).trans ((rset_ne _ _ (by omega)).trans ((rset_ne _ _ (by omega)).trans (rset_eq _ _ _))))))))))))
    ((rset_ne _ _ (by omega)).trans ((rset_ne _ _ (by omega)).trans ((rset_ne _ _ (by omega)).trans ((rset_ne _ _ (by omega)).trans ((rset_ne _ _ (by omega)).trans ((rset_ne _ _ (by omega)).trans ((rset_ne _ _ (by omega)).trans ((rset_ne _ _ (by omega)).trans ((rset_ne _ _ (by omega)).trans ((rset_ne _ _ (by omega)).trans (rset_eq _ _ _)))))))))))
    ((rset_ne _ _ (by omega)).trans ((rset_ne _ _ (by omega)).trans ((rset_ne _ _ (by omega)).trans ((rset_ne _ _ (by omega)).trans ((rset_ne _ _ (by omega)).trans ((rset_ne _ _ (by omega)).trans ((rset_ne _ _ (by omega)).trans ((rset_ne _ _ (by omega)).trans ((rset_ne _ _ (by omega)).trans (rset_eq _ _ _))))))))))
    ((rset_ne _ _ (by omega)).trans ((rset_ne _ _ (by omega)).trans ((rset_ne _ _ (by omega)).trans ((rset_ne _ _ (by omega)).trans ((rset_ne _ _ (by omega)).trans ((rset_ne _ _ (by omega)).trans ((rset_ne _ _ (by omega)).trans ((rset_ne _ _ (by omega)).trans (rset_eq _ _ _)))))))))
    ((rset_ne _ _ (by omega)).trans ((rset_ne _ _ (by omega)).trans ((rset_ne _ _ (by omega)).trans ((rset_ne _ _ (by omega)).trans ((rset_ne _ _ (by omega)).trans ((rset_ne _ _ (by omega)).trans ((rset_ne _ _ (by omega)).trans (rset_eq _ _ _))))))))
theorem imR_k {M : Mm} : imR M 100 = setr 6 (M 72) (M 100) := (rset_ne _ _ (by omega)).trans ((rset_ne _ _ (by omega)).trans ((rset_ne _ _ (by omega)).trans ((rset_ne _ _ (by omega)).trans ((rset_ne _ _ (by omega)).trans ((rset_ne _ _ (by omega)).trans (rset_eq _ _ _))))))
theorem imR_v {M : Mm} : ∀ f, f < 6 → imR M (102 + f) = setr 64 (M (74 + f)) (M (102 + f)) :=
  six (P := fun f => imR M (102 + f) = setr 64 (M (74 + f)) (M (102 + f)))
    ((rset_ne _ _ (by omega)).trans ((rset_ne _ _ (by omega)).trans ((rset_ne _ _ (by omega)).trans ((rset_ne _ _ (by omega)).trans ((rset_ne _ _ (by omega)).trans (rset_eq _ _ _))))))
    ((rset_ne _ _ (by omega)).trans ((rset_ne _ _ (by omega)).trans ((rset_ne _ _ (by omega)).trans ((rset_ne _ _ (by omega)).trans (rset_eq _ _ _)))))
    ((rset_ne _ _ (by omega)).trans ((rset_ne _ _ (by omega)).trans ((rset_ne _ _ (by omega)).trans (rset_eq _ _ _))))
    ((rset_ne _ _ (by omega)).trans ((rset_ne _ _ (by omega)).trans (rset_eq _ _ _)))
    ((rset_ne _ _ (by omega)).trans (rset_eq _ _ _))
    (rset_eq _ _ _)
theorem imR_out {M : Mm} : ∀ k j, k < 94 → ¬ (k = 65 ∧ (j = 23 ∨ j = 24)) → imR M k j = M k j := fun k j hk hj => by
  refine rdr (by omega) (rdr (by omega) (rdr (by omega) (rdr (by omega) (rdr (by omega) (rdr (by omega) (rdr (by omega) (rdr (by omega) (rdr (by omega) (rdr (by omega) (rdr (by omega) (rdr (by omega) (rdr (by omega) (?_)))))))))))))
  by_cases e : k = 65
  · subst e
    exact rdj (by omega) (rdj (by omega) rfl)
  · exact rdn e (rdn e rfl)
theorem imR_f {M : Mm} : imR M 65 23 = 1 ∧ imR M 65 24 = M 65 0 := ⟨rdr (by omega) (rdr (by omega) (rdr (by omega) (rdr (by omega) (rdr (by omega) (rdr (by omega) (rdr (by omega) (rdr (by omega) (rdr (by omega) (rdr (by omega) (rdr (by omega) (rdr (by omega) (rdr (by omega) (rdj (by decide) (mw_eq _ _ _ _)))))))))))))), rdr (by omega) (rdr (by omega) (rdr (by omega) (rdr (by omega) (rdr (by omega) (rdr (by omega) (rdr (by omega) (rdr (by omega) (rdr (by omega) (rdr (by omega) (rdr (by omega) (rdr (by omega) (rdr (by omega) (mw_eq _ _ _ _)))))))))))))⟩
theorem bkR_out {M : Mm} : ∀ k j, k < 66 ∨ 79 < k → ¬ (k = 65 ∧ j = 0) → bkR M k j = M k j := fun k j hk hj => by
  refine rdr (by omega) (rdr (by omega) (rdr (by omega) (rdr (by omega) (rdr (by omega) (rdr (by omega) (rdr (by omega) (rdr (by omega) (rdr (by omega) (rdr (by omega) (rdr (by omega) (rdr (by omega) (rdr (by omega) (?_)))))))))))))
  by_cases e : k = 65
  · subst e
    exact rdj (by omega) rfl
  · exact rdn e rfl
theorem bkR_n {M : Mm} : bkR M 65 0 = M 65 24 := rdr (by omega) (rdr (by omega) (rdr (by omega) (rdr (by omega) (rdr (by omega) (rdr (by omega) (rdr (by omega) (rdr (by omega) (rdr (by omega) (rdr (by omega) (rdr (by omega) (rdr (by omega) (rdr (by omega) (mw_eq _ _ _ _)))))))))))))
/-! image, back -/
def sImage (S : As) : As := (S.1, (1, S.1), S.2.2)
theorem gImage {S : As} (h : GA S) : GA (sImage S) := ⟨h.1, fun _ => h.1, h.2.2⟩
theorem sC_image {l : Launch} {E : Ev} {M : Mm} {S : As} (hI : ∀ k, k < 108 → k ∈ E.2.1) (h : CA M S) : Cm l E yX6_image cX6_image 1 (some .int) 3 [.ref (E.2.2.1 0)] M (hp (.int (nI (prs S.1.2.2.1))) (hC (sImage S) M)) := by
  refine Cm.imp (fun r m q => ?_) (c_X6_image (l := l) (M := M) hI h.1.1 h.1.2.1)
  obtain ⟨q1, rfl⟩ := q
  refine ⟨q1, ?_⟩
  have hp := p2_le6 h.1.1.2.2
  have out : ∀ k j, k < 22 ∨ 42 < k → ¬ (k = 0 ∧ j = 2) → mw (cpw22 M) 0 2 1 k j = M k j := fun k j hk hj => by
    by_cases e : k = 0
    · subst e; exact rdj (by omega) (cpw22_out 0 j (by omega))
    · exact rdn e (cpw22_out k j hk)
  obtain ⟨h1, ⟨h2, h3⟩, h4, ⟨h5, h6⟩, ⟨h7, h8⟩⟩ := h
  refine ⟨⟨h1.eq (fun k j _ _ _ => out k j (by omega) (by omega)), ⟨mw_eq _ _ _ _, fun _ => ⟨⟨⟨?_, h1.1.2⟩, fun f hf => ⟨?_, (h1.2.1 f hf).2.1, fun s hs => ?_⟩⟩, fun i hi j hj => ?_⟩⟩, h4.eq (fun k j _ _ => out k j (by omega) (by omega)), ⟨(out _ _ (by omega) (by omega)).trans h5, row_eq (fun j => out _ j (by omega) (by omega)) h6⟩, ⟨(out _ _ (by omega) (by omega)).trans h7, fun j hj => (out _ _ (by omega) (by omega)).trans (h8 j hj)⟩⟩, fun k j hk hs => out k j (by omega) (by omega)⟩
  · refine rdn (by omega) ?_
    rw [cpw22_row (by omega)]
    exact (rdr (by omega) (rdr (by omega) (rdr (by omega) (rdr (by omega) (rdr (by omega) (rdr (by omega) (mw_eq _ _ _ _))))))).trans h1.1.1
  · exact rdn (by omega) (((cpw22_fn f hf).1).trans (h1.2.1 f hf).1)
  · have hs2 : s < 2 ^ S.1.1 := hs
    exact rdn (by omega) (((cpw22_fn f hf).2 s (by omega)).trans ((h1.2.1 f hf).2.2 s hs))
  · refine rdn (by omega) ?_
    rw [cpw22_row (by omega), cpr22_r i hi, setr_in hj, h1.2.2 i hi]
    rfl
theorem sR_image {l : Launch} {E : Ev} {M : Mm} {S : As} (hI : ∀ k, k < 108 → k ∈ E.2.1) (h : RA M S) : Cm l E yX7_image cX7_image 2 (some .int) 2 [.ref (E.2.2.1 65)] M (hp (.int (nI (prs S.1.2.2.1))) (hR (sImage S) M)) := by
  refine Cm.imp (fun r m q => ?_) (c_X7_image (l := l) (M := M) hI h.1.1 h.1.2.1)
  obtain ⟨q1, rfl⟩ := q
  refine ⟨q1, ?_⟩
  have hp := p2_le6 h.1.1.2.2
  have out := imR_out (M := M)
  obtain ⟨h1, ⟨h2, h3⟩, h4, ⟨h5, h6⟩, ⟨h7, h8⟩⟩ := h
  refine ⟨⟨h1.eq (out _ _ (by omega) (by omega)) (fun k j _ _ => out k j (by omega) (by omega)), ⟨imR_f.1, fun _ => ⟨⟨⟨imR_f.2.trans h1.1.1, h1.1.2⟩, fun f hf => ⟨?_, (h1.2.1 f hf).2.1, fun t s hs => ?_⟩⟩, fun i hi j hj => ?_⟩⟩, h4.eq (fun k j _ _ => out k j (by omega) (by omega)), ⟨(out _ _ (by omega) (by omega)).trans h5, row_eq (fun j => out _ j (by omega) (by omega)) h6⟩, ⟨(out _ _ (by omega) (by omega)).trans h7, fun j hj => (out _ _ (by omega) (by omega)).trans (h8 j hj)⟩⟩, fun k j hk hs => out k j (by omega) (by omega)⟩
  · rw [imR_k, setr_in hf]; exact (h1.2.1 f hf).1
  · have hs2 : s < 2 ^ S.1.1 := hs
    rw [imR_v f hf, setr_in (by omega)]; exact (h1.2.1 f hf).2.2 t s hs
  · rw [imR_r i hi, setr_in hj, h1.2.2 i hi]; rfl
def bkW (W Ws : Wd) : Wd := (Ws.1, (fun i => setr (rsz i) (Ws.2.1 i) (W.2.1 i)), Ws.2.2)
noncomputable def sBack (S : As) : Wd := ifc (S.2.1.1 = 0) S.1 (bkW S.1 S.2.1.2)
theorem setr_p {n : Nat} {P : Int32 → Prop} {g r : Nat → Int32} (h : ∀ j, j < n → P (g j)) : ∀ j, j < n → P (setr n g r j) := fun j hj => by rw [setr_in hj]; exact h j hj
theorem gBack {S : As} (h : GA S) : GW (sBack S) := ifc_pr (fun _ => h.1) (fun c => by
  obtain ⟨h0, h1, d0, d1, d3, d4, d5⟩ := h.2.1 c
  exact ⟨h0, h1, setr_p (P := fun z => inR z 100) (n := 36) d0, setr_p (P := fun z => inR z 100) (n := 8) d1, setr_p (P := fun z => inR z 6) (n := 6) d3, setr_p (P := fun z => inR z 7) (n := 6) d4, setr_p (P := fun z => isB (-99) 99 z) (n := 6) d5⟩)
theorem sC_back {l : Launch} {E : Ev} {M : Mm} {S : As} (hI : ∀ k, k < 108 → k ∈ E.2.1) (h : CA M S) : Cm l E yX6_back cX6_back 1 (some .int) 3 [.ref (E.2.2.1 0)] M (hp (.int (A_back S.2.1.1 S.2.1.2.2.2.1)) (hC (sBack S, S.2) M)) := by
  have c := c_X6_back (l := l) (M := M) (n := S.2.1.2.1) (kd := S.2.1.2.2.2.1) (V := S.2.1.2.2.2.2) hI (fun q => (h.2.1.2 (by rw [← h.2.1.1]; exact q)).1)
  rw [h.2.1.1] at c
  refine hs_CI h (W := sBack S) ?_ c
  unfold sBack
  refine ifc_rel (R := CO M) (fun _ => CO.rf h.1) (fun c1 => ?_)
  have hv := h.2.1.2 c1
  refine ⟨⟨⟨?_, hv.1.1.2⟩, cpw1_F hv.1, fun i hi => ?_⟩, fun k j hs ho => cpw1_out k j ho⟩
  · rw [cpw1_row (by omega)]
    exact (rdr (by omega) (rdr (by omega) (rdr (by omega) (rdr (by omega) (rdr (by omega) (rdr (by omega) (mw_eq _ _ _ _))))))).trans hv.1.1.1
  · show _ = setr (rsz i) (S.2.1.2.2.1 i) (S.1.2.1 i)
    rw [cpw1_row (by omega), cpr1_r i hi, h.1.2.2 i hi]
    exact setr_congr (fun j hj => hv.2 i hi j hj)
theorem sR_back {l : Launch} {E : Ev} {M : Mm} {S : As} (hI : ∀ k, k < 108 → k ∈ E.2.1) (h : RA M S) : Cm l E yX7_back cX7_back 2 (some .int) 2 [.ref (E.2.2.1 65)] M (hp (.int (A_back S.2.1.1 S.2.1.2.2.2.1)) (hR (sBack S, S.2) M)) := by
  have c := c_X7_back (l := l) (M := M) (n := S.2.1.2.1) (kd := S.2.1.2.2.2.1) (V := S.2.1.2.2.2.2) hI (fun q => (h.2.1.2 (by rw [← h.2.1.1]; exact q)).1)
  rw [h.2.1.1] at c
  refine hs_RI h (W := sBack S) ?_ c
  unfold sBack
  refine ifc_rel (R := RO M) (fun _ => RO.rf h.1) (fun c1 => ?_)
  have hv := h.2.1.2 c1
  refine ⟨⟨⟨bkR_n.trans hv.1.1.1, hv.1.1.2⟩, bkR_F hv.1, fun i hi => ?_⟩, fun k j hs h0 ho => bkR_out k j ho h0⟩
  show _ = setr (rsz i) (S.2.1.2.2.1 i) (S.1.2.1 i)
  rw [bkR_r i hi, h.1.2.2 i hi]
  exact setr_congr (fun j hj => hv.2 i hi j hj)
/-! lists -/
abbrev Ls : Type := (Nat → Int32) × (Nat → Nat → Int32)
def setL (S : As) (T : Ls) : As := (S.1, S.2.1, T, S.2.2.2)
theorem CA_L {M m : Mm} {S : As} {T : Ls} (h : CA M S) (hT : CLs m T.1 T.2) (e : ∀ k j, k < 44 ∨ 51 < k → m k j = M k j) : hC (setL S T) M m := by
  obtain ⟨h1, ⟨h2, h3⟩, h4, ⟨h5, h6⟩, ⟨h7, h8⟩⟩ := h
  exact ⟨⟨h1.eq (fun k j _ _ _ => e k j (by omega)), ⟨(e _ _ (by omega)).trans h2, fun z => (h3 z).eq (fun k j _ _ _ => e k j (by omega))⟩, hT, ⟨(e _ _ (by omega)).trans h5, row_eq (fun j => e _ _ (by omega)) h6⟩, ⟨(e _ _ (by omega)).trans h7, fun j hj => (e _ _ (by omega)).trans (h8 j hj)⟩⟩, fun k j hk _ => e k j (by omega)⟩
theorem RA_L {M m : Mm} {S : As} {T : Ls} (h : RA M S) (hT : RLs m T.1 T.2) (e : ∀ k j, k < 87 ∨ k = 88 ∨ 92 < k → m k j = M k j) : hR (setL S T) M m := by
  obtain ⟨h1, ⟨h2, h3⟩, h4, ⟨h5, h6⟩, ⟨h7, h8⟩⟩ := h
  exact ⟨⟨h1.eq (e _ _ (by omega)) (fun k j _ _ => e k j (by omega)), ⟨(e _ _ (by omega)).trans h2, fun z => (h3 z).eq (e _ _ (by omega)) (fun k j _ _ => e k j (by omega))⟩, hT, ⟨(e _ _ (by omega)).trans h5, row_eq (fun j => e _ _ (by omega)) h6⟩, ⟨(e _ _ (by omega)).trans h7, fun j hj => (e _ _ (by omega)).trans (h8 j hj)⟩⟩, fun k j hk _ => e k j (by omega)⟩
noncomputable def tList (T : Ls) (a x : Int32) : Ls := ifc (inR a 4) (ifc (x ≤ 64) (ifc (0 ≤ x) (upd T.1 (tn a) x, fun i => if i = tn a then fun _ => 0 else T.2 i) T) T) T
noncomputable def tPut (T : Ls) (a i v : Int32) : Ls := ifc (inR a 4) (ifc (¬ T.1 (tn a) < 0) (ifc (inR i (tn (T.1 (tn a)))) (T.1, fun i' => if i' = tn a then upd (T.2 i') (tn i) v else T.2 i') T) T) T
theorem x65 {x : Int32} (h1 : x ≤ 64) (h2 : 0 ≤ x) : inR x 65 := by
  have a1 := Int32.le_iff_toInt_le.mp h1
  have a2 := Int32.le_iff_toInt_le.mp h2
  rw [show (64 : Int32).toInt = 64 by decide] at a1
  rw [show (0 : Int32).toInt = 0 by decide] at a2
  unfold inR; omega
theorem sC_list {l : Launch} {E : Ev} {M : Mm} {S : As} (hI : ∀ k, k < 108 → k ∈ E.2.1) (h : CA M S) {a x : Int32} : Cm l E yX6_list cX6_list 3 (some .int) 1 [.ref (E.2.2.1 0), .int a, .int x] M (hp (.int (A_list a x)) (hC (setL S (tList S.2.2.1 a x)) M)) := by
  refine Cm.imp (fun r m q => ?_) (c_X6_list (l := l) (M := M)  (a := a) (x := x) hI)
  obtain ⟨q1, rfl⟩ := q
  refine ⟨q1, ?_⟩
  unfold U_list tList
  exact ifc_rel (R := fun m T => hC (setL S T) M m) (fun c1 => ifc_rel (R := fun m T => hC (setL S T) M m) (fun c2 => ifc_rel (R := fun m T => hC (setL S T) M m) (fun c3 => CA_L h (by
      have ha := inR_lt c1
      intro i hi
      show mw (rset M (45 + 2 * tn a) _) (44 + 2 * tn a) 0 x (44 + 2 * i) 0 = upd S.2.2.1.1 (tn a) x i ∧ (upd S.2.2.1.1 (tn a) x i < 0 → upd S.2.2.1.1 (tn a) x i = -1) ∧ (¬ upd S.2.2.1.1 (tn a) x i < 0 → inR (upd S.2.2.1.1 (tn a) x i) 65) ∧ ∀ j, j < 64 → mw (rset M (45 + 2 * tn a) _) (44 + 2 * tn a) 0 x (45 + 2 * i) j = (if i = tn a then fun _ => 0 else S.2.2.1.2 i) j
      obtain ⟨b1, b2, b3, b4⟩ := h.2.2.1 i hi
      by_cases e : i = tn a
      · subst e
        rw [pk_us, if_pos rfl]
        exact ⟨mw_eq _ _ _ _, fun z => absurd c3 (Int32.not_le.mpr z), fun _ => x65 c2 c3, fun j hj => rdn (by omega) ((congrFun (rset_eq _ _ _) _).trans (setr_in hj))⟩
      · rw [pk_un e, if_neg e]
        exact ⟨rdn (by omega) (rdr (by omega) b1), b2, b3, fun j hj => rdn (by omega) (rdr (by omega) (b4 j hj))⟩) (fun k j hk => by have := inR_lt c1; exact rdn (by omega) (rdr (by omega) rfl))) (fun _ => CA_L (T := S.2.2.1) h h.2.2.1 (fun _ _ _ => rfl))) (fun _ => CA_L (T := S.2.2.1) h h.2.2.1 (fun _ _ _ => rfl))) (fun _ => CA_L (T := S.2.2.1) h h.2.2.1 (fun _ _ _ => rfl))
theorem sR_list {l : Launch} {E : Ev} {M : Mm} {S : As} (hI : ∀ k, k < 108 → k ∈ E.2.1) (h : RA M S) {a x : Int32} : Cm l E yX7_list cX7_list 4 (some .int) 2 [.ref (E.2.2.1 65), .int a, .int x] M (hp (.int (A_list a x)) (hR (setL S (tList S.2.2.1 a x)) M)) := by
  refine Cm.imp (fun r m q => ?_) (c_X7_list (l := l) (M := M)  (a := a) (x := x) hI)
  obtain ⟨q1, rfl⟩ := q
  refine ⟨q1, ?_⟩
  unfold U_list tList
  exact ifc_rel (R := fun m T => hR (setL S T) M m) (fun c1 => ifc_rel (R := fun m T => hR (setL S T) M m) (fun c2 => ifc_rel (R := fun m T => hR (setL S T) M m) (fun c3 => RA_L h (by
      have ha := inR_lt c1
      intro i hi
      show rset (mw M 87 (tn a) x) (89 + tn a) _ 87 i = upd S.2.2.1.1 (tn a) x i ∧ (upd S.2.2.1.1 (tn a) x i < 0 → upd S.2.2.1.1 (tn a) x i = -1) ∧ (¬ upd S.2.2.1.1 (tn a) x i < 0 → inR (upd S.2.2.1.1 (tn a) x i) 65) ∧ ∀ j, j < 64 → rset (mw M 87 (tn a) x) (89 + tn a) _ (89 + i) j = (if i = tn a then fun _ => 0 else S.2.2.1.2 i) j
      obtain ⟨b1, b2, b3, b4⟩ := h.2.2.1 i hi
      by_cases e : i = tn a
      · subst e
        rw [pk_us, if_pos rfl]
        exact ⟨rdr (by omega) (mw_eq _ _ _ _), fun z => absurd c3 (Int32.not_le.mpr z), fun _ => x65 c2 c3, fun j hj => (congrFun (rset_eq _ _ _) _).trans (setr_in hj)⟩
      · rw [pk_un e, if_neg e]
        exact ⟨rdr (by omega) (rdj e b1), b2, b3, fun j hj => rdr (by omega) (rdn (by omega) (b4 j hj))⟩) (fun k j hk => by have := inR_lt c1; exact rdr (by omega) (rdn (by omega) rfl))) (fun _ => RA_L (T := S.2.2.1) h h.2.2.1 (fun _ _ _ => rfl))) (fun _ => RA_L (T := S.2.2.1) h h.2.2.1 (fun _ _ _ => rfl))) (fun _ => RA_L (T := S.2.2.1) h h.2.2.1 (fun _ _ _ => rfl))
theorem sC_put {l : Launch} {E : Ev} {M : Mm} {S : As} (hI : ∀ k, k < 108 → k ∈ E.2.1) (h : CA M S) {a i v : Int32} : Cm l E yX6_put cX6_put 4 (some .int) 1 [.ref (E.2.2.1 0), .int a, .int i, .int v] M (hp (.int (A_put S.2.2.1.1 a i)) (hC (setL S (tPut S.2.2.1 a i v)) M)) := by
  refine Cm.imp (fun r m q => ?_) (c_X6_put (l := l) (M := M)  (a := a) (i := i) (v := v) hI h.2.2.1)
  obtain ⟨q1, rfl⟩ := q
  refine ⟨q1, ?_⟩
  unfold U_put tPut
  exact ifc_rel (R := fun m T => hC (setL S T) M m) (fun c1 => ifc_rel (R := fun m T => hC (setL S T) M m) (fun c2 => ifc_rel (R := fun m T => hC (setL S T) M m) (fun c3 => CA_L h (by
      have ha := inR_lt c1
      intro q hq
      show mw M (45 + 2 * tn a) (tn i) v (44 + 2 * q) 0 = S.2.2.1.1 q ∧ (S.2.2.1.1 q < 0 → S.2.2.1.1 q = -1) ∧ (¬ S.2.2.1.1 q < 0 → inR (S.2.2.1.1 q) 65) ∧ ∀ j, j < 64 → mw M (45 + 2 * tn a) (tn i) v (45 + 2 * q) j = (if q = tn a then upd (S.2.2.1.2 q) (tn i) v else S.2.2.1.2 q) j
      obtain ⟨b1, b2, b3, b4⟩ := h.2.2.1 q hq
      refine ⟨rdn (by omega) b1, b2, b3, fun j hj => ?_⟩
      by_cases e : q = tn a
      · subst e
        rw [if_pos rfl]
        by_cases f : j = tn i
        · subst f; rw [pk_us]; exact mw_eq _ _ _ _
        · rw [pk_un f]; exact rdj f (b4 j hj)
      · rw [if_neg e]; exact rdn (by omega) (b4 j hj)) (fun k j hk => by have := inR_lt c1; exact rdn (by omega) rfl)) (fun _ => CA_L (T := S.2.2.1) h h.2.2.1 (fun _ _ _ => rfl))) (fun _ => CA_L (T := S.2.2.1) h h.2.2.1 (fun _ _ _ => rfl))) (fun _ => CA_L (T := S.2.2.1) h h.2.2.1 (fun _ _ _ => rfl))
theorem sR_put {l : Launch} {E : Ev} {M : Mm} {S : As} (hI : ∀ k, k < 108 → k ∈ E.2.1) (h : RA M S) {a i v : Int32} : Cm l E yX7_put cX7_put 4 (some .int) 2 [.ref (E.2.2.1 65), .int a, .int i, .int v] M (hp (.int (A_put S.2.2.1.1 a i)) (hR (setL S (tPut S.2.2.1 a i v)) M)) := by
  refine Cm.imp (fun r m q => ?_) (c_X7_put (l := l) (M := M)  (a := a) (i := i) (v := v) hI h.2.2.1)
  obtain ⟨q1, rfl⟩ := q
  refine ⟨q1, ?_⟩
  unfold U_put tPut
  exact ifc_rel (R := fun m T => hR (setL S T) M m) (fun c1 => ifc_rel (R := fun m T => hR (setL S T) M m) (fun c2 => ifc_rel (R := fun m T => hR (setL S T) M m) (fun c3 => RA_L h (by
      have ha := inR_lt c1
      intro q hq
      show mw M (89 + tn a) (tn i) v 87 q = S.2.2.1.1 q ∧ (S.2.2.1.1 q < 0 → S.2.2.1.1 q = -1) ∧ (¬ S.2.2.1.1 q < 0 → inR (S.2.2.1.1 q) 65) ∧ ∀ j, j < 64 → mw M (89 + tn a) (tn i) v (89 + q) j = (if q = tn a then upd (S.2.2.1.2 q) (tn i) v else S.2.2.1.2 q) j
      obtain ⟨b1, b2, b3, b4⟩ := h.2.2.1 q hq
      refine ⟨rdn (by omega) b1, b2, b3, fun j hj => ?_⟩
      by_cases e : q = tn a
      · subst e
        rw [if_pos rfl]
        by_cases f : j = tn i
        · subst f; rw [pk_us]; exact mw_eq _ _ _ _
        · rw [pk_un f]; exact rdj f (b4 j hj)
      · rw [if_neg e]; exact rdn (by omega) (b4 j hj)) (fun k j hk => by have := inR_lt c1; exact rdn (by omega) rfl)) (fun _ => RA_L (T := S.2.2.1) h h.2.2.1 (fun _ _ _ => rfl))) (fun _ => RA_L (T := S.2.2.1) h h.2.2.1 (fun _ _ _ => rfl))) (fun _ => RA_L (T := S.2.2.1) h h.2.2.1 (fun _ _ _ => rfl))
/-! tape and paper -/
abbrev Tx : Type := Nat × (Nat → Int32)
def setT (S : As) (T : Tx) : As := (S.1, S.2.1, S.2.2.1, T, S.2.2.2.2)
def setP (S : As) (T : Tx) : As := (S.1, S.2.1, S.2.2.1, S.2.2.2.1, T)
theorem CA_T {M m : Mm} {S : As} {T : Tx} (h : CA M S) (h1' : m 52 0 = nI T.1) (h2' : m 55 = T.2) (e : ∀ k j, ¬ scrT k j → ¬ (k = 52 ∧ j = 0) → ¬ k = 55 → m k j = M k j) : hC (setT S T) M m := by
  obtain ⟨h1, ⟨h2, h3⟩, h4, ⟨h5, h6⟩, ⟨h7, h8⟩⟩ := h
  exact ⟨⟨h1.eq (fun k j _ _ _ => e k j (by unfold scrT scr; omega) (by omega) (by omega)), ⟨(e _ _ (by unfold scrT scr; omega) (by omega) (by omega)).trans h2, fun z => (h3 z).eq (fun k j _ _ _ => e k j (by unfold scrT scr; omega) (by omega) (by omega))⟩, h4.eq (fun k j _ _ => e k j (by unfold scrT scr; omega) (by omega) (by omega)), ⟨h1', h2'⟩, ⟨(e _ _ (by unfold scrT scr; omega) (by omega) (by omega)).trans h7, fun j hj => (e _ _ (by unfold scrT scr; omega) (by omega) (by omega)).trans (h8 j hj)⟩⟩, fun k j hk hs => e k j hs (by omega) (by omega)⟩
theorem RA_T {M m : Mm} {S : As} {T : Tx} (h : RA M S) (h1' : m 65 14 = nI T.1) (h2' : m 83 = T.2) (e : ∀ k j, ¬ scrT k j → ¬ (k = 65 ∧ j = 14) → ¬ k = 83 → m k j = M k j) : hR (setT S T) M m := by
  obtain ⟨h1, ⟨h2, h3⟩, h4, ⟨h5, h6⟩, ⟨h7, h8⟩⟩ := h
  exact ⟨⟨h1.eq (e _ _ (by unfold scrT scr; omega) (by omega) (by omega)) (fun k j _ _ => e k j (by unfold scrT scr; omega) (by omega) (by omega)), ⟨(e _ _ (by unfold scrT scr; omega) (by omega) (by omega)).trans h2, fun z => (h3 z).eq (e _ _ (by unfold scrT scr; omega) (by omega) (by omega)) (fun k j _ _ => e k j (by unfold scrT scr; omega) (by omega) (by omega))⟩, h4.eq (fun k j _ _ => e k j (by unfold scrT scr; omega) (by omega) (by omega)), ⟨h1', h2'⟩, ⟨(e _ _ (by unfold scrT scr; omega) (by omega) (by omega)).trans h7, fun j hj => (e _ _ (by unfold scrT scr; omega) (by omega) (by omega)).trans (h8 j hj)⟩⟩, fun k j hk hs => e k j hs (by omega) (by omega)⟩
theorem CA_P {M m : Mm} {S : As} {T : Tx} (h : CA M S) (h1' : m 56 0 = nI T.1) (h2' : ∀ j, j < T.1 → m 57 j = T.2 j) (e : ∀ k j, ¬ (k = 56 ∧ j = 0) → ¬ k = 57 → m k j = M k j) : hC (setP S T) M m := by
  obtain ⟨h1, ⟨h2, h3⟩, h4, ⟨h5, h6⟩, ⟨h7, h8⟩⟩ := h
  exact ⟨⟨h1.eq (fun k j _ _ _ => e k j (by omega) (by omega)), ⟨(e _ _ (by omega) (by omega)).trans h2, fun z => (h3 z).eq (fun k j _ _ _ => e k j (by omega) (by omega))⟩, h4.eq (fun k j _ _ => e k j (by omega) (by omega)), ⟨(e _ _ (by omega) (by omega)).trans h5, row_eq (fun j => e _ _ (by omega) (by omega)) h6⟩, ⟨h1', h2'⟩⟩, fun k j hk hs => e k j (by omega) (by omega)⟩
theorem RA_P {M m : Mm} {S : As} {T : Tx} (h : RA M S) (h1' : m 65 20 = nI T.1) (h2' : ∀ j, j < T.1 → m 86 j = T.2 j) (e : ∀ k j, ¬ (k = 65 ∧ j = 20) → ¬ k = 86 → m k j = M k j) : hR (setP S T) M m := by
  obtain ⟨h1, ⟨h2, h3⟩, h4, ⟨h5, h6⟩, ⟨h7, h8⟩⟩ := h
  exact ⟨⟨h1.eq (e _ _ (by omega) (by omega)) (fun k j _ _ => e k j (by omega) (by omega)), ⟨(e _ _ (by omega) (by omega)).trans h2, fun z => (h3 z).eq (e _ _ (by omega) (by omega)) (fun k j _ _ => e k j (by omega) (by omega))⟩, h4.eq (fun k j _ _ => e k j (by omega) (by omega)), ⟨(e _ _ (by omega) (by omega)).trans h5, row_eq (fun j => e _ _ (by omega) (by omega)) h6⟩, ⟨h1', h2'⟩⟩, fun k j hk hs => e k j (by omega) (by omega)⟩
noncomputable def tFeed (T : Tx) (x : Int32) : Tx := ifc (isB 1 127 x) (ifc (T.1 < 100) (T.1 + 1, upd T.2 T.1 x) T) T
noncomputable def tWrite (S : As) (f : Int32) : Tx := ifc (inR f 6) (ifc (¬ S.1.2.2.1 (tn f) < 0) (0 + (txt (S.1.2.2.2 (tn f)) (2 ^ S.1.1)).length, wrl (txt (S.1.2.2.2 (tn f)) (2 ^ S.1.1)) 0 (fun _ => 0)) S.2.2.2.2) S.2.2.2.2
theorem gFeed {S : As} {x : Int32} (h : GA S) : GA (setT S (tFeed S.2.2.2.1 x)) := ⟨h.1, h.2.1, ifc_pr (R := fun T : Tx => T.1 ≤ 100) (fun _ => ifc_pr (R := fun T : Tx => T.1 ≤ 100) (fun c => c) (fun _ => h.2.2.1)) (fun _ => h.2.2.1), h.2.2.2⟩
theorem gWrite {S : As} {f : Int32} (h : GA S) : GA (setP S (tWrite S f)) := ⟨h.1, h.2.1, h.2.2.1, ifc_pr (R := fun T : Tx => T.1 ≤ 511) (fun _ => ifc_pr (R := fun T : Tx => T.1 ≤ 511) (fun c => by
  have h1 := txt_len (S.1.2.2.2 (tn f)) (2 ^ S.1.1)
  have h2 := p2_le6 h.1.1.2
  show 0 + (txt (S.1.2.2.2 (tn f)) (2 ^ S.1.1)).length ≤ 511
  omega) (fun _ => h.2.2.2)) (fun _ => h.2.2.2)⟩
theorem sC_feed {l : Launch} {E : Ev} {M : Mm} {S : As} (hI : ∀ k, k < 108 → k ∈ E.2.1) (h : CA M S) (hg : GA S) {x : Int32} : Cm l E yX6_feed cX6_feed 2 (some .int) 2 [.ref (E.2.2.1 0), .int x] M (hp (.int (A_feed S.2.2.2.1.1 x)) (hC (setT S (tFeed S.2.2.2.1 x)) M)) := by
  refine Cm.imp (fun r m q => ?_) (c_X6_feed (l := l) (M := M) (x := x) hI h.2.2.2.1.1 hg.2.2.1)
  obtain ⟨q1, rfl⟩ := q
  refine ⟨q1, ?_⟩
  unfold U_feed tFeed
  have rf : hC (setT S S.2.2.2.1) M M := CA_T h h.2.2.2.1.1 h.2.2.2.1.2 (fun _ _ _ _ _ => rfl)
  refine ifc_rel (R := fun m T => hC (setT S T) M m) (fun c1 => ifc_rel (R := fun m T => hC (setT S T) M m) (fun c2 => ?_) (fun _ => rf)) (fun _ => rf)
  refine CA_T h (mw_eq _ _ _ _) ?_ (fun k j hs h1 h2 => ?_)
  · rw [mw_nk _ _ _ (by omega), mw_row, h.2.2.2.1.2]
  · by_cases e : k = 52
    · subst e; exact rdj (by omega) (rdn (by omega) rfl)
    · exact rdn e (rdn h2 rfl)
theorem sR_feed {l : Launch} {E : Ev} {M : Mm} {S : As} (hI : ∀ k, k < 108 → k ∈ E.2.1) (h : RA M S) (hg : GA S) {x : Int32} : Cm l E yX7_feed cX7_feed 2 (some .int) 1 [.ref (E.2.2.1 65), .int x] M (hp (.int (A_feed S.2.2.2.1.1 x)) (hR (setT S (tFeed S.2.2.2.1 x)) M)) := by
  refine Cm.imp (fun r m q => ?_) (c_X7_feed (l := l) (M := M) (x := x) hI h.2.2.2.1.1 hg.2.2.1)
  obtain ⟨q1, rfl⟩ := q
  refine ⟨q1, ?_⟩
  unfold U_feed tFeed
  have rf : hR (setT S S.2.2.2.1) M M := RA_T h h.2.2.2.1.1 h.2.2.2.1.2 (fun _ _ _ _ _ => rfl)
  refine ifc_rel (R := fun m T => hR (setT S T) M m) (fun c1 => ifc_rel (R := fun m T => hR (setT S T) M m) (fun c2 => ?_) (fun _ => rf)) (fun _ => rf)
  refine RA_T h (mw_eq _ _ _ _) ?_ (fun k j hs h1 h2 => ?_)
  · rw [mw_nk _ _ _ (by omega), mw_row, h.2.2.2.1.2]
  · by_cases e : k = 65
    · subst e; exact rdj (by omega) (rdn (by omega) rfl)
    · exact rdn e (rdn h2 rfl)
theorem sC_write {l : Launch} {E : Ev} {M : Mm} {S : As} (hI : ∀ k, k < 108 → k ∈ E.2.1) (h : CA M S) (hg : GA S) {f : Int32} : Cm l E yX6_write cX6_write 4 (some .int) 3 [.ref (E.2.2.1 0), .int f] M (hp (.int (A_write (nI (0 + (txt (S.1.2.2.2 (tn f)) (2 ^ S.1.1)).length)) S.1.2.2.1 f)) (hC (setP S (tWrite S f)) M)) := by
  refine Cm.imp (fun r m q => ?_) (c_X6_write (l := l) (M := M) (f := f) hI h.1.1 h.1.2.1 (fun f hf s hs => (hg.1.2.1 f hf).2.2 s hs))
  obtain ⟨q1, rfl⟩ := q
  refine ⟨q1, ?_⟩
  unfold U_write tWrite
  have rf : hC (setP S S.2.2.2.2) M M := CA_P h h.2.2.2.2.1 h.2.2.2.2.2 (fun _ _ _ _ => rfl)
  refine ifc_rel (R := fun m T => hC (setP S T) M m) (fun c1 => ifc_rel (R := fun m T => hC (setP S T) M m) (fun c2 => ?_) (fun _ => rf)) (fun _ => rf)
  refine CA_P h (mw_eq _ _ _ _) (fun j hj => ?_) (fun k j h1 h2 => ?_)
  · exact (rdn (by omega) (congrFun (rset_eq _ _ _) _)).trans (wrl_in _ _ _ _ j (Nat.zero_le _) hj)
  · by_cases e : k = 56
    · subst e; exact rdj (by omega) (rdr (by omega) rfl)
    · exact rdn e (rdr h2 rfl)
theorem sR_write {l : Launch} {E : Ev} {M : Mm} {S : As} (hI : ∀ k, k < 108 → k ∈ E.2.1) (h : RA M S) (hg : GA S) {f : Int32} : Cm l E yX7_write cX7_write 3 (some .int) 7 [.ref (E.2.2.1 65), .int f] M (hp (.int (A_write (nI (0 + (txt (S.1.2.2.2 (tn f)) (2 ^ S.1.1)).length)) S.1.2.2.1 f)) (hR (setP S (tWrite S f)) M)) := by
  refine Cm.imp (fun r m q => ?_) (c_X7_write (l := l) (M := M) (f := f) hI h.1.1 h.1.2.1 (fun f hf s hs => (hg.1.2.1 f hf).2.2 s hs))
  obtain ⟨q1, rfl⟩ := q
  refine ⟨q1, ?_⟩
  unfold U_write tWrite
  have rf : hR (setP S S.2.2.2.2) M M := RA_P h h.2.2.2.2.1 h.2.2.2.2.2 (fun _ _ _ _ => rfl)
  refine ifc_rel (R := fun m T => hR (setP S T) M m) (fun c1 => ifc_rel (R := fun m T => hR (setP S T) M m) (fun c2 => ?_) (fun _ => rf)) (fun _ => rf)
  refine RA_P h (mw_eq _ _ _ _) (fun j hj => ?_) (fun k j h1 h2 => ?_)
  · exact (rdn (by omega) (congrFun (rset_eq _ _ _) _)).trans (wrl_in _ _ _ _ j (Nat.zero_le _) hj)
  · by_cases e : k = 65
    · subst e; exact rdj (by omega) (rdr (by omega) rfl)
    · exact rdn e (rdr h2 rfl)
