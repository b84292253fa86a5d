theorem Cm.imp {l : Launch} {E : Ev} {y : MethodName} {cc : ByteArray} {maxL : Nat} {ret : Option FieldType} {d : Nat} {as : List Value} {M : Mm} {P P' : Option Value → Mm → Prop} (h : ∀ r m, P r m → P' r m) (hC : Cm l E y cc maxL ret d as M P) : Cm l E y cc maxL ret d as M P' := fun p e h1 h2 h3 s m args below h4 h5 h6 h7 => by
  obtain ⟨n, o, a1, a2, a3, ⟨⟨r, M', e1, e2, e3⟩, e4⟩, e5⟩ := hC p e h1 h2 h3 s m args below h4 h5 h6 h7
  exact ⟨n, o, a1, a2, a3, ⟨⟨r, M', e1, h r M' e2, e3⟩, e4⟩, e5⟩
/-- elements, data rows, kinds, values -/
abbrev Wd : Type := Nat × (Nat → Nat → Int32) × (Nat → Int32) × (Nat → Nat → Int32)
/-- the world, the image, lists, tape, paper -/
abbrev As : Type := Wd × (Int32 × Wd) × ((Nat → Int32) × (Nat → Nat → Int32)) × (Nat × (Nat → Int32)) × (Nat × (Nat → Int32))
def rsz (i : Nat) : Nat := [36, 8, 8, 6, 6, 6].getD i 0
def CW (M : Mm) (W : Wd) : Prop := Cn M W.1 ∧ CFn M W.1 W.2.2.1 W.2.2.2 ∧ ∀ i, i < 6 → M (2 + i) = W.2.1 i
def RW (M : Mm) (W : Wd) : Prop := Rn M W.1 ∧ RFn M W.1 W.2.2.1 W.2.2.2 ∧ ∀ i, i < 6 → M (66 + i) = W.2.1 i
def CV (M : Mm) (W : Wd) : Prop := CSv M W.1 W.2.2.1 W.2.2.2 ∧ ∀ i, i < 6 → ∀ j, j < rsz i → M (23 + i) j = W.2.1 i j
def RV (M : Mm) (W : Wd) : Prop := RSv M W.1 W.2.2.1 W.2.2.2 ∧ ∀ i, i < 6 → ∀ j, j < rsz i → M (94 + i) j = W.2.1 i j
def CA (M : Mm) (S : As) : Prop := CW M S.1 ∧ (M 0 2 = S.2.1.1 ∧ (¬ S.2.1.1 = 0 → CV M S.2.1.2)) ∧ CLs M S.2.2.1.1 S.2.2.1.2 ∧ (M 52 0 = nI S.2.2.2.1.1 ∧ M 55 = S.2.2.2.1.2) ∧ (M 56 0 = nI S.2.2.2.2.1 ∧ ∀ j, j < S.2.2.2.2.1 → M 57 j = S.2.2.2.2.2 j)
def RA (M : Mm) (S : As) : Prop := RW M S.1 ∧ (M 65 23 = S.2.1.1 ∧ (¬ S.2.1.1 = 0 → RV M S.2.1.2)) ∧ RLs M S.2.2.1.1 S.2.2.1.2 ∧ (M 65 14 = nI S.2.2.2.1.1 ∧ M 83 = S.2.2.2.1.2) ∧ (M 65 20 = nI S.2.2.2.2.1 ∧ ∀ j, j < S.2.2.2.2.1 → M 86 j = S.2.2.2.2.2 j)
def GV (n : Nat) (kd : Nat → Int32) (V : Nat → Nat → Int32) : Prop := ∀ f, f < 6 → (¬ kd f < 0 → inR (kd f) 6) ∧ (kd f < 0 → ∀ s, s < 2 ^ n → V f s = 0) ∧ ∀ s, s < 2 ^ n → isV (V f s)
def GD (D : Nat → Nat → Int32) : Prop := (∀ j, j < 36 → inR (D 0 j) 100) ∧ (∀ j, j < 8 → inR (D 1 j) 100) ∧ (∀ j, j < 6 → inR (D 3 j) 6) ∧ (∀ j, j < 6 → inR (D 4 j) 7) ∧ ∀ j, j < 6 → isB (-99) 99 (D 5 j)
def GW (W : Wd) : Prop := (1 ≤ W.1 ∧ W.1 ≤ 6) ∧ GV W.1 W.2.2.1 W.2.2.2 ∧ GD W.2.1
def GA (S : As) : Prop := GW S.1 ∧ (¬ S.2.1.1 = 0 → GW S.2.1.2) ∧ S.2.2.2.1.1 ≤ 100 ∧ S.2.2.2.2.1 ≤ 511
def FR (M m : Mm) : Prop := ∀ k j, 65 ≤ k → ¬ scrT k j → m k j = M k j
def FC (M m : Mm) : Prop := ∀ k j, k < 65 → ¬ scrT k j → m k j = M k j
def hp (a : Value) (P : Mm → Prop) : Option Value → Mm → Prop := fun r m => r = some a ∧ P m
def hC (S : As) (M : Mm) : Mm → Prop := fun m => CA m S ∧ FR M m
def hR (S : As) (M : Mm) : Mm → Prop := fun m => RA m S ∧ FC M m
/-- outside of the world nothing has changed but scratch -/
def OutC (M m : Mm) : Prop := ∀ k j, ¬ scr k j → (k < 1 ∨ 21 < k) → m k j = M k j
def OutR (M m : Mm) : Prop := ∀ k j, ¬ scr k j → ¬ (k = 65 ∧ j = 0) → (k < 66 ∨ 79 < k) → m k j = M k j
def CO (M m : Mm) (W : Wd) : Prop := CW m W ∧ OutC M m
def RO (M m : Mm) (W : Wd) : Prop := RW m W ∧ OutR M m
theorem row_eq {M m : Mm} {k : Nat} {r : Nat → Int32} (h : ∀ j, m k j = M k j) (e : M k = r) : m k = r := by rw [← e]; exact funext h
theorem CLs.eq {M m : Mm} {ln : Nat → Int32} {L : Nat → Nat → Int32} (h : CLs M ln L) (e : ∀ k j, 44 ≤ k → k ≤ 51 → m k j = M k j) : CLs m ln L := fun i hi => by
  obtain ⟨h1, h2, h3, h4⟩ := h i hi
  exact ⟨(e _ _ (by omega) (by omega)).trans h1, h2, h3, fun j hj => (e _ _ (by omega) (by omega)).trans (h4 j hj)⟩
theorem RLs.eq {M m : Mm} {ln : Nat → Int32} {L : Nat → Nat → Int32} (h : RLs M ln L) (e : ∀ k j, 87 ≤ k → k ≤ 92 → m k j = M k j) : RLs m ln L := fun i hi => by
  obtain ⟨h1, h2, h3, h4⟩ := h i hi
  exact ⟨(e _ _ (by omega) (by omega)).trans h1, h2, h3, fun j hj => (e _ _ (by omega) (by omega)).trans (h4 j hj)⟩
theorem CV.eq {M m : Mm} {W : Wd} (h : CV M W) (e : ∀ k j, 22 ≤ k → k ≤ 42 → ¬ k = 30 → m k j = M k j) : CV m W := by
  obtain ⟨⟨⟨h1, h2⟩, h3⟩, h4⟩ := h
  exact ⟨⟨⟨(e _ _ (by omega) (by omega) (by omega)).trans h1, h2⟩, fun f hf => ⟨(e _ _ (by omega) (by omega) (by omega)).trans (h3 f hf).1, (h3 f hf).2.1, fun s hs => (e _ _ (by omega) (by omega) (by omega)).trans ((h3 f hf).2.2 s hs)⟩⟩, fun i hi j hj => (e _ _ (by omega) (by omega) (by omega)).trans (h4 i hi j hj)⟩
theorem RV.eq {M m : Mm} {W : Wd} (h : RV M W) (e0 : m 65 24 = M 65 24) (e : ∀ k j, 94 ≤ k → k ≤ 107 → m k j = M k j) : RV m W := by
  obtain ⟨⟨⟨h1, h2⟩, h3⟩, h4⟩ := h
  exact ⟨⟨⟨e0.trans h1, h2⟩, fun f hf => ⟨(e _ _ (by omega) (by omega)).trans (h3 f hf).1, (h3 f hf).2.1, fun t s hs => (e _ _ (by omega) (by omega)).trans ((h3 f hf).2.2 t s hs)⟩⟩, fun i hi j hj => (e _ _ (by omega) (by omega)).trans (h4 i hi j hj)⟩
theorem CW.eq {M m : Mm} {W : Wd} (h : CW M W) (e : ∀ k j, 1 ≤ k → k ≤ 21 → ¬ k = 9 → m k j = M k j) : CW m W :=
  ⟨⟨(e _ _ (by omega) (by omega) (by omega)).trans h.1.1, h.1.2⟩, fun f hf => ⟨(e _ _ (by omega) (by omega) (by omega)).trans (h.2.1 f hf).1, (h.2.1 f hf).2.1, fun s hs => (e _ _ (by omega) (by omega) (by omega)).trans ((h.2.1 f hf).2.2 s hs)⟩, fun i hi => row_eq (fun j => e _ _ (by omega) (by omega) (by omega)) (h.2.2 i hi)⟩
theorem RW.eq {M m : Mm} {W : Wd} (h : RW M W) (e0 : m 65 0 = M 65 0) (e : ∀ k j, 66 ≤ k → k ≤ 79 → m k j = M k j) : RW m W :=
  ⟨⟨e0.trans h.1.1, h.1.2⟩, fun f hf => ⟨(e _ _ (by omega) (by omega)).trans (h.2.1 f hf).1, (h.2.1 f hf).2.1, fun t s hs => (e _ _ (by omega) (by omega)).trans ((h.2.1 f hf).2.2 t s hs)⟩, fun i hi => row_eq (fun j => e _ _ (by omega) (by omega)) (h.2.2 i hi)⟩
theorem CA.fc {M m : Mm} {S : As} (h : CA M S) (e : FC M m) : CA m S := by
  obtain ⟨h1, ⟨h2, h3⟩, h4, ⟨h5, h6⟩, ⟨h7, h8⟩⟩ := h
  refine ⟨h1.eq (fun k j _ _ _ => e k j (by omega) (by unfold scrT scr; omega)), ⟨(e _ _ (by omega) (by unfold scrT scr; omega)).trans h2, fun z => (h3 z).eq (fun k j _ _ _ => e k j (by omega) (by unfold scrT scr; omega))⟩, h4.eq (fun k j _ _ => e k j (by omega) (by unfold scrT scr; omega)), ⟨(e _ _ (by omega) (by unfold scrT scr; omega)).trans h5, row_eq (fun j => e _ _ (by omega) (by unfold scrT scr; omega)) h6⟩, ⟨(e _ _ (by omega) (by unfold scrT scr; omega)).trans h7, fun j hj => (e _ _ (by omega) (by unfold scrT scr; omega)).trans (h8 j hj)⟩⟩
theorem RA.fr {M m : Mm} {S : As} (h : RA M S) (e : FR M m) : RA m S := by
  obtain ⟨h1, ⟨h2, h3⟩, h4, ⟨h5, h6⟩, ⟨h7, h8⟩⟩ := h
  refine ⟨h1.eq (e _ _ (by omega) (by unfold scrT scr; omega)) (fun k j _ _ => e k j (by omega) (by unfold scrT scr; omega)), ⟨(e _ _ (by omega) (by unfold scrT scr; omega)).trans h2, fun z => (h3 z).eq (e _ _ (by omega) (by unfold scrT scr; omega)) (fun k j _ _ => e k j (by omega) (by unfold scrT scr; omega))⟩, h4.eq (fun k j _ _ => e k j (by omega) (by unfold scrT scr; omega)), ⟨(e _ _ (by omega) (by unfold scrT scr; omega)).trans h5, row_eq (fun j => e _ _ (by omega) (by unfold scrT scr; omega)) h6⟩, ⟨(e _ _ (by omega) (by unfold scrT scr; omega)).trans h7, fun j hj => (e _ _ (by omega) (by unfold scrT scr; omega)).trans (h8 j hj)⟩⟩
theorem CA_W {M m : Mm} {S : As} {W : Wd} (h : CA M S) (c : CO M m W) : hC (W, S.2) M m := by
  obtain ⟨h1, ⟨h2, h3⟩, h4, ⟨h5, h6⟩, ⟨h7, h8⟩⟩ := h
  obtain ⟨c1, e⟩ := c
  exact ⟨⟨c1, ⟨(e _ _ (by unfold scr; omega) (by omega)).trans h2, fun z => (h3 z).eq (fun k j _ _ _ => e k j (by unfold scr; omega) (by omega))⟩, h4.eq (fun k j _ _ => e k j (by unfold scr; omega) (by omega)), ⟨(e _ _ (by unfold scr; omega) (by omega)).trans h5, row_eq (fun j => e _ _ (by unfold scr; omega) (by omega)) h6⟩, ⟨(e _ _ (by unfold scr; omega) (by omega)).trans h7, fun j hj => (e _ _ (by unfold scr; omega) (by omega)).trans (h8 j hj)⟩⟩, fun k j hk hs => e k j (fun z => hs (Or.inl z)) (by omega)⟩
theorem RA_W {M m : Mm} {S : As} {W : Wd} (h : RA M S) (c : RO M m W) : hR (W, S.2) M m := by
  obtain ⟨h1, ⟨h2, h3⟩, h4, ⟨h5, h6⟩, ⟨h7, h8⟩⟩ := h
  obtain ⟨c1, e⟩ := c
  exact ⟨⟨c1, ⟨(e _ _ (by unfold scr; omega) (by omega) (by omega)).trans h2, fun z => (h3 z).eq (e _ _ (by unfold scr; omega) (by omega) (by omega)) (fun k j _ _ => e k j (by unfold scr; omega) (by omega) (by omega))⟩, h4.eq (fun k j _ _ => e k j (by unfold scr; omega) (by omega) (by omega)), ⟨(e _ _ (by unfold scr; omega) (by omega) (by omega)).trans h5, row_eq (fun j => e _ _ (by unfold scr; omega) (by omega) (by omega)) h6⟩, ⟨(e _ _ (by unfold scr; omega) (by omega) (by omega)).trans h7, fun j hj => (e _ _ (by unfold scr; omega) (by omega) (by omega)).trans (h8 j hj)⟩⟩, fun k j hk hs => e k j (fun z => hs (Or.inl z)) (by omega) (by omega)⟩
theorem CO.rf {M : Mm} {W : Wd} (h : CW M W) : CO M M W := ⟨h, fun _ _ _ _ => rfl⟩
theorem RO.rf {M : Mm} {W : Wd} (h : RW M W) : RO M M W := ⟨h, fun _ _ _ _ _ => rfl⟩
theorem CO.sm {M m m' : Mm} {W : Wd} (h : CO M m W) (s : Same m m') : CO M m' W := ⟨h.1.eq (fun k j _ _ _ => s k j (by unfold scr; omega)), fun k j hs ho => (s k j hs).trans (h.2 k j hs ho)⟩
theorem RO.sm {M m m' : Mm} {W : Wd} (h : RO M m W) (s : Same m m') : RO M m' W := ⟨h.1.eq (s _ _ (by unfold scr; omega)) (fun k j _ _ => s k j (by unfold scr; omega)), fun k j hs h0 ho => (s k j hs).trans (h.2 k j hs h0 ho)⟩
theorem ifc_rel {α β : Type} {R : α → β → Prop} {P : Prop} {a a' : α} {b b' : β} (h1 : P → R a b) (h2 : ¬ P → R a' b') : R (ifc P a a') (ifc P b b') := by
  by_cases c : P
  · rw [ifc_t c, ifc_t c]; exact h1 c
  · rw [ifc_f c, ifc_f c]; exact h2 c
theorem ifc_pr {α : Type} {R : α → Prop} {P : Prop} {a a' : α} (h1 : P → R a) (h2 : ¬ P → R a') : R (ifc P a a') := by
  by_cases c : P
  · rw [ifc_t c]; exact h1 c
  · rw [ifc_f c]; exact h2 c
/-! half steps out of contracts -/
section HS
variable {l : Launch} {E : Ev} {y : MethodName} {cc : ByteArray} {maxL : Nat} {ret : Option FieldType} {d : Nat} {as : List Value} {M U : Mm} {S : As} {W : Wd} {a : Value} {x : Int32} {z : Int64}
theorem hs_CR (h : CA M S) (hU : CO M U W) (c : Cm l E y cc maxL ret d as M (pR a U)) : Cm l E y cc maxL ret d as M (hp a (hC (W, S.2) M)) := Cm.imp (fun r m q => ⟨q.1, CA_W h (hU.sm q.2)⟩) c
theorem hs_RR (h : RA M S) (hU : RO M U W) (c : Cm l E y cc maxL ret d as M (pR a U)) : Cm l E y cc maxL ret d as M (hp a (hR (W, S.2) M)) := Cm.imp (fun r m q => ⟨q.1, RA_W h (hU.sm q.2)⟩) c
theorem hs_CI (h : CA M S) (hU : CO M U W) (c : Cm l E y cc maxL ret d as M (pI x U)) : Cm l E y cc maxL ret d as M (hp (.int x) (hC (W, S.2) M)) := Cm.imp (fun r m q => by
  obtain ⟨q1, rfl⟩ := q
  exact ⟨q1, CA_W h hU⟩) c
theorem hs_RI (h : RA M S) (hU : RO M U W) (c : Cm l E y cc maxL ret d as M (pI x U)) : Cm l E y cc maxL ret d as M (hp (.int x) (hR (W, S.2) M)) := Cm.imp (fun r m q => by
  obtain ⟨q1, rfl⟩ := q
  exact ⟨q1, RA_W h hU⟩) c
theorem ho_CR (hU : CO M U W) (c : Cm l E y cc maxL ret d as M (pR a U)) : Cm l E y cc maxL ret d as M (hp a (fun m => CO M m W)) := Cm.imp (fun r m q => ⟨q.1, hU.sm q.2⟩) c
theorem ho_RR (hU : RO M U W) (c : Cm l E y cc maxL ret d as M (pR a U)) : Cm l E y cc maxL ret d as M (hp a (fun m => RO M m W)) := Cm.imp (fun r m q => ⟨q.1, hU.sm q.2⟩) c
theorem ho_CI (hU : CO M U W) (c : Cm l E y cc maxL ret d as M (pI x U)) : Cm l E y cc maxL ret d as M (hp (.int x) (fun m => CO M m W)) := Cm.imp (fun r m q => by
  obtain ⟨q1, rfl⟩ := q
  exact ⟨q1, hU⟩) c
theorem ho_RI (hU : RO M U W) (c : Cm l E y cc maxL ret d as M (pI x U)) : Cm l E y cc maxL ret d as M (hp (.int x) (fun m => RO M m W)) := Cm.imp (fun r m q => by
  obtain ⟨q1, rfl⟩ := q
  exact ⟨q1, hU⟩) c
theorem hs_Co (h : CA M S) (c : Cm l E y cc maxL ret d as M (hp a (fun m => CO M m W))) : Cm l E y cc maxL ret d as M (hp a (hC (W, S.2) M)) := Cm.imp (fun r m q => ⟨q.1, CA_W h q.2⟩) c
theorem hs_Ro (h : RA M S) (c : Cm l E y cc maxL ret d as M (hp a (fun m => RO M m W))) : Cm l E y cc maxL ret d as M (hp a (hR (W, S.2) M)) := Cm.imp (fun r m q => ⟨q.1, RA_W h q.2⟩) c
theorem hq_CI (h : CA M S) (c : Cm l E y cc maxL ret d as M (pI x M)) : Cm l E y cc maxL ret d as M (hp (.int x) (hC S M)) := hs_CI h (CO.rf h.1) c
theorem hq_RI (h : RA M S) (c : Cm l E y cc maxL ret d as M (pI x M)) : Cm l E y cc maxL ret d as M (hp (.int x) (hR S M)) := hs_RI h (RO.rf h.1) c
theorem hq_CR (h : CA M S) (c : Cm l E y cc maxL ret d as M (pR a M)) : Cm l E y cc maxL ret d as M (hp a (hC S M)) := hs_CR h (CO.rf h.1) c
theorem hq_RR (h : RA M S) (c : Cm l E y cc maxL ret d as M (pR a M)) : Cm l E y cc maxL ret d as M (hp a (hR S M)) := hs_RR h (RO.rf h.1) c
theorem hq_CL (h : CA M S) (c : Cm l E y cc maxL ret d as M (pL z M)) : Cm l E y cc maxL ret d as M (hp (.long z) (hC S M)) := Cm.imp (fun r m q => by
  obtain ⟨q1, rfl⟩ := q
  exact ⟨q1, CA_W h (CO.rf h.1)⟩) c
theorem hq_RL (h : RA M S) (c : Cm l E y cc maxL ret d as M (pL z M)) : Cm l E y cc maxL ret d as M (hp (.long z) (hR S M)) := Cm.imp (fun r m q => by
  obtain ⟨q1, rfl⟩ := q
  exact ⟨q1, RA_W h (RO.rf h.1)⟩) c
end HS
/-! how the world changes -/
def putR (W : Wd) (i j : Nat) (x : Int32) : Wd := (W.1, (fun i' => if i' = i then upd (W.2.1 i') j x else W.2.1 i'), W.2.2)
def setF (W : Wd) (t : Nat) (k : Int32) (g : Nat → Int32) : Wd := (W.1, W.2.1, upd W.2.2.1 t k, fun f => if f = t then g else W.2.2.2 f)
theorem CO_put {M : Mm} {W : Wd} {i j : Nat} {x : Int32} (h : CW M W) (hi : i < 6) : CO M (mw M (2 + i) j x) (putR W i j x) := by
  refine ⟨⟨Cn_mw (by omega) h.1, CFn_mw (by omega) h.2.1, fun i' hi' => ?_⟩, fun k j' hs ho => rdn (by omega) rfl⟩
  show _ = if i' = i then upd (W.2.1 i') j x else W.2.1 i'
  by_cases e : i' = i
  · subst e
    rw [if_pos rfl, mw_row, h.2.2 i' hi']
  · rw [if_neg e, mw_nk _ _ _ (by omega), h.2.2 i' hi']
theorem RO_put {M : Mm} {W : Wd} {i j : Nat} {x : Int32} (h : RW M W) (hi : i < 6) : RO M (mw M (66 + i) j x) (putR W i j x) := by
  refine ⟨⟨Rn_mw (by omega) h.1, RFn_mw (by omega) h.2.1, fun i' hi' => ?_⟩, fun k j' hs _ ho => rdn (by omega) rfl⟩
  show _ = if i' = i then upd (W.2.1 i') j x else W.2.1 i'
  by_cases e : i' = i
  · subst e
    rw [if_pos rfl, mw_row, h.2.2 i' hi']
  · rw [if_neg e, mw_nk _ _ _ (by omega), h.2.2 i' hi']
theorem CO_fset {M : Mm} {W : Wd} {t : Nat} {k : Int32} {g : Nat → Int32} (h : CW M W) (ht : t < 6) (hk : k < 0 → k = -1) : CO M (fsetC W.1 t k g M) (setF W t k g) := by
  refine ⟨⟨Cn_mw (by omega) (Cn_rs (by omega) h.1), fun f hf => ?_, fun i hi => ?_⟩, fun k' j' hs ho => rdn (by omega) (rdr (by omega) rfl)⟩
  · show fsetC W.1 t k g M (10 + 2 * f) 0 = upd W.2.2.1 t k f ∧ (upd W.2.2.1 t k f < 0 → upd W.2.2.1 t k f = -1) ∧ ∀ s, s < 2 ^ W.1 → fsetC W.1 t k g M (11 + 2 * f) s = (if f = t then g else W.2.2.2 f) s
    obtain ⟨h1, h2, h3⟩ := h.2.1 f hf
    by_cases e : f = t
    · subst e
      rw [pk_us, if_pos rfl]
      exact ⟨mw_eq _ _ _ _, hk, fun s hs => rdn (by omega) ((congrFun (rset_eq _ _ _) _).trans (setr_in hs))⟩
    · rw [pk_un e, if_neg e]
      exact ⟨rdn (by omega) (rdr (by omega) h1), h2, fun s hs => rdn (by omega) (rdr (by omega) (h3 s hs))⟩
  · show fsetC W.1 t k g M (2 + i) = W.2.1 i
    unfold fsetC
    rw [mw_nk _ _ _ (by omega), rset_ne _ _ (by omega), h.2.2 i hi]
theorem RO_bec {M : Mm} {W : Wd} {t : Nat} {k : Int32} {g : Nat → Int32} (h : RW M W) (ht : t < 6) (hk : k < 0 → k = -1) : RO M (becR W.1 t k g M) (setF W t k g) := by
  have h6 := p2_le6 h.1.2.2
  refine ⟨⟨Rn_rs (by omega) (Rn_mw (by omega) h.1), fun f hf => ?_, fun i hi => ?_⟩, fun k' j' hs _ ho => rdr (by omega) (rdn (by omega) rfl)⟩
  · show becR W.1 t k g M 72 f = upd W.2.2.1 t k f ∧ (upd W.2.2.1 t k f < 0 → upd W.2.2.1 t k f = -1) ∧ (¬ upd W.2.2.1 t k f < 0 → ∀ s, s < 2 ^ W.1 → becR W.1 t k g M (74 + f) s = (if f = t then g else W.2.2.2 f) s)
    obtain ⟨h1, h2, h3⟩ := h.2.1 f hf
    by_cases e : f = t
    · subst e
      rw [pk_us, if_pos rfl]
      exact ⟨rdr (by omega) (mw_eq _ _ _ _), hk, fun _ s hs => becR_v hs h.1.2.2⟩
    · rw [pk_un e, if_neg e]
      exact ⟨rdr (by omega) (rdj e h1), h2, fun q s hs => rdr (by omega) (rdn (by omega) (h3 q s hs))⟩
  · show becR W.1 t k g M (66 + i) = W.2.1 i
    unfold becR
    rw [rset_ne _ _ (by omega), mw_nk _ _ _ (by omega), h.2.2 i hi]
theorem GW_put {W : Wd} {i j : Nat} {x : Int32} (h : GW W) (hx : (i = 0 → inR x 100) ∧ (i = 1 → inR x 100) ∧ (i = 3 → inR x 6) ∧ (i = 4 → inR x 7) ∧ (i = 5 → isB (-99) 99 x)) : GW (putR W i j x) := by
  obtain ⟨h0, h1, d0, d1, d3, d4, d5⟩ := h
  have key : ∀ (q : Nat) (P : Int32 → Prop) (c : Nat), (q = i → P x) → (∀ j', j' < c → P (W.2.1 q j')) → ∀ j', j' < c → P ((putR W i j x).2.1 q j') := by
    intro q P c hq hd j' hj'
    show P ((if q = i then upd (W.2.1 q) j x else W.2.1 q) j')
    by_cases e : q = i
    · rw [if_pos e]
      by_cases f : j' = j
      · subst f; rw [pk_us]; exact hq e
      · rw [pk_un f]; exact hd j' hj'
    · rw [if_neg e]; exact hd j' hj'
  exact ⟨h0, h1, key 0 (fun z => inR z 100) 36 (fun e => hx.1 e.symm) d0, key 1 (fun z => inR z 100) 8 (fun e => hx.2.1 e.symm) d1, key 3 (fun z => inR z 6) 6 (fun e => hx.2.2.1 e.symm) d3, key 4 (fun z => inR z 7) 6 (fun e => hx.2.2.2.1 e.symm) d4, key 5 (fun z => isB (-99) 99 z) 6 (fun e => hx.2.2.2.2 e.symm) d5⟩
theorem GW_set {W : Wd} {t : Nat} {k : Int32} {g : Nat → Int32} (h : GW W) (hk : ¬ k < 0 → inR k 6) (h0 : k < 0 → ∀ s, s < 2 ^ W.1 → g s = 0) (hg : ∀ s, s < 2 ^ W.1 → isV (g s)) : GW (setF W t k g) := by
  refine ⟨h.1, fun f hf => ?_, h.2.2⟩
  show (¬ upd W.2.2.1 t k f < 0 → inR (upd W.2.2.1 t k f) 6) ∧ (upd W.2.2.1 t k f < 0 → ∀ s, s < 2 ^ W.1 → (if f = t then g else W.2.2.2 f) s = 0) ∧ ∀ s, s < 2 ^ W.1 → isV ((if f = t then g else W.2.2.2 f) s)
  by_cases e : f = t
  · subst e
    rw [pk_us, if_pos rfl]
    exact ⟨hk, h0, hg⟩
  · rw [pk_un e, if_neg e]
    exact h.2.1 f hf
