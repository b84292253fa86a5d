/-! the memory and the state at the start -/
def m0 : Mm := fun k => bif Nat.blt k 65 then m6 k else m7e k
def W0 (kd : Int32) : Wd := (4, (fun _ _ => 0), (fun _ => kd), fun _ _ => 0)
def wS : Wd := ptsW (W0 0) 4
def S0 : As := (wS, (0, wS), ((fun _ => -1), fun _ _ => 0), (0, fun _ => 0), (0, fun _ => 0))
theorem isB4 : isB 1 6 4 := by unfold isB; decide
theorem GW_0 : GW (W0 (-1)) := by
  refine ⟨⟨by decide, by decide⟩, fun f hf => ⟨fun e => absurd (show (-1 : Int32) < 0 by decide) e, fun _ _ _ => rfl, fun _ _ => isV_0⟩, ?_, ?_, ?_, ?_, ?_⟩
  · exact fun j _ => show inR 0 100 by unfold inR; decide
  · exact fun j _ => show inR 0 100 by unfold inR; decide
  · exact fun j _ => show inR 0 6 by unfold inR; decide
  · exact fun j _ => show inR 0 7 by unfold inR; decide
  · exact fun j _ => show isB (-99) 99 0 by unfold isB; decide
theorem GA_0 : GA S0 := by
  have h := gPoints (x := 4) GW_0
  unfold sPoints at h
  rw [ifc_t isB4] at h
  exact ⟨h, fun z => absurd rfl z, Nat.zero_le _, Nat.zero_le _⟩
theorem mw_tw (M : Mm) (k j : Nat) (x y : Int32) : mw (mw M k j x) k j y = mw M k j y := by
  unfold mw
  rw [rset_eq, rset_rset]
  congr 1
  funext i
  by_cases h : i = j
  · subst h; rw [pk_us, pk_us]
  · rw [pk_un h, pk_un h, pk_un h]
theorem mw_self (M : Mm) (k j : Nat) : mw M k j (M k j) = M := by
  funext k' j'
  by_cases h : k' = k
  · subst h
    by_cases g : j' = j
    · subst g; exact mw_eq _ _ _ _
    · exact mw_nj _ _ _ g
  · exact congrFun (mw_nk _ _ _ h) _
theorem sta1_n (M : Mm) (x : Int32) : sta1 x (mw M 1 0 x) = sta1 x M := by
  unfold sta1
  rw [mw_tw]
def mC : Mm := mw (mI 1) 1 0 4
theorem six' {P : Nat → Prop} (h0 : P 0) (h1 : P 1) (h2 : P 2) (h3 : P 3) (h4 : P 4) (h5 : P 5) : ∀ i, i < 6 → P i := six h0 h1 h2 h3 h4 h5
theorem CW_C : CW mC (W0 (-1)) := by
  refine ⟨⟨mw_eq _ _ _ _, by decide, by decide⟩, six ?_ ?_ ?_ ?_ ?_ ?_, six ?_ ?_ ?_ ?_ ?_ ?_⟩
  all_goals first | exact ⟨rfl, fun _ => rfl, fun s hs => rfl⟩ | exact mw_nk _ _ _ (by decide)
theorem CW_0 : CW m0 wS := by
  have h := (CO_points CW_C isB4).1
  unfold mC at h
  rw [sta1_n] at h
  have e : ∀ k, 1 ≤ k → k ≤ 21 → m0 k = sta1 4 (mI 1) k := fun k h1 h2 => by
    unfold m0 m6
    rw [show Nat.blt k 65 = true from Nat.blt_eq.mpr (by omega), show Nat.blt k 1 = false from Bool.eq_false_iff.mpr (fun z => by have := Nat.blt_eq.mp z; omega), show Nat.blt k 22 = true from Nat.blt_eq.mpr (by omega)]
    rfl
  exact h.eq (fun k j h1 h2 _ => congrFun (e k h1 h2) j)
theorem RW_C : RW m7 (W0 0) := by
  refine ⟨⟨rfl, by decide, by decide⟩, six ?_ ?_ ?_ ?_ ?_ ?_, six ?_ ?_ ?_ ?_ ?_ ?_⟩
  all_goals first | exact ⟨rfl, fun z => absurd z (by decide), fun _ s hs => rfl⟩ | rfl
theorem m7_n : mw m7 65 0 4 = m7 := mw_self m7 65 0
theorem m0_R (k : Nat) (h : 65 ≤ k) : m0 k = m7e k := by
  unfold m0
  rw [show Nat.blt k 65 = false from Bool.eq_false_iff.mpr (fun z => by have := Nat.blt_eq.mp z; omega)]
  rfl
theorem RO_7 : RO m7 (emp m7) wS := by
  have h := RO_points RW_C isB4
  rw [m7_n] at h
  exact h
theorem m7e_ne {k : Nat} (j : Nat) (h : ¬ k = 87) : m7e k j = emp m7 k j := by
  unfold m7e
  exact rdn h (rdn h (rdn h (rdn h rfl)))
theorem RW_0 : RW m0 wS := by
  have h := RO_7.1
  exact h.eq ((congrFun (m0_R 65 (by decide)) 0).trans (m7e_ne 0 (by decide))) (fun k j h1 h2 => (congrFun (m0_R k (by omega)) j).trans (m7e_ne j (by omega)))
theorem CA_0 : CA m0 S0 := by
  refine ⟨CW_0, ⟨rfl, fun z => absurd rfl z⟩, ?_, ⟨rfl, rfl⟩, ⟨rfl, fun j hj => absurd hj (Nat.not_lt_zero _)⟩⟩
  intro i hi
  rcases (show i = 0 ∨ i = 1 ∨ i = 2 ∨ i = 3 by omega) with rfl | rfl | rfl | rfl <;> exact ⟨rfl, fun _ => rfl, fun z => absurd (show (-1 : Int32) < 0 by decide) z, fun _ _ => rfl⟩
theorem RA_0 : RA m0 S0 := by
  have r := RO_7.2
  have q : ∀ k j, 65 ≤ k → ¬ k = 87 → ¬ scr k j → ¬ (k = 65 ∧ j = 0) → (k < 66 ∨ 79 < k) → m0 k j = m7 k j := fun k j h1 h2 h3 h4 h5 => ((congrFun (m0_R k h1) j).trans (m7e_ne j h2)).trans (r k j h3 h4 h5)
  refine ⟨RW_0, ⟨q 65 23 (by omega) (by omega) (by unfold scr; omega) (by omega) (by omega), fun z => absurd rfl z⟩, ?_, ⟨q 65 14 (by omega) (by omega) (by unfold scr; omega) (by omega) (by omega), funext fun j => q 83 j (by omega) (by omega) (by unfold scr; omega) (by omega) (by omega)⟩, ⟨q 65 20 (by omega) (by omega) (by unfold scr; omega) (by omega) (by omega), fun j hj => absurd hj (Nat.not_lt_zero _)⟩⟩
  intro i hi
  refine ⟨?_, fun _ => rfl, fun z => absurd (show (-1 : Int32) < 0 by decide) z, fun j _ => ?_⟩
  · refine (congrFun (m0_R 87 (by omega)) i).trans ?_
    unfold m7e
    rcases (show i = 0 ∨ i = 1 ∨ i = 2 ∨ i = 3 by omega) with rfl | rfl | rfl | rfl
    · exact rdj (by decide) (rdj (by decide) (rdj (by decide) (mw_eq _ _ _ _)))
    · exact rdj (by decide) (rdj (by decide) (mw_eq _ _ _ _))
    · exact rdj (by decide) (mw_eq _ _ _ _)
    · exact mw_eq _ _ _ _
  · refine (q (89 + i) j (by omega) (by omega) (by unfold scr; omega) (by omega) (by omega)).trans ?_
    unfold m7
    rw [show Nat.beq (89 + i) 65 = false from Bool.eq_false_iff.mpr (fun z => by have := Nat.eq_of_beq_eq_true z; omega)]
    rfl
/-- what the launch gives -/
theorem at_tys {s : State} {A : Array Value} (hts : ∀ w ∈ wsT, w.before A s = true) (h3 : va_AO RX3 s) (h0 : va_AO RX0 s) (hA : va_AOA .int s) : ∃ (D : va_G) (cA : Nat → ClassId), ∀ am : Am, va_K D vwCl (tysE (eE D cA am)) s := by
  obtain ⟨c0, i0, k0⟩ := u_known (C := RX0) (T := TX0) (N := 2) (n := 2) hts inX0 (hts _ ia_X0)
  obtain ⟨c1, i1, k1⟩ := u_known (C := RX1) (T := TX1) (N := 2) (n := 2) hts inX1 (hts _ ia_X1)
  obtain ⟨c2, i2, k2⟩ := u_known (C := RX2) (T := TX2) (N := 4) (n := 4) hts inX2 (hts _ ia_X2)
  obtain ⟨c3, i3, k3⟩ := u_known (C := RX3) (T := TX3) (N := 2) (n := 2) hts inX3 (hts _ ia_X3)
  obtain ⟨c4, i4, k4⟩ := u_known (C := RX4) (T := TX4) (N := 6) (n := 6) hts inX4 (hts _ ia_X4)
  obtain ⟨c5, i5, k5⟩ := u_known (C := RX5) (T := TX5) (N := 9) (n := 9) hts inX5 (hts _ ia_X5)
  obtain ⟨c6, i6, k6⟩ := u_known (C := RX6) (T := TX6) (N := 10) (n := 10) hts inX6 (hts _ ia_X6)
  obtain ⟨c7, i7, k7⟩ := u_known (C := RX7) (T := TX7) (N := 27) (n := 27) hts inX7 (hts _ ia_X7)
  obtain ⟨a0, q0, p0, f0, g0, e0⟩ := Cond.arrayClass_spec (hts _ ac__int)
  obtain ⟨a1, q1, p1, f1, g1, e1⟩ := Cond.arrayClass_spec (hts _ ac__byte)
  obtain ⟨p2, a2, q2, b2, d2, g2, e2, f2⟩ := Cond.arrayOver_spec h3
  obtain ⟨p3, a3, q3, b3, d3, g3, e3, f3⟩ := Cond.arrayOver_spec h0
  obtain ⟨p4, a4, q4, b4, g4, e4, f4⟩ := Cond.arrayOver_specA hA
  refine ⟨((fun c => [c0, c1, c2, c3, c4, c5, c6, c7].getD c 0), (fun c => [i0, i1, i2, i3, i4, i5, i6, i7].getD c (fun _ => 0))), (fun c => [a0, a1, a2, a3, a4].getD c 0), fun am => ⟨fun c q hq => ?_, fun k x hx => ?_⟩⟩
  · have hc : c < 8 := (List.getElem?_eq_some_iff.mp hq).1
    rcases (show c = 0 ∨ c = 1 ∨ c = 2 ∨ c = 3 ∨ c = 4 ∨ c = 5 ∨ c = 6 ∨ c = 7 by omega) with rfl | rfl | rfl | rfl | rfl | rfl | rfl | rfl <;> cases hq <;> assumption
  · have hc : k < 5 := (List.getElem?_eq_some_iff.mp hx).1
    rcases (show k = 0 ∨ k = 1 ∨ k = 2 ∨ k = 3 ∨ k = 4 by omega) with rfl | rfl | rfl | rfl | rfl <;> cases hx
    · exact ⟨fun N z => ⟨fun k h => (by cases h), q0, g0, p0, e0⟩, f0⟩
    · exact ⟨fun N z => ⟨fun k h => (by cases h), q1, g1, p1, e1⟩, f1⟩
    · exact ⟨fun N z => ⟨fun k h => (by cases h), q2, g2, p2, e2⟩, q2, p2, g2, e2, b2, f2⟩
    · exact ⟨fun N z => ⟨fun k h => (by cases h), q3, g3, p3, e3⟩, q3, p3, g3, e3, b3, f3⟩
    · exact ⟨fun N z => ⟨fun k h => (by cases h), q4, g4, p4, e4⟩, f4⟩
theorem at_nst {s : State} {A : Array Value} (hts : ∀ w ∈ lw_tbl, w.before A s = true) : Nst s :=
  ⟨⟨va_Nw.of rfl (hts _ (tin1 (List.mem_of_getElem? (i := 34) (by decide +kernel)))), va_Nw.of rfl (hts _ (tin1 (List.mem_of_getElem? (i := 99) (by decide +kernel)))), va_Nw.of rfl (hts _ (tin1 (List.mem_of_getElem? (i := 114) (by decide +kernel)))), va_Nw.of rfl (hts _ (tin1 (List.mem_of_getElem? (i := 143) (by decide +kernel)))), va_Nw.of rfl (hts _ (tin1 (List.mem_of_getElem? (i := 158) (by decide +kernel))))⟩, va_AO.of (hts _ (tin1 (List.mem_of_getElem? (i := 32) (by decide +kernel)))), va_AO.of (hts _ (tin1 (List.mem_of_getElem? (i := 97) (by decide +kernel)))), va_AOA.of (hts _ (tin4 (List.mem_of_getElem? (i := 42) (by decide +kernel))))⟩
def tmS (i : Nat) : Term := .string RX4 (76 + 2 * i)
theorem eq_refs {A : Array Value} {s : State} {t u : Term} {a : Nat} (h : (Cond.eq t u).before A s = true) (ht : t.eval A s none [] s = some (.ref a)) : u.eval A s none [] s = some (.ref a) := by
  cases hv : u.eval A s none [] s with
  | none => simp [Cond.before, Cond.holds, Cond.value, hv, ht] at h
  | some w =>
    simp only [Cond.before, Cond.holds, Cond.value, hv, ht] at h
    cases w <;> simp_all
theorem at_amb {s : State} {A : Array Value} (hts : ∀ w ∈ lw_tbl, w.before A s = true) (hgv : (Jvm.Cond.and given_1 narrow_1).before A s = true) : ∃ am : Am, Amb am (fun q => s.heap.size ≤ q) s s.heap := by
  have hs := flat_of_before _ hgv
  have hA : ∀ a : Nat, a < s.heap.size → ¬ s.heap.size ≤ a := fun a h => by omega
  obtain ⟨t1, e1, T1⟩ := va_Tof (tm := .static RX6 "ABOVE" "[I") (ty := .int) (N := 6) (f := fun j => .int (aboveL.getD j 0)) (by decide) (hs _ (by decide +kernel)) (va_eqt (hs _ (by decide +kernel) : (Cond.eq (.length (.static RX6 "ABOVE" "[I")) (.int 6)).before A s = true)) (fun j hj => by
    rcases (show j = 0 ∨ j = 1 ∨ j = 2 ∨ j = 3 ∨ j = 4 ∨ j = 5 by omega) with rfl | rfl | rfl | rfl | rfl | rfl <;> exact va_eqt (hs _ (by decide +kernel))) hA
  obtain ⟨t2, e2, T2⟩ := va_Tof (tm := .static RX4 "NUMBERS" "[I") (ty := .int) (N := 11) (f := fun j => .int (numbersL.getD j 0)) (by decide) (hs _ (by decide +kernel)) (va_eqt (hs _ (by decide +kernel) : (Cond.eq (.length (.static RX4 "NUMBERS" "[I")) (.int 11)).before A s = true)) (fun j hj => by
    rcases (show j = 0 ∨ j = 1 ∨ j = 2 ∨ j = 3 ∨ j = 4 ∨ j = 5 ∨ j = 6 ∨ j = 7 ∨ j = 8 ∨ j = 9 ∨ j = 10 by omega) with rfl | rfl | rfl | rfl | rfl | rfl | rfl | rfl | rfl | rfl | rfl <;> exact va_eqt (hs _ (by decide +kernel))) hA
  obtain ⟨aK, aV, hV, hE⟩ := vk_Sof (N := 11) (tm := tmS) (len := lenL) (byt := bytL) (A := fun q => s.heap.size ≤ q) (fun i hi => by rcases (show i = 0 ∨ i = 1 ∨ i = 2 ∨ i = 3 ∨ i = 4 ∨ i = 5 ∨ i = 6 ∨ i = 7 ∨ i = 8 ∨ i = 9 ∨ i = 10 by omega) with rfl | rfl | rfl | rfl | rfl | rfl | rfl | rfl | rfl | rfl | rfl <;> decide)
    (fun i hi => by rcases (show i = 0 ∨ i = 1 ∨ i = 2 ∨ i = 3 ∨ i = 4 ∨ i = 5 ∨ i = 6 ∨ i = 7 ∨ i = 8 ∨ i = 9 ∨ i = 10 by omega) with rfl | rfl | rfl | rfl | rfl | rfl | rfl | rfl | rfl | rfl | rfl <;> exact hs _ (by decide +kernel))
    (fun i hi => by rcases (show i = 0 ∨ i = 1 ∨ i = 2 ∨ i = 3 ∨ i = 4 ∨ i = 5 ∨ i = 6 ∨ i = 7 ∨ i = 8 ∨ i = 9 ∨ i = 10 by omega) with rfl | rfl | rfl | rfl | rfl | rfl | rfl | rfl | rfl | rfl | rfl <;> exact hs _ (by decide +kernel))
    (fun i hi => by rcases (show i = 0 ∨ i = 1 ∨ i = 2 ∨ i = 3 ∨ i = 4 ∨ i = 5 ∨ i = 6 ∨ i = 7 ∨ i = 8 ∨ i = 9 ∨ i = 10 by omega) with rfl | rfl | rfl | rfl | rfl | rfl | rfl | rfl | rfl | rfl | rfl <;> exact hs _ (by decide +kernel))
    (fun i hi => by rcases (show i = 0 ∨ i = 1 ∨ i = 2 ∨ i = 3 ∨ i = 4 ∨ i = 5 ∨ i = 6 ∨ i = 7 ∨ i = 8 ∨ i = 9 ∨ i = 10 by omega) with rfl | rfl | rfl | rfl | rfl | rfl | rfl | rfl | rfl | rfl | rfl <;> exact hs _ (by decide +kernel))
    (fun i hi j hj => by
      rcases (show i = 0 ∨ i = 1 ∨ i = 2 ∨ i = 3 ∨ i = 4 ∨ i = 5 ∨ i = 6 ∨ i = 7 ∨ i = 8 ∨ i = 9 ∨ i = 10 by omega) with rfl | rfl | rfl | rfl | rfl | rfl | rfl | rfl | rfl | rfl | rfl
      · have hj : j < 3 := hj
        rcases (show j = 0 ∨ j = 1 ∨ j = 2 by omega) with rfl | rfl | rfl <;> exact hs _ (by decide +kernel)
      · have hj : j < 4 := hj
        rcases (show j = 0 ∨ j = 1 ∨ j = 2 ∨ j = 3 by omega) with rfl | rfl | rfl | rfl <;> exact hs _ (by decide +kernel)
      · have hj : j < 5 := hj
        rcases (show j = 0 ∨ j = 1 ∨ j = 2 ∨ j = 3 ∨ j = 4 by omega) with rfl | rfl | rfl | rfl | rfl <;> exact hs _ (by decide +kernel)
      · have hj : j < 3 := hj
        rcases (show j = 0 ∨ j = 1 ∨ j = 2 by omega) with rfl | rfl | rfl <;> exact hs _ (by decide +kernel)
      · have hj : j < 6 := hj
        rcases (show j = 0 ∨ j = 1 ∨ j = 2 ∨ j = 3 ∨ j = 4 ∨ j = 5 by omega) with rfl | rfl | rfl | rfl | rfl | rfl <;> exact hs _ (by decide +kernel)
      · have hj : j < 3 := hj
        rcases (show j = 0 ∨ j = 1 ∨ j = 2 by omega) with rfl | rfl | rfl <;> exact hs _ (by decide +kernel)
      · have hj : j < 5 := hj
        rcases (show j = 0 ∨ j = 1 ∨ j = 2 ∨ j = 3 ∨ j = 4 by omega) with rfl | rfl | rfl | rfl | rfl <;> exact hs _ (by decide +kernel)
      · have hj : j < 6 := hj
        rcases (show j = 0 ∨ j = 1 ∨ j = 2 ∨ j = 3 ∨ j = 4 ∨ j = 5 by omega) with rfl | rfl | rfl | rfl | rfl | rfl <;> exact hs _ (by decide +kernel)
      · have hj : j < 7 := hj
        rcases (show j = 0 ∨ j = 1 ∨ j = 2 ∨ j = 3 ∨ j = 4 ∨ j = 5 ∨ j = 6 by omega) with rfl | rfl | rfl | rfl | rfl | rfl | rfl <;> exact hs _ (by decide +kernel)
      · have hj : j < 3 := hj
        rcases (show j = 0 ∨ j = 1 ∨ j = 2 by omega) with rfl | rfl | rfl <;> exact hs _ (by decide +kernel)
      · have hj : j < 4 := hj
        rcases (show j = 0 ∨ j = 1 ∨ j = 2 ∨ j = 3 by omega) with rfl | rfl | rfl | rfl <;> exact hs _ (by decide +kernel))
    (fun i j hi hj hne => by
      rcases (show i = 0 ∨ i = 1 ∨ i = 2 ∨ i = 3 ∨ i = 4 ∨ i = 5 ∨ i = 6 ∨ i = 7 ∨ i = 8 ∨ i = 9 ∨ i = 10 by omega) with rfl | rfl | rfl | rfl | rfl | rfl | rfl | rfl | rfl | rfl | rfl <;> rcases (show j = 0 ∨ j = 1 ∨ j = 2 ∨ j = 3 ∨ j = 4 ∨ j = 5 ∨ j = 6 ∨ j = 7 ∨ j = 8 ∨ j = 9 ∨ j = 10 by omega) with rfl | rfl | rfl | rfl | rfl | rfl | rfl | rfl | rfl | rfl | rfl <;> first | exact absurd rfl hne | exact Or.inl (hs _ (by decide +kernel)) | exact Or.inr (hs _ (by decide +kernel))) hA
  refine ⟨((t1, t2), aK, aV), ⟨va_Nw.of rfl (hts _ (tin2 (List.mem_of_getElem? (i := 144) (by decide +kernel)))), va_Nw.of rfl (hts _ (tin2 (List.mem_of_getElem? (i := 45) (by decide +kernel))))⟩, ⟨va_Zof (hts _ (tin2 (List.mem_of_getElem? (i := 172) (by decide +kernel)))) (hts _ (tin1 (List.mem_of_getElem? (i := 1) (by decide +kernel)))) e1 hA, T1⟩, ⟨va_Zof (hts _ (tin3 (List.mem_of_getElem? (i := 164) (by decide +kernel)))) (hts _ (tin1 (List.mem_of_getElem? (i := 6) (by decide +kernel)))) e2 hA, T2⟩, ⟨va_Zof (hts _ (tin3 (List.mem_of_getElem? (i := 124) (by decide +kernel)))) (hts _ (tin1 (List.mem_of_getElem? (i := 13) (by decide +kernel)))) (va_eqi (hs _ (by decide +kernel))) hA, va_Zqof (hts _ (tin3 (List.mem_of_getElem? (i := 140) (by decide +kernel)))) (hts _ (tin1 (List.mem_of_getElem? (i := 15) (by decide +kernel)))) (hs _ (by decide +kernel)) hA⟩, hV, ?_⟩
  exact List.forall_mem_cons.mpr ⟨vk_R.of (hts _ (tin3 (List.mem_of_getElem? (i := 100) (by decide +kernel)))) (hE 0 (by decide)), List.forall_mem_cons.mpr ⟨vk_R.of (hts _ (tin3 (List.mem_of_getElem? (i := 101) (by decide +kernel)))) (hE 1 (by decide)), List.forall_mem_cons.mpr ⟨vk_R.of (hts _ (tin3 (List.mem_of_getElem? (i := 102) (by decide +kernel)))) (hE 2 (by decide)), List.forall_mem_cons.mpr ⟨vk_R.of (hts _ (tin3 (List.mem_of_getElem? (i := 103) (by decide +kernel)))) (hE 3 (by decide)), List.forall_mem_cons.mpr ⟨vk_R.of (hts _ (tin3 (List.mem_of_getElem? (i := 104) (by decide +kernel)))) (hE 4 (by decide)), List.forall_mem_cons.mpr ⟨vk_R.of (hts _ (tin3 (List.mem_of_getElem? (i := 105) (by decide +kernel)))) (hE 5 (by decide)), List.forall_mem_cons.mpr ⟨vk_R.of (hts _ (tin3 (List.mem_of_getElem? (i := 106) (by decide +kernel)))) (hE 6 (by decide)), List.forall_mem_cons.mpr ⟨vk_R.of (hts _ (tin3 (List.mem_of_getElem? (i := 107) (by decide +kernel)))) (hE 7 (by decide)), List.forall_mem_cons.mpr ⟨vk_R.of (hts _ (tin3 (List.mem_of_getElem? (i := 108) (by decide +kernel)))) (hE 8 (by decide)), List.forall_mem_cons.mpr ⟨vk_R.of (hts _ (tin3 (List.mem_of_getElem? (i := 109) (by decide +kernel)))) (hE 9 (by decide)), List.forall_mem_cons.mpr ⟨vk_R.of (hts _ (tin3 (List.mem_of_getElem? (i := 110) (by decide +kernel)))) (hE 10 (by decide)), List.forall_mem_cons.mpr ⟨vk_R.of (hts _ (tin5 (List.mem_of_getElem? (i := 228) (by decide +kernel)))) (eq_refs (hs _ (by decide +kernel) : (Cond.eq (.string RX4 76) (.string RX7 264)).before A s = true) (hE 0 (by decide))), List.forall_mem_cons.mpr ⟨vk_R.of (hts _ (tin5 (List.mem_of_getElem? (i := 229) (by decide +kernel)))) (eq_refs (hs _ (by decide +kernel) : (Cond.eq (.string RX4 78) (.string RX7 266)).before A s = true) (hE 1 (by decide))), List.forall_mem_cons.mpr ⟨vk_R.of (hts _ (tin5 (List.mem_of_getElem? (i := 230) (by decide +kernel)))) (eq_refs (hs _ (by decide +kernel) : (Cond.eq (.string RX4 94) (.string RX7 268)).before A s = true) (hE 9 (by decide))), List.forall_mem_cons.mpr ⟨vk_R.of (hts _ (tin5 (List.mem_of_getElem? (i := 231) (by decide +kernel)))) (eq_refs (hs _ (by decide +kernel) : (Cond.eq (.string RX4 80) (.string RX7 270)).before A s = true) (hE 2 (by decide))), List.forall_mem_cons.mpr ⟨vk_R.of (hts _ (tin5 (List.mem_of_getElem? (i := 232) (by decide +kernel)))) (eq_refs (hs _ (by decide +kernel) : (Cond.eq (.string RX4 82) (.string RX7 272)).before A s = true) (hE 3 (by decide))), List.forall_mem_cons.mpr ⟨vk_R.of (hts _ (tin5 (List.mem_of_getElem? (i := 233) (by decide +kernel)))) (eq_refs (hs _ (by decide +kernel) : (Cond.eq (.string RX4 84) (.string RX7 274)).before A s = true) (hE 4 (by decide))), List.forall_mem_cons.mpr ⟨vk_R.of (hts _ (tin5 (List.mem_of_getElem? (i := 234) (by decide +kernel)))) (eq_refs (hs _ (by decide +kernel) : (Cond.eq (.string RX4 96) (.string RX7 276)).before A s = true) (hE 10 (by decide))), List.forall_mem_cons.mpr ⟨vk_R.of (hts _ (tin5 (List.mem_of_getElem? (i := 235) (by decide +kernel)))) (eq_refs (hs _ (by decide +kernel) : (Cond.eq (.string RX4 86) (.string RX7 278)).before A s = true) (hE 5 (by decide))), List.forall_mem_cons.mpr ⟨vk_R.of (hts _ (tin5 (List.mem_of_getElem? (i := 236) (by decide +kernel)))) (eq_refs (hs _ (by decide +kernel) : (Cond.eq (.string RX4 88) (.string RX7 280)).before A s = true) (hE 6 (by decide))), List.forall_mem_cons.mpr ⟨vk_R.of (hts _ (tin5 (List.mem_of_getElem? (i := 237) (by decide +kernel)))) (eq_refs (hs _ (by decide +kernel) : (Cond.eq (.string RX4 90) (.string RX7 282)).before A s = true) (hE 7 (by decide))), List.forall_mem_cons.mpr ⟨vk_R.of (hts _ (tin5 (List.mem_of_getElem? (i := 238) (by decide +kernel)))) (eq_refs (hs _ (by decide +kernel) : (Cond.eq (.string RX4 92) (.string RX7 284)).before A s = true) (hE 8 (by decide))), fun _ h => absurd h List.not_mem_nil⟩⟩⟩⟩⟩⟩⟩⟩⟩⟩⟩⟩⟩⟩⟩⟩⟩⟩⟩⟩⟩⟩
set_option maxRecDepth 100000 in
theorem m0_wr {D : va_G} {cA : Nat → ClassId} {am : Am} {f g : Nat → Nat} : Wr (wlist (D, List.range' 0 65, f, cA, am) m6 ++ wlist (D, List.range' 65 43, g, cA, am) m7e) (wlist (D, List.range' 0 108, (fun k => bif Nat.blt k 65 then f k else g k), cA, am) m0) := by
  refine Wr.cons (Or.inl rfl) ?_
  refine Wr.cons (Or.inl rfl) ?_
  refine Wr.cons (Or.inl rfl) ?_
  refine Wr.cons (Or.inl rfl) ?_
  refine Wr.cons (Or.inl rfl) ?_
  refine Wr.cons (Or.inl rfl) ?_
  refine Wr.cons (Or.inl rfl) ?_
  refine Wr.cons (Or.inl rfl) ?_
  refine Wr.cons (eqe_q (fun i hi => by rcases (show i = 0 ∨ i = 1 ∨ i = 2 ∨ i = 3 ∨ i = 4 ∨ i = 5 by omega) with rfl | rfl | rfl | rfl | rfl | rfl <;> rfl)) ?_
  refine Wr.cons (Or.inl rfl) ?_
  refine Wr.cons (Or.inl rfl) ?_
  refine Wr.cons (Or.inl rfl) ?_
  refine Wr.cons (Or.inl rfl) ?_
  refine Wr.cons (Or.inl rfl) ?_
  refine Wr.cons (Or.inl rfl) ?_
  refine Wr.cons (Or.inl rfl) ?_
  refine Wr.cons (Or.inl rfl) ?_
  refine Wr.cons (Or.inl rfl) ?_
  refine Wr.cons (Or.inl rfl) ?_
  refine Wr.cons (Or.inl rfl) ?_
  refine Wr.cons (Or.inl rfl) ?_
  refine Wr.cons (Or.inl rfl) ?_
  refine Wr.cons (Or.inl rfl) ?_
  refine Wr.cons (Or.inl rfl) ?_
  refine Wr.cons (Or.inl rfl) ?_
  refine Wr.cons (Or.inl rfl) ?_
  refine Wr.cons (Or.inl rfl) ?_
  refine Wr.cons (Or.inl rfl) ?_
  refine Wr.cons (Or.inl rfl) ?_
  refine Wr.cons (eqe_q (fun i hi => by rcases (show i = 0 ∨ i = 1 ∨ i = 2 ∨ i = 3 ∨ i = 4 ∨ i = 5 by omega) with rfl | rfl | rfl | rfl | rfl | rfl <;> rfl)) ?_
  refine Wr.cons (Or.inl rfl) ?_
  refine Wr.cons (Or.inl rfl) ?_
  refine Wr.cons (Or.inl rfl) ?_
  refine Wr.cons (Or.inl rfl) ?_
  refine Wr.cons (Or.inl rfl) ?_
  refine Wr.cons (Or.inl rfl) ?_
  refine Wr.cons (Or.inl rfl) ?_
  refine Wr.cons (Or.inl rfl) ?_
  refine Wr.cons (Or.inl rfl) ?_
  refine Wr.cons (Or.inl rfl) ?_
  refine Wr.cons (Or.inl rfl) ?_
  refine Wr.cons (Or.inl rfl) ?_
  refine Wr.cons (Or.inl rfl) ?_
  refine Wr.cons (eqe_q (fun i hi => by rcases (show i = 0 ∨ i = 1 ∨ i = 2 ∨ i = 3 by omega) with rfl | rfl | rfl | rfl <;> rfl)) ?_
  refine Wr.cons (Or.inl rfl) ?_
  refine Wr.cons (Or.inl rfl) ?_
  refine Wr.cons (Or.inl rfl) ?_
  refine Wr.cons (Or.inl rfl) ?_
  refine Wr.cons (Or.inl rfl) ?_
  refine Wr.cons (Or.inl rfl) ?_
  refine Wr.cons (Or.inl rfl) ?_
  refine Wr.cons (Or.inl rfl) ?_
  refine Wr.cons (Or.inl rfl) ?_
  refine Wr.cons (Or.inl rfl) ?_
  refine Wr.cons (Or.inl rfl) ?_
  refine Wr.cons (Or.inl rfl) ?_
  refine Wr.cons (Or.inl rfl) ?_
  refine Wr.cons (Or.inl rfl) ?_
  refine Wr.cons (Or.inl rfl) ?_
  refine Wr.cons (Or.inl rfl) ?_
  refine Wr.cons (Or.inl rfl) ?_
  refine Wr.cons (Or.inl rfl) ?_
  refine Wr.cons (Or.inl rfl) ?_
  refine Wr.cons (Or.inl rfl) ?_
  refine Wr.cons (Or.inl rfl) ?_
  refine Wr.cons (Or.inl rfl) ?_
  refine Wr.cons (Or.inl rfl) ?_
  refine Wr.cons (Or.inl rfl) ?_
  refine Wr.cons (Or.inl rfl) ?_
  refine Wr.cons (Or.inl rfl) ?_
  refine Wr.cons (Or.inl rfl) ?_
  refine Wr.cons (Or.inl rfl) ?_
  refine Wr.cons (Or.inl rfl) ?_
  refine Wr.cons (eqe_q (fun i hi => by rcases (show i = 0 ∨ i = 1 ∨ i = 2 ∨ i = 3 ∨ i = 4 ∨ i = 5 by omega) with rfl | rfl | rfl | rfl | rfl | rfl <;> rfl)) ?_
  refine Wr.cons (Or.inl rfl) ?_
  refine Wr.cons (Or.inl rfl) ?_
  refine Wr.cons (Or.inl rfl) ?_
  refine Wr.cons (Or.inl rfl) ?_
  refine Wr.cons (Or.inl rfl) ?_
  refine Wr.cons (Or.inl rfl) ?_
  refine Wr.cons (Or.inl rfl) ?_
  refine Wr.cons (Or.inl rfl) ?_
  refine Wr.cons (Or.inl rfl) ?_
  refine Wr.cons (Or.inl rfl) ?_
  refine Wr.cons (Or.inl rfl) ?_
  refine Wr.cons (Or.inl rfl) ?_
  refine Wr.cons (Or.inl rfl) ?_
  refine Wr.cons (Or.inl rfl) ?_
  refine Wr.cons (eqe_q (fun i hi => by rcases (show i = 0 ∨ i = 1 ∨ i = 2 ∨ i = 3 by omega) with rfl | rfl | rfl | rfl <;> rfl)) ?_
  refine Wr.cons (Or.inl rfl) ?_
  refine Wr.cons (Or.inl rfl) ?_
  refine Wr.cons (Or.inl rfl) ?_
  refine Wr.cons (Or.inl rfl) ?_
  refine Wr.cons (eqe_q (fun i hi => by rcases (show i = 0 ∨ i = 1 ∨ i = 2 ∨ i = 3 ∨ i = 4 ∨ i = 5 ∨ i = 6 by omega) with rfl | rfl | rfl | rfl | rfl | rfl | rfl <;> rfl)) ?_
  refine Wr.cons (Or.inl rfl) ?_
  refine Wr.cons (Or.inl rfl) ?_
  refine Wr.cons (Or.inl rfl) ?_
  refine Wr.cons (Or.inl rfl) ?_
  refine Wr.cons (Or.inl rfl) ?_
  refine Wr.cons (Or.inl rfl) ?_
  refine Wr.cons (Or.inl rfl) ?_
  refine Wr.cons (eqe_q (fun i hi => by rcases (show i = 0 ∨ i = 1 ∨ i = 2 ∨ i = 3 ∨ i = 4 ∨ i = 5 by omega) with rfl | rfl | rfl | rfl | rfl | rfl <;> rfl)) ?_
  refine Wr.cons (Or.inl rfl) ?_
  refine Wr.cons (Or.inl rfl) ?_
  refine Wr.cons (Or.inl rfl) ?_
  refine Wr.cons (Or.inl rfl) ?_
  refine Wr.cons (Or.inl rfl) ?_
  refine Wr.cons (Or.inl rfl) ?_
  exact Wr.nil
