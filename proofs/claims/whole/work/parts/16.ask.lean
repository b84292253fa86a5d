theorem gs_getsABOVE {l : Launch} {E : Ev} {K : Kt} {cc : ByteArray} {own : String} {d nL pc : Nat} {lv : List (Nat × Value)} {st : List Value} {M : Mm} {index : Nat} (k : Ok l E K cc own d nL) (hlink : Cond.fieldLink own index RX6 "ABOVE" "[I" ∈ wsT) (hd : decode cc pc = .ok (.getstatic index, 3)) (h : G l E K (pc + 3) lv (.ref (E.2.2.2.2.1.1) :: st) M) : G l E K pc lv st M := by
  obtain ⟨⟨p, e9, R, s, m, args⟩, ⟨below, meth, c, cells, slots⟩, ⟨Q, A, nL'⟩⟩ := K
  obtain ⟨hx, hb, hml, hnl, hown, hts, hK, hA, hin, hfr, hlo, hce, hsl⟩ := id k
  subst hnl
  intro H locs ls hl hP hD hS
  exact va_gets hx hb hA.2.1.1 hS hown (hts _ hlink) (fun x h9 => h9) hd (h H locs ls hl hP hD hS)
theorem gs_getsNUMBERS {l : Launch} {E : Ev} {K : Kt} {cc : ByteArray} {own : String} {d nL pc : Nat} {lv : List (Nat × Value)} {st : List Value} {M : Mm} {index : Nat} (k : Ok l E K cc own d nL) (hlink : Cond.fieldLink own index RX4 "NUMBERS" "[I" ∈ wsT) (hd : decode cc pc = .ok (.getstatic index, 3)) (h : G l E K (pc + 3) lv (.ref (E.2.2.2.2.1.2) :: st) M) : G l E K pc lv st M := by
  obtain ⟨⟨p, e9, R, s, m, args⟩, ⟨below, meth, c, cells, slots⟩, ⟨Q, A, nL'⟩⟩ := K
  obtain ⟨hx, hb, hml, hnl, hown, hts, hK, hA, hin, hfr, hlo, hce, hsl⟩ := id k
  subst hnl
  intro H locs ls hl hP hD hS
  exact va_gets hx hb hA.2.2.1.1 hS hown (hts _ hlink) (fun x h9 => h9) hd (h H locs ls hl hP hD hS)
theorem gs_tabA {l : Launch} {E : Ev} {K : Kt} {cc : ByteArray} {own : String} {d nL pc : Nat} {lv : List (Nat × Value)} {st : List Value} {M : Mm} {e : Nat} {i v : Int32} (k : Ok l E K cc own d nL) (hi : i = nI e) (he : e < 6) (hv : aboveL.getD e 0 = v) (hd : decode cc pc = .ok (.iaload, 1)) (h : G l E K (pc + 1) lv (.int v :: st) M) : G l E K pc lv (.int i :: .ref (E.2.2.2.2.1.1) :: st) M := by
  obtain ⟨⟨p, e9, R, s, m, args⟩, ⟨below, meth, c, cells, slots⟩, ⟨Q, A, nL'⟩⟩ := K
  obtain ⟨hx, hb, hml, hnl, hown, hts, hK, hA, hin, hfr, hlo, hce, hsl⟩ := id k
  subst hnl
  intro H locs ls hl hP hD hS
  subst hi
  exact va_ti hx hb hA.2.1.2 hS (vp_in_nI he (by omega)) (by show Value.int (aboveL.getD (nI e).toNatClampNeg 0) = Value.int v; rw [nI_clamp (by omega), hv]) hd (h H locs ls hl hP hD hS)
theorem gs_tabN {l : Launch} {E : Ev} {K : Kt} {cc : ByteArray} {own : String} {d nL pc : Nat} {lv : List (Nat × Value)} {st : List Value} {M : Mm} {e : Nat} {i v : Int32} (k : Ok l E K cc own d nL) (hi : i = nI e) (he : e < 11) (hv : numbersL.getD e 0 = v) (hd : decode cc pc = .ok (.iaload, 1)) (h : G l E K (pc + 1) lv (.int v :: st) M) : G l E K pc lv (.int i :: .ref (E.2.2.2.2.1.2) :: st) M := by
  obtain ⟨⟨p, e9, R, s, m, args⟩, ⟨below, meth, c, cells, slots⟩, ⟨Q, A, nL'⟩⟩ := K
  obtain ⟨hx, hb, hml, hnl, hown, hts, hK, hA, hin, hfr, hlo, hce, hsl⟩ := id k
  subst hnl
  intro H locs ls hl hP hD hS
  subst hi
  exact va_ti hx hb hA.2.2.1.2 hS (vp_in_nI he (by omega)) (by show Value.int (numbersL.getD (nI e).toNatClampNeg 0) = Value.int v; rw [nI_clamp (by omega), hv]) hd (h H locs ls hl hP hD hS)
theorem inR2 {x : Int32} (h : inR x 2) : x = 0 ∨ x = 1 := by
  have e := inR_eq h
  have b := inR_lt h
  rw [e]
  generalize tn x = j at b
  match j, b with
  | 0, _ => exact (by decide)
  | 1, _ => exact (by decide)
  | j + 2, b => omega
theorem inR3 {x : Int32} (h : inR x 3) : x = 0 ∨ x = 1 ∨ x = 2 := by
  have e := inR_eq h
  have b := inR_lt h
  rw [e]
  generalize tn x = j at b
  match j, b with
  | 0, _ => exact (by decide)
  | 1, _ => exact (by decide)
  | 2, _ => exact (by decide)
  | j + 3, b => omega
theorem inR4 {x : Int32} (h : inR x 4) : x = 0 ∨ x = 1 ∨ x = 2 ∨ x = 3 := by
  have e := inR_eq h
  have b := inR_lt h
  rw [e]
  generalize tn x = j at b
  match j, b with
  | 0, _ => exact (by decide)
  | 1, _ => exact (by decide)
  | 2, _ => exact (by decide)
  | 3, _ => exact (by decide)
  | j + 4, b => omega
theorem inR5 {x : Int32} (h : inR x 5) : x = 0 ∨ x = 1 ∨ x = 2 ∨ x = 3 ∨ x = 4 := by
  have e := inR_eq h
  have b := inR_lt h
  rw [e]
  generalize tn x = j at b
  match j, b with
  | 0, _ => exact (by decide)
  | 1, _ => exact (by decide)
  | 2, _ => exact (by decide)
  | 3, _ => exact (by decide)
  | 4, _ => exact (by decide)
  | j + 5, b => omega
theorem inR6 {x : Int32} (h : inR x 6) : x = 0 ∨ x = 1 ∨ x = 2 ∨ x = 3 ∨ x = 4 ∨ x = 5 := by
  have e := inR_eq h
  have b := inR_lt h
  rw [e]
  generalize tn x = j at b
  match j, b with
  | 0, _ => exact (by decide)
  | 1, _ => exact (by decide)
  | 2, _ => exact (by decide)
  | 3, _ => exact (by decide)
  | 4, _ => exact (by decide)
  | 5, _ => exact (by decide)
  | j + 6, b => omega
def subk (k g : Int32) : Prop := g = 0 ∨ k = g ∨ (k = 4 ∧ g = 3) ∨ (k = 5 ∧ g = 1)
theorem cf_X6_isSubkind : CF yX6_isSubkind cX6_isSubkind 4 (some .boolean) 2 := ⟨cd_X6_isSubkind, iz_X6, by decide, by decide +kernel, by decide +kernel, by decide +kernel⟩
set_option maxRecDepth 100000 in
set_option maxHeartbeats 4000000 in
theorem c_X6_isSubkind0 {l : Launch} {E : Ev} {M : Mm} {g : Int32} : Cm l E yX6_isSubkind cX6_isSubkind 4 (some .boolean) 0 [.int 0, .int g] M (pB (subk 0 g) M) := by
  refine Cm.of (by decide) (Nat.le_of_ble_eq_true rfl) (fun K k kt => ?_)
  show G l E K 0 [(0, .int 0), (1, .int g)] [] M
  refine gs_iload_n (q := 0) k rfl rfl dX6_isSubkind_0 ?_
  refine gs_istore_n (lv' := [(2, .int 0), (0, .int 0), (1, .int g)]) k rfl (by decide) rfl dX6_isSubkind_1 ?_
  refine gs_iconst (v := 0) k (by decide) dX6_isSubkind_2 ?_
  refine gs_istore_n (lv' := [(3, .int 0), (2, .int 0), (0, .int 0), (1, .int g)]) k rfl (by decide) rfl dX6_isSubkind_3 ?_
  refine gs_iload_n (q := 0) k rfl rfl dX6_isSubkind_4 ?_
  refine gs_bipush (v := 6) k (by decide) dX6_isSubkind_5 ?_
  refine gs_icmp_ge (tgt := 39) k (by decide) dX6_isSubkind_7 (fun h => absurd h (by decide)) (fun _ => ?_)
  refine gs_iload_n (q := 1) k rfl rfl dX6_isSubkind_10 ?_
  refine gs_if_lt (tgt := 39) k (by decide) dX6_isSubkind_11 (fun h => absurd h (by decide)) (fun _ => ?_)
  refine gs_iload_n (q := 1) k rfl rfl dX6_isSubkind_14 ?_
  refine gs_bipush (v := 6) k (by decide) dX6_isSubkind_15 ?_
  refine gs_icmp_ge (tgt := 39) k (by decide) dX6_isSubkind_17 (fun h => absurd h (by decide)) (fun _ => ?_)
  refine gs_iload_n (q := 1) k rfl rfl dX6_isSubkind_20 ?_
  refine gs_iload_n (q := 3) k rfl rfl dX6_isSubkind_21 ?_
  refine gs_icmp_ne (tgt := 27) k (by decide) dX6_isSubkind_22 (fun c1 => ?_) (fun c1 => ?_)
  · refine gs_getsABOVE k fl_X6_303 dX6_isSubkind_27 ?_
    refine gs_iload_n (q := 1) k rfl rfl dX6_isSubkind_30 ?_
    refine gs_tabA (e := 0) (v := -1) k rfl (by omega) rfl dX6_isSubkind_31 ?_
    refine gs_istore_n (lv' := [(2, .int (-1)), (3, .int 0), (0, .int 0), (1, .int g)]) k rfl (by decide) rfl dX6_isSubkind_32 ?_
    refine gs_iinc (q := 1) (v := 1) (lv' := [(3, .int 1), (2, .int (-1)), (0, .int 0), (1, .int g)]) k rfl (by decide) (by decide) rfl dX6_isSubkind_33 ?_
    refine gs_goto (tgt := 4) k (by decide) dX6_isSubkind_36 ?_
    refine gs_iload_n (q := 0) k rfl rfl dX6_isSubkind_4 ?_
    refine gs_bipush (v := 6) k (by decide) dX6_isSubkind_5 ?_
    refine gs_icmp_ge (tgt := 39) k (by decide) dX6_isSubkind_7 (fun h => absurd h (by decide)) (fun _ => ?_)
    refine gs_iload_n (q := 1) k rfl rfl dX6_isSubkind_10 ?_
    refine gs_if_lt (tgt := 39) k (by decide) dX6_isSubkind_11 (fun _ => ?_) (fun h => absurd h (by decide))
    refine gs_iconst (v := 0) k (by decide) dX6_isSubkind_39 ?_
    exact gs_zret k kt (by decide) dX6_isSubkind_40 (pB0 (by unfold subk; simp [c1, show ¬ g = 0 from fun e => c1 e.symm]))
  · refine gs_iconst (v := 1) k (by decide) dX6_isSubkind_25 ?_
    exact gs_zret k kt (by decide) dX6_isSubkind_26 (pB1 (by rw [← c1]; unfold subk; decide))

set_option maxRecDepth 100000 in
set_option maxHeartbeats 4000000 in
theorem c_X6_isSubkind1 {l : Launch} {E : Ev} {M : Mm} {g : Int32} : Cm l E yX6_isSubkind cX6_isSubkind 4 (some .boolean) 0 [.int 1, .int g] M (pB (subk 1 g) M) := by
  refine Cm.of (by decide) (Nat.le_of_ble_eq_true rfl) (fun K k kt => ?_)
  show G l E K 0 [(0, .int 1), (1, .int g)] [] M
  refine gs_iload_n (q := 0) k rfl rfl dX6_isSubkind_0 ?_
  refine gs_istore_n (lv' := [(2, .int 1), (0, .int 1), (1, .int g)]) k rfl (by decide) rfl dX6_isSubkind_1 ?_
  refine gs_iconst (v := 0) k (by decide) dX6_isSubkind_2 ?_
  refine gs_istore_n (lv' := [(3, .int 0), (2, .int 1), (0, .int 1), (1, .int g)]) k rfl (by decide) rfl dX6_isSubkind_3 ?_
  refine gs_iload_n (q := 0) k rfl rfl dX6_isSubkind_4 ?_
  refine gs_bipush (v := 6) k (by decide) dX6_isSubkind_5 ?_
  refine gs_icmp_ge (tgt := 39) k (by decide) dX6_isSubkind_7 (fun h => absurd h (by decide)) (fun _ => ?_)
  refine gs_iload_n (q := 1) k rfl rfl dX6_isSubkind_10 ?_
  refine gs_if_lt (tgt := 39) k (by decide) dX6_isSubkind_11 (fun h => absurd h (by decide)) (fun _ => ?_)
  refine gs_iload_n (q := 1) k rfl rfl dX6_isSubkind_14 ?_
  refine gs_bipush (v := 6) k (by decide) dX6_isSubkind_15 ?_
  refine gs_icmp_ge (tgt := 39) k (by decide) dX6_isSubkind_17 (fun h => absurd h (by decide)) (fun _ => ?_)
  refine gs_iload_n (q := 1) k rfl rfl dX6_isSubkind_20 ?_
  refine gs_iload_n (q := 3) k rfl rfl dX6_isSubkind_21 ?_
  refine gs_icmp_ne (tgt := 27) k (by decide) dX6_isSubkind_22 (fun c1 => ?_) (fun c1 => ?_)
  · refine gs_getsABOVE k fl_X6_303 dX6_isSubkind_27 ?_
    refine gs_iload_n (q := 1) k rfl rfl dX6_isSubkind_30 ?_
    refine gs_tabA (e := 1) (v := 0) k rfl (by omega) rfl dX6_isSubkind_31 ?_
    refine gs_istore_n (lv' := [(2, .int 0), (3, .int 0), (0, .int 1), (1, .int g)]) k rfl (by decide) rfl dX6_isSubkind_32 ?_
    refine gs_iinc (q := 1) (v := 1) (lv' := [(3, .int 1), (2, .int 0), (0, .int 1), (1, .int g)]) k rfl (by decide) (by decide) rfl dX6_isSubkind_33 ?_
    refine gs_goto (tgt := 4) k (by decide) dX6_isSubkind_36 ?_
    refine gs_iload_n (q := 0) k rfl rfl dX6_isSubkind_4 ?_
    refine gs_bipush (v := 6) k (by decide) dX6_isSubkind_5 ?_
    refine gs_icmp_ge (tgt := 39) k (by decide) dX6_isSubkind_7 (fun h => absurd h (by decide)) (fun _ => ?_)
    refine gs_iload_n (q := 1) k rfl rfl dX6_isSubkind_10 ?_
    refine gs_if_lt (tgt := 39) k (by decide) dX6_isSubkind_11 (fun h => absurd h (by decide)) (fun _ => ?_)
    refine gs_iload_n (q := 1) k rfl rfl dX6_isSubkind_14 ?_
    refine gs_bipush (v := 6) k (by decide) dX6_isSubkind_15 ?_
    refine gs_icmp_ge (tgt := 39) k (by decide) dX6_isSubkind_17 (fun h => absurd h (by decide)) (fun _ => ?_)
    refine gs_iload_n (q := 1) k rfl rfl dX6_isSubkind_20 ?_
    refine gs_iload_n (q := 3) k rfl rfl dX6_isSubkind_21 ?_
    refine gs_icmp_ne (tgt := 27) k (by decide) dX6_isSubkind_22 (fun c2 => ?_) (fun c2 => ?_)
    · refine gs_getsABOVE k fl_X6_303 dX6_isSubkind_27 ?_
      refine gs_iload_n (q := 1) k rfl rfl dX6_isSubkind_30 ?_
      refine gs_tabA (e := 0) (v := -1) k rfl (by omega) rfl dX6_isSubkind_31 ?_
      refine gs_istore_n (lv' := [(2, .int (-1)), (3, .int 1), (0, .int 1), (1, .int g)]) k rfl (by decide) rfl dX6_isSubkind_32 ?_
      refine gs_iinc (q := 1) (v := 2) (lv' := [(3, .int 2), (2, .int (-1)), (0, .int 1), (1, .int g)]) k rfl (by decide) (by decide) rfl dX6_isSubkind_33 ?_
      refine gs_goto (tgt := 4) k (by decide) dX6_isSubkind_36 ?_
      refine gs_iload_n (q := 0) k rfl rfl dX6_isSubkind_4 ?_
      refine gs_bipush (v := 6) k (by decide) dX6_isSubkind_5 ?_
      refine gs_icmp_ge (tgt := 39) k (by decide) dX6_isSubkind_7 (fun h => absurd h (by decide)) (fun _ => ?_)
      refine gs_iload_n (q := 1) k rfl rfl dX6_isSubkind_10 ?_
      refine gs_if_lt (tgt := 39) k (by decide) dX6_isSubkind_11 (fun _ => ?_) (fun h => absurd h (by decide))
      refine gs_iconst (v := 0) k (by decide) dX6_isSubkind_39 ?_
      exact gs_zret k kt (by decide) dX6_isSubkind_40 (pB0 (by unfold subk; simp [c1, c2, show ¬ g = 1 from fun e => c1 e.symm, show ¬ g = 0 from fun e => c2 e.symm]))
    · refine gs_iconst (v := 1) k (by decide) dX6_isSubkind_25 ?_
      exact gs_zret k kt (by decide) dX6_isSubkind_26 (pB1 (by rw [← c2]; unfold subk; decide))
  · refine gs_iconst (v := 1) k (by decide) dX6_isSubkind_25 ?_
    exact gs_zret k kt (by decide) dX6_isSubkind_26 (pB1 (by rw [← c1]; unfold subk; decide))

set_option maxRecDepth 100000 in
set_option maxHeartbeats 4000000 in
theorem c_X6_isSubkind2 {l : Launch} {E : Ev} {M : Mm} {g : Int32} : Cm l E yX6_isSubkind cX6_isSubkind 4 (some .boolean) 0 [.int 2, .int g] M (pB (subk 2 g) M) := by
  refine Cm.of (by decide) (Nat.le_of_ble_eq_true rfl) (fun K k kt => ?_)
  show G l E K 0 [(0, .int 2), (1, .int g)] [] M
  refine gs_iload_n (q := 0) k rfl rfl dX6_isSubkind_0 ?_
  refine gs_istore_n (lv' := [(2, .int 2), (0, .int 2), (1, .int g)]) k rfl (by decide) rfl dX6_isSubkind_1 ?_
  refine gs_iconst (v := 0) k (by decide) dX6_isSubkind_2 ?_
  refine gs_istore_n (lv' := [(3, .int 0), (2, .int 2), (0, .int 2), (1, .int g)]) k rfl (by decide) rfl dX6_isSubkind_3 ?_
  refine gs_iload_n (q := 0) k rfl rfl dX6_isSubkind_4 ?_
  refine gs_bipush (v := 6) k (by decide) dX6_isSubkind_5 ?_
  refine gs_icmp_ge (tgt := 39) k (by decide) dX6_isSubkind_7 (fun h => absurd h (by decide)) (fun _ => ?_)
  refine gs_iload_n (q := 1) k rfl rfl dX6_isSubkind_10 ?_
  refine gs_if_lt (tgt := 39) k (by decide) dX6_isSubkind_11 (fun h => absurd h (by decide)) (fun _ => ?_)
  refine gs_iload_n (q := 1) k rfl rfl dX6_isSubkind_14 ?_
  refine gs_bipush (v := 6) k (by decide) dX6_isSubkind_15 ?_
  refine gs_icmp_ge (tgt := 39) k (by decide) dX6_isSubkind_17 (fun h => absurd h (by decide)) (fun _ => ?_)
  refine gs_iload_n (q := 1) k rfl rfl dX6_isSubkind_20 ?_
  refine gs_iload_n (q := 3) k rfl rfl dX6_isSubkind_21 ?_
  refine gs_icmp_ne (tgt := 27) k (by decide) dX6_isSubkind_22 (fun c1 => ?_) (fun c1 => ?_)
  · refine gs_getsABOVE k fl_X6_303 dX6_isSubkind_27 ?_
    refine gs_iload_n (q := 1) k rfl rfl dX6_isSubkind_30 ?_
    refine gs_tabA (e := 2) (v := 0) k rfl (by omega) rfl dX6_isSubkind_31 ?_
    refine gs_istore_n (lv' := [(2, .int 0), (3, .int 0), (0, .int 2), (1, .int g)]) k rfl (by decide) rfl dX6_isSubkind_32 ?_
    refine gs_iinc (q := 1) (v := 1) (lv' := [(3, .int 1), (2, .int 0), (0, .int 2), (1, .int g)]) k rfl (by decide) (by decide) rfl dX6_isSubkind_33 ?_
    refine gs_goto (tgt := 4) k (by decide) dX6_isSubkind_36 ?_
    refine gs_iload_n (q := 0) k rfl rfl dX6_isSubkind_4 ?_
    refine gs_bipush (v := 6) k (by decide) dX6_isSubkind_5 ?_
    refine gs_icmp_ge (tgt := 39) k (by decide) dX6_isSubkind_7 (fun h => absurd h (by decide)) (fun _ => ?_)
    refine gs_iload_n (q := 1) k rfl rfl dX6_isSubkind_10 ?_
    refine gs_if_lt (tgt := 39) k (by decide) dX6_isSubkind_11 (fun h => absurd h (by decide)) (fun _ => ?_)
    refine gs_iload_n (q := 1) k rfl rfl dX6_isSubkind_14 ?_
    refine gs_bipush (v := 6) k (by decide) dX6_isSubkind_15 ?_
    refine gs_icmp_ge (tgt := 39) k (by decide) dX6_isSubkind_17 (fun h => absurd h (by decide)) (fun _ => ?_)
    refine gs_iload_n (q := 1) k rfl rfl dX6_isSubkind_20 ?_
    refine gs_iload_n (q := 3) k rfl rfl dX6_isSubkind_21 ?_
    refine gs_icmp_ne (tgt := 27) k (by decide) dX6_isSubkind_22 (fun c2 => ?_) (fun c2 => ?_)
    · refine gs_getsABOVE k fl_X6_303 dX6_isSubkind_27 ?_
      refine gs_iload_n (q := 1) k rfl rfl dX6_isSubkind_30 ?_
      refine gs_tabA (e := 0) (v := -1) k rfl (by omega) rfl dX6_isSubkind_31 ?_
      refine gs_istore_n (lv' := [(2, .int (-1)), (3, .int 1), (0, .int 2), (1, .int g)]) k rfl (by decide) rfl dX6_isSubkind_32 ?_
      refine gs_iinc (q := 1) (v := 2) (lv' := [(3, .int 2), (2, .int (-1)), (0, .int 2), (1, .int g)]) k rfl (by decide) (by decide) rfl dX6_isSubkind_33 ?_
      refine gs_goto (tgt := 4) k (by decide) dX6_isSubkind_36 ?_
      refine gs_iload_n (q := 0) k rfl rfl dX6_isSubkind_4 ?_
      refine gs_bipush (v := 6) k (by decide) dX6_isSubkind_5 ?_
      refine gs_icmp_ge (tgt := 39) k (by decide) dX6_isSubkind_7 (fun h => absurd h (by decide)) (fun _ => ?_)
      refine gs_iload_n (q := 1) k rfl rfl dX6_isSubkind_10 ?_
      refine gs_if_lt (tgt := 39) k (by decide) dX6_isSubkind_11 (fun _ => ?_) (fun h => absurd h (by decide))
      refine gs_iconst (v := 0) k (by decide) dX6_isSubkind_39 ?_
      exact gs_zret k kt (by decide) dX6_isSubkind_40 (pB0 (by unfold subk; simp [c1, c2, show ¬ g = 2 from fun e => c1 e.symm, show ¬ g = 0 from fun e => c2 e.symm]))
    · refine gs_iconst (v := 1) k (by decide) dX6_isSubkind_25 ?_
      exact gs_zret k kt (by decide) dX6_isSubkind_26 (pB1 (by rw [← c2]; unfold subk; decide))
  · refine gs_iconst (v := 1) k (by decide) dX6_isSubkind_25 ?_
    exact gs_zret k kt (by decide) dX6_isSubkind_26 (pB1 (by rw [← c1]; unfold subk; decide))

set_option maxRecDepth 100000 in
set_option maxHeartbeats 4000000 in
theorem c_X6_isSubkind3 {l : Launch} {E : Ev} {M : Mm} {g : Int32} : Cm l E yX6_isSubkind cX6_isSubkind 4 (some .boolean) 0 [.int 3, .int g] M (pB (subk 3 g) M) := by
  refine Cm.of (by decide) (Nat.le_of_ble_eq_true rfl) (fun K k kt => ?_)
  show G l E K 0 [(0, .int 3), (1, .int g)] [] M
  refine gs_iload_n (q := 0) k rfl rfl dX6_isSubkind_0 ?_
  refine gs_istore_n (lv' := [(2, .int 3), (0, .int 3), (1, .int g)]) k rfl (by decide) rfl dX6_isSubkind_1 ?_
  refine gs_iconst (v := 0) k (by decide) dX6_isSubkind_2 ?_
  refine gs_istore_n (lv' := [(3, .int 0), (2, .int 3), (0, .int 3), (1, .int g)]) k rfl (by decide) rfl dX6_isSubkind_3 ?_
  refine gs_iload_n (q := 0) k rfl rfl dX6_isSubkind_4 ?_
  refine gs_bipush (v := 6) k (by decide) dX6_isSubkind_5 ?_
  refine gs_icmp_ge (tgt := 39) k (by decide) dX6_isSubkind_7 (fun h => absurd h (by decide)) (fun _ => ?_)
  refine gs_iload_n (q := 1) k rfl rfl dX6_isSubkind_10 ?_
  refine gs_if_lt (tgt := 39) k (by decide) dX6_isSubkind_11 (fun h => absurd h (by decide)) (fun _ => ?_)
  refine gs_iload_n (q := 1) k rfl rfl dX6_isSubkind_14 ?_
  refine gs_bipush (v := 6) k (by decide) dX6_isSubkind_15 ?_
  refine gs_icmp_ge (tgt := 39) k (by decide) dX6_isSubkind_17 (fun h => absurd h (by decide)) (fun _ => ?_)
  refine gs_iload_n (q := 1) k rfl rfl dX6_isSubkind_20 ?_
  refine gs_iload_n (q := 3) k rfl rfl dX6_isSubkind_21 ?_
  refine gs_icmp_ne (tgt := 27) k (by decide) dX6_isSubkind_22 (fun c1 => ?_) (fun c1 => ?_)
  · refine gs_getsABOVE k fl_X6_303 dX6_isSubkind_27 ?_
    refine gs_iload_n (q := 1) k rfl rfl dX6_isSubkind_30 ?_
    refine gs_tabA (e := 3) (v := 0) k rfl (by omega) rfl dX6_isSubkind_31 ?_
    refine gs_istore_n (lv' := [(2, .int 0), (3, .int 0), (0, .int 3), (1, .int g)]) k rfl (by decide) rfl dX6_isSubkind_32 ?_
    refine gs_iinc (q := 1) (v := 1) (lv' := [(3, .int 1), (2, .int 0), (0, .int 3), (1, .int g)]) k rfl (by decide) (by decide) rfl dX6_isSubkind_33 ?_
    refine gs_goto (tgt := 4) k (by decide) dX6_isSubkind_36 ?_
    refine gs_iload_n (q := 0) k rfl rfl dX6_isSubkind_4 ?_
    refine gs_bipush (v := 6) k (by decide) dX6_isSubkind_5 ?_
    refine gs_icmp_ge (tgt := 39) k (by decide) dX6_isSubkind_7 (fun h => absurd h (by decide)) (fun _ => ?_)
    refine gs_iload_n (q := 1) k rfl rfl dX6_isSubkind_10 ?_
    refine gs_if_lt (tgt := 39) k (by decide) dX6_isSubkind_11 (fun h => absurd h (by decide)) (fun _ => ?_)
    refine gs_iload_n (q := 1) k rfl rfl dX6_isSubkind_14 ?_
    refine gs_bipush (v := 6) k (by decide) dX6_isSubkind_15 ?_
    refine gs_icmp_ge (tgt := 39) k (by decide) dX6_isSubkind_17 (fun h => absurd h (by decide)) (fun _ => ?_)
    refine gs_iload_n (q := 1) k rfl rfl dX6_isSubkind_20 ?_
    refine gs_iload_n (q := 3) k rfl rfl dX6_isSubkind_21 ?_
    refine gs_icmp_ne (tgt := 27) k (by decide) dX6_isSubkind_22 (fun c2 => ?_) (fun c2 => ?_)
    · refine gs_getsABOVE k fl_X6_303 dX6_isSubkind_27 ?_
      refine gs_iload_n (q := 1) k rfl rfl dX6_isSubkind_30 ?_
      refine gs_tabA (e := 0) (v := -1) k rfl (by omega) rfl dX6_isSubkind_31 ?_
      refine gs_istore_n (lv' := [(2, .int (-1)), (3, .int 1), (0, .int 3), (1, .int g)]) k rfl (by decide) rfl dX6_isSubkind_32 ?_
      refine gs_iinc (q := 1) (v := 2) (lv' := [(3, .int 2), (2, .int (-1)), (0, .int 3), (1, .int g)]) k rfl (by decide) (by decide) rfl dX6_isSubkind_33 ?_
      refine gs_goto (tgt := 4) k (by decide) dX6_isSubkind_36 ?_
      refine gs_iload_n (q := 0) k rfl rfl dX6_isSubkind_4 ?_
      refine gs_bipush (v := 6) k (by decide) dX6_isSubkind_5 ?_
      refine gs_icmp_ge (tgt := 39) k (by decide) dX6_isSubkind_7 (fun h => absurd h (by decide)) (fun _ => ?_)
      refine gs_iload_n (q := 1) k rfl rfl dX6_isSubkind_10 ?_
      refine gs_if_lt (tgt := 39) k (by decide) dX6_isSubkind_11 (fun _ => ?_) (fun h => absurd h (by decide))
      refine gs_iconst (v := 0) k (by decide) dX6_isSubkind_39 ?_
      exact gs_zret k kt (by decide) dX6_isSubkind_40 (pB0 (by unfold subk; simp [c1, c2, show ¬ g = 3 from fun e => c1 e.symm, show ¬ g = 0 from fun e => c2 e.symm]))
    · refine gs_iconst (v := 1) k (by decide) dX6_isSubkind_25 ?_
      exact gs_zret k kt (by decide) dX6_isSubkind_26 (pB1 (by rw [← c2]; unfold subk; decide))
  · refine gs_iconst (v := 1) k (by decide) dX6_isSubkind_25 ?_
    exact gs_zret k kt (by decide) dX6_isSubkind_26 (pB1 (by rw [← c1]; unfold subk; decide))

set_option maxRecDepth 100000 in
set_option maxHeartbeats 4000000 in
theorem c_X6_isSubkind4 {l : Launch} {E : Ev} {M : Mm} {g : Int32} : Cm l E yX6_isSubkind cX6_isSubkind 4 (some .boolean) 0 [.int 4, .int g] M (pB (subk 4 g) M) := by
  refine Cm.of (by decide) (Nat.le_of_ble_eq_true rfl) (fun K k kt => ?_)
  show G l E K 0 [(0, .int 4), (1, .int g)] [] M
  refine gs_iload_n (q := 0) k rfl rfl dX6_isSubkind_0 ?_
  refine gs_istore_n (lv' := [(2, .int 4), (0, .int 4), (1, .int g)]) k rfl (by decide) rfl dX6_isSubkind_1 ?_
  refine gs_iconst (v := 0) k (by decide) dX6_isSubkind_2 ?_
  refine gs_istore_n (lv' := [(3, .int 0), (2, .int 4), (0, .int 4), (1, .int g)]) k rfl (by decide) rfl dX6_isSubkind_3 ?_
  refine gs_iload_n (q := 0) k rfl rfl dX6_isSubkind_4 ?_
  refine gs_bipush (v := 6) k (by decide) dX6_isSubkind_5 ?_
  refine gs_icmp_ge (tgt := 39) k (by decide) dX6_isSubkind_7 (fun h => absurd h (by decide)) (fun _ => ?_)
  refine gs_iload_n (q := 1) k rfl rfl dX6_isSubkind_10 ?_
  refine gs_if_lt (tgt := 39) k (by decide) dX6_isSubkind_11 (fun h => absurd h (by decide)) (fun _ => ?_)
  refine gs_iload_n (q := 1) k rfl rfl dX6_isSubkind_14 ?_
  refine gs_bipush (v := 6) k (by decide) dX6_isSubkind_15 ?_
  refine gs_icmp_ge (tgt := 39) k (by decide) dX6_isSubkind_17 (fun h => absurd h (by decide)) (fun _ => ?_)
  refine gs_iload_n (q := 1) k rfl rfl dX6_isSubkind_20 ?_
  refine gs_iload_n (q := 3) k rfl rfl dX6_isSubkind_21 ?_
  refine gs_icmp_ne (tgt := 27) k (by decide) dX6_isSubkind_22 (fun c1 => ?_) (fun c1 => ?_)
  · refine gs_getsABOVE k fl_X6_303 dX6_isSubkind_27 ?_
    refine gs_iload_n (q := 1) k rfl rfl dX6_isSubkind_30 ?_
    refine gs_tabA (e := 4) (v := 3) k rfl (by omega) rfl dX6_isSubkind_31 ?_
    refine gs_istore_n (lv' := [(2, .int 3), (3, .int 0), (0, .int 4), (1, .int g)]) k rfl (by decide) rfl dX6_isSubkind_32 ?_
    refine gs_iinc (q := 1) (v := 1) (lv' := [(3, .int 1), (2, .int 3), (0, .int 4), (1, .int g)]) k rfl (by decide) (by decide) rfl dX6_isSubkind_33 ?_
    refine gs_goto (tgt := 4) k (by decide) dX6_isSubkind_36 ?_
    refine gs_iload_n (q := 0) k rfl rfl dX6_isSubkind_4 ?_
    refine gs_bipush (v := 6) k (by decide) dX6_isSubkind_5 ?_
    refine gs_icmp_ge (tgt := 39) k (by decide) dX6_isSubkind_7 (fun h => absurd h (by decide)) (fun _ => ?_)
    refine gs_iload_n (q := 1) k rfl rfl dX6_isSubkind_10 ?_
    refine gs_if_lt (tgt := 39) k (by decide) dX6_isSubkind_11 (fun h => absurd h (by decide)) (fun _ => ?_)
    refine gs_iload_n (q := 1) k rfl rfl dX6_isSubkind_14 ?_
    refine gs_bipush (v := 6) k (by decide) dX6_isSubkind_15 ?_
    refine gs_icmp_ge (tgt := 39) k (by decide) dX6_isSubkind_17 (fun h => absurd h (by decide)) (fun _ => ?_)
    refine gs_iload_n (q := 1) k rfl rfl dX6_isSubkind_20 ?_
    refine gs_iload_n (q := 3) k rfl rfl dX6_isSubkind_21 ?_
    refine gs_icmp_ne (tgt := 27) k (by decide) dX6_isSubkind_22 (fun c2 => ?_) (fun c2 => ?_)
    · refine gs_getsABOVE k fl_X6_303 dX6_isSubkind_27 ?_
      refine gs_iload_n (q := 1) k rfl rfl dX6_isSubkind_30 ?_
      refine gs_tabA (e := 3) (v := 0) k rfl (by omega) rfl dX6_isSubkind_31 ?_
      refine gs_istore_n (lv' := [(2, .int 0), (3, .int 1), (0, .int 4), (1, .int g)]) k rfl (by decide) rfl dX6_isSubkind_32 ?_
      refine gs_iinc (q := 1) (v := 2) (lv' := [(3, .int 2), (2, .int 0), (0, .int 4), (1, .int g)]) k rfl (by decide) (by decide) rfl dX6_isSubkind_33 ?_
      refine gs_goto (tgt := 4) k (by decide) dX6_isSubkind_36 ?_
      refine gs_iload_n (q := 0) k rfl rfl dX6_isSubkind_4 ?_
      refine gs_bipush (v := 6) k (by decide) dX6_isSubkind_5 ?_
      refine gs_icmp_ge (tgt := 39) k (by decide) dX6_isSubkind_7 (fun h => absurd h (by decide)) (fun _ => ?_)
      refine gs_iload_n (q := 1) k rfl rfl dX6_isSubkind_10 ?_
      refine gs_if_lt (tgt := 39) k (by decide) dX6_isSubkind_11 (fun h => absurd h (by decide)) (fun _ => ?_)
      refine gs_iload_n (q := 1) k rfl rfl dX6_isSubkind_14 ?_
      refine gs_bipush (v := 6) k (by decide) dX6_isSubkind_15 ?_
      refine gs_icmp_ge (tgt := 39) k (by decide) dX6_isSubkind_17 (fun h => absurd h (by decide)) (fun _ => ?_)
      refine gs_iload_n (q := 1) k rfl rfl dX6_isSubkind_20 ?_
      refine gs_iload_n (q := 3) k rfl rfl dX6_isSubkind_21 ?_
      refine gs_icmp_ne (tgt := 27) k (by decide) dX6_isSubkind_22 (fun c3 => ?_) (fun c3 => ?_)
      · refine gs_getsABOVE k fl_X6_303 dX6_isSubkind_27 ?_
        refine gs_iload_n (q := 1) k rfl rfl dX6_isSubkind_30 ?_
        refine gs_tabA (e := 0) (v := -1) k rfl (by omega) rfl dX6_isSubkind_31 ?_
        refine gs_istore_n (lv' := [(2, .int (-1)), (3, .int 2), (0, .int 4), (1, .int g)]) k rfl (by decide) rfl dX6_isSubkind_32 ?_
        refine gs_iinc (q := 1) (v := 3) (lv' := [(3, .int 3), (2, .int (-1)), (0, .int 4), (1, .int g)]) k rfl (by decide) (by decide) rfl dX6_isSubkind_33 ?_
        refine gs_goto (tgt := 4) k (by decide) dX6_isSubkind_36 ?_
        refine gs_iload_n (q := 0) k rfl rfl dX6_isSubkind_4 ?_
        refine gs_bipush (v := 6) k (by decide) dX6_isSubkind_5 ?_
        refine gs_icmp_ge (tgt := 39) k (by decide) dX6_isSubkind_7 (fun h => absurd h (by decide)) (fun _ => ?_)
        refine gs_iload_n (q := 1) k rfl rfl dX6_isSubkind_10 ?_
        refine gs_if_lt (tgt := 39) k (by decide) dX6_isSubkind_11 (fun _ => ?_) (fun h => absurd h (by decide))
        refine gs_iconst (v := 0) k (by decide) dX6_isSubkind_39 ?_
        exact gs_zret k kt (by decide) dX6_isSubkind_40 (pB0 (by unfold subk; simp [c1, c2, c3, show ¬ g = 4 from fun e => c1 e.symm, show ¬ g = 3 from fun e => c2 e.symm, show ¬ g = 0 from fun e => c3 e.symm]))
      · refine gs_iconst (v := 1) k (by decide) dX6_isSubkind_25 ?_
        exact gs_zret k kt (by decide) dX6_isSubkind_26 (pB1 (by rw [← c3]; unfold subk; decide))
    · refine gs_iconst (v := 1) k (by decide) dX6_isSubkind_25 ?_
      exact gs_zret k kt (by decide) dX6_isSubkind_26 (pB1 (by rw [← c2]; unfold subk; decide))
  · refine gs_iconst (v := 1) k (by decide) dX6_isSubkind_25 ?_
    exact gs_zret k kt (by decide) dX6_isSubkind_26 (pB1 (by rw [← c1]; unfold subk; decide))

set_option maxRecDepth 100000 in
set_option maxHeartbeats 4000000 in
theorem c_X6_isSubkind5 {l : Launch} {E : Ev} {M : Mm} {g : Int32} : Cm l E yX6_isSubkind cX6_isSubkind 4 (some .boolean) 0 [.int 5, .int g] M (pB (subk 5 g) M) := by
  refine Cm.of (by decide) (Nat.le_of_ble_eq_true rfl) (fun K k kt => ?_)
  show G l E K 0 [(0, .int 5), (1, .int g)] [] M
  refine gs_iload_n (q := 0) k rfl rfl dX6_isSubkind_0 ?_
  refine gs_istore_n (lv' := [(2, .int 5), (0, .int 5), (1, .int g)]) k rfl (by decide) rfl dX6_isSubkind_1 ?_
  refine gs_iconst (v := 0) k (by decide) dX6_isSubkind_2 ?_
  refine gs_istore_n (lv' := [(3, .int 0), (2, .int 5), (0, .int 5), (1, .int g)]) k rfl (by decide) rfl dX6_isSubkind_3 ?_
  refine gs_iload_n (q := 0) k rfl rfl dX6_isSubkind_4 ?_
  refine gs_bipush (v := 6) k (by decide) dX6_isSubkind_5 ?_
  refine gs_icmp_ge (tgt := 39) k (by decide) dX6_isSubkind_7 (fun h => absurd h (by decide)) (fun _ => ?_)
  refine gs_iload_n (q := 1) k rfl rfl dX6_isSubkind_10 ?_
  refine gs_if_lt (tgt := 39) k (by decide) dX6_isSubkind_11 (fun h => absurd h (by decide)) (fun _ => ?_)
  refine gs_iload_n (q := 1) k rfl rfl dX6_isSubkind_14 ?_
  refine gs_bipush (v := 6) k (by decide) dX6_isSubkind_15 ?_
  refine gs_icmp_ge (tgt := 39) k (by decide) dX6_isSubkind_17 (fun h => absurd h (by decide)) (fun _ => ?_)
  refine gs_iload_n (q := 1) k rfl rfl dX6_isSubkind_20 ?_
  refine gs_iload_n (q := 3) k rfl rfl dX6_isSubkind_21 ?_
  refine gs_icmp_ne (tgt := 27) k (by decide) dX6_isSubkind_22 (fun c1 => ?_) (fun c1 => ?_)
  · refine gs_getsABOVE k fl_X6_303 dX6_isSubkind_27 ?_
    refine gs_iload_n (q := 1) k rfl rfl dX6_isSubkind_30 ?_
    refine gs_tabA (e := 5) (v := 1) k rfl (by omega) rfl dX6_isSubkind_31 ?_
    refine gs_istore_n (lv' := [(2, .int 1), (3, .int 0), (0, .int 5), (1, .int g)]) k rfl (by decide) rfl dX6_isSubkind_32 ?_
    refine gs_iinc (q := 1) (v := 1) (lv' := [(3, .int 1), (2, .int 1), (0, .int 5), (1, .int g)]) k rfl (by decide) (by decide) rfl dX6_isSubkind_33 ?_
    refine gs_goto (tgt := 4) k (by decide) dX6_isSubkind_36 ?_
    refine gs_iload_n (q := 0) k rfl rfl dX6_isSubkind_4 ?_
    refine gs_bipush (v := 6) k (by decide) dX6_isSubkind_5 ?_
    refine gs_icmp_ge (tgt := 39) k (by decide) dX6_isSubkind_7 (fun h => absurd h (by decide)) (fun _ => ?_)
    refine gs_iload_n (q := 1) k rfl rfl dX6_isSubkind_10 ?_
    refine gs_if_lt (tgt := 39) k (by decide) dX6_isSubkind_11 (fun h => absurd h (by decide)) (fun _ => ?_)
    refine gs_iload_n (q := 1) k rfl rfl dX6_isSubkind_14 ?_
    refine gs_bipush (v := 6) k (by decide) dX6_isSubkind_15 ?_
    refine gs_icmp_ge (tgt := 39) k (by decide) dX6_isSubkind_17 (fun h => absurd h (by decide)) (fun _ => ?_)
    refine gs_iload_n (q := 1) k rfl rfl dX6_isSubkind_20 ?_
    refine gs_iload_n (q := 3) k rfl rfl dX6_isSubkind_21 ?_
    refine gs_icmp_ne (tgt := 27) k (by decide) dX6_isSubkind_22 (fun c2 => ?_) (fun c2 => ?_)
    · refine gs_getsABOVE k fl_X6_303 dX6_isSubkind_27 ?_
      refine gs_iload_n (q := 1) k rfl rfl dX6_isSubkind_30 ?_
      refine gs_tabA (e := 1) (v := 0) k rfl (by omega) rfl dX6_isSubkind_31 ?_
      refine gs_istore_n (lv' := [(2, .int 0), (3, .int 1), (0, .int 5), (1, .int g)]) k rfl (by decide) rfl dX6_isSubkind_32 ?_
      refine gs_iinc (q := 1) (v := 2) (lv' := [(3, .int 2), (2, .int 0), (0, .int 5), (1, .int g)]) k rfl (by decide) (by decide) rfl dX6_isSubkind_33 ?_
      refine gs_goto (tgt := 4) k (by decide) dX6_isSubkind_36 ?_
      refine gs_iload_n (q := 0) k rfl rfl dX6_isSubkind_4 ?_
      refine gs_bipush (v := 6) k (by decide) dX6_isSubkind_5 ?_
      refine gs_icmp_ge (tgt := 39) k (by decide) dX6_isSubkind_7 (fun h => absurd h (by decide)) (fun _ => ?_)
      refine gs_iload_n (q := 1) k rfl rfl dX6_isSubkind_10 ?_
      refine gs_if_lt (tgt := 39) k (by decide) dX6_isSubkind_11 (fun h => absurd h (by decide)) (fun _ => ?_)
      refine gs_iload_n (q := 1) k rfl rfl dX6_isSubkind_14 ?_
      refine gs_bipush (v := 6) k (by decide) dX6_isSubkind_15 ?_
      refine gs_icmp_ge (tgt := 39) k (by decide) dX6_isSubkind_17 (fun h => absurd h (by decide)) (fun _ => ?_)
      refine gs_iload_n (q := 1) k rfl rfl dX6_isSubkind_20 ?_
      refine gs_iload_n (q := 3) k rfl rfl dX6_isSubkind_21 ?_
      refine gs_icmp_ne (tgt := 27) k (by decide) dX6_isSubkind_22 (fun c3 => ?_) (fun c3 => ?_)
      · refine gs_getsABOVE k fl_X6_303 dX6_isSubkind_27 ?_
        refine gs_iload_n (q := 1) k rfl rfl dX6_isSubkind_30 ?_
        refine gs_tabA (e := 0) (v := -1) k rfl (by omega) rfl dX6_isSubkind_31 ?_
        refine gs_istore_n (lv' := [(2, .int (-1)), (3, .int 2), (0, .int 5), (1, .int g)]) k rfl (by decide) rfl dX6_isSubkind_32 ?_
        refine gs_iinc (q := 1) (v := 3) (lv' := [(3, .int 3), (2, .int (-1)), (0, .int 5), (1, .int g)]) k rfl (by decide) (by decide) rfl dX6_isSubkind_33 ?_
        refine gs_goto (tgt := 4) k (by decide) dX6_isSubkind_36 ?_
        refine gs_iload_n (q := 0) k rfl rfl dX6_isSubkind_4 ?_
        refine gs_bipush (v := 6) k (by decide) dX6_isSubkind_5 ?_
        refine gs_icmp_ge (tgt := 39) k (by decide) dX6_isSubkind_7 (fun h => absurd h (by decide)) (fun _ => ?_)
        refine gs_iload_n (q := 1) k rfl rfl dX6_isSubkind_10 ?_
        refine gs_if_lt (tgt := 39) k (by decide) dX6_isSubkind_11 (fun _ => ?_) (fun h => absurd h (by decide))
        refine gs_iconst (v := 0) k (by decide) dX6_isSubkind_39 ?_
        exact gs_zret k kt (by decide) dX6_isSubkind_40 (pB0 (by unfold subk; simp [c1, c2, c3, show ¬ g = 5 from fun e => c1 e.symm, show ¬ g = 1 from fun e => c2 e.symm, show ¬ g = 0 from fun e => c3 e.symm]))
      · refine gs_iconst (v := 1) k (by decide) dX6_isSubkind_25 ?_
        exact gs_zret k kt (by decide) dX6_isSubkind_26 (pB1 (by rw [← c3]; unfold subk; decide))
    · refine gs_iconst (v := 1) k (by decide) dX6_isSubkind_25 ?_
      exact gs_zret k kt (by decide) dX6_isSubkind_26 (pB1 (by rw [← c2]; unfold subk; decide))
  · refine gs_iconst (v := 1) k (by decide) dX6_isSubkind_25 ?_
    exact gs_zret k kt (by decide) dX6_isSubkind_26 (pB1 (by rw [← c1]; unfold subk; decide))

theorem c_X6_isSubkind {l : Launch} {E : Ev} {M : Mm} {k g : Int32} (h : inR k 6) : Cm l E yX6_isSubkind cX6_isSubkind 4 (some .boolean) 0 [.int k, .int g] M (pB (subk k g) M) := by
  rcases inR6 h with rfl | rfl | rfl | rfl | rfl | rfl
  · exact c_X6_isSubkind0
  · exact c_X6_isSubkind1
  · exact c_X6_isSubkind2
  · exact c_X6_isSubkind3
  · exact c_X6_isSubkind4
  · exact c_X6_isSubkind5
theorem cf_X7_isUnder : CF yX7_isUnder cX7_isUnder 2 (some .boolean) 2 := ⟨cd_X7_isUnder, iz_X7, by decide, by decide +kernel, by decide +kernel, by decide +kernel⟩
set_option maxRecDepth 100000 in
set_option maxHeartbeats 4000000 in
theorem c_X7_isUnder {l : Launch} {E : Ev} {M : Mm} {q g : Int32} : Cm l E yX7_isUnder cX7_isUnder 2 (some .boolean) 0 [.int q, .int g] M (pB (subk q g) M) := by
  refine Cm.of (by decide) (Nat.le_of_ble_eq_true rfl) (fun K k kt => ?_)
  show G l E K 0 [(0, .int q), (1, .int g)] [] M
  refine gs_iload_n (q := 1) k rfl rfl dX7_isUnder_0 ?_
  refine gs_if_eq (tgt := 29) k (by decide) dX7_isUnder_1 (fun c1 => ?_) (fun c1 => ?_)
  · refine gs_iconst (v := 1) k (by decide) dX7_isUnder_29 ?_
    refine gs_goto (tgt := 34) k (by decide) dX7_isUnder_30 ?_
    exact gs_zret k kt (by decide) dX7_isUnder_34 (pB1 (by unfold subk; simp_all))
  · refine gs_iload_n (q := 0) k rfl rfl dX7_isUnder_4 ?_
    refine gs_iload_n (q := 1) k rfl rfl dX7_isUnder_5 ?_
    refine gs_icmp_eq (tgt := 29) k (by decide) dX7_isUnder_6 (fun c2 => ?_) (fun c2 => ?_)
    · refine gs_iconst (v := 1) k (by decide) dX7_isUnder_29 ?_
      refine gs_goto (tgt := 34) k (by decide) dX7_isUnder_30 ?_
      exact gs_zret k kt (by decide) dX7_isUnder_34 (pB1 (by unfold subk; simp_all))
    · refine gs_iload_n (q := 0) k rfl rfl dX7_isUnder_9 ?_
      refine gs_iconst (v := 4) k (by decide) dX7_isUnder_10 ?_
      refine gs_icmp_ne (tgt := 19) k (by decide) dX7_isUnder_11 (fun c3 => ?_) (fun c3 => ?_)
      · refine gs_iload_n (q := 0) k rfl rfl dX7_isUnder_19 ?_
        refine gs_iconst (v := 5) k (by decide) dX7_isUnder_20 ?_
        refine gs_icmp_ne (tgt := 33) k (by decide) dX7_isUnder_21 (fun c4 => ?_) (fun c4 => ?_)
        · refine gs_iconst (v := 0) k (by decide) dX7_isUnder_33 ?_
          exact gs_zret k kt (by decide) dX7_isUnder_34 (pB0 (by unfold subk; intro h; rcases h with h | h | ⟨h, _⟩ | ⟨h, _⟩ <;> simp_all))
        · refine gs_iload_n (q := 1) k rfl rfl dX7_isUnder_24 ?_
          refine gs_iconst (v := 1) k (by decide) dX7_isUnder_25 ?_
          refine gs_icmp_ne (tgt := 33) k (by decide) dX7_isUnder_26 (fun c5 => ?_) (fun c5 => ?_)
          · refine gs_iconst (v := 0) k (by decide) dX7_isUnder_33 ?_
            exact gs_zret k kt (by decide) dX7_isUnder_34 (pB0 (by unfold subk; intro h; rcases h with h | h | ⟨h, _⟩ | ⟨h, _⟩ <;> simp_all))
          · refine gs_iconst (v := 1) k (by decide) dX7_isUnder_29 ?_
            refine gs_goto (tgt := 34) k (by decide) dX7_isUnder_30 ?_
            exact gs_zret k kt (by decide) dX7_isUnder_34 (pB1 (by unfold subk; simp_all))
      · refine gs_iload_n (q := 1) k rfl rfl dX7_isUnder_14 ?_
        refine gs_iconst (v := 3) k (by decide) dX7_isUnder_15 ?_
        refine gs_icmp_eq (tgt := 29) k (by decide) dX7_isUnder_16 (fun c6 => ?_) (fun c6 => ?_)
        · refine gs_iconst (v := 1) k (by decide) dX7_isUnder_29 ?_
          refine gs_goto (tgt := 34) k (by decide) dX7_isUnder_30 ?_
          exact gs_zret k kt (by decide) dX7_isUnder_34 (pB1 (by unfold subk; simp_all))
        · refine gs_iload_n (q := 0) k rfl rfl dX7_isUnder_19 ?_
          refine gs_iconst (v := 5) k (by decide) dX7_isUnder_20 ?_
          refine gs_icmp_ne (tgt := 33) k (by decide) dX7_isUnder_21 (fun c7 => ?_) (fun c7 => ?_)
          · refine gs_iconst (v := 0) k (by decide) dX7_isUnder_33 ?_
            exact gs_zret k kt (by decide) dX7_isUnder_34 (pB0 (by unfold subk; intro h; rcases h with h | h | ⟨h, _⟩ | ⟨h, _⟩ <;> simp_all))
          · refine gs_iload_n (q := 1) k rfl rfl dX7_isUnder_24 ?_
            refine gs_iconst (v := 1) k (by decide) dX7_isUnder_25 ?_
            refine gs_icmp_ne (tgt := 33) k (by decide) dX7_isUnder_26 (fun c8 => ?_) (fun c8 => ?_)
            · refine gs_iconst (v := 0) k (by decide) dX7_isUnder_33 ?_
              exact gs_zret k kt (by decide) dX7_isUnder_34 (pB0 (by unfold subk; intro h; rcases h with h | h | ⟨h, _⟩ | ⟨h, _⟩ <;> simp_all))
            · refine gs_iconst (v := 1) k (by decide) dX7_isUnder_29 ?_
              refine gs_goto (tgt := 34) k (by decide) dX7_isUnder_30 ?_
              exact gs_zret k kt (by decide) dX7_isUnder_34 (pB1 (by unfold subk; simp_all))

noncomputable def A_taken (kd : Nat → Int32) (f w : Int32) : Int32 := ifc (inR f 6 ∧ inR w 6) (ifc (¬ kd (tn f) < 0) (ifc (subk (kd (tn f)) w) (kd (tn f)) (-15)) (-11)) (-1)
theorem cf_X6_taken : CF yX6_taken cX6_taken 4 (some .int) 2 := ⟨cd_X6_taken, iz_X6, by decide, by decide +kernel, by decide +kernel, by decide +kernel⟩
set_option maxRecDepth 100000 in
set_option maxHeartbeats 4000000 in
theorem c_X6_taken {l : Launch} {E : Ev} {M : Mm} {n : Nat} {kd : Nat → Int32} {V : Nat → Nat → Int32} (hI : ∀ k, k < 108 → k ∈ E.2.1) (hn : Cn M n) (hF : CFn M n kd V) (hkr : ∀ f, f < 6 → ¬ kd f < 0 → inR (kd f) 6) {f w : Int32} : Cm l E yX6_taken cX6_taken 4 (some .int) 1 [.ref (E.2.2.1 0), .int f, .int w] M (pI (A_taken kd f w) M) := by
  refine Cm.of (by decide) (Nat.le_of_ble_eq_true rfl) (fun K k kt => ?_)
  show G l E K 0 [(0, .ref (E.2.2.1 0)), (1, .int f), (2, .int w)] [] M
  obtain ⟨hn0, hn1, hn6⟩ := id hn
  have hp := p2_le6 hn6
  have hp2 := p2_ge2 hn1
  refine gs_iload_n (q := 1) k rfl rfl dX6_taken_0 ?_
  refine gs_callS (As := [.int f]) k c_X6_isFunction cf_X6_isFunction sm_X6_isFunction ml_X6_101 (by decide) rfl rfl (Nat.le_of_ble_eq_true rfl) dX6_taken_1 (ppB (fun c1 => ?_) (fun c1 => ?_))
  · have bc1 := inR_lt c1
    refine gs_if_eq (tgt := 17) k (by decide) dX6_taken_4 (fun h => absurd h (by decide)) (fun _ => ?_)
    refine gs_iload_n (q := 2) k rfl rfl dX6_taken_7 ?_
    refine gs_if_lt (tgt := 17) k (by decide) dX6_taken_8 (fun c2 => ?_) (fun c2 => ?_)
    · have ec2 : ¬ inR w 6 := inR_n1 c2
      refine gs_iconst (v := -1) k (by decide) dX6_taken_17 ?_
      exact gs_iret k kt dX6_taken_18 ⟨(by simp [-Int32.not_lt, A_taken, ifc_T, ifc_F, c1, c2, ec2]), (by simp [-Int32.not_lt, A_taken, ifc_T, ifc_F, c1, c2, ec2])⟩
    · refine gs_iload_n (q := 2) k rfl rfl dX6_taken_11 ?_
      refine gs_bipush (v := 6) k (by decide) dX6_taken_12 ?_
      refine gs_icmp_lt (tgt := 19) k (by decide) dX6_taken_14 (fun c3 => ?_) (fun c3 => ?_)
      · have ec3 : inR w 6 := inR_of rfl (by decide) c2 (Int32.not_le.mpr c3)
        have fc3 := inR_lt ec3
        refine gs_aload_n (q := 0) k rfl rfl dX6_taken_19 ?_
        refine gs_get (C := RX6) (T := TX6) (N := 10) (ci := 6) (k0 := 0) (j := 0) k (hI 0 (by omega)) rfl rfl inX6 (by decide) fl_X6_12 rfl rfl dX6_taken_20 ?_
        refine gs_get (C := RX5) (T := TX5) (N := 9) (ci := 5) (k0 := 1) (j := 7) k (hI 1 (by omega)) rfl rfl inX5 (by decide) fl_X6_107 rfl rfl dX6_taken_23 ?_
        refine gs_iload_n (q := 1) k rfl rfl dX6_taken_26 ?_
        refine gs_aaldSN (k0 := 8) (n := 6) (e := tn f) (a := E.2.2.1 (10 + 2 * (tn f))) k (hI 8 (by omega)) (fun _ => rfl) (inR_eq c1) (by omega) (by decide) rfl dX6_taken_27 ?_
        refine gs_astore_n (lv' := [(3, .ref (E.2.2.1 (10 + 2 * (tn f)))), (0, .ref (E.2.2.1 0)), (1, .int f), (2, .int w)]) k rfl (by decide) rfl dX6_taken_28 ?_
        refine gs_aload_n (q := 0) k rfl rfl dX6_taken_29 ?_
        refine gs_callV (As := []) (k0 := (10 + 2 * (tn f))) (ci := 3) (T := TX3) (N := 2) k (c_X3_isMissing hI hF (by omega)) cf_X3_isMissing im_X3_isMissing sl_X3_isMissing ml_X6_127 (hI (10 + 2 * (tn f)) (by omega)) (ent_F1 (by omega) _) rfl (by decide) rfl rfl (Nat.le_of_ble_eq_true rfl) dX6_taken_30 (ppB (fun c4 => ?_) (fun c4 => ?_))
        · refine gs_if_eq (tgt := 39) k (by decide) dX6_taken_33 (fun h => absurd h (by decide)) (fun _ => ?_)
          refine gs_bipush (v := -11) k (by decide) dX6_taken_36 ?_
          exact gs_iret k kt dX6_taken_38 ⟨(by simp [-Int32.not_lt, A_taken, ifc_T, ifc_F, c1, c2, c3, ec3, c4]), (by simp [-Int32.not_lt, A_taken, ifc_T, ifc_F, c1, c2, c3, ec3, c4])⟩
        · refine gs_if_eq (tgt := 39) k (by decide) dX6_taken_33 (fun _ => ?_) (fun h => absurd h (by decide))
          refine gs_aload_n (q := 0) k rfl rfl dX6_taken_39 ?_
          refine gs_get (C := RX3) (T := TX3) (N := 2) (ci := 3) (k0 := (10 + 2 * (tn f))) (j := 0) k (hI (10 + 2 * (tn f)) (by omega)) (ent_F1 (by omega) _) rfl inX3 (by decide) fl_X6_116 rfl rfl dX6_taken_40 ?_
          refine gs_top (y := kd (tn f)) ((hF (tn f) (by omega)).1) ?_
          refine gs_iload_n (q := 3) k rfl rfl dX6_taken_43 ?_
          refine gs_callS (As := [.int (kd (tn f)), .int w]) k (c_X6_isSubkind (hkr _ (by omega) (by assumption))) cf_X6_isSubkind sm_X6_isSubkind ml_X6_176 (by decide) rfl rfl (Nat.le_of_ble_eq_true rfl) dX6_taken_44 (ppB (fun c5 => ?_) (fun c5 => ?_))
          · refine gs_if_eq (tgt := 57) k (by decide) dX6_taken_47 (fun h => absurd h (by decide)) (fun _ => ?_)
            refine gs_aload_n (q := 0) k rfl rfl dX6_taken_50 ?_
            refine gs_get (C := RX3) (T := TX3) (N := 2) (ci := 3) (k0 := (10 + 2 * (tn f))) (j := 0) k (hI (10 + 2 * (tn f)) (by omega)) (ent_F1 (by omega) _) rfl inX3 (by decide) fl_X6_116 rfl rfl dX6_taken_51 ?_
            refine gs_top (y := kd (tn f)) ((hF (tn f) (by omega)).1) ?_
            refine gs_goto (tgt := 59) k (by decide) dX6_taken_54 ?_
            exact gs_iret k kt dX6_taken_59 ⟨(by simp [-Int32.not_lt, A_taken, ifc_T, ifc_F, c1, c2, c3, ec3, c4, c5]), (by simp [-Int32.not_lt, A_taken, ifc_T, ifc_F, c1, c2, c3, ec3, c4, c5])⟩
          · refine gs_if_eq (tgt := 57) k (by decide) dX6_taken_47 (fun _ => ?_) (fun h => absurd h (by decide))
            refine gs_bipush (v := -15) k (by decide) dX6_taken_57 ?_
            exact gs_iret k kt dX6_taken_59 ⟨(by simp [-Int32.not_lt, A_taken, ifc_T, ifc_F, c1, c2, c3, ec3, c4, c5]), (by simp [-Int32.not_lt, A_taken, ifc_T, ifc_F, c1, c2, c3, ec3, c4, c5])⟩
      · have ec3 : ¬ inR w 6 := inR_n2 rfl (by decide) (Int32.not_lt.mp c3)
        refine gs_iconst (v := -1) k (by decide) dX6_taken_17 ?_
        exact gs_iret k kt dX6_taken_18 ⟨(by simp [-Int32.not_lt, A_taken, ifc_T, ifc_F, c1, c2, c3, ec3]), (by simp [-Int32.not_lt, A_taken, ifc_T, ifc_F, c1, c2, c3, ec3])⟩
  · refine gs_if_eq (tgt := 17) k (by decide) dX6_taken_4 (fun _ => ?_) (fun h => absurd h (by decide))
    refine gs_iconst (v := -1) k (by decide) dX6_taken_17 ?_
    exact gs_iret k kt dX6_taken_18 ⟨(by simp [-Int32.not_lt, A_taken, ifc_T, ifc_F, c1]), (by simp [-Int32.not_lt, A_taken, ifc_T, ifc_F, c1])⟩

theorem cf_X7_taken : CF yX7_taken cX7_taken 3 (some .int) 2 := ⟨cd_X7_taken, iz_X7, by decide, by decide +kernel, by decide +kernel, by decide +kernel⟩
set_option maxRecDepth 100000 in
set_option maxHeartbeats 4000000 in
theorem c_X7_taken {l : Launch} {E : Ev} {M : Mm} {n : Nat} {kd : Nat → Int32} {V : Nat → Nat → Int32} (hI : ∀ k, k < 108 → k ∈ E.2.1) (hn : Rn M n) (hF : RFn M n kd V) {f w : Int32} : Cm l E yX7_taken cX7_taken 3 (some .int) 3 [.ref (E.2.2.1 65), .int f, .int w] M (pI (A_taken kd f w) M) := by
  refine Cm.of (by decide) (Nat.le_of_ble_eq_true rfl) (fun K k kt => ?_)
  show G l E K 0 [(0, .ref (E.2.2.1 65)), (1, .int f), (2, .int w)] [] M
  obtain ⟨hn0, hn1, hn6⟩ := id hn
  have hp := p2_le6 hn6
  have hp2 := p2_ge2 hn1
  refine gs_iload_n (q := 1) k rfl rfl dX7_taken_0 ?_
  refine gs_callS (As := [.int f]) k c_X7_isFunction cf_X7_isFunction sm_X7_isFunction ml_X7_128 (by decide) rfl rfl (Nat.le_of_ble_eq_true rfl) dX7_taken_1 (ppB (fun c1 => ?_) (fun c1 => ?_))
  · have bc1 := inR_lt c1
    refine gs_if_eq (tgt := 19) k (by decide) dX7_taken_4 (fun h => absurd h (by decide)) (fun _ => ?_)
    refine gs_iload_n (q := 2) k rfl rfl dX7_taken_7 ?_
    refine gs_i2l k dX7_taken_8 ?_
    refine gs_lconst (v := 0) k (by decide) dX7_taken_9 ?_
    refine gs_ldc2 (v := 5) k cl_X7_109 dX7_taken_10 ?_
    refine gs_callS (As := [.long (w.toInt64), .long (0), .long (5)]) k (Cm.iff (inL (n := 6) (by decide) (by decide)) c_X7_in) cf_X7_in sm_X7_in ml_X7_79 (by decide) rfl rfl (Nat.le_of_ble_eq_true rfl) dX7_taken_13 (ppB (fun c2 => ?_) (fun c2 => ?_))
    · have bc2 := inR_lt c2
      refine gs_if_ne (tgt := 21) k (by decide) dX7_taken_16 (fun _ => ?_) (fun h => absurd h (by decide))
      refine gs_aload_n (q := 0) k rfl rfl dX7_taken_21 ?_
      refine gs_iload_n (q := 1) k rfl rfl dX7_taken_22 ?_
      refine gs_callV (As := [.int f]) (k0 := 65) (ci := 7) (T := TX7) (N := 27) k (c_X7_isThere hI hF) cf_X7_isThere im_X7_isThere sl_X7_isThere ml_X7_163 (hI 65 (by omega)) rfl rfl (by decide) rfl rfl (Nat.le_of_ble_eq_true rfl) dX7_taken_23 (ppB (fun c3 => ?_) (fun c3 => ?_))
      · have bc3 := inR_lt c3.1
        have tc3 := c3.2
        refine gs_if_ne (tgt := 32) k (by decide) dX7_taken_26 (fun _ => ?_) (fun h => absurd h (by decide))
        refine gs_aload_n (q := 0) k rfl rfl dX7_taken_32 ?_
        refine gs_get (C := RX7) (T := TX7) (N := 27) (ci := 7) (k0 := 65) (j := 7) k (hI 65 (by omega)) rfl rfl inX7 (by decide) fl_X7_34 rfl rfl dX7_taken_33 ?_
        refine gs_iload_n (q := 1) k rfl rfl dX7_taken_36 ?_
        refine gs_ialdN (k0 := 72) (n := 6) (e := tn f) k (hI 72 (by omega)) (fun _ => rfl) (inR_eq c1) (by omega) (by decide) dX7_taken_37 ?_
        refine gs_top (y := kd (tn f)) ((hF (tn f) (by omega)).1) ?_
        refine gs_iload_n (q := 2) k rfl rfl dX7_taken_38 ?_
        refine gs_callS (As := [.int (kd (tn f)), .int w]) k c_X7_isUnder cf_X7_isUnder sm_X7_isUnder ml_X7_194 (by decide) rfl rfl (Nat.le_of_ble_eq_true rfl) dX7_taken_39 (ppB (fun c4 => ?_) (fun c4 => ?_))
        · refine gs_if_eq (tgt := 54) k (by decide) dX7_taken_42 (fun h => absurd h (by decide)) (fun _ => ?_)
          refine gs_aload_n (q := 0) k rfl rfl dX7_taken_45 ?_
          refine gs_get (C := RX7) (T := TX7) (N := 27) (ci := 7) (k0 := 65) (j := 7) k (hI 65 (by omega)) rfl rfl inX7 (by decide) fl_X7_34 rfl rfl dX7_taken_46 ?_
          refine gs_iload_n (q := 1) k rfl rfl dX7_taken_49 ?_
          refine gs_ialdN (k0 := 72) (n := 6) (e := tn f) k (hI 72 (by omega)) (fun _ => rfl) (inR_eq c1) (by omega) (by decide) dX7_taken_50 ?_
          refine gs_top (y := kd (tn f)) ((hF (tn f) (by omega)).1) ?_
          refine gs_goto (tgt := 56) k (by decide) dX7_taken_51 ?_
          exact gs_iret k kt dX7_taken_56 ⟨(by simp [-Int32.not_lt, A_taken, ifc_T, ifc_F, c1, c2, c3, tc3, c4]), (by simp [-Int32.not_lt, A_taken, ifc_T, ifc_F, c1, c2, c3, tc3, c4])⟩
        · refine gs_if_eq (tgt := 54) k (by decide) dX7_taken_42 (fun _ => ?_) (fun h => absurd h (by decide))
          refine gs_bipush (v := -15) k (by decide) dX7_taken_54 ?_
          exact gs_iret k kt dX7_taken_56 ⟨(by simp [-Int32.not_lt, A_taken, ifc_T, ifc_F, c1, c2, c3, tc3, c4]), (by simp [-Int32.not_lt, A_taken, ifc_T, ifc_F, c1, c2, c3, tc3, c4])⟩
      · have qc3 : kd (tn f) < 0 := Classical.byContradiction (fun k => c3 ⟨by assumption, k⟩)
        refine gs_if_ne (tgt := 32) k (by decide) dX7_taken_26 (fun h => absurd h (by decide)) (fun _ => ?_)
        refine gs_bipush (v := -11) k (by decide) dX7_taken_29 ?_
        exact gs_iret k kt dX7_taken_31 ⟨(by simp [-Int32.not_lt, A_taken, ifc_T, ifc_F, c1, c2, c3, qc3]), (by simp [-Int32.not_lt, A_taken, ifc_T, ifc_F, c1, c2, c3, qc3])⟩
    · refine gs_if_ne (tgt := 21) k (by decide) dX7_taken_16 (fun h => absurd h (by decide)) (fun _ => ?_)
      refine gs_iconst (v := -1) k (by decide) dX7_taken_19 ?_
      exact gs_iret k kt dX7_taken_20 ⟨(by simp [-Int32.not_lt, A_taken, ifc_T, ifc_F, c1, c2]), (by simp [-Int32.not_lt, A_taken, ifc_T, ifc_F, c1, c2])⟩
  · refine gs_if_eq (tgt := 19) k (by decide) dX7_taken_4 (fun _ => ?_) (fun h => absurd h (by decide))
    refine gs_iconst (v := -1) k (by decide) dX7_taken_19 ?_
    exact gs_iret k kt dX7_taken_20 ⟨(by simp [-Int32.not_lt, A_taken, ifc_T, ifc_F, c1]), (by simp [-Int32.not_lt, A_taken, ifc_T, ifc_F, c1])⟩

noncomputable def A_value (n : Nat) (kd : Nat → Int32) (V : Nat → Nat → Int32) (f w : Int32) : Int32 := ifc (inR f 6) (ifc (inR w (2 ^ n)) (ifc (¬ kd (tn f) < 0) (V (tn f) (tn w)) (-1000011)) (-1000002)) (-1000001)
theorem cf_X6_value : CF yX6_value cX6_value 3 (some .int) 2 := ⟨cd_X6_value, iz_X6, by decide, by decide +kernel, by decide +kernel, by decide +kernel⟩
set_option maxRecDepth 100000 in
set_option maxHeartbeats 4000000 in
theorem c_X6_value {l : Launch} {E : Ev} {M : Mm} {n : Nat} {kd : Nat → Int32} {V : Nat → Nat → Int32} (hI : ∀ k, k < 108 → k ∈ E.2.1) (hn : Cn M n) (hF : CFn M n kd V) {f w : Int32} : Cm l E yX6_value cX6_value 3 (some .int) 2 [.ref (E.2.2.1 0), .int f, .int w] M (pI (A_value n kd V f w) M) := by
  refine Cm.of (by decide) (Nat.le_of_ble_eq_true rfl) (fun K k kt => ?_)
  show G l E K 0 [(0, .ref (E.2.2.1 0)), (1, .int f), (2, .int w)] [] M
  obtain ⟨hn0, hn1, hn6⟩ := id hn
  have hp := p2_le6 hn6
  have hp2 := p2_ge2 hn1
  refine gs_iload_n (q := 1) k rfl rfl dX6_value_0 ?_
  refine gs_callS (As := [.int f]) k c_X6_isFunction cf_X6_isFunction sm_X6_isFunction ml_X6_101 (by decide) rfl rfl (Nat.le_of_ble_eq_true rfl) dX6_value_1 (ppB (fun c1 => ?_) (fun c1 => ?_))
  · have bc1 := inR_lt c1
    refine gs_if_ne (tgt := 10) k (by decide) dX6_value_4 (fun _ => ?_) (fun h => absurd h (by decide))
    refine gs_aload_n (q := 0) k rfl rfl dX6_value_10 ?_
    refine gs_get (C := RX6) (T := TX6) (N := 10) (ci := 6) (k0 := 0) (j := 0) k (hI 0 (by omega)) rfl rfl inX6 (by decide) fl_X6_12 rfl rfl dX6_value_11 ?_
    refine gs_iload_n (q := 2) k rfl rfl dX6_value_14 ?_
    refine gs_callV (As := [.int w]) (k0 := 1) (ci := 5) (T := TX5) (N := 9) k (c_X5_hasSet hI hn) cf_X5_hasSet im_X5_hasSet sl_X5_hasSet ml_X6_78 (hI 1 (by omega)) rfl rfl (by decide) rfl rfl (Nat.le_of_ble_eq_true rfl) dX6_value_15 (ppB (fun c2 => ?_) (fun c2 => ?_))
    · have bc2 := inR_lt c2
      refine gs_if_ne (tgt := 24) k (by decide) dX6_value_18 (fun _ => ?_) (fun h => absurd h (by decide))
      refine gs_aload_n (q := 0) k rfl rfl dX6_value_24 ?_
      refine gs_get (C := RX6) (T := TX6) (N := 10) (ci := 6) (k0 := 0) (j := 0) k (hI 0 (by omega)) rfl rfl inX6 (by decide) fl_X6_12 rfl rfl dX6_value_25 ?_
      refine gs_get (C := RX5) (T := TX5) (N := 9) (ci := 5) (k0 := 1) (j := 7) k (hI 1 (by omega)) rfl rfl inX5 (by decide) fl_X6_107 rfl rfl dX6_value_28 ?_
      refine gs_iload_n (q := 1) k rfl rfl dX6_value_31 ?_
      refine gs_aaldSN (k0 := 8) (n := 6) (e := tn f) (a := E.2.2.1 (10 + 2 * (tn f))) k (hI 8 (by omega)) (fun _ => rfl) (inR_eq c1) (by omega) (by decide) rfl dX6_value_32 ?_
      refine gs_callV (As := []) (k0 := (10 + 2 * (tn f))) (ci := 3) (T := TX3) (N := 2) k (c_X3_isMissing hI hF (by omega)) cf_X3_isMissing im_X3_isMissing sl_X3_isMissing ml_X6_127 (hI (10 + 2 * (tn f)) (by omega)) (ent_F1 (by omega) _) rfl (by decide) rfl rfl (Nat.le_of_ble_eq_true rfl) dX6_value_33 (ppB (fun c3 => ?_) (fun c3 => ?_))
      · refine gs_if_eq (tgt := 42) k (by decide) dX6_value_36 (fun h => absurd h (by decide)) (fun _ => ?_)
        refine gs_ldc (v := -1000011) k cn_X6_180 dX6_value_39 ?_
        exact gs_iret k kt dX6_value_41 ⟨(by simp [-Int32.not_lt, A_value, ifc_T, ifc_F, c1, c2, c3]), (by simp [-Int32.not_lt, A_value, ifc_T, ifc_F, c1, c2, c3])⟩
      · refine gs_if_eq (tgt := 42) k (by decide) dX6_value_36 (fun _ => ?_) (fun h => absurd h (by decide))
        refine gs_aload_n (q := 0) k rfl rfl dX6_value_42 ?_
        refine gs_get (C := RX6) (T := TX6) (N := 10) (ci := 6) (k0 := 0) (j := 0) k (hI 0 (by omega)) rfl rfl inX6 (by decide) fl_X6_12 rfl rfl dX6_value_43 ?_
        refine gs_get (C := RX5) (T := TX5) (N := 9) (ci := 5) (k0 := 1) (j := 7) k (hI 1 (by omega)) rfl rfl inX5 (by decide) fl_X6_107 rfl rfl dX6_value_46 ?_
        refine gs_iload_n (q := 1) k rfl rfl dX6_value_49 ?_
        refine gs_aaldSN (k0 := 8) (n := 6) (e := tn f) (a := E.2.2.1 (10 + 2 * (tn f))) k (hI 8 (by omega)) (fun _ => rfl) (inR_eq c1) (by omega) (by decide) rfl dX6_value_50 ?_
        refine gs_get (C := RX3) (T := TX3) (N := 2) (ci := 3) (k0 := (10 + 2 * (tn f))) (j := 1) k (hI (10 + 2 * (tn f)) (by omega)) (ent_F1 (by omega) _) rfl inX3 (by decide) fl_X6_111 rfl rfl dX6_value_51 ?_
        refine gs_iload_n (q := 2) k rfl rfl dX6_value_54 ?_
        refine gs_ialdN (k0 := (11 + 2 * (tn f))) (n := 64) (e := tn w) k (hI (11 + 2 * (tn f)) (by omega)) (ent_V1 (by omega)) (inR_eq c2) (by omega) (by decide) dX6_value_55 ?_
        refine gs_top (y := V (tn f) (tn w)) ((hF (tn f) (by omega)).2.2 (tn w) (by omega)) ?_
        exact gs_iret k kt dX6_value_56 ⟨(by simp [-Int32.not_lt, A_value, ifc_T, ifc_F, c1, c2, c3]), (by simp [-Int32.not_lt, A_value, ifc_T, ifc_F, c1, c2, c3])⟩
    · refine gs_if_ne (tgt := 24) k (by decide) dX6_value_18 (fun h => absurd h (by decide)) (fun _ => ?_)
      refine gs_ldc (v := -1000002) k cn_X6_97 dX6_value_21 ?_
      exact gs_iret k kt dX6_value_23 ⟨(by simp [-Int32.not_lt, A_value, ifc_T, ifc_F, c1, c2]), (by simp [-Int32.not_lt, A_value, ifc_T, ifc_F, c1, c2])⟩
  · refine gs_if_ne (tgt := 10) k (by decide) dX6_value_4 (fun h => absurd h (by decide)) (fun _ => ?_)
    refine gs_ldc (v := -1000001) k cn_X6_96 dX6_value_7 ?_
    exact gs_iret k kt dX6_value_9 ⟨(by simp [-Int32.not_lt, A_value, ifc_T, ifc_F, c1]), (by simp [-Int32.not_lt, A_value, ifc_T, ifc_F, c1])⟩

theorem cf_X7_value : CF yX7_value cX7_value 3 (some .int) 2 := ⟨cd_X7_value, iz_X7, by decide, by decide +kernel, by decide +kernel, by decide +kernel⟩
set_option maxRecDepth 100000 in
set_option maxHeartbeats 4000000 in
theorem c_X7_value {l : Launch} {E : Ev} {M : Mm} {n : Nat} {kd : Nat → Int32} {V : Nat → Nat → Int32} (hI : ∀ k, k < 108 → k ∈ E.2.1) (hn : Rn M n) (hF : RFn M n kd V) {f w : Int32} : Cm l E yX7_value cX7_value 3 (some .int) 3 [.ref (E.2.2.1 65), .int f, .int w] M (pI (A_value n kd V f w) M) := by
  refine Cm.of (by decide) (Nat.le_of_ble_eq_true rfl) (fun K k kt => ?_)
  show G l E K 0 [(0, .ref (E.2.2.1 65)), (1, .int f), (2, .int w)] [] M
  obtain ⟨hn0, hn1, hn6⟩ := id hn
  have hp := p2_le6 hn6
  have hp2 := p2_ge2 hn1
  refine gs_iload_n (q := 1) k rfl rfl dX7_value_0 ?_
  refine gs_callS (As := [.int f]) k c_X7_isFunction cf_X7_isFunction sm_X7_isFunction ml_X7_128 (by decide) rfl rfl (Nat.le_of_ble_eq_true rfl) dX7_value_1 (ppB (fun c1 => ?_) (fun c1 => ?_))
  · have bc1 := inR_lt c1
    refine gs_if_ne (tgt := 10) k (by decide) dX7_value_4 (fun _ => ?_) (fun h => absurd h (by decide))
    refine gs_aload_n (q := 0) k rfl rfl dX7_value_10 ?_
    refine gs_iload_n (q := 2) k rfl rfl dX7_value_11 ?_
    refine gs_callV (As := [.int w]) (k0 := 65) (ci := 7) (T := TX7) (N := 27) k (c_X7_isSet hI hn) cf_X7_isSet im_X7_isSet sl_X7_isSet ml_X7_106 (hI 65 (by omega)) rfl rfl (by decide) rfl rfl (Nat.le_of_ble_eq_true rfl) dX7_value_12 (ppB (fun c2 => ?_) (fun c2 => ?_))
    · have bc2 := inR_lt c2
      refine gs_if_ne (tgt := 21) k (by decide) dX7_value_15 (fun _ => ?_) (fun h => absurd h (by decide))
      refine gs_aload_n (q := 0) k rfl rfl dX7_value_21 ?_
      refine gs_iload_n (q := 1) k rfl rfl dX7_value_22 ?_
      refine gs_callV (As := [.int f]) (k0 := 65) (ci := 7) (T := TX7) (N := 27) k (c_X7_isThere hI hF) cf_X7_isThere im_X7_isThere sl_X7_isThere ml_X7_163 (hI 65 (by omega)) rfl rfl (by decide) rfl rfl (Nat.le_of_ble_eq_true rfl) dX7_value_23 (ppB (fun c3 => ?_) (fun c3 => ?_))
      · have bc3 := inR_lt c3.1
        have tc3 := c3.2
        refine gs_if_eq (tgt := 40) k (by decide) dX7_value_26 (fun h => absurd h (by decide)) (fun _ => ?_)
        refine gs_aload_n (q := 0) k rfl rfl dX7_value_29 ?_
        refine gs_get (C := RX7) (T := TX7) (N := 27) (ci := 7) (k0 := 65) (j := 8) k (hI 65 (by omega)) rfl rfl inX7 (by decide) fl_X7_39 rfl rfl dX7_value_30 ?_
        refine gs_iload_n (q := 1) k rfl rfl dX7_value_33 ?_
        refine gs_aaldIN (k0 := 73) (n := 6) (e := tn f) (a := E.2.2.1 (74 + (tn f))) k (hI 73 (by omega)) (fun _ => rfl) (inR_eq c1) (by omega) (by decide) rfl dX7_value_34 ?_
        refine gs_iload_n (q := 2) k rfl rfl dX7_value_35 ?_
        refine gs_ialdN (k0 := (74 + (tn f))) (n := 64) (e := tn w) k (hI (74 + (tn f)) (by omega)) (ent_RV (by omega)) (inR_eq c2) (by omega) (by decide) dX7_value_36 ?_
        refine gs_top (y := V (tn f) (tn w)) ((hF (tn f) (by omega)).2.2 (by assumption) (tn w) (by omega)) ?_
        refine gs_goto (tgt := 42) k (by decide) dX7_value_37 ?_
        exact gs_iret k kt dX7_value_42 ⟨(by simp [-Int32.not_lt, A_value, ifc_T, ifc_F, c1, c2, c3, tc3]), (by simp [-Int32.not_lt, A_value, ifc_T, ifc_F, c1, c2, c3, tc3])⟩
      · have qc3 : kd (tn f) < 0 := Classical.byContradiction (fun k => c3 ⟨by assumption, k⟩)
        refine gs_if_eq (tgt := 40) k (by decide) dX7_value_26 (fun _ => ?_) (fun h => absurd h (by decide))
        refine gs_ldc (v := -1000011) k cn_X7_197 dX7_value_40 ?_
        exact gs_iret k kt dX7_value_42 ⟨(by simp [-Int32.not_lt, A_value, ifc_T, ifc_F, c1, c2, c3, qc3]), (by simp [-Int32.not_lt, A_value, ifc_T, ifc_F, c1, c2, c3, qc3])⟩
    · refine gs_if_ne (tgt := 21) k (by decide) dX7_value_15 (fun h => absurd h (by decide)) (fun _ => ?_)
      refine gs_ldc (v := -1000002) k cn_X7_117 dX7_value_18 ?_
      exact gs_iret k kt dX7_value_20 ⟨(by simp [-Int32.not_lt, A_value, ifc_T, ifc_F, c1, c2]), (by simp [-Int32.not_lt, A_value, ifc_T, ifc_F, c1, c2])⟩
  · refine gs_if_ne (tgt := 10) k (by decide) dX7_value_4 (fun h => absurd h (by decide)) (fun _ => ?_)
    refine gs_ldc (v := -1000001) k cn_X7_114 dX7_value_7 ?_
    exact gs_iret k kt dX7_value_9 ⟨(by simp [-Int32.not_lt, A_value, ifc_T, ifc_F, c1]), (by simp [-Int32.not_lt, A_value, ifc_T, ifc_F, c1])⟩

noncomputable def A_gain (n : Nat) (kd : Nat → Int32) (V : Nat → Nat → Int32) (f w p : Int32) : Int64 := ifc ((inR f 6 ∧ ¬ kd (tn f) < 0) ∧ inR w (2 ^ n) ∧ inR p n ∧ ¬ (tn w).testBit (tn p) = true) ((gn (V (tn f)) (tn w) (tn p)).toInt64) (-9223372036854775808)
theorem cf_X6_gain : CF yX6_gain cX6_gain 4 (some .long) 3 := ⟨cd_X6_gain, iz_X6, by decide, by decide +kernel, by decide +kernel, by decide +kernel⟩
set_option maxRecDepth 100000 in
set_option maxHeartbeats 4000000 in
theorem c_X6_gain {l : Launch} {E : Ev} {M : Mm} {n : Nat} {kd : Nat → Int32} {V : Nat → Nat → Int32} (hI : ∀ k, k < 108 → k ∈ E.2.1) (hn : Cn M n) (hF : CFn M n kd V) {f w p : Int32} : Cm l E yX6_gain cX6_gain 4 (some .long) 2 [.ref (E.2.2.1 0), .int f, .int w, .int p] M (pL (A_gain n kd V f w p) M) := by
  refine Cm.of (by decide) (Nat.le_of_ble_eq_true rfl) (fun K k kt => ?_)
  show G l E K 0 [(0, .ref (E.2.2.1 0)), (1, .int f), (2, .int w), (3, .int p)] [] M
  obtain ⟨hn0, hn1, hn6⟩ := id hn
  have hp := p2_le6 hn6
  have hp2 := p2_ge2 hn1
  refine gs_aload_n (q := 0) k rfl rfl dX6_gain_0 ?_
  refine gs_iload_n (q := 1) k rfl rfl dX6_gain_1 ?_
  refine gs_callV (As := [.int f]) (k0 := 0) (ci := 6) (T := TX6) (N := 10) k (c_X6_errorOf hI hF) cf_X6_errorOf im_X6_errorOf sl_X6_errorOf ml_X6_154 (hI 0 (by omega)) rfl rfl (by decide) rfl rfl (Nat.le_of_ble_eq_true rfl) dX6_gain_2 (ppE (fun c1 => ?_) (fun c1 c2 => ?_) (fun c1 c2 => ?_))
  · refine gs_if_ne (tgt := 38) k (by decide) dX6_gain_5 (fun _ => ?_) (fun h => absurd h (by decide))
    refine gs_ldc2 (v := -9223372036854775808) k cl_X6_184 dX6_gain_38 ?_
    exact gs_lret k kt dX6_gain_41 ⟨(by simp [-Int32.not_lt, A_gain, ifc_T, ifc_F, c1]), (by simp [-Int32.not_lt, A_gain, ifc_T, ifc_F, c1])⟩
  · have bc1 := inR_lt c1
    refine gs_if_ne (tgt := 38) k (by decide) dX6_gain_5 (fun _ => ?_) (fun h => absurd h (by decide))
    refine gs_ldc2 (v := -9223372036854775808) k cl_X6_184 dX6_gain_38 ?_
    exact gs_lret k kt dX6_gain_41 ⟨(by simp [-Int32.not_lt, A_gain, ifc_T, ifc_F, c1, c2]), (by simp [-Int32.not_lt, A_gain, ifc_T, ifc_F, c1, c2])⟩
  · have bc1 := inR_lt c1
    refine gs_if_ne (tgt := 38) k (by decide) dX6_gain_5 (fun h => absurd h (by decide)) (fun _ => ?_)
    refine gs_aload_n (q := 0) k rfl rfl dX6_gain_8 ?_
    refine gs_get (C := RX6) (T := TX6) (N := 10) (ci := 6) (k0 := 0) (j := 0) k (hI 0 (by omega)) rfl rfl inX6 (by decide) fl_X6_12 rfl rfl dX6_gain_9 ?_
    refine gs_iload_n (q := 2) k rfl rfl dX6_gain_12 ?_
    refine gs_callV (As := [.int w]) (k0 := 1) (ci := 5) (T := TX5) (N := 9) k (c_X5_hasSet hI hn) cf_X5_hasSet im_X5_hasSet sl_X5_hasSet ml_X6_78 (hI 1 (by omega)) rfl rfl (by decide) rfl rfl (Nat.le_of_ble_eq_true rfl) dX6_gain_13 (ppB (fun c3 => ?_) (fun c3 => ?_))
    · have bc3 := inR_lt c3
      refine gs_if_eq (tgt := 38) k (by decide) dX6_gain_16 (fun h => absurd h (by decide)) (fun _ => ?_)
      refine gs_aload_n (q := 0) k rfl rfl dX6_gain_19 ?_
      refine gs_get (C := RX6) (T := TX6) (N := 10) (ci := 6) (k0 := 0) (j := 0) k (hI 0 (by omega)) rfl rfl inX6 (by decide) fl_X6_12 rfl rfl dX6_gain_20 ?_
      refine gs_iload_n (q := 3) k rfl rfl dX6_gain_23 ?_
      refine gs_callV (As := [.int p]) (k0 := 1) (ci := 5) (T := TX5) (N := 9) k (c_X5_hasPoint hI hn) cf_X5_hasPoint im_X5_hasPoint sl_X5_hasPoint ml_X6_71 (hI 1 (by omega)) rfl rfl (by decide) rfl rfl (Nat.le_of_ble_eq_true rfl) dX6_gain_24 (ppB (fun c4 => ?_) (fun c4 => ?_))
      · have bc4 := inR_lt c4
        refine gs_if_eq (tgt := 38) k (by decide) dX6_gain_27 (fun h => absurd h (by decide)) (fun _ => ?_)
        refine gs_iload_n (q := 2) k rfl rfl dX6_gain_30 ?_
        refine gs_iload_n (q := 3) k rfl rfl dX6_gain_31 ?_
        refine gs_callS (As := [.int w, .int p]) k (c_X6_holds (S := tn w) (P := tn p) (inR_eq c3) (inR_eq c4) (by omega) (by omega)) cf_X6_holds sm_X6_holds ml_X6_181 (by decide) rfl rfl (Nat.le_of_ble_eq_true rfl) dX6_gain_32 (ppB (fun c5 => ?_) (fun c5 => ?_))
        · refine gs_if_eq (tgt := 42) k (by decide) dX6_gain_35 (fun h => absurd h (by decide)) (fun _ => ?_)
          refine gs_ldc2 (v := -9223372036854775808) k cl_X6_184 dX6_gain_38 ?_
          exact gs_lret k kt dX6_gain_41 ⟨(by simp [-Int32.not_lt, A_gain, ifc_T, ifc_F, c1, c2, c3, c4, c5]), (by simp [-Int32.not_lt, A_gain, ifc_T, ifc_F, c1, c2, c3, c4, c5])⟩
        · refine gs_if_eq (tgt := 42) k (by decide) dX6_gain_35 (fun _ => ?_) (fun h => absurd h (by decide))
          refine gs_aload_n (q := 0) k rfl rfl dX6_gain_42 ?_
          refine gs_get (C := RX6) (T := TX6) (N := 10) (ci := 6) (k0 := 0) (j := 0) k (hI 0 (by omega)) rfl rfl inX6 (by decide) fl_X6_12 rfl rfl dX6_gain_43 ?_
          refine gs_get (C := RX5) (T := TX5) (N := 9) (ci := 5) (k0 := 1) (j := 7) k (hI 1 (by omega)) rfl rfl inX5 (by decide) fl_X6_107 rfl rfl dX6_gain_46 ?_
          refine gs_iload_n (q := 1) k rfl rfl dX6_gain_49 ?_
          refine gs_aaldSN (k0 := 8) (n := 6) (e := tn f) (a := E.2.2.1 (10 + 2 * (tn f))) k (hI 8 (by omega)) (fun _ => rfl) (inR_eq c1) (by omega) (by decide) rfl dX6_gain_50 ?_
          refine gs_iload_n (q := 2) k rfl rfl dX6_gain_51 ?_
          refine gs_iload_n (q := 3) k rfl rfl dX6_gain_52 ?_
          refine gs_callV (As := [.int w, .int p]) (k0 := (10 + 2 * (tn f))) (ci := 3) (T := TX3) (N := 2) k (c_X3_gainAt (S := tn w) (P := tn p) hI hF (by omega) hn6 (inR_eq c3) (inR_eq c4) (by omega) (by omega)) cf_X3_gainAt im_X3_gainAt sl_X3_gainAt ml_X6_186 (hI (10 + 2 * (tn f)) (by omega)) (ent_F1 (by omega) _) rfl (by decide) rfl rfl (Nat.le_of_ble_eq_true rfl) dX6_gain_53 (ppI ?_)
          refine gs_i2l k dX6_gain_56 ?_
          exact gs_lret k kt dX6_gain_57 ⟨(by simp [-Int32.not_lt, A_gain, ifc_T, ifc_F, c1, c2, c3, c4, c5]), (by simp [-Int32.not_lt, A_gain, ifc_T, ifc_F, c1, c2, c3, c4, c5])⟩
      · refine gs_if_eq (tgt := 38) k (by decide) dX6_gain_27 (fun _ => ?_) (fun h => absurd h (by decide))
        refine gs_ldc2 (v := -9223372036854775808) k cl_X6_184 dX6_gain_38 ?_
        exact gs_lret k kt dX6_gain_41 ⟨(by simp [-Int32.not_lt, A_gain, ifc_T, ifc_F, c1, c2, c3, c4]), (by simp [-Int32.not_lt, A_gain, ifc_T, ifc_F, c1, c2, c3, c4])⟩
    · refine gs_if_eq (tgt := 38) k (by decide) dX6_gain_16 (fun _ => ?_) (fun h => absurd h (by decide))
      refine gs_ldc2 (v := -9223372036854775808) k cl_X6_184 dX6_gain_38 ?_
      exact gs_lret k kt dX6_gain_41 ⟨(by simp [-Int32.not_lt, A_gain, ifc_T, ifc_F, c1, c2, c3]), (by simp [-Int32.not_lt, A_gain, ifc_T, ifc_F, c1, c2, c3])⟩

theorem cf_X7_gain : CF yX7_gain cX7_gain 4 (some .long) 3 := ⟨cd_X7_gain, iz_X7, by decide, by decide +kernel, by decide +kernel, by decide +kernel⟩
set_option maxRecDepth 100000 in
set_option maxHeartbeats 4000000 in
theorem c_X7_gain {l : Launch} {E : Ev} {M : Mm} {n : Nat} {kd : Nat → Int32} {V : Nat → Nat → Int32} (hI : ∀ k, k < 108 → k ∈ E.2.1) (hn : Rn M n) (hF : RFn M n kd V) {f w p : Int32} : Cm l E yX7_gain cX7_gain 4 (some .long) 3 [.ref (E.2.2.1 65), .int f, .int w, .int p] M (pL (A_gain n kd V f w p) M) := by
  refine Cm.of (by decide) (Nat.le_of_ble_eq_true rfl) (fun K k kt => ?_)
  show G l E K 0 [(0, .ref (E.2.2.1 65)), (1, .int f), (2, .int w), (3, .int p)] [] M
  obtain ⟨hn0, hn1, hn6⟩ := id hn
  have hp := p2_le6 hn6
  have hp2 := p2_ge2 hn1
  refine gs_aload_n (q := 0) k rfl rfl dX7_gain_0 ?_
  refine gs_iload_n (q := 1) k rfl rfl dX7_gain_1 ?_
  refine gs_callV (As := [.int f]) (k0 := 65) (ci := 7) (T := TX7) (N := 27) k (c_X7_isThere hI hF) cf_X7_isThere im_X7_isThere sl_X7_isThere ml_X7_163 (hI 65 (by omega)) rfl rfl (by decide) rfl rfl (Nat.le_of_ble_eq_true rfl) dX7_gain_2 (ppB (fun c1 => ?_) (fun c1 => ?_))
  · have bc1 := inR_lt c1.1
    have tc1 := c1.2
    refine gs_if_eq (tgt := 43) k (by decide) dX7_gain_5 (fun h => absurd h (by decide)) (fun _ => ?_)
    refine gs_aload_n (q := 0) k rfl rfl dX7_gain_8 ?_
    refine gs_iload_n (q := 2) k rfl rfl dX7_gain_9 ?_
    refine gs_callV (As := [.int w]) (k0 := 65) (ci := 7) (T := TX7) (N := 27) k (c_X7_isSet hI hn) cf_X7_isSet im_X7_isSet sl_X7_isSet ml_X7_106 (hI 65 (by omega)) rfl rfl (by decide) rfl rfl (Nat.le_of_ble_eq_true rfl) dX7_gain_10 (ppB (fun c2 => ?_) (fun c2 => ?_))
    · have bc2 := inR_lt c2
      refine gs_if_eq (tgt := 43) k (by decide) dX7_gain_13 (fun h => absurd h (by decide)) (fun _ => ?_)
      refine gs_aload_n (q := 0) k rfl rfl dX7_gain_16 ?_
      refine gs_iload_n (q := 3) k rfl rfl dX7_gain_17 ?_
      refine gs_callV (As := [.int p]) (k0 := 65) (ci := 7) (T := TX7) (N := 27) k (c_X7_isPoint hI hn) cf_X7_isPoint im_X7_isPoint sl_X7_isPoint ml_X7_98 (hI 65 (by omega)) rfl rfl (by decide) rfl rfl (Nat.le_of_ble_eq_true rfl) dX7_gain_18 (ppB (fun c3 => ?_) (fun c3 => ?_))
      · have bc3 := inR_lt c3
        refine gs_if_eq (tgt := 43) k (by decide) dX7_gain_21 (fun h => absurd h (by decide)) (fun _ => ?_)
        refine gs_iload_n (q := 2) k rfl rfl dX7_gain_24 ?_
        refine gs_iload_n (q := 3) k rfl rfl dX7_gain_25 ?_
        refine gs_callS (As := [.int w, .int p]) k (c_X7_has (S := tn w) (P := tn p) (inR_eq c2) (inR_eq c3) (by omega) (by omega)) cf_X7_has sm_X7_has ml_X7_118 (by decide) rfl rfl (Nat.le_of_ble_eq_true rfl) dX7_gain_26 (ppB (fun c4 => ?_) (fun c4 => ?_))
        · refine gs_if_ne (tgt := 43) k (by decide) dX7_gain_29 (fun _ => ?_) (fun h => absurd h (by decide))
          refine gs_ldc2 (v := -9223372036854775808) k cl_X7_198 dX7_gain_43 ?_
          exact gs_lret k kt dX7_gain_46 ⟨(by simp [-Int32.not_lt, A_gain, ifc_T, ifc_F, c1, tc1, c2, c3, c4]), (by simp [-Int32.not_lt, A_gain, ifc_T, ifc_F, c1, tc1, c2, c3, c4])⟩
        · refine gs_if_ne (tgt := 43) k (by decide) dX7_gain_29 (fun h => absurd h (by decide)) (fun _ => ?_)
          refine gs_aload_n (q := 0) k rfl rfl dX7_gain_32 ?_
          refine gs_iload_n (q := 1) k rfl rfl dX7_gain_33 ?_
          refine gs_iload_n (q := 2) k rfl rfl dX7_gain_34 ?_
          refine gs_iload_n (q := 3) k rfl rfl dX7_gain_35 ?_
          refine gs_callV (As := [.int f, .int w, .int p]) (k0 := 65) (ci := 7) (T := TX7) (N := 27) k (c_X7_gainOf (f := tn f) (S := tn w) (P := tn p) hI hF hn6 (inR_eq c1.1) (by omega) (by assumption) (inR_eq c2) (inR_eq c3) (by omega) (by omega)) cf_X7_gainOf im_X7_gainOf sl_X7_gainOf ml_X7_169 (hI 65 (by omega)) rfl rfl (by decide) rfl rfl (Nat.le_of_ble_eq_true rfl) dX7_gain_36 (ppI ?_)
          refine gs_i2l k dX7_gain_39 ?_
          refine gs_goto (tgt := 46) k (by decide) dX7_gain_40 ?_
          exact gs_lret k kt dX7_gain_46 ⟨(by simp [-Int32.not_lt, A_gain, ifc_T, ifc_F, c1, tc1, c2, c3, c4]), (by simp [-Int32.not_lt, A_gain, ifc_T, ifc_F, c1, tc1, c2, c3, c4])⟩
      · refine gs_if_eq (tgt := 43) k (by decide) dX7_gain_21 (fun _ => ?_) (fun h => absurd h (by decide))
        refine gs_ldc2 (v := -9223372036854775808) k cl_X7_198 dX7_gain_43 ?_
        exact gs_lret k kt dX7_gain_46 ⟨(by simp [-Int32.not_lt, A_gain, ifc_T, ifc_F, c1, tc1, c2, c3]), (by simp [-Int32.not_lt, A_gain, ifc_T, ifc_F, c1, tc1, c2, c3])⟩
    · refine gs_if_eq (tgt := 43) k (by decide) dX7_gain_13 (fun _ => ?_) (fun h => absurd h (by decide))
      refine gs_ldc2 (v := -9223372036854775808) k cl_X7_198 dX7_gain_43 ?_
      exact gs_lret k kt dX7_gain_46 ⟨(by simp [-Int32.not_lt, A_gain, ifc_T, ifc_F, c1, tc1, c2]), (by simp [-Int32.not_lt, A_gain, ifc_T, ifc_F, c1, tc1, c2])⟩
  · refine gs_if_eq (tgt := 43) k (by decide) dX7_gain_5 (fun _ => ?_) (fun h => absurd h (by decide))
    refine gs_ldc2 (v := -9223372036854775808) k cl_X7_198 dX7_gain_43 ?_
    exact gs_lret k kt dX7_gain_46 ⟨(by simp [-Int32.not_lt, A_gain, ifc_T, ifc_F, c1]), (by simp [-Int32.not_lt, A_gain, ifc_T, ifc_F, c1])⟩

noncomputable def A_least (n : Nat) (kd : Nat → Int32) (V : Nat → Nat → Int32) (f : Int32) : Int64 := ifc (inR f 6 ∧ ¬ kd (tn f) < 0) ((lst (V (tn f)) n).toInt64) (-9223372036854775808)
theorem cf_X6_least : CF yX6_least cX6_least 2 (some .long) 1 := ⟨cd_X6_least, iz_X6, by decide, by decide +kernel, by decide +kernel, by decide +kernel⟩
set_option maxRecDepth 100000 in
set_option maxHeartbeats 4000000 in
theorem c_X6_least {l : Launch} {E : Ev} {M : Mm} {n : Nat} {kd : Nat → Int32} {V : Nat → Nat → Int32} (hI : ∀ k, k < 108 → k ∈ E.2.1) (hn : Cn M n) (hF : CFn M n kd V) {f : Int32} : Cm l E yX6_least cX6_least 2 (some .long) 2 [.ref (E.2.2.1 0), .int f] M (pL (A_least n kd V f) M) := by
  refine Cm.of (by decide) (Nat.le_of_ble_eq_true rfl) (fun K k kt => ?_)
  show G l E K 0 [(0, .ref (E.2.2.1 0)), (1, .int f)] [] M
  obtain ⟨hn0, hn1, hn6⟩ := id hn
  have hp := p2_le6 hn6
  have hp2 := p2_ge2 hn1
  refine gs_aload_n (q := 0) k rfl rfl dX6_least_0 ?_
  refine gs_iload_n (q := 1) k rfl rfl dX6_least_1 ?_
  refine gs_callV (As := [.int f]) (k0 := 0) (ci := 6) (T := TX6) (N := 10) k (c_X6_errorOf hI hF) cf_X6_errorOf im_X6_errorOf sl_X6_errorOf ml_X6_154 (hI 0 (by omega)) rfl rfl (by decide) rfl rfl (Nat.le_of_ble_eq_true rfl) dX6_least_2 (ppE (fun c1 => ?_) (fun c1 c2 => ?_) (fun c1 c2 => ?_))
  · refine gs_if_eq (tgt := 12) k (by decide) dX6_least_5 (fun h => absurd h (by decide)) (fun _ => ?_)
    refine gs_ldc2 (v := -9223372036854775808) k cl_X6_184 dX6_least_8 ?_
    exact gs_lret k kt dX6_least_11 ⟨(by simp [-Int32.not_lt, A_least, ifc_T, ifc_F, c1]), (by simp [-Int32.not_lt, A_least, ifc_T, ifc_F, c1])⟩
  · have bc1 := inR_lt c1
    refine gs_if_eq (tgt := 12) k (by decide) dX6_least_5 (fun h => absurd h (by decide)) (fun _ => ?_)
    refine gs_ldc2 (v := -9223372036854775808) k cl_X6_184 dX6_least_8 ?_
    exact gs_lret k kt dX6_least_11 ⟨(by simp [-Int32.not_lt, A_least, ifc_T, ifc_F, c1, c2]), (by simp [-Int32.not_lt, A_least, ifc_T, ifc_F, c1, c2])⟩
  · have bc1 := inR_lt c1
    refine gs_if_eq (tgt := 12) k (by decide) dX6_least_5 (fun _ => ?_) (fun h => absurd h (by decide))
    refine gs_aload_n (q := 0) k rfl rfl dX6_least_12 ?_
    refine gs_get (C := RX6) (T := TX6) (N := 10) (ci := 6) (k0 := 0) (j := 0) k (hI 0 (by omega)) rfl rfl inX6 (by decide) fl_X6_12 rfl rfl dX6_least_13 ?_
    refine gs_get (C := RX5) (T := TX5) (N := 9) (ci := 5) (k0 := 1) (j := 7) k (hI 1 (by omega)) rfl rfl inX5 (by decide) fl_X6_107 rfl rfl dX6_least_16 ?_
    refine gs_iload_n (q := 1) k rfl rfl dX6_least_19 ?_
    refine gs_aaldSN (k0 := 8) (n := 6) (e := tn f) (a := E.2.2.1 (10 + 2 * (tn f))) k (hI 8 (by omega)) (fun _ => rfl) (inR_eq c1) (by omega) (by decide) rfl dX6_least_20 ?_
    refine gs_aload_n (q := 0) k rfl rfl dX6_least_21 ?_
    refine gs_get (C := RX6) (T := TX6) (N := 10) (ci := 6) (k0 := 0) (j := 0) k (hI 0 (by omega)) rfl rfl inX6 (by decide) fl_X6_12 rfl rfl dX6_least_22 ?_
    refine gs_get (C := RX5) (T := TX5) (N := 9) (ci := 5) (k0 := 1) (j := 0) k (hI 1 (by omega)) rfl rfl inX5 (by decide) fl_X6_63 rfl rfl dX6_least_25 ?_
    refine gs_callV (As := [.int (M 1 0)]) (k0 := (10 + 2 * (tn f))) (ci := 3) (T := TX3) (N := 2) k (c_X3_leastValue hI hF (by omega) hn1 hn6 hn0) cf_X3_leastValue im_X3_leastValue sl_X3_leastValue ml_X6_207 (hI (10 + 2 * (tn f)) (by omega)) (ent_F1 (by omega) _) rfl (by decide) rfl rfl (Nat.le_of_ble_eq_true rfl) dX6_least_28 (ppI ?_)
    refine gs_i2l k dX6_least_31 ?_
    exact gs_lret k kt dX6_least_32 ⟨(by simp [-Int32.not_lt, A_least, ifc_T, ifc_F, c1, c2]), (by simp [-Int32.not_lt, A_least, ifc_T, ifc_F, c1, c2])⟩

theorem cf_X7_least : CF yX7_least cX7_least 2 (some .long) 1 := ⟨cd_X7_least, iz_X7, by decide, by decide +kernel, by decide +kernel, by decide +kernel⟩
set_option maxRecDepth 100000 in
set_option maxHeartbeats 4000000 in
theorem c_X7_least {l : Launch} {E : Ev} {M : Mm} {n : Nat} {kd : Nat → Int32} {V : Nat → Nat → Int32} (hI : ∀ k, k < 108 → k ∈ E.2.1) (hn : Rn M n) (hF : RFn M n kd V) {f : Int32} : Cm l E yX7_least cX7_least 2 (some .long) 3 [.ref (E.2.2.1 65), .int f] M (pL (A_least n kd V f) M) := by
  refine Cm.of (by decide) (Nat.le_of_ble_eq_true rfl) (fun K k kt => ?_)
  show G l E K 0 [(0, .ref (E.2.2.1 65)), (1, .int f)] [] M
  obtain ⟨hn0, hn1, hn6⟩ := id hn
  have hp := p2_le6 hn6
  have hp2 := p2_ge2 hn1
  refine gs_aload_n (q := 0) k rfl rfl dX7_least_0 ?_
  refine gs_iload_n (q := 1) k rfl rfl dX7_least_1 ?_
  refine gs_callV (As := [.int f]) (k0 := 65) (ci := 7) (T := TX7) (N := 27) k (c_X7_isThere hI hF) cf_X7_isThere im_X7_isThere sl_X7_isThere ml_X7_163 (hI 65 (by omega)) rfl rfl (by decide) rfl rfl (Nat.le_of_ble_eq_true rfl) dX7_least_2 (ppB (fun c1 => ?_) (fun c1 => ?_))
  · have bc1 := inR_lt c1.1
    have tc1 := c1.2
    refine gs_if_eq (tgt := 17) k (by decide) dX7_least_5 (fun h => absurd h (by decide)) (fun _ => ?_)
    refine gs_aload_n (q := 0) k rfl rfl dX7_least_8 ?_
    refine gs_iload_n (q := 1) k rfl rfl dX7_least_9 ?_
    refine gs_callV (As := [.int f]) (k0 := 65) (ci := 7) (T := TX7) (N := 27) k (c_X7_leastOf (f := tn f) hI hn hF (inR_eq c1.1) (by omega) (by assumption)) cf_X7_leastOf im_X7_leastOf sl_X7_leastOf ml_X7_223 (hI 65 (by omega)) rfl rfl (by decide) rfl rfl (Nat.le_of_ble_eq_true rfl) dX7_least_10 (ppI ?_)
    refine gs_i2l k dX7_least_13 ?_
    refine gs_goto (tgt := 20) k (by decide) dX7_least_14 ?_
    exact gs_lret k kt dX7_least_20 ⟨(by simp [-Int32.not_lt, A_least, ifc_T, ifc_F, c1, tc1]), (by simp [-Int32.not_lt, A_least, ifc_T, ifc_F, c1, tc1])⟩
  · refine gs_if_eq (tgt := 17) k (by decide) dX7_least_5 (fun _ => ?_) (fun h => absurd h (by decide))
    refine gs_ldc2 (v := -9223372036854775808) k cl_X7_198 dX7_least_17 ?_
    exact gs_lret k kt dX7_least_20 ⟨(by simp [-Int32.not_lt, A_least, ifc_T, ifc_F, c1]), (by simp [-Int32.not_lt, A_least, ifc_T, ifc_F, c1])⟩

def okW (n : Nat) (s t : Int32) : Prop := inR s n ∧ inR t n ∧ ¬ s = t
noncomputable def A_wall (x : Int32) (n : Nat) (kd : Nat → Int32) (f s t : Int32) : Int32 := ifc (inR f 6 ∧ okW n s t) (ifc (¬ kd (tn f) < 0) x (-11)) (-1)
noncomputable def A_wallValue (x : Int64) (n : Nat) (kd : Nat → Int32) (f s t : Int32) : Int64 := ifc ((inR f 6 ∧ ¬ kd (tn f) < 0) ∧ okW n s t) x (-9223372036854775808)
theorem cf_X7_areUnlike : CF yX7_areUnlike cX7_areUnlike 3 (some .boolean) 2 := ⟨cd_X7_areUnlike, iz_X7, by decide, by decide +kernel, by decide +kernel, by decide +kernel⟩
set_option maxRecDepth 100000 in
set_option maxHeartbeats 4000000 in
theorem c_X7_areUnlike {l : Launch} {E : Ev} {M : Mm} {n : Nat} (hI : ∀ k, k < 108 → k ∈ E.2.1) (hn : Rn M n) {s t : Int32} : Cm l E yX7_areUnlike cX7_areUnlike 3 (some .boolean) 2 [.ref (E.2.2.1 65), .int s, .int t] M (pB (okW n s t) M) := by
  refine Cm.of (by decide) (Nat.le_of_ble_eq_true rfl) (fun K k kt => ?_)
  show G l E K 0 [(0, .ref (E.2.2.1 65)), (1, .int s), (2, .int t)] [] M
  obtain ⟨hn0, hn1, hn6⟩ := id hn
  have hp := p2_le6 hn6
  have hp2 := p2_ge2 hn1
  refine gs_aload_n (q := 0) k rfl rfl dX7_areUnlike_0 ?_
  refine gs_iload_n (q := 1) k rfl rfl dX7_areUnlike_1 ?_
  refine gs_callV (As := [.int s]) (k0 := 65) (ci := 7) (T := TX7) (N := 27) k (c_X7_isPoint hI hn) cf_X7_isPoint im_X7_isPoint sl_X7_isPoint ml_X7_98 (hI 65 (by omega)) rfl rfl (by decide) rfl rfl (Nat.le_of_ble_eq_true rfl) dX7_areUnlike_2 (ppB (fun c1 => ?_) (fun c1 => ?_))
  · have bc1 := inR_lt c1
    refine gs_if_eq (tgt := 25) k (by decide) dX7_areUnlike_5 (fun h => absurd h (by decide)) (fun _ => ?_)
    refine gs_aload_n (q := 0) k rfl rfl dX7_areUnlike_8 ?_
    refine gs_iload_n (q := 2) k rfl rfl dX7_areUnlike_9 ?_
    refine gs_callV (As := [.int t]) (k0 := 65) (ci := 7) (T := TX7) (N := 27) k (c_X7_isPoint hI hn) cf_X7_isPoint im_X7_isPoint sl_X7_isPoint ml_X7_98 (hI 65 (by omega)) rfl rfl (by decide) rfl rfl (Nat.le_of_ble_eq_true rfl) dX7_areUnlike_10 (ppB (fun c2 => ?_) (fun c2 => ?_))
    · have bc2 := inR_lt c2
      refine gs_if_eq (tgt := 25) k (by decide) dX7_areUnlike_13 (fun h => absurd h (by decide)) (fun _ => ?_)
      refine gs_iload_n (q := 1) k rfl rfl dX7_areUnlike_16 ?_
      refine gs_iload_n (q := 2) k rfl rfl dX7_areUnlike_17 ?_
      refine gs_icmp_eq (tgt := 25) k (by decide) dX7_areUnlike_18 (fun c3 => ?_) (fun c3 => ?_)
      · refine gs_iconst (v := 0) k (by decide) dX7_areUnlike_25 ?_
        exact gs_zret k kt (by decide) dX7_areUnlike_26 (pB0 (fun q => q.2.2 c3))
      · refine gs_iconst (v := 1) k (by decide) dX7_areUnlike_21 ?_
        refine gs_goto (tgt := 26) k (by decide) dX7_areUnlike_22 ?_
        exact gs_zret k kt (by decide) dX7_areUnlike_26 (pB1 ⟨c1, c2, c3⟩)
    · refine gs_if_eq (tgt := 25) k (by decide) dX7_areUnlike_13 (fun _ => ?_) (fun h => absurd h (by decide))
      refine gs_iconst (v := 0) k (by decide) dX7_areUnlike_25 ?_
      exact gs_zret k kt (by decide) dX7_areUnlike_26 (pB0 (fun q => c2 q.2.1))
  · refine gs_if_eq (tgt := 25) k (by decide) dX7_areUnlike_5 (fun _ => ?_) (fun h => absurd h (by decide))
    refine gs_iconst (v := 0) k (by decide) dX7_areUnlike_25 ?_
    exact gs_zret k kt (by decide) dX7_areUnlike_26 (pB0 (fun q => c1 q.1))

theorem cf_X6_wall : CF yX6_wall cX6_wall 4 (some .int) 3 := ⟨cd_X6_wall, iz_X6, by decide, by decide +kernel, by decide +kernel, by decide +kernel⟩
set_option maxRecDepth 100000 in
set_option maxHeartbeats 4000000 in
theorem c_X6_wall {l : Launch} {E : Ev} {M : Mm} {n : Nat} {kd : Nat → Int32} {V : Nat → Nat → Int32} (hI : ∀ k, k < 108 → k ∈ E.2.1) (hn : Cn M n) (hF : CFn M n kd V) {f s t : Int32} : Cm l E yX6_wall cX6_wall 4 (some .int) 3 [.ref (E.2.2.1 0), .int f, .int s, .int t] M (pI (A_wall (nI (wallC (V (tn f)) n (tn s) (tn t))) n kd f s t) M) := by
  refine Cm.of (by decide) (Nat.le_of_ble_eq_true rfl) (fun K k kt => ?_)
  show G l E K 0 [(0, .ref (E.2.2.1 0)), (1, .int f), (2, .int s), (3, .int t)] [] M
  obtain ⟨hn0, hn1, hn6⟩ := id hn
  have hp := p2_le6 hn6
  have hp2 := p2_ge2 hn1
  refine gs_iload_n (q := 1) k rfl rfl dX6_wall_0 ?_
  refine gs_callS (As := [.int f]) k c_X6_isFunction cf_X6_isFunction sm_X6_isFunction ml_X6_101 (by decide) rfl rfl (Nat.le_of_ble_eq_true rfl) dX6_wall_1 (ppB (fun c1 => ?_) (fun c1 => ?_))
  · have bc1 := inR_lt c1
    refine gs_if_eq (tgt := 34) k (by decide) dX6_wall_4 (fun h => absurd h (by decide)) (fun _ => ?_)
    refine gs_aload_n (q := 0) k rfl rfl dX6_wall_7 ?_
    refine gs_get (C := RX6) (T := TX6) (N := 10) (ci := 6) (k0 := 0) (j := 0) k (hI 0 (by omega)) rfl rfl inX6 (by decide) fl_X6_12 rfl rfl dX6_wall_8 ?_
    refine gs_iload_n (q := 2) k rfl rfl dX6_wall_11 ?_
    refine gs_callV (As := [.int s]) (k0 := 1) (ci := 5) (T := TX5) (N := 9) k (c_X5_hasPoint hI hn) cf_X5_hasPoint im_X5_hasPoint sl_X5_hasPoint ml_X6_71 (hI 1 (by omega)) rfl rfl (by decide) rfl rfl (Nat.le_of_ble_eq_true rfl) dX6_wall_12 (ppB (fun c2 => ?_) (fun c2 => ?_))
    · have bc2 := inR_lt c2
      refine gs_if_eq (tgt := 34) k (by decide) dX6_wall_15 (fun h => absurd h (by decide)) (fun _ => ?_)
      refine gs_aload_n (q := 0) k rfl rfl dX6_wall_18 ?_
      refine gs_get (C := RX6) (T := TX6) (N := 10) (ci := 6) (k0 := 0) (j := 0) k (hI 0 (by omega)) rfl rfl inX6 (by decide) fl_X6_12 rfl rfl dX6_wall_19 ?_
      refine gs_iload_n (q := 3) k rfl rfl dX6_wall_22 ?_
      refine gs_callV (As := [.int t]) (k0 := 1) (ci := 5) (T := TX5) (N := 9) k (c_X5_hasPoint hI hn) cf_X5_hasPoint im_X5_hasPoint sl_X5_hasPoint ml_X6_71 (hI 1 (by omega)) rfl rfl (by decide) rfl rfl (Nat.le_of_ble_eq_true rfl) dX6_wall_23 (ppB (fun c3 => ?_) (fun c3 => ?_))
      · have bc3 := inR_lt c3
        refine gs_if_eq (tgt := 34) k (by decide) dX6_wall_26 (fun h => absurd h (by decide)) (fun _ => ?_)
        refine gs_iload_n (q := 2) k rfl rfl dX6_wall_29 ?_
        refine gs_iload_n (q := 3) k rfl rfl dX6_wall_30 ?_
        refine gs_icmp_ne (tgt := 36) k (by decide) dX6_wall_31 (fun c4 => ?_) (fun c4 => ?_)
        · refine gs_aload_n (q := 0) k rfl rfl dX6_wall_36 ?_
          refine gs_get (C := RX6) (T := TX6) (N := 10) (ci := 6) (k0 := 0) (j := 0) k (hI 0 (by omega)) rfl rfl inX6 (by decide) fl_X6_12 rfl rfl dX6_wall_37 ?_
          refine gs_get (C := RX5) (T := TX5) (N := 9) (ci := 5) (k0 := 1) (j := 7) k (hI 1 (by omega)) rfl rfl inX5 (by decide) fl_X6_107 rfl rfl dX6_wall_40 ?_
          refine gs_iload_n (q := 1) k rfl rfl dX6_wall_43 ?_
          refine gs_aaldSN (k0 := 8) (n := 6) (e := tn f) (a := E.2.2.1 (10 + 2 * (tn f))) k (hI 8 (by omega)) (fun _ => rfl) (inR_eq c1) (by omega) (by decide) rfl dX6_wall_44 ?_
          refine gs_callV (As := []) (k0 := (10 + 2 * (tn f))) (ci := 3) (T := TX3) (N := 2) k (c_X3_isMissing hI hF (by omega)) cf_X3_isMissing im_X3_isMissing sl_X3_isMissing ml_X6_127 (hI (10 + 2 * (tn f)) (by omega)) (ent_F1 (by omega) _) rfl (by decide) rfl rfl (Nat.le_of_ble_eq_true rfl) dX6_wall_45 (ppB (fun c5 => ?_) (fun c5 => ?_))
          · refine gs_if_eq (tgt := 54) k (by decide) dX6_wall_48 (fun h => absurd h (by decide)) (fun _ => ?_)
            refine gs_bipush (v := -11) k (by decide) dX6_wall_51 ?_
            exact gs_iret k kt dX6_wall_53 ⟨(by simp [-Int32.not_lt, A_wall, okW, ifc_T, ifc_F, c1, c2, c3, c4, c5]), (by simp [-Int32.not_lt, A_wall, okW, ifc_T, ifc_F, c1, c2, c3, c4, c5])⟩
          · refine gs_if_eq (tgt := 54) k (by decide) dX6_wall_48 (fun _ => ?_) (fun h => absurd h (by decide))
            refine gs_aload_n (q := 0) k rfl rfl dX6_wall_54 ?_
            refine gs_get (C := RX6) (T := TX6) (N := 10) (ci := 6) (k0 := 0) (j := 0) k (hI 0 (by omega)) rfl rfl inX6 (by decide) fl_X6_12 rfl rfl dX6_wall_55 ?_
            refine gs_get (C := RX5) (T := TX5) (N := 9) (ci := 5) (k0 := 1) (j := 7) k (hI 1 (by omega)) rfl rfl inX5 (by decide) fl_X6_107 rfl rfl dX6_wall_58 ?_
            refine gs_iload_n (q := 1) k rfl rfl dX6_wall_61 ?_
            refine gs_aaldSN (k0 := 8) (n := 6) (e := tn f) (a := E.2.2.1 (10 + 2 * (tn f))) k (hI 8 (by omega)) (fun _ => rfl) (inR_eq c1) (by omega) (by decide) rfl dX6_wall_62 ?_
            refine gs_aload_n (q := 0) k rfl rfl dX6_wall_63 ?_
            refine gs_get (C := RX6) (T := TX6) (N := 10) (ci := 6) (k0 := 0) (j := 0) k (hI 0 (by omega)) rfl rfl inX6 (by decide) fl_X6_12 rfl rfl dX6_wall_64 ?_
            refine gs_get (C := RX5) (T := TX5) (N := 9) (ci := 5) (k0 := 1) (j := 0) k (hI 1 (by omega)) rfl rfl inX5 (by decide) fl_X6_63 rfl rfl dX6_wall_67 ?_
            refine gs_iload_n (q := 2) k rfl rfl dX6_wall_70 ?_
            refine gs_iload_n (q := 3) k rfl rfl dX6_wall_71 ?_
            refine gs_callV (As := [.int (M 1 0), .int s, .int t]) (k0 := (10 + 2 * (tn f))) (ci := 3) (T := TX3) (N := 2) k (c_X3_leastApart (s := tn s) (t := tn t) hI hF (by omega) hn1 hn6 hn0 (inR_eq c2) (inR_eq c3) (by omega) (by omega)) cf_X3_leastApart im_X3_leastApart sl_X3_leastApart ml_X6_231 (hI (10 + 2 * (tn f)) (by omega)) (ent_F1 (by omega) _) rfl (by decide) rfl rfl (Nat.le_of_ble_eq_true rfl) dX6_wall_72 (ppI ?_)
            exact gs_iret k kt dX6_wall_75 ⟨(by simp [-Int32.not_lt, A_wall, okW, ifc_T, ifc_F, c1, c2, c3, c4, c5]), (by simp [-Int32.not_lt, A_wall, okW, ifc_T, ifc_F, c1, c2, c3, c4, c5])⟩
        · refine gs_iconst (v := -1) k (by decide) dX6_wall_34 ?_
          exact gs_iret k kt dX6_wall_35 ⟨(by simp [-Int32.not_lt, A_wall, okW, ifc_T, ifc_F, c1, c2, c3, c4]), (by simp [-Int32.not_lt, A_wall, okW, ifc_T, ifc_F, c1, c2, c3, c4])⟩
      · refine gs_if_eq (tgt := 34) k (by decide) dX6_wall_26 (fun _ => ?_) (fun h => absurd h (by decide))
        refine gs_iconst (v := -1) k (by decide) dX6_wall_34 ?_
        exact gs_iret k kt dX6_wall_35 ⟨(by simp [-Int32.not_lt, A_wall, okW, ifc_T, ifc_F, c1, c2, c3]), (by simp [-Int32.not_lt, A_wall, okW, ifc_T, ifc_F, c1, c2, c3])⟩
    · refine gs_if_eq (tgt := 34) k (by decide) dX6_wall_15 (fun _ => ?_) (fun h => absurd h (by decide))
      refine gs_iconst (v := -1) k (by decide) dX6_wall_34 ?_
      exact gs_iret k kt dX6_wall_35 ⟨(by simp [-Int32.not_lt, A_wall, okW, ifc_T, ifc_F, c1, c2]), (by simp [-Int32.not_lt, A_wall, okW, ifc_T, ifc_F, c1, c2])⟩
  · refine gs_if_eq (tgt := 34) k (by decide) dX6_wall_4 (fun _ => ?_) (fun h => absurd h (by decide))
    refine gs_iconst (v := -1) k (by decide) dX6_wall_34 ?_
    exact gs_iret k kt dX6_wall_35 ⟨(by simp [-Int32.not_lt, A_wall, okW, ifc_T, ifc_F, c1]), (by simp [-Int32.not_lt, A_wall, okW, ifc_T, ifc_F, c1])⟩

theorem cf_X7_wall : CF yX7_wall cX7_wall 4 (some .int) 3 := ⟨cd_X7_wall, iz_X7, by decide, by decide +kernel, by decide +kernel, by decide +kernel⟩
set_option maxRecDepth 100000 in
set_option maxHeartbeats 4000000 in
theorem c_X7_wall {l : Launch} {E : Ev} {M : Mm} {n : Nat} {kd : Nat → Int32} {V : Nat → Nat → Int32} (hI : ∀ k, k < 108 → k ∈ E.2.1) (hn : Rn M n) (hF : RFn M n kd V) {f s t : Int32} : Cm l E yX7_wall cX7_wall 4 (some .int) 3 [.ref (E.2.2.1 65), .int f, .int s, .int t] M (pI (A_wall (ob (-5) (wallR (V (tn f)) n (tn s) (tn t))) n kd f s t) M) := by
  refine Cm.of (by decide) (Nat.le_of_ble_eq_true rfl) (fun K k kt => ?_)
  show G l E K 0 [(0, .ref (E.2.2.1 65)), (1, .int f), (2, .int s), (3, .int t)] [] M
  obtain ⟨hn0, hn1, hn6⟩ := id hn
  have hp := p2_le6 hn6
  have hp2 := p2_ge2 hn1
  refine gs_iload_n (q := 1) k rfl rfl dX7_wall_0 ?_
  refine gs_callS (As := [.int f]) k c_X7_isFunction cf_X7_isFunction sm_X7_isFunction ml_X7_128 (by decide) rfl rfl (Nat.le_of_ble_eq_true rfl) dX7_wall_1 (ppB (fun c1 => ?_) (fun c1 => ?_))
  · have bc1 := inR_lt c1
    refine gs_if_eq (tgt := 16) k (by decide) dX7_wall_4 (fun h => absurd h (by decide)) (fun _ => ?_)
    refine gs_aload_n (q := 0) k rfl rfl dX7_wall_7 ?_
    refine gs_iload_n (q := 2) k rfl rfl dX7_wall_8 ?_
    refine gs_iload_n (q := 3) k rfl rfl dX7_wall_9 ?_
    refine gs_callV (As := [.int s, .int t]) (k0 := 65) (ci := 7) (T := TX7) (N := 27) k (c_X7_areUnlike hI hn) cf_X7_areUnlike im_X7_areUnlike sl_X7_areUnlike ml_X7_247 (hI 65 (by omega)) rfl rfl (by decide) rfl rfl (Nat.le_of_ble_eq_true rfl) dX7_wall_10 (ppB (fun c2 => ?_) (fun c2 => ?_))
    · have bc2 := inR_lt c2.1
      have dc2 := inR_lt c2.2.1
      refine gs_if_ne (tgt := 18) k (by decide) dX7_wall_13 (fun _ => ?_) (fun h => absurd h (by decide))
      refine gs_aload_n (q := 0) k rfl rfl dX7_wall_18 ?_
      refine gs_iload_n (q := 1) k rfl rfl dX7_wall_19 ?_
      refine gs_callV (As := [.int f]) (k0 := 65) (ci := 7) (T := TX7) (N := 27) k (c_X7_isThere hI hF) cf_X7_isThere im_X7_isThere sl_X7_isThere ml_X7_163 (hI 65 (by omega)) rfl rfl (by decide) rfl rfl (Nat.le_of_ble_eq_true rfl) dX7_wall_20 (ppB (fun c3 => ?_) (fun c3 => ?_))
      · have bc3 := inR_lt c3.1
        have tc3 := c3.2
        refine gs_if_eq (tgt := 36) k (by decide) dX7_wall_23 (fun h => absurd h (by decide)) (fun _ => ?_)
        refine gs_aload_n (q := 0) k rfl rfl dX7_wall_26 ?_
        refine gs_iload_n (q := 1) k rfl rfl dX7_wall_27 ?_
        refine gs_iload_n (q := 2) k rfl rfl dX7_wall_28 ?_
        refine gs_iload_n (q := 3) k rfl rfl dX7_wall_29 ?_
        refine gs_callV (As := [.int f, .int s, .int t]) (k0 := 65) (ci := 7) (T := TX7) (N := 27) k (c_X7_wallOf (f := tn f) (s := tn s) (u := tn t) hI hn hF (inR_eq c1) (by omega) (by assumption) (inR_eq c2.1) (inR_eq c2.2.1) (by omega) (by omega)) cf_X7_wallOf im_X7_wallOf sl_X7_wallOf ml_X7_250 (hI 65 (by omega)) rfl rfl (by decide) rfl rfl (Nat.le_of_ble_eq_true rfl) dX7_wall_30 (ppI ?_)
        refine gs_goto (tgt := 38) k (by decide) dX7_wall_33 ?_
        exact gs_iret k kt dX7_wall_38 ⟨(by simp [-Int32.not_lt, A_wall, ifc_T, ifc_F, c1, c2, c3, tc3]), (by simp [-Int32.not_lt, A_wall, ifc_T, ifc_F, c1, c2, c3, tc3])⟩
      · have qc3 : kd (tn f) < 0 := Classical.byContradiction (fun k => c3 ⟨by assumption, k⟩)
        refine gs_if_eq (tgt := 36) k (by decide) dX7_wall_23 (fun _ => ?_) (fun h => absurd h (by decide))
        refine gs_bipush (v := -11) k (by decide) dX7_wall_36 ?_
        exact gs_iret k kt dX7_wall_38 ⟨(by simp [-Int32.not_lt, A_wall, ifc_T, ifc_F, c1, c2, c3, qc3]), (by simp [-Int32.not_lt, A_wall, ifc_T, ifc_F, c1, c2, c3, qc3])⟩
    · refine gs_if_ne (tgt := 18) k (by decide) dX7_wall_13 (fun h => absurd h (by decide)) (fun _ => ?_)
      refine gs_iconst (v := -1) k (by decide) dX7_wall_16 ?_
      exact gs_iret k kt dX7_wall_17 ⟨(by simp [-Int32.not_lt, A_wall, ifc_T, ifc_F, c1, c2]), (by simp [-Int32.not_lt, A_wall, ifc_T, ifc_F, c1, c2])⟩
  · refine gs_if_eq (tgt := 16) k (by decide) dX7_wall_4 (fun _ => ?_) (fun h => absurd h (by decide))
    refine gs_iconst (v := -1) k (by decide) dX7_wall_16 ?_
    exact gs_iret k kt dX7_wall_17 ⟨(by simp [-Int32.not_lt, A_wall, ifc_T, ifc_F, c1]), (by simp [-Int32.not_lt, A_wall, ifc_T, ifc_F, c1])⟩

theorem wallC_lt {v : Nat → Int32} {n s t : Nat} (hs : s < n) : wallC v n s t < 2 ^ n :=
  lp_J (fun _ b => b < 2 ^ n) (2 ^ n) (fun S b hS hb => by split <;> assumption) (2 ^ n) 0 _ (by omega) (Nat.pow_lt_pow_right (by omega) hs)
theorem arg_first {p : Nat → Prop} {dp : DecidablePred p} {q : Nat → Nat → Prop} {dq : ∀ a b, Decidable (q a b)} (S0 : Nat) (h0 : p S0) (hm : ∀ S, S < S0 → ¬ p S) (hi : ¬ q S0 S0) : ∀ k, (k ≤ S0 → lp (fun S o => ostep (p S) (fun b => q S b) S o) k 0 none = none ∧ lp (fun S b => if p S ∧ q S b then S else b) k 0 S0 = S0) ∧ (S0 < k → lp (fun S o => ostep (p S) (fun b => q S b) S o) k 0 none = some (lp (fun S b => if p S ∧ q S b then S else b) k 0 S0)) := by
  intro k
  induction k with
  | zero => exact ⟨fun _ => ⟨rfl, rfl⟩, fun h => absurd h (by omega)⟩
  | succ k ih =>
    rw [lp_end, lp_end, Nat.zero_add]
    refine ⟨fun h => ?_, fun h => ?_⟩
    · obtain ⟨e1, e2⟩ := ih.1 (by omega)
      have hn : ¬ p k := hm k (by omega)
      rw [e1, e2, ← os_skip hn, if_neg (fun z => hn z.1)]
      exact ⟨rfl, rfl⟩
    · by_cases hk : k = S0
      · obtain ⟨e1, e2⟩ := ih.1 (by omega)
        rw [e1, e2, hk, ← os_first h0, if_neg (fun z => hi z.2)]
      · rw [ih.2 (by omega)]
        generalize lp (fun S b => if p S ∧ q S b then S else b) k 0 S0 = b
        by_cases c : p k
        · by_cases d : q k b
          · rw [← os_take c d, if_pos ⟨c, d⟩]
          · rw [← os_keep c d, if_neg (fun z => d z.2)]
        · rw [← os_skip c, if_neg (fun z => c z.1)]
theorem wall_eq {v : Nat → Int32} {n s t : Nat} (hs : s < n) (ht : t < n) (hst : s ≠ t) : wallR v n s t = some (wallC v n s t) := by
  have h := (arg_first (p := fun S => S.testBit s = true ∧ ¬ S.testBit t = true) (dp := fun _ => inferInstance) (q := fun S b => v S < v b ∨ (v S = v b ∧ pcn S < pcn b)) (dq := fun _ _ => inferInstance) (2 ^ s) ⟨Nat.testBit_two_pow_self, by rw [Nat.testBit_two_pow_of_ne hst]; decide⟩ (fun S hS z => by rw [Nat.testBit_lt_two_pow hS] at z; exact absurd z.1 (by decide)) (fun z => z.elim (fun z => Int32.lt_irrefl z) (fun z => absurd z.2 (by omega))) (2 ^ n)).2 (Nat.pow_lt_pow_right (by omega) hs)
  unfold wallR wallC
  rw [h]
  simp only [and_assoc]
theorem tn_ne {s t : Int32} {n : Nat} (hs : inR s n) (ht : inR t n) (h : ¬ s = t) : tn s ≠ tn t := fun e => h (by rw [inR_eq hs, inR_eq ht, e])
theorem cf_X6_wallValue : CF yX6_wallValue cX6_wallValue 4 (some .long) 3 := ⟨cd_X6_wallValue, iz_X6, by decide, by decide +kernel, by decide +kernel, by decide +kernel⟩
set_option maxRecDepth 100000 in
set_option maxHeartbeats 4000000 in
theorem c_X6_wallValue {l : Launch} {E : Ev} {M : Mm} {n : Nat} {kd : Nat → Int32} {V : Nat → Nat → Int32} (hI : ∀ k, k < 108 → k ∈ E.2.1) (hn : Cn M n) (hF : CFn M n kd V) {f s t : Int32} : Cm l E yX6_wallValue cX6_wallValue 4 (some .long) 3 [.ref (E.2.2.1 0), .int f, .int s, .int t] M (pL (A_wallValue ((V (tn f) (wallC (V (tn f)) n (tn s) (tn t))).toInt64) n kd f s t) M) := by
  refine Cm.of (by decide) (Nat.le_of_ble_eq_true rfl) (fun K k kt => ?_)
  show G l E K 0 [(0, .ref (E.2.2.1 0)), (1, .int f), (2, .int s), (3, .int t)] [] M
  obtain ⟨hn0, hn1, hn6⟩ := id hn
  have hp := p2_le6 hn6
  have hp2 := p2_ge2 hn1
  refine gs_aload_n (q := 0) k rfl rfl dX6_wallValue_0 ?_
  refine gs_iload_n (q := 1) k rfl rfl dX6_wallValue_1 ?_
  refine gs_callV (As := [.int f]) (k0 := 0) (ci := 6) (T := TX6) (N := 10) k (c_X6_errorOf hI hF) cf_X6_errorOf im_X6_errorOf sl_X6_errorOf ml_X6_154 (hI 0 (by omega)) rfl rfl (by decide) rfl rfl (Nat.le_of_ble_eq_true rfl) dX6_wallValue_2 (ppE (fun c1 => ?_) (fun c1 c2 => ?_) (fun c1 c2 => ?_))
  · refine gs_if_ne (tgt := 35) k (by decide) dX6_wallValue_5 (fun _ => ?_) (fun h => absurd h (by decide))
    refine gs_ldc2 (v := -9223372036854775808) k cl_X6_184 dX6_wallValue_35 ?_
    exact gs_lret k kt dX6_wallValue_38 ⟨(by simp [-Int32.not_lt, A_wallValue, okW, ifc_T, ifc_F, c1]), (by simp [-Int32.not_lt, A_wallValue, okW, ifc_T, ifc_F, c1])⟩
  · have bc1 := inR_lt c1
    refine gs_if_ne (tgt := 35) k (by decide) dX6_wallValue_5 (fun _ => ?_) (fun h => absurd h (by decide))
    refine gs_ldc2 (v := -9223372036854775808) k cl_X6_184 dX6_wallValue_35 ?_
    exact gs_lret k kt dX6_wallValue_38 ⟨(by simp [-Int32.not_lt, A_wallValue, okW, ifc_T, ifc_F, c1, c2]), (by simp [-Int32.not_lt, A_wallValue, okW, ifc_T, ifc_F, c1, c2])⟩
  · have bc1 := inR_lt c1
    refine gs_if_ne (tgt := 35) k (by decide) dX6_wallValue_5 (fun h => absurd h (by decide)) (fun _ => ?_)
    refine gs_aload_n (q := 0) k rfl rfl dX6_wallValue_8 ?_
    refine gs_get (C := RX6) (T := TX6) (N := 10) (ci := 6) (k0 := 0) (j := 0) k (hI 0 (by omega)) rfl rfl inX6 (by decide) fl_X6_12 rfl rfl dX6_wallValue_9 ?_
    refine gs_iload_n (q := 2) k rfl rfl dX6_wallValue_12 ?_
    refine gs_callV (As := [.int s]) (k0 := 1) (ci := 5) (T := TX5) (N := 9) k (c_X5_hasPoint hI hn) cf_X5_hasPoint im_X5_hasPoint sl_X5_hasPoint ml_X6_71 (hI 1 (by omega)) rfl rfl (by decide) rfl rfl (Nat.le_of_ble_eq_true rfl) dX6_wallValue_13 (ppB (fun c3 => ?_) (fun c3 => ?_))
    · have bc3 := inR_lt c3
      refine gs_if_eq (tgt := 35) k (by decide) dX6_wallValue_16 (fun h => absurd h (by decide)) (fun _ => ?_)
      refine gs_aload_n (q := 0) k rfl rfl dX6_wallValue_19 ?_
      refine gs_get (C := RX6) (T := TX6) (N := 10) (ci := 6) (k0 := 0) (j := 0) k (hI 0 (by omega)) rfl rfl inX6 (by decide) fl_X6_12 rfl rfl dX6_wallValue_20 ?_
      refine gs_iload_n (q := 3) k rfl rfl dX6_wallValue_23 ?_
      refine gs_callV (As := [.int t]) (k0 := 1) (ci := 5) (T := TX5) (N := 9) k (c_X5_hasPoint hI hn) cf_X5_hasPoint im_X5_hasPoint sl_X5_hasPoint ml_X6_71 (hI 1 (by omega)) rfl rfl (by decide) rfl rfl (Nat.le_of_ble_eq_true rfl) dX6_wallValue_24 (ppB (fun c4 => ?_) (fun c4 => ?_))
      · have bc4 := inR_lt c4
        refine gs_if_eq (tgt := 35) k (by decide) dX6_wallValue_27 (fun h => absurd h (by decide)) (fun _ => ?_)
        refine gs_iload_n (q := 2) k rfl rfl dX6_wallValue_30 ?_
        refine gs_iload_n (q := 3) k rfl rfl dX6_wallValue_31 ?_
        refine gs_icmp_ne (tgt := 39) k (by decide) dX6_wallValue_32 (fun c5 => ?_) (fun c5 => ?_)
        · refine gs_aload_n (q := 0) k rfl rfl dX6_wallValue_39 ?_
          refine gs_get (C := RX6) (T := TX6) (N := 10) (ci := 6) (k0 := 0) (j := 0) k (hI 0 (by omega)) rfl rfl inX6 (by decide) fl_X6_12 rfl rfl dX6_wallValue_40 ?_
          refine gs_get (C := RX5) (T := TX5) (N := 9) (ci := 5) (k0 := 1) (j := 7) k (hI 1 (by omega)) rfl rfl inX5 (by decide) fl_X6_107 rfl rfl dX6_wallValue_43 ?_
          refine gs_iload_n (q := 1) k rfl rfl dX6_wallValue_46 ?_
          refine gs_aaldSN (k0 := 8) (n := 6) (e := tn f) (a := E.2.2.1 (10 + 2 * (tn f))) k (hI 8 (by omega)) (fun _ => rfl) (inR_eq c1) (by omega) (by decide) rfl dX6_wallValue_47 ?_
          refine gs_get (C := RX3) (T := TX3) (N := 2) (ci := 3) (k0 := (10 + 2 * (tn f))) (j := 1) k (hI (10 + 2 * (tn f)) (by omega)) (ent_F1 (by omega) _) rfl inX3 (by decide) fl_X6_111 rfl rfl dX6_wallValue_48 ?_
          refine gs_aload_n (q := 0) k rfl rfl dX6_wallValue_51 ?_
          refine gs_get (C := RX6) (T := TX6) (N := 10) (ci := 6) (k0 := 0) (j := 0) k (hI 0 (by omega)) rfl rfl inX6 (by decide) fl_X6_12 rfl rfl dX6_wallValue_52 ?_
          refine gs_get (C := RX5) (T := TX5) (N := 9) (ci := 5) (k0 := 1) (j := 7) k (hI 1 (by omega)) rfl rfl inX5 (by decide) fl_X6_107 rfl rfl dX6_wallValue_55 ?_
          refine gs_iload_n (q := 1) k rfl rfl dX6_wallValue_58 ?_
          refine gs_aaldSN (k0 := 8) (n := 6) (e := tn f) (a := E.2.2.1 (10 + 2 * (tn f))) k (hI 8 (by omega)) (fun _ => rfl) (inR_eq c1) (by omega) (by decide) rfl dX6_wallValue_59 ?_
          refine gs_aload_n (q := 0) k rfl rfl dX6_wallValue_60 ?_
          refine gs_get (C := RX6) (T := TX6) (N := 10) (ci := 6) (k0 := 0) (j := 0) k (hI 0 (by omega)) rfl rfl inX6 (by decide) fl_X6_12 rfl rfl dX6_wallValue_61 ?_
          refine gs_get (C := RX5) (T := TX5) (N := 9) (ci := 5) (k0 := 1) (j := 0) k (hI 1 (by omega)) rfl rfl inX5 (by decide) fl_X6_63 rfl rfl dX6_wallValue_64 ?_
          refine gs_iload_n (q := 2) k rfl rfl dX6_wallValue_67 ?_
          refine gs_iload_n (q := 3) k rfl rfl dX6_wallValue_68 ?_
          refine gs_callV (As := [.int (M 1 0), .int s, .int t]) (k0 := (10 + 2 * (tn f))) (ci := 3) (T := TX3) (N := 2) k (c_X3_leastApart (s := tn s) (t := tn t) hI hF (by omega) hn1 hn6 hn0 (inR_eq c3) (inR_eq c4) (by omega) (by omega)) cf_X3_leastApart im_X3_leastApart sl_X3_leastApart ml_X6_231 (hI (10 + 2 * (tn f)) (by omega)) (ent_F1 (by omega) _) rfl (by decide) rfl rfl (Nat.le_of_ble_eq_true rfl) dX6_wallValue_69 (ppI ?_)
          refine gs_ialdN (k0 := (11 + 2 * (tn f))) (n := 64) (e := wallC (V (tn f)) n (tn s) (tn t)) k (hI (11 + 2 * (tn f)) (by omega)) (ent_V1 (by omega)) rfl (by have := wallC_lt (v := V (tn f)) (t := tn t) (show tn s < n by omega); omega) (by decide) dX6_wallValue_72 ?_
          refine gs_top (y := V (tn f) (wallC (V (tn f)) n (tn s) (tn t))) ((hF (tn f) (by omega)).2.2 (wallC (V (tn f)) n (tn s) (tn t)) (wallC_lt (by omega))) ?_
          refine gs_i2l k dX6_wallValue_73 ?_
          exact gs_lret k kt dX6_wallValue_74 ⟨(by simp [-Int32.not_lt, A_wallValue, okW, ifc_T, ifc_F, c1, c2, c3, c4, c5]), (by simp [-Int32.not_lt, A_wallValue, okW, ifc_T, ifc_F, c1, c2, c3, c4, c5])⟩
        · refine gs_ldc2 (v := -9223372036854775808) k cl_X6_184 dX6_wallValue_35 ?_
          exact gs_lret k kt dX6_wallValue_38 ⟨(by simp [-Int32.not_lt, A_wallValue, okW, ifc_T, ifc_F, c1, c2, c3, c4, c5]), (by simp [-Int32.not_lt, A_wallValue, okW, ifc_T, ifc_F, c1, c2, c3, c4, c5])⟩
      · refine gs_if_eq (tgt := 35) k (by decide) dX6_wallValue_27 (fun _ => ?_) (fun h => absurd h (by decide))
        refine gs_ldc2 (v := -9223372036854775808) k cl_X6_184 dX6_wallValue_35 ?_
        exact gs_lret k kt dX6_wallValue_38 ⟨(by simp [-Int32.not_lt, A_wallValue, okW, ifc_T, ifc_F, c1, c2, c3, c4]), (by simp [-Int32.not_lt, A_wallValue, okW, ifc_T, ifc_F, c1, c2, c3, c4])⟩
    · refine gs_if_eq (tgt := 35) k (by decide) dX6_wallValue_16 (fun _ => ?_) (fun h => absurd h (by decide))
      refine gs_ldc2 (v := -9223372036854775808) k cl_X6_184 dX6_wallValue_35 ?_
      exact gs_lret k kt dX6_wallValue_38 ⟨(by simp [-Int32.not_lt, A_wallValue, okW, ifc_T, ifc_F, c1, c2, c3]), (by simp [-Int32.not_lt, A_wallValue, okW, ifc_T, ifc_F, c1, c2, c3])⟩

theorem cf_X7_wallValue : CF yX7_wallValue cX7_wallValue 4 (some .long) 3 := ⟨cd_X7_wallValue, iz_X7, by decide, by decide +kernel, by decide +kernel, by decide +kernel⟩
set_option maxRecDepth 100000 in
set_option maxHeartbeats 4000000 in
theorem c_X7_wallValue {l : Launch} {E : Ev} {M : Mm} {n : Nat} {kd : Nat → Int32} {V : Nat → Nat → Int32} (hI : ∀ k, k < 108 → k ∈ E.2.1) (hn : Rn M n) (hF : RFn M n kd V) {f s t : Int32} : Cm l E yX7_wallValue cX7_wallValue 4 (some .long) 3 [.ref (E.2.2.1 65), .int f, .int s, .int t] M (pL (A_wallValue ((V (tn f) (wallC (V (tn f)) n (tn s) (tn t))).toInt64) n kd f s t) M) := by
  refine Cm.of (by decide) (Nat.le_of_ble_eq_true rfl) (fun K k kt => ?_)
  show G l E K 0 [(0, .ref (E.2.2.1 65)), (1, .int f), (2, .int s), (3, .int t)] [] M
  obtain ⟨hn0, hn1, hn6⟩ := id hn
  have hp := p2_le6 hn6
  have hp2 := p2_ge2 hn1
  refine gs_aload_n (q := 0) k rfl rfl dX7_wallValue_0 ?_
  refine gs_iload_n (q := 1) k rfl rfl dX7_wallValue_1 ?_
  refine gs_callV (As := [.int f]) (k0 := 65) (ci := 7) (T := TX7) (N := 27) k (c_X7_isThere hI hF) cf_X7_isThere im_X7_isThere sl_X7_isThere ml_X7_163 (hI 65 (by omega)) rfl rfl (by decide) rfl rfl (Nat.le_of_ble_eq_true rfl) dX7_wallValue_2 (ppB (fun c1 => ?_) (fun c1 => ?_))
  · have bc1 := inR_lt c1.1
    have tc1 := c1.2
    refine gs_if_eq (tgt := 35) k (by decide) dX7_wallValue_5 (fun h => absurd h (by decide)) (fun _ => ?_)
    refine gs_aload_n (q := 0) k rfl rfl dX7_wallValue_8 ?_
    refine gs_iload_n (q := 2) k rfl rfl dX7_wallValue_9 ?_
    refine gs_iload_n (q := 3) k rfl rfl dX7_wallValue_10 ?_
    refine gs_callV (As := [.int s, .int t]) (k0 := 65) (ci := 7) (T := TX7) (N := 27) k (c_X7_areUnlike hI hn) cf_X7_areUnlike im_X7_areUnlike sl_X7_areUnlike ml_X7_247 (hI 65 (by omega)) rfl rfl (by decide) rfl rfl (Nat.le_of_ble_eq_true rfl) dX7_wallValue_11 (ppB (fun c2 => ?_) (fun c2 => ?_))
    · have bc2 := inR_lt c2.1
      have dc2 := inR_lt c2.2.1
      refine gs_if_eq (tgt := 35) k (by decide) dX7_wallValue_14 (fun h => absurd h (by decide)) (fun _ => ?_)
      refine gs_aload_n (q := 0) k rfl rfl dX7_wallValue_17 ?_
      refine gs_get (C := RX7) (T := TX7) (N := 27) (ci := 7) (k0 := 65) (j := 8) k (hI 65 (by omega)) rfl rfl inX7 (by decide) fl_X7_39 rfl rfl dX7_wallValue_18 ?_
      refine gs_iload_n (q := 1) k rfl rfl dX7_wallValue_21 ?_
      refine gs_aaldIN (k0 := 73) (n := 6) (e := tn f) (a := E.2.2.1 (74 + (tn f))) k (hI 73 (by omega)) (fun _ => rfl) (inR_eq c1.1) (by omega) (by decide) rfl dX7_wallValue_22 ?_
      refine gs_aload_n (q := 0) k rfl rfl dX7_wallValue_23 ?_
      refine gs_iload_n (q := 1) k rfl rfl dX7_wallValue_24 ?_
      refine gs_iload_n (q := 2) k rfl rfl dX7_wallValue_25 ?_
      refine gs_iload_n (q := 3) k rfl rfl dX7_wallValue_26 ?_
      refine gs_callV (As := [.int f, .int s, .int t]) (k0 := 65) (ci := 7) (T := TX7) (N := 27) k (c_X7_wallOf (f := tn f) (s := tn s) (u := tn t) hI hn hF (inR_eq c1.1) (by omega) (by assumption) (inR_eq c2.1) (inR_eq c2.2.1) (by omega) (by omega)) cf_X7_wallOf im_X7_wallOf sl_X7_wallOf ml_X7_250 (hI 65 (by omega)) rfl rfl (by decide) rfl rfl (Nat.le_of_ble_eq_true rfl) dX7_wallValue_27 (ppI ?_)
      refine gs_top (y := nI (wallC (V (tn f)) n (tn s) (tn t))) (by rw [wall_eq (by omega) (by omega) (tn_ne c2.1 c2.2.1 c2.2.2)]; rfl) ?_
      refine gs_ialdN (k0 := (74 + (tn f))) (n := 64) (e := wallC (V (tn f)) n (tn s) (tn t)) k (hI (74 + (tn f)) (by omega)) (ent_RV (by omega)) rfl (by have := wallC_lt (v := V (tn f)) (t := tn t) (show tn s < n by omega); omega) (by decide) dX7_wallValue_30 ?_
      refine gs_top (y := V (tn f) (wallC (V (tn f)) n (tn s) (tn t))) ((hF (tn f) (by omega)).2.2 (by assumption) (wallC (V (tn f)) n (tn s) (tn t)) (wallC_lt (by omega))) ?_
      refine gs_i2l k dX7_wallValue_31 ?_
      refine gs_goto (tgt := 38) k (by decide) dX7_wallValue_32 ?_
      exact gs_lret k kt dX7_wallValue_38 ⟨(by simp [-Int32.not_lt, A_wallValue, ifc_T, ifc_F, c1, tc1, c2]), (by simp [-Int32.not_lt, A_wallValue, ifc_T, ifc_F, c1, tc1, c2])⟩
    · refine gs_if_eq (tgt := 35) k (by decide) dX7_wallValue_14 (fun _ => ?_) (fun h => absurd h (by decide))
      refine gs_ldc2 (v := -9223372036854775808) k cl_X7_198 dX7_wallValue_35 ?_
      exact gs_lret k kt dX7_wallValue_38 ⟨(by simp [-Int32.not_lt, A_wallValue, ifc_T, ifc_F, c1, tc1, c2]), (by simp [-Int32.not_lt, A_wallValue, ifc_T, ifc_F, c1, tc1, c2])⟩
  · refine gs_if_eq (tgt := 35) k (by decide) dX7_wallValue_5 (fun _ => ?_) (fun h => absurd h (by decide))
    refine gs_ldc2 (v := -9223372036854775808) k cl_X7_198 dX7_wallValue_35 ?_
    exact gs_lret k kt dX7_wallValue_38 ⟨(by simp [-Int32.not_lt, A_wallValue, ifc_T, ifc_F, c1]), (by simp [-Int32.not_lt, A_wallValue, ifc_T, ifc_F, c1])⟩

theorem i0_2 : inR 0 2 := by unfold inR; decide
theorem i0_3 : inR 0 3 := by unfold inR; decide
theorem i1_3 : inR 1 3 := by unfold inR; decide
noncomputable def A_most (g b : Int32) (n : Nat) (kd : Nat → Int32) (f m w : Int32) : Int32 := ifc (inR f 6 ∧ inR w 2) (ifc (inR m (n + 1)) (ifc (¬ kd (tn f) < 0) (ifc (w = 0) g b) (-11)) (-2)) (-1)
theorem toInt64_n {x : Int32} {n : Nat} (h : x = nI n) (hn : n < 2 ^ 31) : x.toInt64.toInt = ((n + 1 : Nat) : Int) - 1 := by
  rw [h, Int32.toInt_toInt64, nI_toInt hn]; omega
theorem cf_X6_most : CF yX6_most cX6_most 5 (some .int) 3 := ⟨cd_X6_most, iz_X6, by decide, by decide +kernel, by decide +kernel, by decide +kernel⟩
set_option maxRecDepth 100000 in
set_option maxHeartbeats 4000000 in
theorem c_X6_most {l : Launch} {E : Ev} {M : Mm} {n : Nat} {kd : Nat → Int32} {V : Nat → Nat → Int32} (hI : ∀ k, k < 108 → k ∈ E.2.1) (hn : Cn M n) (hF : CFn M n kd V) {f m w : Int32} : Cm l E yX6_most cX6_most 5 (some .int) 3 [.ref (E.2.2.1 0), .int f, .int m, .int w] M (pI (A_most (nI (greedyS (V (tn f)) n (tn m))) (nI (bestC (V (tn f)) n (tn m))) n kd f m w) M) := by
  refine Cm.of (by decide) (Nat.le_of_ble_eq_true rfl) (fun K k kt => ?_)
  show G l E K 0 [(0, .ref (E.2.2.1 0)), (1, .int f), (2, .int m), (3, .int w)] [] M
  obtain ⟨hn0, hn1, hn6⟩ := id hn
  have hp := p2_le6 hn6
  have hp2 := p2_ge2 hn1
  refine gs_iload_n (q := 1) k rfl rfl dX6_most_0 ?_
  refine gs_callS (As := [.int f]) k c_X6_isFunction cf_X6_isFunction sm_X6_isFunction ml_X6_101 (by decide) rfl rfl (Nat.le_of_ble_eq_true rfl) dX6_most_1 (ppB (fun c1 => ?_) (fun c1 => ?_))
  · have bc1 := inR_lt c1
    refine gs_if_eq (tgt := 16) k (by decide) dX6_most_4 (fun h => absurd h (by decide)) (fun _ => ?_)
    refine gs_iload_n (q := 3) k rfl rfl dX6_most_7 ?_
    refine gs_if_lt (tgt := 16) k (by decide) dX6_most_8 (fun c2 => ?_) (fun c2 => ?_)
    · have ec2 : ¬ inR w 2 := inR_n1 c2
      refine gs_iconst (v := -1) k (by decide) dX6_most_16 ?_
      exact gs_iret k kt dX6_most_17 ⟨(by simp [-Int32.not_lt, A_most, ifc_T, ifc_F, c1, c2, ec2, i0_2]), (by simp [-Int32.not_lt, A_most, ifc_T, ifc_F, c1, c2, ec2, i0_2])⟩
    · refine gs_iload_n (q := 3) k rfl rfl dX6_most_11 ?_
      refine gs_iconst (v := 1) k (by decide) dX6_most_12 ?_
      refine gs_icmp_le (tgt := 18) k (by decide) dX6_most_13 (fun c3 => ?_) (fun c3 => ?_)
      · have ec3 : inR w 2 := inR_of' rfl (by decide) (by decide) c2 (Int32.not_lt.mpr c3)
        have fc3 := inR_lt ec3
        refine gs_iload_n (q := 2) k rfl rfl dX6_most_18 ?_
        refine gs_if_lt (tgt := 33) k (by decide) dX6_most_19 (fun c4 => ?_) (fun c4 => ?_)
        · have ec4 : ¬ inR m (n + 1) := inR_n1 c4
          refine gs_bipush (v := -2) k (by decide) dX6_most_33 ?_
          exact gs_iret k kt dX6_most_35 ⟨(by simp [-Int32.not_lt, A_most, ifc_T, ifc_F, c1, c2, c3, ec3, c4, ec4, i0_2]), (by simp [-Int32.not_lt, A_most, ifc_T, ifc_F, c1, c2, c3, ec3, c4, ec4, i0_2])⟩
        · refine gs_iload_n (q := 2) k rfl rfl dX6_most_22 ?_
          refine gs_aload_n (q := 0) k rfl rfl dX6_most_23 ?_
          refine gs_get (C := RX6) (T := TX6) (N := 10) (ci := 6) (k0 := 0) (j := 0) k (hI 0 (by omega)) rfl rfl inX6 (by decide) fl_X6_12 rfl rfl dX6_most_24 ?_
          refine gs_get (C := RX5) (T := TX5) (N := 9) (ci := 5) (k0 := 1) (j := 0) k (hI 1 (by omega)) rfl rfl inX5 (by decide) fl_X6_63 rfl rfl dX6_most_27 ?_
          refine gs_icmp_le (tgt := 36) k (by decide) dX6_most_30 (fun c5 => ?_) (fun c5 => ?_)
          · have ec5 : inR m (n + 1) := inR_of' (n := n + 1) hn0 (by omega) (by omega) c4 (Int32.not_lt.mpr c5)
            have fc5 := inR_lt ec5
            refine gs_aload_n (q := 0) k rfl rfl dX6_most_36 ?_
            refine gs_get (C := RX6) (T := TX6) (N := 10) (ci := 6) (k0 := 0) (j := 0) k (hI 0 (by omega)) rfl rfl inX6 (by decide) fl_X6_12 rfl rfl dX6_most_37 ?_
            refine gs_get (C := RX5) (T := TX5) (N := 9) (ci := 5) (k0 := 1) (j := 7) k (hI 1 (by omega)) rfl rfl inX5 (by decide) fl_X6_107 rfl rfl dX6_most_40 ?_
            refine gs_iload_n (q := 1) k rfl rfl dX6_most_43 ?_
            refine gs_aaldSN (k0 := 8) (n := 6) (e := tn f) (a := E.2.2.1 (10 + 2 * (tn f))) k (hI 8 (by omega)) (fun _ => rfl) (inR_eq c1) (by omega) (by decide) rfl dX6_most_44 ?_
            refine gs_astore (lv' := [(4, .ref (E.2.2.1 (10 + 2 * (tn f)))), (0, .ref (E.2.2.1 0)), (1, .int f), (2, .int m), (3, .int w)]) k (by decide) rfl dX6_most_45 ?_
            refine gs_aload (q := 0) k rfl dX6_most_47 ?_
            refine gs_callV (As := []) (k0 := (10 + 2 * (tn f))) (ci := 3) (T := TX3) (N := 2) k (c_X3_isMissing hI hF (by omega)) cf_X3_isMissing im_X3_isMissing sl_X3_isMissing ml_X6_127 (hI (10 + 2 * (tn f)) (by omega)) (ent_F1 (by omega) _) rfl (by decide) rfl rfl (Nat.le_of_ble_eq_true rfl) dX6_most_49 (ppB (fun c6 => ?_) (fun c6 => ?_))
            · refine gs_if_eq (tgt := 58) k (by decide) dX6_most_52 (fun h => absurd h (by decide)) (fun _ => ?_)
              refine gs_bipush (v := -11) k (by decide) dX6_most_55 ?_
              exact gs_iret k kt dX6_most_57 ⟨(by simp [-Int32.not_lt, A_most, ifc_T, ifc_F, c1, c2, c3, ec3, c4, c5, ec5, c6, i0_2]), (by simp [-Int32.not_lt, A_most, ifc_T, ifc_F, c1, c2, c3, ec3, c4, c5, ec5, c6, i0_2])⟩
            · refine gs_if_eq (tgt := 58) k (by decide) dX6_most_52 (fun _ => ?_) (fun h => absurd h (by decide))
              refine gs_iload_n (q := 4) k rfl rfl dX6_most_58 ?_
              refine gs_if_ne (tgt := 78) k (by decide) dX6_most_59 (fun c7 => ?_) (fun c7 => ?_)
              · refine gs_aload (q := 0) k rfl dX6_most_78 ?_
                refine gs_aload_n (q := 1) k rfl rfl dX6_most_80 ?_
                refine gs_get (C := RX6) (T := TX6) (N := 10) (ci := 6) (k0 := 0) (j := 0) k (hI 0 (by omega)) rfl rfl inX6 (by decide) fl_X6_12 rfl rfl dX6_most_81 ?_
                refine gs_get (C := RX5) (T := TX5) (N := 9) (ci := 5) (k0 := 1) (j := 0) k (hI 1 (by omega)) rfl rfl inX5 (by decide) fl_X6_63 rfl rfl dX6_most_84 ?_
                refine gs_iload_n (q := 3) k rfl rfl dX6_most_87 ?_
                refine gs_callV (As := [.int (M 1 0), .int m]) (k0 := (10 + 2 * (tn f))) (ci := 3) (T := TX3) (N := 2) k (c_X3_bestChoice (m := tn m) hI hF (by omega) hn1 hn6 hn0 (inR_eq ec5) (by omega)) cf_X3_bestChoice im_X3_bestChoice sl_X3_bestChoice ml_X6_237 (hI (10 + 2 * (tn f)) (by omega)) (ent_F1 (by omega) _) rfl (by decide) rfl rfl (Nat.le_of_ble_eq_true rfl) dX6_most_88 (ppI ?_)
                exact gs_iret k kt dX6_most_91 ⟨(by simp [-Int32.not_lt, A_most, ifc_T, ifc_F, c1, c2, c3, ec3, c4, c5, ec5, c6, c7, i0_2]), (by simp [-Int32.not_lt, A_most, ifc_T, ifc_F, c1, c2, c3, ec3, c4, c5, ec5, c6, c7, i0_2])⟩
              · refine gs_aload (q := 0) k rfl dX6_most_62 ?_
                refine gs_aload_n (q := 1) k rfl rfl dX6_most_64 ?_
                refine gs_get (C := RX6) (T := TX6) (N := 10) (ci := 6) (k0 := 0) (j := 0) k (hI 0 (by omega)) rfl rfl inX6 (by decide) fl_X6_12 rfl rfl dX6_most_65 ?_
                refine gs_get (C := RX5) (T := TX5) (N := 9) (ci := 5) (k0 := 1) (j := 0) k (hI 1 (by omega)) rfl rfl inX5 (by decide) fl_X6_63 rfl rfl dX6_most_68 ?_
                refine gs_iload_n (q := 3) k rfl rfl dX6_most_71 ?_
                refine gs_callV (As := [.int (M 1 0), .int m]) (k0 := (10 + 2 * (tn f))) (ci := 3) (T := TX3) (N := 2) k (c_X3_greedyChoice (m := tn m) hI hF (by omega) hn1 hn6 hn0 (inR_eq ec5) (by omega)) cf_X3_greedyChoice im_X3_greedyChoice sl_X3_greedyChoice ml_X6_234 (hI (10 + 2 * (tn f)) (by omega)) (ent_F1 (by omega) _) rfl (by decide) rfl rfl (Nat.le_of_ble_eq_true rfl) dX6_most_72 (ppI ?_)
                refine gs_goto (tgt := 91) k (by decide) dX6_most_75 ?_
                exact gs_iret k kt dX6_most_91 ⟨(by simp [-Int32.not_lt, A_most, ifc_T, ifc_F, c1, c2, c3, ec3, c4, c5, ec5, c6, c7, i0_2]), (by simp [-Int32.not_lt, A_most, ifc_T, ifc_F, c1, c2, c3, ec3, c4, c5, ec5, c6, c7, i0_2])⟩
          · have ec5 : ¬ inR m (n + 1) := inR_n2' (n := n + 1) hn0 (by omega) (by omega) (Int32.not_le.mp c5)
            refine gs_bipush (v := -2) k (by decide) dX6_most_33 ?_
            exact gs_iret k kt dX6_most_35 ⟨(by simp [-Int32.not_lt, A_most, ifc_T, ifc_F, c1, c2, c3, ec3, c4, c5, ec5, i0_2]), (by simp [-Int32.not_lt, A_most, ifc_T, ifc_F, c1, c2, c3, ec3, c4, c5, ec5, i0_2])⟩
      · have ec3 : ¬ inR w 2 := inR_n2' rfl (by decide) (by decide) (Int32.not_le.mp c3)
        refine gs_iconst (v := -1) k (by decide) dX6_most_16 ?_
        exact gs_iret k kt dX6_most_17 ⟨(by simp [-Int32.not_lt, A_most, ifc_T, ifc_F, c1, c2, c3, ec3, i0_2]), (by simp [-Int32.not_lt, A_most, ifc_T, ifc_F, c1, c2, c3, ec3, i0_2])⟩
  · refine gs_if_eq (tgt := 16) k (by decide) dX6_most_4 (fun _ => ?_) (fun h => absurd h (by decide))
    refine gs_iconst (v := -1) k (by decide) dX6_most_16 ?_
    exact gs_iret k kt dX6_most_17 ⟨(by simp [-Int32.not_lt, A_most, ifc_T, ifc_F, c1, i0_2]), (by simp [-Int32.not_lt, A_most, ifc_T, ifc_F, c1, i0_2])⟩

theorem cf_X7_most : CF yX7_most cX7_most 4 (some .int) 3 := ⟨cd_X7_most, iz_X7, by decide, by decide +kernel, by decide +kernel, by decide +kernel⟩
set_option maxRecDepth 100000 in
set_option maxHeartbeats 4000000 in
theorem c_X7_most {l : Launch} {E : Ev} {M : Mm} {n : Nat} {kd : Nat → Int32} {V : Nat → Nat → Int32} (hI : ∀ k, k < 108 → k ∈ E.2.1) (hn : Rn M n) (hF : RFn M n kd V) {f m w : Int32} : Cm l E yX7_most cX7_most 4 (some .int) 3 [.ref (E.2.2.1 65), .int f, .int m, .int w] M (pI (A_most (nI (greedyS (V (tn f)) n (tn m))) (ob (-5) (bestR (V (tn f)) n (tn m))) n kd f m w) M) := by
  refine Cm.of (by decide) (Nat.le_of_ble_eq_true rfl) (fun K k kt => ?_)
  show G l E K 0 [(0, .ref (E.2.2.1 65)), (1, .int f), (2, .int m), (3, .int w)] [] M
  obtain ⟨hn0, hn1, hn6⟩ := id hn
  have hp := p2_le6 hn6
  have hp2 := p2_ge2 hn1
  refine gs_iload_n (q := 1) k rfl rfl dX7_most_0 ?_
  refine gs_callS (As := [.int f]) k c_X7_isFunction cf_X7_isFunction sm_X7_isFunction ml_X7_128 (by decide) rfl rfl (Nat.le_of_ble_eq_true rfl) dX7_most_1 (ppB (fun c1 => ?_) (fun c1 => ?_))
  · have bc1 := inR_lt c1
    refine gs_if_eq (tgt := 17) k (by decide) dX7_most_4 (fun h => absurd h (by decide)) (fun _ => ?_)
    refine gs_iload_n (q := 3) k rfl rfl dX7_most_7 ?_
    refine gs_i2l k dX7_most_8 ?_
    refine gs_lconst (v := 0) k (by decide) dX7_most_9 ?_
    refine gs_lconst (v := 1) k (by decide) dX7_most_10 ?_
    refine gs_callS (As := [.long (w.toInt64), .long (0), .long (1)]) k (Cm.iff (inL (n := 2) (by decide) (by decide)) c_X7_in) cf_X7_in sm_X7_in ml_X7_79 (by decide) rfl rfl (Nat.le_of_ble_eq_true rfl) dX7_most_11 (ppB (fun c2 => ?_) (fun c2 => ?_))
    · have bc2 := inR_lt c2
      refine gs_if_ne (tgt := 19) k (by decide) dX7_most_14 (fun _ => ?_) (fun h => absurd h (by decide))
      refine gs_iload_n (q := 2) k rfl rfl dX7_most_19 ?_
      refine gs_i2l k dX7_most_20 ?_
      refine gs_lconst (v := 0) k (by decide) dX7_most_21 ?_
      refine gs_aload_n (q := 0) k rfl rfl dX7_most_22 ?_
      refine gs_get (C := RX7) (T := TX7) (N := 27) (ci := 7) (k0 := 65) (j := 0) k (hI 65 (by omega)) rfl rfl inX7 (by decide) fl_X7_9 rfl rfl dX7_most_23 ?_
      refine gs_i2l k dX7_most_26 ?_
      refine gs_callS (As := [.long (m.toInt64), .long (0), .long ((M 65 0).toInt64)]) k (Cm.iff (inL (n := n + 1) (by decide) (toInt64_n hn0 (by omega))) c_X7_in) cf_X7_in sm_X7_in ml_X7_79 (by decide) rfl rfl (Nat.le_of_ble_eq_true rfl) dX7_most_27 (ppB (fun c3 => ?_) (fun c3 => ?_))
      · have bc3 := inR_lt c3
        refine gs_if_ne (tgt := 36) k (by decide) dX7_most_30 (fun _ => ?_) (fun h => absurd h (by decide))
        refine gs_aload_n (q := 0) k rfl rfl dX7_most_36 ?_
        refine gs_iload_n (q := 1) k rfl rfl dX7_most_37 ?_
        refine gs_callV (As := [.int f]) (k0 := 65) (ci := 7) (T := TX7) (N := 27) k (c_X7_isThere hI hF) cf_X7_isThere im_X7_isThere sl_X7_isThere ml_X7_163 (hI 65 (by omega)) rfl rfl (by decide) rfl rfl (Nat.le_of_ble_eq_true rfl) dX7_most_38 (ppB (fun c4 => ?_) (fun c4 => ?_))
        · have bc4 := inR_lt c4.1
          have tc4 := c4.2
          refine gs_if_ne (tgt := 47) k (by decide) dX7_most_41 (fun _ => ?_) (fun h => absurd h (by decide))
          refine gs_iload_n (q := 3) k rfl rfl dX7_most_47 ?_
          refine gs_if_ne (tgt := 60) k (by decide) dX7_most_48 (fun c5 => ?_) (fun c5 => ?_)
          · refine gs_aload_n (q := 0) k rfl rfl dX7_most_60 ?_
            refine gs_iload_n (q := 1) k rfl rfl dX7_most_61 ?_
            refine gs_iload_n (q := 2) k rfl rfl dX7_most_62 ?_
            refine gs_callV (As := [.int f, .int m]) (k0 := 65) (ci := 7) (T := TX7) (N := 27) k (c_X7_best (f := tn f) (m := tn m) hI hn hF (inR_eq c1) (by omega) (by assumption) (inR_eq c3) (by omega)) cf_X7_best im_X7_best sl_X7_best ml_X7_256 (hI 65 (by omega)) rfl rfl (by decide) rfl rfl (Nat.le_of_ble_eq_true rfl) dX7_most_63 (ppI ?_)
            exact gs_iret k kt dX7_most_66 ⟨(by simp [-Int32.not_lt, A_most, ifc_T, ifc_F, c1, c2, c3, c4, tc4, c5, i0_2]), (by simp [-Int32.not_lt, A_most, ifc_T, ifc_F, c1, c2, c3, c4, tc4, c5, i0_2])⟩
          · refine gs_aload_n (q := 0) k rfl rfl dX7_most_51 ?_
            refine gs_iload_n (q := 1) k rfl rfl dX7_most_52 ?_
            refine gs_iload_n (q := 2) k rfl rfl dX7_most_53 ?_
            refine gs_callV (As := [.int f, .int m]) (k0 := 65) (ci := 7) (T := TX7) (N := 27) k (c_X7_greed (f := tn f) (m := tn m) hI hn hF (inR_eq c1) (by omega) (by assumption) (inR_eq c3) (by omega)) cf_X7_greed im_X7_greed sl_X7_greed ml_X7_253 (hI 65 (by omega)) rfl rfl (by decide) rfl rfl (Nat.le_of_ble_eq_true rfl) dX7_most_54 (ppI ?_)
            refine gs_goto (tgt := 66) k (by decide) dX7_most_57 ?_
            exact gs_iret k kt dX7_most_66 ⟨(by simp [-Int32.not_lt, A_most, ifc_T, ifc_F, c1, c2, c3, c4, tc4, c5, i0_2]), (by simp [-Int32.not_lt, A_most, ifc_T, ifc_F, c1, c2, c3, c4, tc4, c5, i0_2])⟩
        · have qc4 : kd (tn f) < 0 := Classical.byContradiction (fun k => c4 ⟨by assumption, k⟩)
          refine gs_if_ne (tgt := 47) k (by decide) dX7_most_41 (fun h => absurd h (by decide)) (fun _ => ?_)
          refine gs_bipush (v := -11) k (by decide) dX7_most_44 ?_
          exact gs_iret k kt dX7_most_46 ⟨(by simp [-Int32.not_lt, A_most, ifc_T, ifc_F, c1, c2, c3, c4, qc4, i0_2]), (by simp [-Int32.not_lt, A_most, ifc_T, ifc_F, c1, c2, c3, c4, qc4, i0_2])⟩
      · refine gs_if_ne (tgt := 36) k (by decide) dX7_most_30 (fun h => absurd h (by decide)) (fun _ => ?_)
        refine gs_bipush (v := -2) k (by decide) dX7_most_33 ?_
        exact gs_iret k kt dX7_most_35 ⟨(by simp [-Int32.not_lt, A_most, ifc_T, ifc_F, c1, c2, c3, i0_2]), (by simp [-Int32.not_lt, A_most, ifc_T, ifc_F, c1, c2, c3, i0_2])⟩
    · refine gs_if_ne (tgt := 19) k (by decide) dX7_most_14 (fun h => absurd h (by decide)) (fun _ => ?_)
      refine gs_iconst (v := -1) k (by decide) dX7_most_17 ?_
      exact gs_iret k kt dX7_most_18 ⟨(by simp [-Int32.not_lt, A_most, ifc_T, ifc_F, c1, c2, i0_2]), (by simp [-Int32.not_lt, A_most, ifc_T, ifc_F, c1, c2, i0_2])⟩
  · refine gs_if_eq (tgt := 17) k (by decide) dX7_most_4 (fun _ => ?_) (fun h => absurd h (by decide))
    refine gs_iconst (v := -1) k (by decide) dX7_most_17 ?_
    exact gs_iret k kt dX7_most_18 ⟨(by simp [-Int32.not_lt, A_most, ifc_T, ifc_F, c1, i0_2]), (by simp [-Int32.not_lt, A_most, ifc_T, ifc_F, c1, i0_2])⟩

def incR (v : Nat → Int32) (n : Nat) : Prop := ∀ s, s < 2 ^ n → ∀ p, p < n → (¬ s.testBit p = true → ¬ gn v s p < 0)
def symP (v : Nat → Int32) (n : Nat) : Prop := ∀ s, s < 2 ^ n → v s = v (2 ^ n - 1 - s)
def modP (v : Nat → Int32) (n : Nat) : Prop := ∀ s, s < 2 ^ n → ∀ p, p < n → (¬ s.testBit p = true → gn v s p = gn v 0 p)
theorem or_self_bit : ∀ s, s < 64 → ∀ p, p < 6 → s.testBit p = true → s ||| 2 ^ p = s := by decide +kernel
theorem inc_iff {v : Nat → Int32} {n : Nat} (hn : n ≤ 6) : (∀ s, s < 2 ^ n → ∀ p, p < n → ¬ gn v s p < 0) ↔ incR v n := by
  refine ⟨fun h s hs p hp _ => h s hs p hp, fun h s hs p hp => ?_⟩
  have h6 := p2_le6 hn
  by_cases c : s.testBit p = true
  · unfold gn
    rw [or_self_bit s (by omega) p (by omega) c, Int32.sub_self]
    decide
  · exact h s hs p hp c
noncomputable def b2i (P : Prop) : Int32 := ifc P 1 0
noncomputable def A_of (n : Nat) (kd : Nat → Int32) (V : Nat → Nat → Int32) (f w : Int32) : Int32 := ifc (inR f 6 ∧ inR w 5) (ifc (¬ kd (tn f) < 0) (ifc (w = 0) (kd (tn f)) (ifc (w = 1) (b2i (bad0 (V (tn f)) n = none)) (ifc (w = 2) (b2i (incR (V (tn f)) n)) (ifc (w = 3) (b2i (symP (V (tn f)) n)) (b2i (modP (V (tn f)) n)))))) (-11)) (-1)
def prt (r : Option (Nat × Nat × Nat)) (w : Int32) : Int32 := match r with
  | none => -5
  | some (s, i, j) => if w = 0 then nI s else if w = 1 then nI i else nI j
noncomputable def A_fails (n : Nat) (kd : Nat → Int32) (V : Nat → Nat → Int32) (f w : Int32) : Int32 := ifc (inR f 6 ∧ inR w 3) (ifc (¬ kd (tn f) < 0) (prt (bad0 (V (tn f)) n) w) (-11)) (-1)
theorem fnd_in {α : Type} {g : Nat → Option α} {a : α} : ∀ (k i : Nat), fnd g k i = some a → ∃ j, i ≤ j ∧ j < i + k ∧ g j = some a := by
  intro k
  induction k with
  | zero => intro i h; cases h
  | succ k ih =>
    intro i h
    cases c : g i with
    | some b => rw [fnd_some c] at h; exact ⟨i, Nat.le_refl _, by omega, by rw [c]; exact h⟩
    | none => rw [fnd_none c] at h; obtain ⟨j, h1, h2, h3⟩ := ih (i + 1) h; exact ⟨j, by omega, by omega, h3⟩
theorem bad0_lt {v : Nat → Int32} {n s i j : Nat} (h : bad0 v n = some (s, i, j)) : s < 2 ^ n ∧ i < n ∧ j < n := by
  obtain ⟨s1, -, h1, e1⟩ := fnd_in _ _ h
  obtain ⟨i1, -, h2, e2⟩ := fnd_in _ _ e1
  obtain ⟨j1, -, h3, e3⟩ := fnd_in _ _ e2
  unfold badO at e3
  split at e3
  · cases e3; omega
  · cases e3
theorem ffC_ne : ∀ s, s < 64 → ∀ i, i < 6 → ∀ j, j < 6 → ffC (some (s, i, j)) ≠ -5 ∧ ffC (some (s, i, j)) &&& 255 = nI s ∧ (ffC (some (s, i, j)) >>> ((8 : Int32) &&& 31)) &&& 255 = nI i ∧ (ffC (some (s, i, j)) >>> ((16 : Int32) &&& 31)) &&& 255 = nI j := by decide +kernel
theorem cf_X6_of : CF yX6_of cX6_of 4 (some .int) 2 := ⟨cd_X6_of, iz_X6, by decide, by decide +kernel, by decide +kernel, by decide +kernel⟩
set_option maxRecDepth 100000 in
set_option maxHeartbeats 4000000 in
theorem c_X6_of {l : Launch} {E : Ev} {M : Mm} {n : Nat} {kd : Nat → Int32} {V : Nat → Nat → Int32} (hI : ∀ k, k < 108 → k ∈ E.2.1) (hn : Cn M n) (hF : CFn M n kd V) {f w : Int32} : Cm l E yX6_of cX6_of 4 (some .int) 3 [.ref (E.2.2.1 0), .int f, .int w] M (pI (A_of n kd V f w) M) := by
  refine Cm.of (by decide) (Nat.le_of_ble_eq_true rfl) (fun K k kt => ?_)
  show G l E K 0 [(0, .ref (E.2.2.1 0)), (1, .int f), (2, .int w)] [] M
  obtain ⟨hn0, hn1, hn6⟩ := id hn
  have hp := p2_le6 hn6
  have hp2 := p2_ge2 hn1
  refine gs_iload_n (q := 1) k rfl rfl dX6_of_0 ?_
  refine gs_callS (As := [.int f]) k c_X6_isFunction cf_X6_isFunction sm_X6_isFunction ml_X6_101 (by decide) rfl rfl (Nat.le_of_ble_eq_true rfl) dX6_of_1 (ppB (fun c1 => ?_) (fun c1 => ?_))
  · have bc1 := inR_lt c1
    refine gs_if_eq (tgt := 16) k (by decide) dX6_of_4 (fun h => absurd h (by decide)) (fun _ => ?_)
    refine gs_iload_n (q := 2) k rfl rfl dX6_of_7 ?_
    refine gs_if_lt (tgt := 16) k (by decide) dX6_of_8 (fun c2 => ?_) (fun c2 => ?_)
    · have ec2 : ¬ inR w 5 := inR_n1 c2
      refine gs_iconst (v := -1) k (by decide) dX6_of_16 ?_
      exact gs_iret k kt dX6_of_17 ⟨(by simp [-Int32.not_lt, A_of, b2i, ifc_T, ifc_F, c1, c2, ec2]), rfl⟩
    · refine gs_iload_n (q := 2) k rfl rfl dX6_of_11 ?_
      refine gs_iconst (v := 4) k (by decide) dX6_of_12 ?_
      refine gs_icmp_le (tgt := 18) k (by decide) dX6_of_13 (fun c3 => ?_) (fun c3 => ?_)
      · have ec3 : inR w 5 := inR_of' rfl (by decide) (by decide) c2 (Int32.not_lt.mpr c3)
        have fc3 := inR_lt ec3
        refine gs_aload_n (q := 0) k rfl rfl dX6_of_18 ?_
        refine gs_get (C := RX6) (T := TX6) (N := 10) (ci := 6) (k0 := 0) (j := 0) k (hI 0 (by omega)) rfl rfl inX6 (by decide) fl_X6_12 rfl rfl dX6_of_19 ?_
        refine gs_get (C := RX5) (T := TX5) (N := 9) (ci := 5) (k0 := 1) (j := 7) k (hI 1 (by omega)) rfl rfl inX5 (by decide) fl_X6_107 rfl rfl dX6_of_22 ?_
        refine gs_iload_n (q := 1) k rfl rfl dX6_of_25 ?_
        refine gs_aaldSN (k0 := 8) (n := 6) (e := tn f) (a := E.2.2.1 (10 + 2 * (tn f))) k (hI 8 (by omega)) (fun _ => rfl) (inR_eq c1) (by omega) (by decide) rfl dX6_of_26 ?_
        refine gs_astore_n (lv' := [(3, .ref (E.2.2.1 (10 + 2 * (tn f)))), (0, .ref (E.2.2.1 0)), (1, .int f), (2, .int w)]) k rfl (by decide) rfl dX6_of_27 ?_
        refine gs_aload_n (q := 0) k rfl rfl dX6_of_28 ?_
        refine gs_callV (As := []) (k0 := (10 + 2 * (tn f))) (ci := 3) (T := TX3) (N := 2) k (c_X3_isMissing hI hF (by omega)) cf_X3_isMissing im_X3_isMissing sl_X3_isMissing ml_X6_127 (hI (10 + 2 * (tn f)) (by omega)) (ent_F1 (by omega) _) rfl (by decide) rfl rfl (Nat.le_of_ble_eq_true rfl) dX6_of_29 (ppB (fun c4 => ?_) (fun c4 => ?_))
        · refine gs_if_eq (tgt := 38) k (by decide) dX6_of_32 (fun h => absurd h (by decide)) (fun _ => ?_)
          refine gs_bipush (v := -11) k (by decide) dX6_of_35 ?_
          exact gs_iret k kt dX6_of_37 ⟨(by simp [-Int32.not_lt, A_of, b2i, ifc_T, ifc_F, c1, c2, c3, ec3, c4]), rfl⟩
        · refine gs_if_eq (tgt := 38) k (by decide) dX6_of_32 (fun _ => ?_) (fun h => absurd h (by decide))
          refine gs_iload_n (q := 3) k rfl rfl dX6_of_38 ?_
          rcases inR5 ec3 with rfl | rfl | rfl | rfl | rfl
          · refine gs_tableIn (off := 29) (tgt := 68) k (by decide) (by decide) (by decide) (by decide) dX6_of_39 ?_
            refine gs_aload_n (q := 0) k rfl rfl dX6_of_68 ?_
            refine gs_get (C := RX3) (T := TX3) (N := 2) (ci := 3) (k0 := (10 + 2 * (tn f))) (j := 0) k (hI (10 + 2 * (tn f)) (by omega)) (ent_F1 (by omega) _) rfl inX3 (by decide) fl_X6_116 rfl rfl dX6_of_69 ?_
            refine gs_top (y := kd (tn f)) ((hF (tn f) (by omega)).1) ?_
            exact gs_iret k kt dX6_of_72 ⟨(by simp [-Int32.not_lt, A_of, b2i, ifc_T, ifc_F, c1, c2, c3, ec3, c4]), rfl⟩
          · refine gs_tableIn (off := 34) (tgt := 73) k (by decide) (by decide) (by decide) (by decide) dX6_of_39 ?_
            refine gs_aload_n (q := 0) k rfl rfl dX6_of_73 ?_
            refine gs_aload_n (q := 1) k rfl rfl dX6_of_74 ?_
            refine gs_get (C := RX6) (T := TX6) (N := 10) (ci := 6) (k0 := 0) (j := 0) k (hI 0 (by omega)) rfl rfl inX6 (by decide) fl_X6_12 rfl rfl dX6_of_75 ?_
            refine gs_get (C := RX5) (T := TX5) (N := 9) (ci := 5) (k0 := 1) (j := 0) k (hI 1 (by omega)) rfl rfl inX5 (by decide) fl_X6_63 rfl rfl dX6_of_78 ?_
            refine gs_callV (As := [.int (M 1 0)]) (k0 := (10 + 2 * (tn f))) (ci := 3) (T := TX3) (N := 2) k (c_X3_firstFailure hI hF (by omega) hn1 hn6 hn0) cf_X3_firstFailure im_X3_firstFailure sl_X3_firstFailure ml_X6_160 (hI (10 + 2 * (tn f)) (by omega)) (ent_F1 (by omega) _) rfl (by decide) rfl rfl (Nat.le_of_ble_eq_true rfl) dX6_of_81 (ppI ?_)
            rcases hR : bad0 (V (tn f)) n with _ | ⟨s, i, j⟩
            · show G l E K 84 [(3, .ref (E.2.2.1 (10 + 2 * (tn f)))), (0, .ref (E.2.2.1 0)), (1, .int f), (2, .int 1)] [.int (-5)] M
              refine gs_bipush (v := -5) k (by decide) dX6_of_84 ?_
              refine gs_icmp_ne (tgt := 93) k (by decide) dX6_of_86 (fun h => absurd h (by decide)) (fun _ => ?_)
              refine gs_iconst (v := 1) k (by decide) dX6_of_89 ?_
              refine gs_goto (tgt := 94) k (by decide) dX6_of_90 ?_
              refine gs_callS (As := [.int 1]) k c_X6_oneIf_1 cf_X6_oneIf sm_X6_oneIf ml_X6_163 (by decide) rfl rfl (Nat.le_of_ble_eq_true rfl) dX6_of_94 (ppI ?_)
              exact gs_iret k kt dX6_of_97 ⟨(by simp [-Int32.not_lt, A_of, b2i, ifc_T, ifc_F, c1, c2, c3, ec3, c4, hR]), rfl⟩
            · have hl := bad0_lt hR
              have hv := ffC_ne s (by omega) i (by omega) j (by omega)
              show G l E K 84 [(3, .ref (E.2.2.1 (10 + 2 * (tn f)))), (0, .ref (E.2.2.1 0)), (1, .int f), (2, .int 1)] [.int (ffC (some (s, i, j)))] M
              refine gs_bipush (v := -5) k (by decide) dX6_of_84 ?_
              refine gs_icmp_ne (tgt := 93) k (by decide) dX6_of_86 (fun c5 => ?_) (fun c5 => absurd c5 hv.1)
              refine gs_iconst (v := 0) k (by decide) dX6_of_93 ?_
              refine gs_callS (As := [.int 0]) k c_X6_oneIf_0 cf_X6_oneIf sm_X6_oneIf ml_X6_163 (by decide) rfl rfl (Nat.le_of_ble_eq_true rfl) dX6_of_94 (ppI ?_)
              exact gs_iret k kt dX6_of_97 ⟨(by simp [-Int32.not_lt, A_of, b2i, ifc_T, ifc_F, c1, c2, c3, ec3, c4, hR]), rfl⟩
          · refine gs_tableIn (off := 59) (tgt := 98) k (by decide) (by decide) (by decide) (by decide) dX6_of_39 ?_
            refine gs_aload_n (q := 0) k rfl rfl dX6_of_98 ?_
            refine gs_aload_n (q := 1) k rfl rfl dX6_of_99 ?_
            refine gs_get (C := RX6) (T := TX6) (N := 10) (ci := 6) (k0 := 0) (j := 0) k (hI 0 (by omega)) rfl rfl inX6 (by decide) fl_X6_12 rfl rfl dX6_of_100 ?_
            refine gs_get (C := RX5) (T := TX5) (N := 9) (ci := 5) (k0 := 1) (j := 0) k (hI 1 (by omega)) rfl rfl inX5 (by decide) fl_X6_63 rfl rfl dX6_of_103 ?_
            refine gs_callV (As := [.int (M 1 0)]) (k0 := (10 + 2 * (tn f))) (ci := 3) (T := TX3) (N := 2) k (c_X3_isIncreasing hI hF (by omega) hn1 hn6 hn0) cf_X3_isIncreasing im_X3_isIncreasing sl_X3_isIncreasing ml_X6_167 (hI (10 + 2 * (tn f)) (by omega)) (ent_F1 (by omega) _) rfl (by decide) rfl rfl (Nat.le_of_ble_eq_true rfl) dX6_of_106 (ppB (fun c6 => ?_) (fun c6 => ?_))
            · have ic6 : incR (V (tn f)) n := (inc_iff hn6).mp c6
              refine gs_callS (As := [.int 1]) k c_X6_oneIf_1 cf_X6_oneIf sm_X6_oneIf ml_X6_163 (by decide) rfl rfl (Nat.le_of_ble_eq_true rfl) dX6_of_109 (ppI ?_)
              exact gs_iret k kt dX6_of_112 ⟨(by simp [-Int32.not_lt, A_of, b2i, ifc_T, ifc_F, c1, c2, c3, ec3, c4, c6, ic6]), rfl⟩
            · have ic6 : ¬ incR (V (tn f)) n := fun z => c6 ((inc_iff hn6).mpr z)
              refine gs_callS (As := [.int 0]) k c_X6_oneIf_0 cf_X6_oneIf sm_X6_oneIf ml_X6_163 (by decide) rfl rfl (Nat.le_of_ble_eq_true rfl) dX6_of_109 (ppI ?_)
              exact gs_iret k kt dX6_of_112 ⟨(by simp [-Int32.not_lt, A_of, b2i, ifc_T, ifc_F, c1, c2, c3, ec3, c4, c6, ic6]), rfl⟩
          · refine gs_tableIn (off := 74) (tgt := 113) k (by decide) (by decide) (by decide) (by decide) dX6_of_39 ?_
            refine gs_aload_n (q := 0) k rfl rfl dX6_of_113 ?_
            refine gs_aload_n (q := 1) k rfl rfl dX6_of_114 ?_
            refine gs_get (C := RX6) (T := TX6) (N := 10) (ci := 6) (k0 := 0) (j := 0) k (hI 0 (by omega)) rfl rfl inX6 (by decide) fl_X6_12 rfl rfl dX6_of_115 ?_
            refine gs_get (C := RX5) (T := TX5) (N := 9) (ci := 5) (k0 := 1) (j := 0) k (hI 1 (by omega)) rfl rfl inX5 (by decide) fl_X6_63 rfl rfl dX6_of_118 ?_
            refine gs_callV (As := [.int (M 1 0)]) (k0 := (10 + 2 * (tn f))) (ci := 3) (T := TX3) (N := 2) k (c_X3_isSymmetric hI hF (by omega) hn1 hn6 hn0) cf_X3_isSymmetric im_X3_isSymmetric sl_X3_isSymmetric ml_X6_170 (hI (10 + 2 * (tn f)) (by omega)) (ent_F1 (by omega) _) rfl (by decide) rfl rfl (Nat.le_of_ble_eq_true rfl) dX6_of_121 (ppB (fun c7 => ?_) (fun c7 => ?_))
            · have ic7 : symP (V (tn f)) n := c7
              refine gs_callS (As := [.int 1]) k c_X6_oneIf_1 cf_X6_oneIf sm_X6_oneIf ml_X6_163 (by decide) rfl rfl (Nat.le_of_ble_eq_true rfl) dX6_of_124 (ppI ?_)
              exact gs_iret k kt dX6_of_127 ⟨(by simp [-Int32.not_lt, A_of, b2i, ifc_T, ifc_F, c1, c2, c3, ec3, c4, c7, ic7]), rfl⟩
            · have ic7 : ¬ symP (V (tn f)) n := c7
              refine gs_callS (As := [.int 0]) k c_X6_oneIf_0 cf_X6_oneIf sm_X6_oneIf ml_X6_163 (by decide) rfl rfl (Nat.le_of_ble_eq_true rfl) dX6_of_124 (ppI ?_)
              exact gs_iret k kt dX6_of_127 ⟨(by simp [-Int32.not_lt, A_of, b2i, ifc_T, ifc_F, c1, c2, c3, ec3, c4, c7, ic7]), rfl⟩
          · refine gs_tableOut (tgt := 128) k (by decide) (by decide) dX6_of_39 ?_
            refine gs_aload_n (q := 0) k rfl rfl dX6_of_128 ?_
            refine gs_aload_n (q := 1) k rfl rfl dX6_of_129 ?_
            refine gs_get (C := RX6) (T := TX6) (N := 10) (ci := 6) (k0 := 0) (j := 0) k (hI 0 (by omega)) rfl rfl inX6 (by decide) fl_X6_12 rfl rfl dX6_of_130 ?_
            refine gs_get (C := RX5) (T := TX5) (N := 9) (ci := 5) (k0 := 1) (j := 0) k (hI 1 (by omega)) rfl rfl inX5 (by decide) fl_X6_63 rfl rfl dX6_of_133 ?_
            refine gs_callV (As := [.int (M 1 0)]) (k0 := (10 + 2 * (tn f))) (ci := 3) (T := TX3) (N := 2) k (c_X3_isModular hI hF (by omega) hn1 hn6 hn0) cf_X3_isModular im_X3_isModular sl_X3_isModular ml_X6_173 (hI (10 + 2 * (tn f)) (by omega)) (ent_F1 (by omega) _) rfl (by decide) rfl rfl (Nat.le_of_ble_eq_true rfl) dX6_of_136 (ppB (fun c8 => ?_) (fun c8 => ?_))
            · have ic8 : modP (V (tn f)) n := c8
              refine gs_callS (As := [.int 1]) k c_X6_oneIf_1 cf_X6_oneIf sm_X6_oneIf ml_X6_163 (by decide) rfl rfl (Nat.le_of_ble_eq_true rfl) dX6_of_139 (ppI ?_)
              exact gs_iret k kt dX6_of_142 ⟨(by simp [-Int32.not_lt, A_of, b2i, ifc_T, ifc_F, c1, c2, c3, ec3, c4, c8, ic8]), rfl⟩
            · have ic8 : ¬ modP (V (tn f)) n := c8
              refine gs_callS (As := [.int 0]) k c_X6_oneIf_0 cf_X6_oneIf sm_X6_oneIf ml_X6_163 (by decide) rfl rfl (Nat.le_of_ble_eq_true rfl) dX6_of_139 (ppI ?_)
              exact gs_iret k kt dX6_of_142 ⟨(by simp [-Int32.not_lt, A_of, b2i, ifc_T, ifc_F, c1, c2, c3, ec3, c4, c8, ic8]), rfl⟩
      · have ec3 : ¬ inR w 5 := inR_n2' rfl (by decide) (by decide) (Int32.not_le.mp c3)
        refine gs_iconst (v := -1) k (by decide) dX6_of_16 ?_
        exact gs_iret k kt dX6_of_17 ⟨(by simp [-Int32.not_lt, A_of, b2i, ifc_T, ifc_F, c1, c2, c3, ec3]), rfl⟩
  · refine gs_if_eq (tgt := 16) k (by decide) dX6_of_4 (fun _ => ?_) (fun h => absurd h (by decide))
    refine gs_iconst (v := -1) k (by decide) dX6_of_16 ?_
    exact gs_iret k kt dX6_of_17 ⟨(by simp [-Int32.not_lt, A_of, b2i, ifc_T, ifc_F, c1]), rfl⟩

theorem cf_X7_of : CF yX7_of cX7_of 3 (some .int) 2 := ⟨cd_X7_of, iz_X7, by decide, by decide +kernel, by decide +kernel, by decide +kernel⟩
set_option maxRecDepth 100000 in
set_option maxHeartbeats 4000000 in
theorem c_X7_of {l : Launch} {E : Ev} {M : Mm} {n : Nat} {kd : Nat → Int32} {V : Nat → Nat → Int32} (hI : ∀ k, k < 108 → k ∈ E.2.1) (hn : Rn M n) (hF : RFn M n kd V) {f w : Int32} : Cm l E yX7_of cX7_of 3 (some .int) 3 [.ref (E.2.2.1 65), .int f, .int w] M (pI (A_of n kd V f w) M) := by
  refine Cm.of (by decide) (Nat.le_of_ble_eq_true rfl) (fun K k kt => ?_)
  show G l E K 0 [(0, .ref (E.2.2.1 65)), (1, .int f), (2, .int w)] [] M
  obtain ⟨hn0, hn1, hn6⟩ := id hn
  have hp := p2_le6 hn6
  have hp2 := p2_ge2 hn1
  refine gs_iload_n (q := 1) k rfl rfl dX7_of_0 ?_
  refine gs_callS (As := [.int f]) k c_X7_isFunction cf_X7_isFunction sm_X7_isFunction ml_X7_128 (by decide) rfl rfl (Nat.le_of_ble_eq_true rfl) dX7_of_1 (ppB (fun c1 => ?_) (fun c1 => ?_))
  · have bc1 := inR_lt c1
    refine gs_if_eq (tgt := 19) k (by decide) dX7_of_4 (fun h => absurd h (by decide)) (fun _ => ?_)
    refine gs_iload_n (q := 2) k rfl rfl dX7_of_7 ?_
    refine gs_i2l k dX7_of_8 ?_
    refine gs_lconst (v := 0) k (by decide) dX7_of_9 ?_
    refine gs_ldc2 (v := 4) k cl_X7_176 dX7_of_10 ?_
    refine gs_callS (As := [.long (w.toInt64), .long (0), .long (4)]) k (Cm.iff (inL (n := 5) (by decide) (by decide)) c_X7_in) cf_X7_in sm_X7_in ml_X7_79 (by decide) rfl rfl (Nat.le_of_ble_eq_true rfl) dX7_of_13 (ppB (fun c2 => ?_) (fun c2 => ?_))
    · have bc2 := inR_lt c2
      refine gs_if_ne (tgt := 21) k (by decide) dX7_of_16 (fun _ => ?_) (fun h => absurd h (by decide))
      refine gs_aload_n (q := 0) k rfl rfl dX7_of_21 ?_
      refine gs_iload_n (q := 1) k rfl rfl dX7_of_22 ?_
      refine gs_callV (As := [.int f]) (k0 := 65) (ci := 7) (T := TX7) (N := 27) k (c_X7_isThere hI hF) cf_X7_isThere im_X7_isThere sl_X7_isThere ml_X7_163 (hI 65 (by omega)) rfl rfl (by decide) rfl rfl (Nat.le_of_ble_eq_true rfl) dX7_of_23 (ppB (fun c3 => ?_) (fun c3 => ?_))
      · have bc3 := inR_lt c3.1
        have tc3 := c3.2
        refine gs_if_ne (tgt := 32) k (by decide) dX7_of_26 (fun _ => ?_) (fun h => absurd h (by decide))
        refine gs_iload_n (q := 2) k rfl rfl dX7_of_32 ?_
        rcases inR5 c2 with rfl | rfl | rfl | rfl | rfl
        · refine gs_tableIn (off := 31) (tgt := 64) k (by decide) (by decide) (by decide) (by decide) dX7_of_33 ?_
          refine gs_aload_n (q := 0) k rfl rfl dX7_of_64 ?_
          refine gs_get (C := RX7) (T := TX7) (N := 27) (ci := 7) (k0 := 65) (j := 7) k (hI 65 (by omega)) rfl rfl inX7 (by decide) fl_X7_34 rfl rfl dX7_of_65 ?_
          refine gs_iload_n (q := 1) k rfl rfl dX7_of_68 ?_
          refine gs_ialdN (k0 := 72) (n := 6) (e := tn f) k (hI 72 (by omega)) (fun _ => rfl) (inR_eq c1) (by omega) (by decide) dX7_of_69 ?_
          refine gs_top (y := kd (tn f)) ((hF (tn f) (by omega)).1) ?_
          exact gs_iret k kt dX7_of_70 ⟨(by simp [-Int32.not_lt, A_of, b2i, ifc_T, ifc_F, c1, c2, c3, tc3]), rfl⟩
        · refine gs_tableIn (off := 38) (tgt := 71) k (by decide) (by decide) (by decide) (by decide) dX7_of_33 ?_
          refine gs_aload_n (q := 0) k rfl rfl dX7_of_71 ?_
          refine gs_iload_n (q := 1) k rfl rfl dX7_of_72 ?_
          refine gs_callV (As := [.int f]) (k0 := 65) (ci := 7) (T := TX7) (N := 27) k (c_X7_failing (f := tn f) hI hn hF (inR_eq c1) (by omega) (by assumption)) cf_X7_failing im_X7_failing sl_X7_failing ml_X7_178 (hI 65 (by omega)) rfl rfl (by decide) rfl rfl (Nat.le_of_ble_eq_true rfl) dX7_of_73 (ppI ?_)
          rcases hR : bad0 (V (tn f)) n with _ | ⟨s, i, j⟩
          · show G l E K 76 [(0, .ref (E.2.2.1 65)), (1, .int f), (2, .int 1)] [.int (-5)] M
            refine gs_if_ge (tgt := 83) k (by decide) dX7_of_76 (fun h => absurd h (by decide)) (fun _ => ?_)
            refine gs_iconst (v := 1) k (by decide) dX7_of_79 ?_
            refine gs_goto (tgt := 84) k (by decide) dX7_of_80 ?_
            refine gs_callS (As := [.int 1]) k c_X7_bit_1 cf_X7_bit sm_X7_bit ml_X7_181 (by decide) rfl rfl (Nat.le_of_ble_eq_true rfl) dX7_of_84 (ppI ?_)
            exact gs_iret k kt dX7_of_87 ⟨(by simp [-Int32.not_lt, A_of, b2i, ifc_T, ifc_F, c1, c2, c3, tc3, hR]), rfl⟩
          · have hl := bad0_lt hR
            show G l E K 76 [(0, .ref (E.2.2.1 65)), (1, .int f), (2, .int 1)] [.int (nI (100 * s + 10 * i + j))] M
            refine gs_if_ge (tgt := 83) k (by decide) dX7_of_76 (fun _ => ?_) (fun h => absurd (nnge rfl (by omega)) h)
            refine gs_iconst (v := 0) k (by decide) dX7_of_83 ?_
            refine gs_callS (As := [.int 0]) k c_X7_bit_0 cf_X7_bit sm_X7_bit ml_X7_181 (by decide) rfl rfl (Nat.le_of_ble_eq_true rfl) dX7_of_84 (ppI ?_)
            exact gs_iret k kt dX7_of_87 ⟨(by simp [-Int32.not_lt, A_of, b2i, ifc_T, ifc_F, c1, c2, c3, tc3, hR]), rfl⟩
        · refine gs_tableIn (off := 55) (tgt := 88) k (by decide) (by decide) (by decide) (by decide) dX7_of_33 ?_
          refine gs_aload_n (q := 0) k rfl rfl dX7_of_88 ?_
          refine gs_iload_n (q := 1) k rfl rfl dX7_of_89 ?_
          refine gs_callV (As := [.int f]) (k0 := 65) (ci := 7) (T := TX7) (N := 27) k (c_X7_isRising (f := tn f) hI hn hF (inR_eq c1) (by omega) (by assumption)) cf_X7_isRising im_X7_isRising sl_X7_isRising ml_X7_185 (hI 65 (by omega)) rfl rfl (by decide) rfl rfl (Nat.le_of_ble_eq_true rfl) dX7_of_90 (ppB (fun c4 => ?_) (fun c4 => ?_))
          · have ic4 : incR (V (tn f)) n := c4
            refine gs_callS (As := [.int 1]) k c_X7_bit_1 cf_X7_bit sm_X7_bit ml_X7_181 (by decide) rfl rfl (Nat.le_of_ble_eq_true rfl) dX7_of_93 (ppI ?_)
            exact gs_iret k kt dX7_of_96 ⟨(by simp [-Int32.not_lt, A_of, b2i, ifc_T, ifc_F, c1, c2, c3, tc3, c4, ic4]), rfl⟩
          · have ic4 : ¬ incR (V (tn f)) n := c4
            refine gs_callS (As := [.int 0]) k c_X7_bit_0 cf_X7_bit sm_X7_bit ml_X7_181 (by decide) rfl rfl (Nat.le_of_ble_eq_true rfl) dX7_of_93 (ppI ?_)
            exact gs_iret k kt dX7_of_96 ⟨(by simp [-Int32.not_lt, A_of, b2i, ifc_T, ifc_F, c1, c2, c3, tc3, c4, ic4]), rfl⟩
        · refine gs_tableIn (off := 64) (tgt := 97) k (by decide) (by decide) (by decide) (by decide) dX7_of_33 ?_
          refine gs_aload_n (q := 0) k rfl rfl dX7_of_97 ?_
          refine gs_iload_n (q := 1) k rfl rfl dX7_of_98 ?_
          refine gs_callV (As := [.int f]) (k0 := 65) (ci := 7) (T := TX7) (N := 27) k (c_X7_isEven (f := tn f) hI hn hF (inR_eq c1) (by omega) (by assumption)) cf_X7_isEven im_X7_isEven sl_X7_isEven ml_X7_188 (hI 65 (by omega)) rfl rfl (by decide) rfl rfl (Nat.le_of_ble_eq_true rfl) dX7_of_99 (ppB (fun c5 => ?_) (fun c5 => ?_))
          · have ic5 : symP (V (tn f)) n := c5
            refine gs_callS (As := [.int 1]) k c_X7_bit_1 cf_X7_bit sm_X7_bit ml_X7_181 (by decide) rfl rfl (Nat.le_of_ble_eq_true rfl) dX7_of_102 (ppI ?_)
            exact gs_iret k kt dX7_of_105 ⟨(by simp [-Int32.not_lt, A_of, b2i, ifc_T, ifc_F, c1, c2, c3, tc3, c5, ic5]), rfl⟩
          · have ic5 : ¬ symP (V (tn f)) n := c5
            refine gs_callS (As := [.int 0]) k c_X7_bit_0 cf_X7_bit sm_X7_bit ml_X7_181 (by decide) rfl rfl (Nat.le_of_ble_eq_true rfl) dX7_of_102 (ppI ?_)
            exact gs_iret k kt dX7_of_105 ⟨(by simp [-Int32.not_lt, A_of, b2i, ifc_T, ifc_F, c1, c2, c3, tc3, c5, ic5]), rfl⟩
        · refine gs_tableOut (tgt := 106) k (by decide) (by decide) dX7_of_33 ?_
          refine gs_aload_n (q := 0) k rfl rfl dX7_of_106 ?_
          refine gs_iload_n (q := 1) k rfl rfl dX7_of_107 ?_
          refine gs_callV (As := [.int f]) (k0 := 65) (ci := 7) (T := TX7) (N := 27) k (c_X7_isPlain (f := tn f) hI hn hF (inR_eq c1) (by omega) (by assumption)) cf_X7_isPlain im_X7_isPlain sl_X7_isPlain ml_X7_191 (hI 65 (by omega)) rfl rfl (by decide) rfl rfl (Nat.le_of_ble_eq_true rfl) dX7_of_108 (ppB (fun c6 => ?_) (fun c6 => ?_))
          · have ic6 : modP (V (tn f)) n := c6
            refine gs_callS (As := [.int 1]) k c_X7_bit_1 cf_X7_bit sm_X7_bit ml_X7_181 (by decide) rfl rfl (Nat.le_of_ble_eq_true rfl) dX7_of_111 (ppI ?_)
            exact gs_iret k kt dX7_of_114 ⟨(by simp [-Int32.not_lt, A_of, b2i, ifc_T, ifc_F, c1, c2, c3, tc3, c6, ic6]), rfl⟩
          · have ic6 : ¬ modP (V (tn f)) n := c6
            refine gs_callS (As := [.int 0]) k c_X7_bit_0 cf_X7_bit sm_X7_bit ml_X7_181 (by decide) rfl rfl (Nat.le_of_ble_eq_true rfl) dX7_of_111 (ppI ?_)
            exact gs_iret k kt dX7_of_114 ⟨(by simp [-Int32.not_lt, A_of, b2i, ifc_T, ifc_F, c1, c2, c3, tc3, c6, ic6]), rfl⟩
      · have qc3 : kd (tn f) < 0 := Classical.byContradiction (fun k => c3 ⟨by assumption, k⟩)
        refine gs_if_ne (tgt := 32) k (by decide) dX7_of_26 (fun h => absurd h (by decide)) (fun _ => ?_)
        refine gs_bipush (v := -11) k (by decide) dX7_of_29 ?_
        exact gs_iret k kt dX7_of_31 ⟨(by simp [-Int32.not_lt, A_of, b2i, ifc_T, ifc_F, c1, c2, c3, qc3]), rfl⟩
    · refine gs_if_ne (tgt := 21) k (by decide) dX7_of_16 (fun h => absurd h (by decide)) (fun _ => ?_)
      refine gs_iconst (v := -1) k (by decide) dX7_of_19 ?_
      exact gs_iret k kt dX7_of_20 ⟨(by simp [-Int32.not_lt, A_of, b2i, ifc_T, ifc_F, c1, c2]), rfl⟩
  · refine gs_if_eq (tgt := 19) k (by decide) dX7_of_4 (fun _ => ?_) (fun h => absurd h (by decide))
    refine gs_iconst (v := -1) k (by decide) dX7_of_19 ?_
    exact gs_iret k kt dX7_of_20 ⟨(by simp [-Int32.not_lt, A_of, b2i, ifc_T, ifc_F, c1]), rfl⟩

theorem cf_X3_setOfFailure : CF yX3_setOfFailure cX3_setOfFailure 1 (some .int) 1 := ⟨cd_X3_setOfFailure, iz_X3, by decide, by decide +kernel, by decide +kernel, by decide +kernel⟩
set_option maxRecDepth 100000 in
set_option maxHeartbeats 4000000 in
theorem c_X3_setOfFailure {l : Launch} {E : Ev} {M : Mm} {x : Int32} : Cm l E yX3_setOfFailure cX3_setOfFailure 1 (some .int) 0 [.int x] M (pI (x &&& 255) M) := by
  refine Cm.of (by decide) (Nat.le_of_ble_eq_true rfl) (fun K k kt => ?_)
  show G l E K 0 [(0, .int x)] [] M
  refine gs_iload_n (q := 0) k rfl rfl dX3_setOfFailure_0 ?_
  refine gs_sipush (v := 255) k (by decide) dX3_setOfFailure_1 ?_
  refine gs_iand k dX3_setOfFailure_4 ?_
  exact gs_iret k kt dX3_setOfFailure_5 ⟨rfl, rfl⟩

theorem cf_X3_firstPointOfFailure : CF yX3_firstPointOfFailure cX3_firstPointOfFailure 1 (some .int) 1 := ⟨cd_X3_firstPointOfFailure, iz_X3, by decide, by decide +kernel, by decide +kernel, by decide +kernel⟩
set_option maxRecDepth 100000 in
set_option maxHeartbeats 4000000 in
theorem c_X3_firstPointOfFailure {l : Launch} {E : Ev} {M : Mm} {x : Int32} : Cm l E yX3_firstPointOfFailure cX3_firstPointOfFailure 1 (some .int) 0 [.int x] M (pI ((x >>> ((8 : Int32) &&& 31)) &&& 255) M) := by
  refine Cm.of (by decide) (Nat.le_of_ble_eq_true rfl) (fun K k kt => ?_)
  show G l E K 0 [(0, .int x)] [] M
  refine gs_iload_n (q := 0) k rfl rfl dX3_firstPointOfFailure_0 ?_
  refine gs_bipush (v := 8) k (by decide) dX3_firstPointOfFailure_1 ?_
  refine gs_ishr k dX3_firstPointOfFailure_3 ?_
  refine gs_sipush (v := 255) k (by decide) dX3_firstPointOfFailure_4 ?_
  refine gs_iand k dX3_firstPointOfFailure_7 ?_
  exact gs_iret k kt dX3_firstPointOfFailure_8 ⟨rfl, rfl⟩

theorem cf_X3_secondPointOfFailure : CF yX3_secondPointOfFailure cX3_secondPointOfFailure 1 (some .int) 1 := ⟨cd_X3_secondPointOfFailure, iz_X3, by decide, by decide +kernel, by decide +kernel, by decide +kernel⟩
set_option maxRecDepth 100000 in
set_option maxHeartbeats 4000000 in
theorem c_X3_secondPointOfFailure {l : Launch} {E : Ev} {M : Mm} {x : Int32} : Cm l E yX3_secondPointOfFailure cX3_secondPointOfFailure 1 (some .int) 0 [.int x] M (pI ((x >>> ((16 : Int32) &&& 31)) &&& 255) M) := by
  refine Cm.of (by decide) (Nat.le_of_ble_eq_true rfl) (fun K k kt => ?_)
  show G l E K 0 [(0, .int x)] [] M
  refine gs_iload_n (q := 0) k rfl rfl dX3_secondPointOfFailure_0 ?_
  refine gs_bipush (v := 16) k (by decide) dX3_secondPointOfFailure_1 ?_
  refine gs_ishr k dX3_secondPointOfFailure_3 ?_
  refine gs_sipush (v := 255) k (by decide) dX3_secondPointOfFailure_4 ?_
  refine gs_iand k dX3_secondPointOfFailure_7 ?_
  exact gs_iret k kt dX3_secondPointOfFailure_8 ⟨rfl, rfl⟩

theorem cf_X6_fails : CF yX6_fails cX6_fails 4 (some .int) 2 := ⟨cd_X6_fails, iz_X6, by decide, by decide +kernel, by decide +kernel, by decide +kernel⟩
set_option maxRecDepth 100000 in
set_option maxHeartbeats 4000000 in
theorem c_X6_fails {l : Launch} {E : Ev} {M : Mm} {n : Nat} {kd : Nat → Int32} {V : Nat → Nat → Int32} (hI : ∀ k, k < 108 → k ∈ E.2.1) (hn : Cn M n) (hF : CFn M n kd V) {f w : Int32} : Cm l E yX6_fails cX6_fails 4 (some .int) 3 [.ref (E.2.2.1 0), .int f, .int w] M (pI (A_fails n kd V f w) M) := by
  refine Cm.of (by decide) (Nat.le_of_ble_eq_true rfl) (fun K k kt => ?_)
  show G l E K 0 [(0, .ref (E.2.2.1 0)), (1, .int f), (2, .int w)] [] M
  obtain ⟨hn0, hn1, hn6⟩ := id hn
  have hp := p2_le6 hn6
  have hp2 := p2_ge2 hn1
  refine gs_iload_n (q := 1) k rfl rfl dX6_fails_0 ?_
  refine gs_callS (As := [.int f]) k c_X6_isFunction cf_X6_isFunction sm_X6_isFunction ml_X6_101 (by decide) rfl rfl (Nat.le_of_ble_eq_true rfl) dX6_fails_1 (ppB (fun c1 => ?_) (fun c1 => ?_))
  · have bc1 := inR_lt c1
    refine gs_if_eq (tgt := 16) k (by decide) dX6_fails_4 (fun h => absurd h (by decide)) (fun _ => ?_)
    refine gs_iload_n (q := 2) k rfl rfl dX6_fails_7 ?_
    refine gs_if_lt (tgt := 16) k (by decide) dX6_fails_8 (fun c2 => ?_) (fun c2 => ?_)
    · have ec2 : ¬ inR w 3 := inR_n1 c2
      refine gs_iconst (v := -1) k (by decide) dX6_fails_16 ?_
      exact gs_iret k kt dX6_fails_17 ⟨(by simp [-Int32.not_lt, A_fails, prt, ifc_T, ifc_F, c1, c2, ec2]), rfl⟩
    · refine gs_iload_n (q := 2) k rfl rfl dX6_fails_11 ?_
      refine gs_iconst (v := 2) k (by decide) dX6_fails_12 ?_
      refine gs_icmp_le (tgt := 18) k (by decide) dX6_fails_13 (fun c3 => ?_) (fun c3 => ?_)
      · have ec3 : inR w 3 := inR_of' rfl (by decide) (by decide) c2 (Int32.not_lt.mpr c3)
        have fc3 := inR_lt ec3
        refine gs_aload_n (q := 0) k rfl rfl dX6_fails_18 ?_
        refine gs_get (C := RX6) (T := TX6) (N := 10) (ci := 6) (k0 := 0) (j := 0) k (hI 0 (by omega)) rfl rfl inX6 (by decide) fl_X6_12 rfl rfl dX6_fails_19 ?_
        refine gs_get (C := RX5) (T := TX5) (N := 9) (ci := 5) (k0 := 1) (j := 7) k (hI 1 (by omega)) rfl rfl inX5 (by decide) fl_X6_107 rfl rfl dX6_fails_22 ?_
        refine gs_iload_n (q := 1) k rfl rfl dX6_fails_25 ?_
        refine gs_aaldSN (k0 := 8) (n := 6) (e := tn f) (a := E.2.2.1 (10 + 2 * (tn f))) k (hI 8 (by omega)) (fun _ => rfl) (inR_eq c1) (by omega) (by decide) rfl dX6_fails_26 ?_
        refine gs_callV (As := []) (k0 := (10 + 2 * (tn f))) (ci := 3) (T := TX3) (N := 2) k (c_X3_isMissing hI hF (by omega)) cf_X3_isMissing im_X3_isMissing sl_X3_isMissing ml_X6_127 (hI (10 + 2 * (tn f)) (by omega)) (ent_F1 (by omega) _) rfl (by decide) rfl rfl (Nat.le_of_ble_eq_true rfl) dX6_fails_27 (ppB (fun c4 => ?_) (fun c4 => ?_))
        · refine gs_if_eq (tgt := 36) k (by decide) dX6_fails_30 (fun h => absurd h (by decide)) (fun _ => ?_)
          refine gs_bipush (v := -11) k (by decide) dX6_fails_33 ?_
          exact gs_iret k kt dX6_fails_35 ⟨(by simp [-Int32.not_lt, A_fails, prt, ifc_T, ifc_F, c1, c2, c3, ec3, c4]), rfl⟩
        · refine gs_if_eq (tgt := 36) k (by decide) dX6_fails_30 (fun _ => ?_) (fun h => absurd h (by decide))
          refine gs_aload_n (q := 0) k rfl rfl dX6_fails_36 ?_
          refine gs_get (C := RX6) (T := TX6) (N := 10) (ci := 6) (k0 := 0) (j := 0) k (hI 0 (by omega)) rfl rfl inX6 (by decide) fl_X6_12 rfl rfl dX6_fails_37 ?_
          refine gs_get (C := RX5) (T := TX5) (N := 9) (ci := 5) (k0 := 1) (j := 7) k (hI 1 (by omega)) rfl rfl inX5 (by decide) fl_X6_107 rfl rfl dX6_fails_40 ?_
          refine gs_iload_n (q := 1) k rfl rfl dX6_fails_43 ?_
          refine gs_aaldSN (k0 := 8) (n := 6) (e := tn f) (a := E.2.2.1 (10 + 2 * (tn f))) k (hI 8 (by omega)) (fun _ => rfl) (inR_eq c1) (by omega) (by decide) rfl dX6_fails_44 ?_
          refine gs_aload_n (q := 0) k rfl rfl dX6_fails_45 ?_
          refine gs_get (C := RX6) (T := TX6) (N := 10) (ci := 6) (k0 := 0) (j := 0) k (hI 0 (by omega)) rfl rfl inX6 (by decide) fl_X6_12 rfl rfl dX6_fails_46 ?_
          refine gs_get (C := RX5) (T := TX5) (N := 9) (ci := 5) (k0 := 1) (j := 0) k (hI 1 (by omega)) rfl rfl inX5 (by decide) fl_X6_63 rfl rfl dX6_fails_49 ?_
          refine gs_callV (As := [.int (M 1 0)]) (k0 := (10 + 2 * (tn f))) (ci := 3) (T := TX3) (N := 2) k (c_X3_firstFailure hI hF (by omega) hn1 hn6 hn0) cf_X3_firstFailure im_X3_firstFailure sl_X3_firstFailure ml_X6_160 (hI (10 + 2 * (tn f)) (by omega)) (ent_F1 (by omega) _) rfl (by decide) rfl rfl (Nat.le_of_ble_eq_true rfl) dX6_fails_52 (ppI ?_)
          rcases hR : bad0 (V (tn f)) n with _ | ⟨s, i, j⟩
          · show G l E K 55 [(0, .ref (E.2.2.1 0)), (1, .int f), (2, .int w)] [.int (-5)] M
            refine gs_istore_n (lv' := [(3, .int (-5)), (0, .ref (E.2.2.1 0)), (1, .int f), (2, .int w)]) k rfl (by decide) rfl dX6_fails_55 ?_
            refine gs_iload_n (q := 0) k rfl rfl dX6_fails_56 ?_
            refine gs_bipush (v := -5) k (by decide) dX6_fails_57 ?_
            refine gs_icmp_ne (tgt := 65) k (by decide) dX6_fails_59 (fun h => absurd h (by decide)) (fun _ => ?_)
            refine gs_bipush (v := -5) k (by decide) dX6_fails_62 ?_
            exact gs_iret k kt dX6_fails_64 ⟨(by simp [-Int32.not_lt, A_fails, prt, ifc_T, ifc_F, c1, c2, c3, ec3, c4, hR]), rfl⟩
          · have hl := bad0_lt hR
            have hv := ffC_ne s (by omega) i (by omega) j (by omega)
            show G l E K 55 [(0, .ref (E.2.2.1 0)), (1, .int f), (2, .int w)] [.int (ffC (some (s, i, j)))] M
            refine gs_istore_n (lv' := [(3, .int (ffC (some (s, i, j)))), (0, .ref (E.2.2.1 0)), (1, .int f), (2, .int w)]) k rfl (by decide) rfl dX6_fails_55 ?_
            refine gs_iload_n (q := 0) k rfl rfl dX6_fails_56 ?_
            refine gs_bipush (v := -5) k (by decide) dX6_fails_57 ?_
            refine gs_icmp_ne (tgt := 65) k (by decide) dX6_fails_59 (fun c5 => ?_) (fun c5 => absurd c5 hv.1)
            refine gs_iload_n (q := 3) k rfl rfl dX6_fails_65 ?_
            rcases inR3 ec3 with rfl | rfl | rfl
            · refine gs_lookup (off := 26) (tgt := 92) k (by decide) (by decide) (by decide) dX6_fails_66 ?_
              refine gs_iload_n (q := 0) k rfl rfl dX6_fails_92 ?_
              refine gs_callS (As := [.int (ffC (some (s, i, j)))]) k c_X3_setOfFailure cf_X3_setOfFailure sm_X3_setOfFailure ml_X6_189 (by decide) rfl rfl (Nat.le_of_ble_eq_true rfl) dX6_fails_93 (ppI ?_)
              exact gs_iret k kt dX6_fails_96 ⟨(by simp [-Int32.not_lt, A_fails, prt, ifc_T, ifc_F, c1, c2, c3, ec3, c4, hR, hv.2.1, hv.2.2.1, hv.2.2.2]), rfl⟩
            · refine gs_lookup (off := 31) (tgt := 97) k (by decide) (by decide) (by decide) dX6_fails_66 ?_
              refine gs_iload_n (q := 0) k rfl rfl dX6_fails_97 ?_
              refine gs_callS (As := [.int (ffC (some (s, i, j)))]) k c_X3_firstPointOfFailure cf_X3_firstPointOfFailure sm_X3_firstPointOfFailure ml_X6_192 (by decide) rfl rfl (Nat.le_of_ble_eq_true rfl) dX6_fails_98 (ppI ?_)
              exact gs_iret k kt dX6_fails_101 ⟨(by simp [-Int32.not_lt, A_fails, prt, ifc_T, ifc_F, c1, c2, c3, ec3, c4, hR, hv.2.1, hv.2.2.1, hv.2.2.2]), rfl⟩
            · refine gs_lookup (off := 36) (tgt := 102) k (by decide) (by decide) (by decide) dX6_fails_66 ?_
              refine gs_iload_n (q := 0) k rfl rfl dX6_fails_102 ?_
              refine gs_callS (As := [.int (ffC (some (s, i, j)))]) k c_X3_secondPointOfFailure cf_X3_secondPointOfFailure sm_X3_secondPointOfFailure ml_X6_195 (by decide) rfl rfl (Nat.le_of_ble_eq_true rfl) dX6_fails_103 (ppI ?_)
              exact gs_iret k kt dX6_fails_106 ⟨(by simp [-Int32.not_lt, A_fails, prt, ifc_T, ifc_F, c1, c2, c3, ec3, c4, hR, hv.2.1, hv.2.2.1, hv.2.2.2]), rfl⟩
      · have ec3 : ¬ inR w 3 := inR_n2' rfl (by decide) (by decide) (Int32.not_le.mp c3)
        refine gs_iconst (v := -1) k (by decide) dX6_fails_16 ?_
        exact gs_iret k kt dX6_fails_17 ⟨(by simp [-Int32.not_lt, A_fails, prt, ifc_T, ifc_F, c1, c2, c3, ec3]), rfl⟩
  · refine gs_if_eq (tgt := 16) k (by decide) dX6_fails_4 (fun _ => ?_) (fun h => absurd h (by decide))
    refine gs_iconst (v := -1) k (by decide) dX6_fails_16 ?_
    exact gs_iret k kt dX6_fails_17 ⟨(by simp [-Int32.not_lt, A_fails, prt, ifc_T, ifc_F, c1]), rfl⟩

theorem ffR_p {s i j : Nat} (hi : i < 6) (hj : j < 6) : (100 * s + 10 * i + j) / 100 = s ∧ (100 * s + 10 * i + j) / 10 % 10 = i ∧ (100 * s + 10 * i + j) % 10 = j := by omega
theorem cf_X7_fails : CF yX7_fails cX7_fails 4 (some .int) 2 := ⟨cd_X7_fails, iz_X7, by decide, by decide +kernel, by decide +kernel, by decide +kernel⟩
set_option maxRecDepth 100000 in
set_option maxHeartbeats 4000000 in
theorem c_X7_fails {l : Launch} {E : Ev} {M : Mm} {n : Nat} {kd : Nat → Int32} {V : Nat → Nat → Int32} (hI : ∀ k, k < 108 → k ∈ E.2.1) (hn : Rn M n) (hF : RFn M n kd V) {f w : Int32} : Cm l E yX7_fails cX7_fails 4 (some .int) 3 [.ref (E.2.2.1 65), .int f, .int w] M (pI (A_fails n kd V f w) M) := by
  refine Cm.of (by decide) (Nat.le_of_ble_eq_true rfl) (fun K k kt => ?_)
  show G l E K 0 [(0, .ref (E.2.2.1 65)), (1, .int f), (2, .int w)] [] M
  obtain ⟨hn0, hn1, hn6⟩ := id hn
  have hp := p2_le6 hn6
  have hp2 := p2_ge2 hn1
  refine gs_iload_n (q := 1) k rfl rfl dX7_fails_0 ?_
  refine gs_callS (As := [.int f]) k c_X7_isFunction cf_X7_isFunction sm_X7_isFunction ml_X7_128 (by decide) rfl rfl (Nat.le_of_ble_eq_true rfl) dX7_fails_1 (ppB (fun c1 => ?_) (fun c1 => ?_))
  · have bc1 := inR_lt c1
    refine gs_if_eq (tgt := 19) k (by decide) dX7_fails_4 (fun h => absurd h (by decide)) (fun _ => ?_)
    refine gs_iload_n (q := 2) k rfl rfl dX7_fails_7 ?_
    refine gs_i2l k dX7_fails_8 ?_
    refine gs_lconst (v := 0) k (by decide) dX7_fails_9 ?_
    refine gs_ldc2 (v := 2) k cl_X7_200 dX7_fails_10 ?_
    refine gs_callS (As := [.long (w.toInt64), .long (0), .long (2)]) k (Cm.iff (inL (n := 3) (by decide) (by decide)) c_X7_in) cf_X7_in sm_X7_in ml_X7_79 (by decide) rfl rfl (Nat.le_of_ble_eq_true rfl) dX7_fails_13 (ppB (fun c2 => ?_) (fun c2 => ?_))
    · have bc2 := inR_lt c2
      refine gs_if_ne (tgt := 21) k (by decide) dX7_fails_16 (fun _ => ?_) (fun h => absurd h (by decide))
      refine gs_aload_n (q := 0) k rfl rfl dX7_fails_21 ?_
      refine gs_iload_n (q := 1) k rfl rfl dX7_fails_22 ?_
      refine gs_callV (As := [.int f]) (k0 := 65) (ci := 7) (T := TX7) (N := 27) k (c_X7_isThere hI hF) cf_X7_isThere im_X7_isThere sl_X7_isThere ml_X7_163 (hI 65 (by omega)) rfl rfl (by decide) rfl rfl (Nat.le_of_ble_eq_true rfl) dX7_fails_23 (ppB (fun c3 => ?_) (fun c3 => ?_))
      · have bc3 := inR_lt c3.1
        have tc3 := c3.2
        refine gs_if_ne (tgt := 32) k (by decide) dX7_fails_26 (fun _ => ?_) (fun h => absurd h (by decide))
        refine gs_aload_n (q := 0) k rfl rfl dX7_fails_32 ?_
        refine gs_iload_n (q := 1) k rfl rfl dX7_fails_33 ?_
        refine gs_callV (As := [.int f]) (k0 := 65) (ci := 7) (T := TX7) (N := 27) k (c_X7_failing (f := tn f) hI hn hF (inR_eq c1) (by omega) (by assumption)) cf_X7_failing im_X7_failing sl_X7_failing ml_X7_178 (hI 65 (by omega)) rfl rfl (by decide) rfl rfl (Nat.le_of_ble_eq_true rfl) dX7_fails_34 (ppI ?_)
        rcases hR : bad0 (V (tn f)) n with _ | ⟨s, i, j⟩
        · show G l E K 37 [(0, .ref (E.2.2.1 65)), (1, .int f), (2, .int w)] [.int (-5)] M
          refine gs_istore_n (lv' := [(3, .int (-5)), (0, .ref (E.2.2.1 65)), (1, .int f), (2, .int w)]) k rfl (by decide) rfl dX7_fails_37 ?_
          refine gs_iload_n (q := 0) k rfl rfl dX7_fails_38 ?_
          refine gs_if_ge (tgt := 45) k (by decide) dX7_fails_39 (fun h => absurd h (by decide)) (fun _ => ?_)
          refine gs_bipush (v := -5) k (by decide) dX7_fails_42 ?_
          exact gs_iret k kt dX7_fails_44 ⟨(by simp [-Int32.not_lt, A_fails, prt, ifc_T, ifc_F, i0_3, i1_3, c1, c2, c3, tc3, hR]), rfl⟩
        · have hl := bad0_lt hR
          show G l E K 37 [(0, .ref (E.2.2.1 65)), (1, .int f), (2, .int w)] [.int (nI (100 * s + 10 * i + j))] M
          refine gs_istore_n (lv' := [(3, .int (nI (100 * s + 10 * i + j))), (0, .ref (E.2.2.1 65)), (1, .int f), (2, .int w)]) k rfl (by decide) rfl dX7_fails_37 ?_
          refine gs_iload_n (q := 0) k rfl rfl dX7_fails_38 ?_
          refine gs_if_ge (tgt := 45) k (by decide) dX7_fails_39 (fun _ => ?_) (fun h => absurd (nnge rfl (by omega)) h)
          refine gs_iload_n (q := 3) k rfl rfl dX7_fails_45 ?_
          refine gs_if_ne (tgt := 56) k (by decide) dX7_fails_46 (fun c4 => ?_) (fun c4 => ?_)
          · refine gs_iload_n (q := 3) k rfl rfl dX7_fails_56 ?_
            refine gs_iconst (v := 1) k (by decide) dX7_fails_57 ?_
            refine gs_icmp_ne (tgt := 71) k (by decide) dX7_fails_58 (fun c5 => ?_) (fun c5 => ?_)
            · refine gs_iload_n (q := 0) k rfl rfl dX7_fails_71 ?_
              refine gs_bipush (v := 10) k (by decide) dX7_fails_72 ?_
              refine gs_iremN (a := 100 * s + 10 * i + j) (b := 10) k rfl rfl (by omega) (by omega) (by omega) dX7_fails_74 ?_
              exact gs_iret k kt dX7_fails_75 ⟨(by simp [-Int32.not_lt, A_fails, prt, ifc_T, ifc_F, i0_3, i1_3, c1, c2, c3, tc3, hR, c4, c5, (ffR_p (s := s) (i := i) (j := j) (by omega) (by omega)).1, (ffR_p (s := s) (i := i) (j := j) (by omega) (by omega)).2.1, (ffR_p (s := s) (i := i) (j := j) (by omega) (by omega)).2.2]), rfl⟩
            · refine gs_iload_n (q := 0) k rfl rfl dX7_fails_61 ?_
              refine gs_bipush (v := 10) k (by decide) dX7_fails_62 ?_
              refine gs_idivN (a := 100 * s + 10 * i + j) (b := 10) k rfl rfl (by omega) (by omega) (by omega) dX7_fails_64 ?_
              refine gs_bipush (v := 10) k (by decide) dX7_fails_65 ?_
              refine gs_iremN (a := (100 * s + 10 * i + j) / 10) (b := 10) k rfl rfl (by omega) (by omega) (by omega) dX7_fails_67 ?_
              refine gs_goto (tgt := 75) k (by decide) dX7_fails_68 ?_
              exact gs_iret k kt dX7_fails_75 ⟨(by simp [-Int32.not_lt, A_fails, prt, ifc_T, ifc_F, i0_3, i1_3, c1, c2, c3, tc3, hR, c4, c5, (ffR_p (s := s) (i := i) (j := j) (by omega) (by omega)).1, (ffR_p (s := s) (i := i) (j := j) (by omega) (by omega)).2.1, (ffR_p (s := s) (i := i) (j := j) (by omega) (by omega)).2.2]), rfl⟩
          · refine gs_iload_n (q := 0) k rfl rfl dX7_fails_49 ?_
            refine gs_bipush (v := 100) k (by decide) dX7_fails_50 ?_
            refine gs_idivN (a := 100 * s + 10 * i + j) (b := 100) k rfl rfl (by omega) (by omega) (by omega) dX7_fails_52 ?_
            refine gs_goto (tgt := 75) k (by decide) dX7_fails_53 ?_
            exact gs_iret k kt dX7_fails_75 ⟨(by simp [-Int32.not_lt, A_fails, prt, ifc_T, ifc_F, i0_3, i1_3, c1, c2, c3, tc3, hR, c4, (ffR_p (s := s) (i := i) (j := j) (by omega) (by omega)).1, (ffR_p (s := s) (i := i) (j := j) (by omega) (by omega)).2.1, (ffR_p (s := s) (i := i) (j := j) (by omega) (by omega)).2.2]), rfl⟩
      · have qc3 : kd (tn f) < 0 := Classical.byContradiction (fun k => c3 ⟨by assumption, k⟩)
        refine gs_if_ne (tgt := 32) k (by decide) dX7_fails_26 (fun h => absurd h (by decide)) (fun _ => ?_)
        refine gs_bipush (v := -11) k (by decide) dX7_fails_29 ?_
        exact gs_iret k kt dX7_fails_31 ⟨(by simp [-Int32.not_lt, A_fails, prt, ifc_T, ifc_F, i0_3, i1_3, c1, c2, c3, qc3]), rfl⟩
    · refine gs_if_ne (tgt := 21) k (by decide) dX7_fails_16 (fun h => absurd h (by decide)) (fun _ => ?_)
      refine gs_iconst (v := -1) k (by decide) dX7_fails_19 ?_
      exact gs_iret k kt dX7_fails_20 ⟨(by simp [-Int32.not_lt, A_fails, prt, ifc_T, ifc_F, i0_3, i1_3, c1, c2]), rfl⟩
  · refine gs_if_eq (tgt := 19) k (by decide) dX7_fails_4 (fun _ => ?_) (fun h => absurd h (by decide))
    refine gs_iconst (v := -1) k (by decide) dX7_fails_19 ?_
    exact gs_iret k kt dX7_fails_20 ⟨(by simp [-Int32.not_lt, A_fails, prt, ifc_T, ifc_F, i0_3, i1_3, c1]), rfl⟩

