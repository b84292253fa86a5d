/-! an int that is a number below n; the number that it is -/
def tn (x : Int32) : Nat := x.toNatClampNeg
def inR (x : Int32) (n : Nat) : Prop := 0 ≤ x.toInt ∧ x.toInt < n
theorem tn_toInt {x : Int32} (h : 0 ≤ x.toInt) : (tn x : Int) = x.toInt := by
  unfold tn
  rw [Int32.toNatClampNeg]
  omega
theorem inR_eq {x : Int32} {n : Nat} (h : inR x n) : x = nI (tn x) := by
  have h1 := tn_toInt h.1
  have h2 := Int32.toInt_lt x
  apply Int32.toInt_inj.mp
  rw [nI_toInt (by omega)]
  omega
theorem inR_lt {x : Int32} {n : Nat} (h : inR x n) : tn x < n := by
  have h1 := tn_toInt h.1
  have h2 := h.2
  omega
theorem tn_nI {j : Nat} (h : j < 2 ^ 31) : tn (nI j) = j := nI_clamp h
theorem inR_nI {j n : Nat} (hj : j < 2 ^ 31) : inR (nI j) n ↔ j < n := by
  unfold inR
  rw [nI_toInt hj]
  omega
theorem inR_of {x m : Int32} {n : Nat} (hm : m = nI n) (hn : n < 2 ^ 31) (h1 : ¬ x < 0) (h2 : ¬ m ≤ x) : inR x n := by
  obtain ⟨j, hj, rfl⟩ := nI_of h1
  subst hm
  rw [inR_nI hj]
  exact Nat.lt_of_not_le fun e => h2 ((nI_leI hn hj).mpr e)
theorem inR_n1 {x : Int32} {n : Nat} (h : x < 0) : ¬ inR x n := by
  intro q
  have := Int32.lt_iff_toInt_lt.mp h
  have h0 : (0 : Int32).toInt = 0 := by decide
  have := q.1
  omega
theorem inR_n2 {x m : Int32} {n : Nat} (hm : m = nI n) (hn : n < 2 ^ 31) (h : m ≤ x) : ¬ inR x n := by
  intro q
  rw [inR_eq q, hm] at h
  have h1 := inR_lt q
  have := (nI_leI hn (by omega)).mp h
  omega
theorem inR_of' {x m : Int32} {n : Nat} (hm : m = nI (n - 1)) (h0 : 0 < n) (hn : n < 2 ^ 31) (h1 : ¬ x < 0) (h2 : ¬ m < x) : inR x n := by
  obtain ⟨j, hj, rfl⟩ := nI_of h1
  subst hm
  rw [inR_nI hj]
  have : j ≤ n - 1 := Nat.le_of_not_lt fun e => h2 ((nI_ltI (by omega) hj).mpr e)
  omega
theorem inR_n2' {x m : Int32} {n : Nat} (hm : m = nI (n - 1)) (h0 : 0 < n) (hn : n < 2 ^ 31) (h : m < x) : ¬ inR x n := by
  intro q
  rw [inR_eq q, hm] at h
  have h1 := inR_lt q
  have := (nI_ltI (by omega) (by omega)).mp h
  omega
theorem inL {x : Int32} {z m : Int64} {n : Nat} (hz : z.toInt = 0) (hm : m.toInt = (n : Int) - 1) : (¬ x.toInt64 < z ∧ ¬ m < x.toInt64) ↔ inR x n := by
  rw [Int64.lt_iff_toInt_lt, Int64.lt_iff_toInt_lt, Int32.toInt_toInt64, hz, hm]
  unfold inR
  omega
theorem nI_p1_toInt64 {n : Nat} (h0 : 0 < n) (hn : n < 2 ^ 31) : (nI (n - 1)).toInt64.toInt = (n : Int) - 1 := by
  rw [Int32.toInt_toInt64, nI_toInt (by omega)]
  omega
/-- from a to b -/
def isB (a b x : Int32) : Prop := ¬ x < a ∧ ¬ b < x
theorem isBL {a b x : Int32} {a' b' : Int64} (ha : a'.toInt = a.toInt) (hb : b'.toInt = b.toInt) : (¬ x.toInt64 < a' ∧ ¬ b' < x.toInt64) ↔ isB a b x := by
  unfold isB
  rw [Int64.lt_iff_toInt_lt, Int64.lt_iff_toInt_lt, Int32.toInt_toInt64, ha, hb, Int32.lt_iff_toInt_lt, Int32.lt_iff_toInt_lt]
abbrev isV (x : Int32) : Prop := isB (-999999) 999999 x
theorem p2_le6 {n : Nat} (h : n ≤ 6) : 2 ^ n ≤ 64 := Nat.pow_le_pow_right (by omega) h
theorem p2_pos (n : Nat) : 0 < 2 ^ n := Nat.two_pow_pos n
theorem p2_ge2 {n : Nat} (h : 1 ≤ n) : 2 ≤ 2 ^ n := by
  have := Nat.pow_le_pow_right (n := 2) (by omega) h
  omega
theorem Cm.iff {l : Launch} {E : Ev} {y : MethodName} {cc : ByteArray} {maxL : Nat} {ret : Option FieldType} {d : Nat} {as : List Value} {M M1 : Mm} {P Q : Prop} (h : P ↔ Q) (hC : Cm l E y cc maxL ret d as M (pB P M1)) : Cm l E y cc maxL ret d as M (pB Q M1) := by
  rw [← propext h]; exact hC
theorem rdj {M : Mm} {k j j' : Nat} {x v : Int32} (h : j' ≠ j) (e : M k j' = v) : mw M k j x k j' = v := by rw [mw_nj _ _ _ h]; exact e
/-- the number of elements: of the class, of the reference -/
def Cn (M : Mm) (n : Nat) : Prop := M 1 0 = nI n ∧ 1 ≤ n ∧ n ≤ 6
def Rn (M : Mm) (n : Nat) : Prop := M 65 0 = nI n ∧ 1 ≤ n ∧ n ≤ 6
theorem Cn_rs {M : Mm} {k n : Nat} {r : Nat → Int32} (h : 1 ≠ k) (e : Cn M n) : Cn (rset M k r) n := ⟨rdr h e.1, e.2⟩
theorem Cn_mw {M : Mm} {k j n : Nat} {x : Int32} (h : 1 ≠ k ∨ 0 ≠ j) (e : Cn M n) : Cn (mw M k j x) n := by
  refine ⟨?_, e.2⟩
  by_cases hk : 1 = k
  · subst hk
    rcases h with h | h
    · exact absurd rfl h
    · exact rdj h e.1
  · exact rdn hk e.1
theorem Rn_rs {M : Mm} {k n : Nat} {r : Nat → Int32} (h : 65 ≠ k) (e : Rn M n) : Rn (rset M k r) n := ⟨rdr h e.1, e.2⟩
theorem Rn_mw {M : Mm} {k j n : Nat} {x : Int32} (h : 65 ≠ k ∨ 0 ≠ j) (e : Rn M n) : Rn (mw M k j x) n := by
  refine ⟨?_, e.2⟩
  by_cases hk : 65 = k
  · subst hk
    rcases h with h | h
    · exact absurd rfl h
    · exact rdj h e.1
  · exact rdn hk e.1

theorem cf_X6_isFunction : CF yX6_isFunction cX6_isFunction 1 (some .boolean) 1 := ⟨cd_X6_isFunction, iz_X6, by decide, by decide +kernel, by decide +kernel, by decide +kernel⟩
set_option maxRecDepth 100000 in
set_option maxHeartbeats 4000000 in
theorem c_X6_isFunction {l : Launch} {E : Ev} {M : Mm} {x : Int32} : Cm l E yX6_isFunction cX6_isFunction 1 (some .boolean) 0 [.int x] M (pB (inR x 6) M) := by
  refine Cm.of (by decide) (Nat.le_of_ble_eq_true rfl) (fun K k kt => ?_)
  show G l E K 0 [(0, .int x)] [] M
  refine gs_iload_n (q := 0) k rfl rfl dX6_isFunction_0 ?_
  refine gs_if_lt (tgt := 14) k (by decide) dX6_isFunction_1 (fun c1 => ?_) (fun c1 => ?_)
  · refine gs_iconst (v := 0) k (by decide) dX6_isFunction_14 ?_
    exact gs_zret k kt (by decide) dX6_isFunction_15 (by first | exact pB1 (inR_of rfl (by decide) (by assumption) (by assumption)) | exact pB0 (inR_n1 (by assumption)) | exact pB0 (inR_n2 rfl (by decide) (by assumption)))
  · refine gs_iload_n (q := 0) k rfl rfl dX6_isFunction_4 ?_
    refine gs_bipush (v := 6) k (by decide) dX6_isFunction_5 ?_
    refine gs_icmp_ge (tgt := 14) k (by decide) dX6_isFunction_7 (fun c2 => ?_) (fun c2 => ?_)
    · refine gs_iconst (v := 0) k (by decide) dX6_isFunction_14 ?_
      exact gs_zret k kt (by decide) dX6_isFunction_15 (by first | exact pB1 (inR_of rfl (by decide) (by assumption) (by assumption)) | exact pB0 (inR_n1 (by assumption)) | exact pB0 (inR_n2 rfl (by decide) (by assumption)))
    · refine gs_iconst (v := 1) k (by decide) dX6_isFunction_10 ?_
      refine gs_goto (tgt := 15) k (by decide) dX6_isFunction_11 ?_
      exact gs_zret k kt (by decide) dX6_isFunction_15 (by first | exact pB1 (inR_of rfl (by decide) (by assumption) (by assumption)) | exact pB0 (inR_n1 (by assumption)) | exact pB0 (inR_n2 rfl (by decide) (by assumption)))

theorem cf_X6_isBlock : CF yX6_isBlock cX6_isBlock 1 (some .boolean) 1 := ⟨cd_X6_isBlock, iz_X6, by decide, by decide +kernel, by decide +kernel, by decide +kernel⟩
set_option maxRecDepth 100000 in
set_option maxHeartbeats 4000000 in
theorem c_X6_isBlock {l : Launch} {E : Ev} {M : Mm} {x : Int32} : Cm l E yX6_isBlock cX6_isBlock 1 (some .boolean) 0 [.int x] M (pB (inR x 6) M) := by
  refine Cm.of (by decide) (Nat.le_of_ble_eq_true rfl) (fun K k kt => ?_)
  show G l E K 0 [(0, .int x)] [] M
  refine gs_iload_n (q := 0) k rfl rfl dX6_isBlock_0 ?_
  refine gs_if_lt (tgt := 14) k (by decide) dX6_isBlock_1 (fun c1 => ?_) (fun c1 => ?_)
  · refine gs_iconst (v := 0) k (by decide) dX6_isBlock_14 ?_
    exact gs_zret k kt (by decide) dX6_isBlock_15 (by first | exact pB1 (inR_of rfl (by decide) (by assumption) (by assumption)) | exact pB0 (inR_n1 (by assumption)) | exact pB0 (inR_n2 rfl (by decide) (by assumption)))
  · refine gs_iload_n (q := 0) k rfl rfl dX6_isBlock_4 ?_
    refine gs_bipush (v := 6) k (by decide) dX6_isBlock_5 ?_
    refine gs_icmp_ge (tgt := 14) k (by decide) dX6_isBlock_7 (fun c2 => ?_) (fun c2 => ?_)
    · refine gs_iconst (v := 0) k (by decide) dX6_isBlock_14 ?_
      exact gs_zret k kt (by decide) dX6_isBlock_15 (by first | exact pB1 (inR_of rfl (by decide) (by assumption) (by assumption)) | exact pB0 (inR_n1 (by assumption)) | exact pB0 (inR_n2 rfl (by decide) (by assumption)))
    · refine gs_iconst (v := 1) k (by decide) dX6_isBlock_10 ?_
      refine gs_goto (tgt := 15) k (by decide) dX6_isBlock_11 ?_
      exact gs_zret k kt (by decide) dX6_isBlock_15 (by first | exact pB1 (inR_of rfl (by decide) (by assumption) (by assumption)) | exact pB0 (inR_n1 (by assumption)) | exact pB0 (inR_n2 rfl (by decide) (by assumption)))

theorem cf_X6_isList : CF yX6_isList cX6_isList 1 (some .boolean) 1 := ⟨cd_X6_isList, iz_X6, by decide, by decide +kernel, by decide +kernel, by decide +kernel⟩
set_option maxRecDepth 100000 in
set_option maxHeartbeats 4000000 in
theorem c_X6_isList {l : Launch} {E : Ev} {M : Mm} {x : Int32} : Cm l E yX6_isList cX6_isList 1 (some .boolean) 0 [.int x] M (pB (inR x 4) M) := by
  refine Cm.of (by decide) (Nat.le_of_ble_eq_true rfl) (fun K k kt => ?_)
  show G l E K 0 [(0, .int x)] [] M
  refine gs_iload_n (q := 0) k rfl rfl dX6_isList_0 ?_
  refine gs_if_lt (tgt := 13) k (by decide) dX6_isList_1 (fun c1 => ?_) (fun c1 => ?_)
  · refine gs_iconst (v := 0) k (by decide) dX6_isList_13 ?_
    exact gs_zret k kt (by decide) dX6_isList_14 (by first | exact pB1 (inR_of rfl (by decide) (by assumption) (by assumption)) | exact pB0 (inR_n1 (by assumption)) | exact pB0 (inR_n2 rfl (by decide) (by assumption)))
  · refine gs_iload_n (q := 0) k rfl rfl dX6_isList_4 ?_
    refine gs_iconst (v := 4) k (by decide) dX6_isList_5 ?_
    refine gs_icmp_ge (tgt := 13) k (by decide) dX6_isList_6 (fun c2 => ?_) (fun c2 => ?_)
    · refine gs_iconst (v := 0) k (by decide) dX6_isList_13 ?_
      exact gs_zret k kt (by decide) dX6_isList_14 (by first | exact pB1 (inR_of rfl (by decide) (by assumption) (by assumption)) | exact pB0 (inR_n1 (by assumption)) | exact pB0 (inR_n2 rfl (by decide) (by assumption)))
    · refine gs_iconst (v := 1) k (by decide) dX6_isList_9 ?_
      refine gs_goto (tgt := 14) k (by decide) dX6_isList_10 ?_
      exact gs_zret k kt (by decide) dX6_isList_14 (by first | exact pB1 (inR_of rfl (by decide) (by assumption) (by assumption)) | exact pB0 (inR_n1 (by assumption)) | exact pB0 (inR_n2 rfl (by decide) (by assumption)))

theorem cf_X6_isValue : CF yX6_isValue cX6_isValue 1 (some .boolean) 1 := ⟨cd_X6_isValue, iz_X6, by decide, by decide +kernel, by decide +kernel, by decide +kernel⟩
set_option maxRecDepth 100000 in
set_option maxHeartbeats 4000000 in
theorem c_X6_isValue {l : Launch} {E : Ev} {M : Mm} {x : Int32} : Cm l E yX6_isValue cX6_isValue 1 (some .boolean) 0 [.int x] M (pB (isV x) M) := by
  refine Cm.of (by decide) (Nat.le_of_ble_eq_true rfl) (fun K k kt => ?_)
  show G l E K 0 [(0, .int x)] [] M
  refine gs_iload_n (q := 0) k rfl rfl dX6_isValue_0 ?_
  refine gs_ldcw (v := -999999) k cn_X6_301 dX6_isValue_1 ?_
  refine gs_icmp_lt (tgt := 18) k (by decide) dX6_isValue_4 (fun c1 => ?_) (fun c1 => ?_)
  · refine gs_iconst (v := 0) k (by decide) dX6_isValue_18 ?_
    exact gs_zret k kt (by decide) dX6_isValue_19 (by first | exact pB1 ⟨by assumption, by assumption⟩ | exact pB0 (fun h => h.1 (by assumption)) | exact pB0 (fun h => h.2 (by assumption)))
  · refine gs_iload_n (q := 0) k rfl rfl dX6_isValue_7 ?_
    refine gs_ldcw (v := 999999) k cn_X6_302 dX6_isValue_8 ?_
    refine gs_icmp_gt (tgt := 18) k (by decide) dX6_isValue_11 (fun c2 => ?_) (fun c2 => ?_)
    · refine gs_iconst (v := 0) k (by decide) dX6_isValue_18 ?_
      exact gs_zret k kt (by decide) dX6_isValue_19 (by first | exact pB1 ⟨by assumption, by assumption⟩ | exact pB0 (fun h => h.1 (by assumption)) | exact pB0 (fun h => h.2 (by assumption)))
    · refine gs_iconst (v := 1) k (by decide) dX6_isValue_14 ?_
      refine gs_goto (tgt := 19) k (by decide) dX6_isValue_15 ?_
      exact gs_zret k kt (by decide) dX6_isValue_19 (by first | exact pB1 ⟨by assumption, by assumption⟩ | exact pB0 (fun h => h.1 (by assumption)) | exact pB0 (fun h => h.2 (by assumption)))

theorem cf_X6_holds : CF yX6_holds cX6_holds 2 (some .boolean) 2 := ⟨cd_X6_holds, iz_X6, by decide, by decide +kernel, by decide +kernel, by decide +kernel⟩
set_option maxRecDepth 100000 in
set_option maxHeartbeats 4000000 in
theorem c_X6_holds {l : Launch} {E : Ev} {M : Mm} {x y : Int32} {S P : Nat} (hx : x = nI S) (hy : y = nI P) (hS : S < 2 ^ 31) (hP : P < 32) : Cm l E yX6_holds cX6_holds 2 (some .boolean) 0 [.int x, .int y] M (pB (S.testBit P = true) M) := by
  refine Cm.of (by decide) (Nat.le_of_ble_eq_true rfl) (fun K k kt => ?_)
  show G l E K 0 [(0, .int x), (1, .int y)] [] M
  have hb := ni_bit (n := S) (p := P) hS hP
  rw [← hx, ← hy] at hb
  by_cases c : S.testBit P = true
  · refine gs_iload_n (q := 0) k rfl rfl dX6_holds_0 ?_
    refine gs_iload_n (q := 1) k rfl rfl dX6_holds_1 ?_
    refine gs_ishr k dX6_holds_2 ?_
    refine gs_iconst (v := 1) k (by decide) dX6_holds_3 ?_
    refine gs_iand k dX6_holds_4 ?_
    refine gs_top (y := 1) (hb.trans (by first | (rw [if_pos c]; rfl) | (rw [if_neg c]; rfl))) ?_
    refine gs_iconst (v := 1) k (by decide) dX6_holds_5 ?_
    refine gs_icmp_ne (tgt := 13) k (by decide) dX6_holds_6 (fun h => absurd h (by decide)) (fun _ => ?_)
    refine gs_iconst (v := 1) k (by decide) dX6_holds_9 ?_
    refine gs_goto (tgt := 14) k (by decide) dX6_holds_10 ?_
    exact gs_zret k kt (by decide) dX6_holds_14 (pB1 c)
  · refine gs_iload_n (q := 0) k rfl rfl dX6_holds_0 ?_
    refine gs_iload_n (q := 1) k rfl rfl dX6_holds_1 ?_
    refine gs_ishr k dX6_holds_2 ?_
    refine gs_iconst (v := 1) k (by decide) dX6_holds_3 ?_
    refine gs_iand k dX6_holds_4 ?_
    refine gs_top (y := 0) (hb.trans (by first | (rw [if_pos c]; rfl) | (rw [if_neg c]; rfl))) ?_
    refine gs_iconst (v := 1) k (by decide) dX6_holds_5 ?_
    refine gs_icmp_ne (tgt := 13) k (by decide) dX6_holds_6 (fun _ => ?_) (fun h => absurd h (by decide))
    refine gs_iconst (v := 0) k (by decide) dX6_holds_13 ?_
    exact gs_zret k kt (by decide) dX6_holds_14 (pB0 c)

theorem cf_X7_has : CF yX7_has cX7_has 2 (some .boolean) 2 := ⟨cd_X7_has, iz_X7, by decide, by decide +kernel, by decide +kernel, by decide +kernel⟩
set_option maxRecDepth 100000 in
set_option maxHeartbeats 4000000 in
theorem c_X7_has {l : Launch} {E : Ev} {M : Mm} {x y : Int32} {S P : Nat} (hx : x = nI S) (hy : y = nI P) (hS : S < 2 ^ 31) (hP : P < 32) : Cm l E yX7_has cX7_has 2 (some .boolean) 0 [.int x, .int y] M (pB (S.testBit P = true) M) := by
  refine Cm.of (by decide) (Nat.le_of_ble_eq_true rfl) (fun K k kt => ?_)
  show G l E K 0 [(0, .int x), (1, .int y)] [] M
  have hb := ni_bit (n := S) (p := P) hS hP
  rw [← hx, ← hy] at hb
  by_cases c : S.testBit P = true
  · refine gs_iload_n (q := 0) k rfl rfl dX7_has_0 ?_
    refine gs_iload_n (q := 1) k rfl rfl dX7_has_1 ?_
    refine gs_ishr k dX7_has_2 ?_
    refine gs_iconst (v := 1) k (by decide) dX7_has_3 ?_
    refine gs_iand k dX7_has_4 ?_
    refine gs_top (y := 1) (hb.trans (by first | (rw [if_pos c]; rfl) | (rw [if_neg c]; rfl))) ?_
    refine gs_iconst (v := 1) k (by decide) dX7_has_5 ?_
    refine gs_icmp_ne (tgt := 13) k (by decide) dX7_has_6 (fun h => absurd h (by decide)) (fun _ => ?_)
    refine gs_iconst (v := 1) k (by decide) dX7_has_9 ?_
    refine gs_goto (tgt := 14) k (by decide) dX7_has_10 ?_
    exact gs_zret k kt (by decide) dX7_has_14 (pB1 c)
  · refine gs_iload_n (q := 0) k rfl rfl dX7_has_0 ?_
    refine gs_iload_n (q := 1) k rfl rfl dX7_has_1 ?_
    refine gs_ishr k dX7_has_2 ?_
    refine gs_iconst (v := 1) k (by decide) dX7_has_3 ?_
    refine gs_iand k dX7_has_4 ?_
    refine gs_top (y := 0) (hb.trans (by first | (rw [if_pos c]; rfl) | (rw [if_neg c]; rfl))) ?_
    refine gs_iconst (v := 1) k (by decide) dX7_has_5 ?_
    refine gs_icmp_ne (tgt := 13) k (by decide) dX7_has_6 (fun _ => ?_) (fun h => absurd h (by decide))
    refine gs_iconst (v := 0) k (by decide) dX7_has_13 ?_
    exact gs_zret k kt (by decide) dX7_has_14 (pB0 c)

theorem cf_X6_oneIf : CF yX6_oneIf cX6_oneIf 1 (some .int) 1 := ⟨cd_X6_oneIf, iz_X6, by decide, by decide +kernel, by decide +kernel, by decide +kernel⟩
set_option maxRecDepth 100000 in
set_option maxHeartbeats 4000000 in
theorem c_X6_oneIf_0 {l : Launch} {E : Ev} {M : Mm} : Cm l E yX6_oneIf cX6_oneIf 1 (some .int) 0 [.int 0] M (pI 0 M) := by
  refine Cm.of (by decide) (Nat.le_of_ble_eq_true rfl) (fun K k kt => ?_)
  show G l E K 0 [(0, .int 0)] [] M
  refine gs_iload_n (q := 0) k rfl rfl dX6_oneIf_0 ?_
  refine gs_if_eq (tgt := 8) k (by decide) dX6_oneIf_1 (fun _ => ?_) (fun h => absurd h (by decide))
  refine gs_iconst (v := 0) k (by decide) dX6_oneIf_8 ?_
  exact gs_iret k kt dX6_oneIf_9 ⟨rfl, rfl⟩

set_option maxRecDepth 100000 in
set_option maxHeartbeats 4000000 in
theorem c_X6_oneIf_1 {l : Launch} {E : Ev} {M : Mm} : Cm l E yX6_oneIf cX6_oneIf 1 (some .int) 0 [.int 1] M (pI 1 M) := by
  refine Cm.of (by decide) (Nat.le_of_ble_eq_true rfl) (fun K k kt => ?_)
  show G l E K 0 [(0, .int 1)] [] M
  refine gs_iload_n (q := 0) k rfl rfl dX6_oneIf_0 ?_
  refine gs_if_eq (tgt := 8) k (by decide) dX6_oneIf_1 (fun h => absurd h (by decide)) (fun _ => ?_)
  refine gs_iconst (v := 1) k (by decide) dX6_oneIf_4 ?_
  refine gs_goto (tgt := 9) k (by decide) dX6_oneIf_5 ?_
  exact gs_iret k kt dX6_oneIf_9 ⟨rfl, rfl⟩

theorem cf_X7_bit : CF yX7_bit cX7_bit 1 (some .int) 1 := ⟨cd_X7_bit, iz_X7, by decide, by decide +kernel, by decide +kernel, by decide +kernel⟩
set_option maxRecDepth 100000 in
set_option maxHeartbeats 4000000 in
theorem c_X7_bit_0 {l : Launch} {E : Ev} {M : Mm} : Cm l E yX7_bit cX7_bit 1 (some .int) 0 [.int 0] M (pI 0 M) := by
  refine Cm.of (by decide) (Nat.le_of_ble_eq_true rfl) (fun K k kt => ?_)
  show G l E K 0 [(0, .int 0)] [] M
  refine gs_iload_n (q := 0) k rfl rfl dX7_bit_0 ?_
  refine gs_if_eq (tgt := 8) k (by decide) dX7_bit_1 (fun _ => ?_) (fun h => absurd h (by decide))
  refine gs_iconst (v := 0) k (by decide) dX7_bit_8 ?_
  exact gs_iret k kt dX7_bit_9 ⟨rfl, rfl⟩

set_option maxRecDepth 100000 in
set_option maxHeartbeats 4000000 in
theorem c_X7_bit_1 {l : Launch} {E : Ev} {M : Mm} : Cm l E yX7_bit cX7_bit 1 (some .int) 0 [.int 1] M (pI 1 M) := by
  refine Cm.of (by decide) (Nat.le_of_ble_eq_true rfl) (fun K k kt => ?_)
  show G l E K 0 [(0, .int 1)] [] M
  refine gs_iload_n (q := 0) k rfl rfl dX7_bit_0 ?_
  refine gs_if_eq (tgt := 8) k (by decide) dX7_bit_1 (fun h => absurd h (by decide)) (fun _ => ?_)
  refine gs_iconst (v := 1) k (by decide) dX7_bit_4 ?_
  refine gs_goto (tgt := 9) k (by decide) dX7_bit_5 ?_
  exact gs_iret k kt dX7_bit_9 ⟨rfl, rfl⟩

theorem cf_X5_sets : CF yX5_sets cX5_sets 1 (some .int) 0 := ⟨cd_X5_sets, iz_X5, by decide, by decide +kernel, by decide +kernel, by decide +kernel⟩
set_option maxRecDepth 100000 in
set_option maxHeartbeats 4000000 in
theorem c_X5_sets {l : Launch} {E : Ev} {M : Mm} {n : Nat} (hI : ∀ k, k < 108 → k ∈ E.2.1) (hn : Cn M n) : Cm l E yX5_sets cX5_sets 1 (some .int) 0 [.ref (E.2.2.1 1)] M (pI (nI (2 ^ n)) M) := by
  refine Cm.of (by decide) (Nat.le_of_ble_eq_true rfl) (fun K k kt => ?_)
  show G l E K 0 [(0, .ref (E.2.2.1 1))] [] M
  obtain ⟨hn0, hn1, hn6⟩ := hn
  have hp := p2_le6 hn6
  have hp2 := p2_ge2 hn1
  refine gs_iconst (v := 1) k (by decide) dX5_sets_0 ?_
  refine gs_aload_n (q := 0) k rfl rfl dX5_sets_1 ?_
  refine gs_get (C := RX5) (T := TX5) (N := 9) (ci := 5) (k0 := 1) (j := 0) k (hI 1 (by omega)) rfl rfl inX5 (by decide) fl_X5_44 rfl rfl dX5_sets_2 ?_
  refine gs_ishlN (b := n) k rfl hn0 (by omega) dX5_sets_5 ?_
  exact gs_iret k kt dX5_sets_6 ⟨rfl, rfl⟩

theorem cf_X5_all : CF yX5_all cX5_all 1 (some .int) 0 := ⟨cd_X5_all, iz_X5, by decide, by decide +kernel, by decide +kernel, by decide +kernel⟩
set_option maxRecDepth 100000 in
set_option maxHeartbeats 4000000 in
theorem c_X5_all {l : Launch} {E : Ev} {M : Mm} {n : Nat} (hI : ∀ k, k < 108 → k ∈ E.2.1) (hn : Cn M n) : Cm l E yX5_all cX5_all 1 (some .int) 0 [.ref (E.2.2.1 1)] M (pI (nI (2 ^ n - 1)) M) := by
  refine Cm.of (by decide) (Nat.le_of_ble_eq_true rfl) (fun K k kt => ?_)
  show G l E K 0 [(0, .ref (E.2.2.1 1))] [] M
  obtain ⟨hn0, hn1, hn6⟩ := hn
  have hp := p2_le6 hn6
  have hp2 := p2_ge2 hn1
  refine gs_iconst (v := 1) k (by decide) dX5_all_0 ?_
  refine gs_aload_n (q := 0) k rfl rfl dX5_all_1 ?_
  refine gs_get (C := RX5) (T := TX5) (N := 9) (ci := 5) (k0 := 1) (j := 0) k (hI 1 (by omega)) rfl rfl inX5 (by decide) fl_X5_44 rfl rfl dX5_all_2 ?_
  refine gs_ishlN (b := n) k rfl hn0 (by omega) dX5_all_5 ?_
  refine gs_iconst (v := 1) k (by decide) dX5_all_6 ?_
  refine gs_isubN (a := 2 ^ n) (b := 1) k rfl rfl (by omega) dX5_all_7 ?_
  exact gs_iret k kt dX5_all_8 ⟨rfl, rfl⟩

theorem cf_X5_hasPoint : CF yX5_hasPoint cX5_hasPoint 2 (some .boolean) 1 := ⟨cd_X5_hasPoint, iz_X5, by decide, by decide +kernel, by decide +kernel, by decide +kernel⟩
set_option maxRecDepth 100000 in
set_option maxHeartbeats 4000000 in
theorem c_X5_hasPoint {l : Launch} {E : Ev} {M : Mm} {n : Nat} (hI : ∀ k, k < 108 → k ∈ E.2.1) (hn : Cn M n) {x : Int32} : Cm l E yX5_hasPoint cX5_hasPoint 2 (some .boolean) 0 [.ref (E.2.2.1 1), .int x] M (pB (inR x n) M) := by
  refine Cm.of (by decide) (Nat.le_of_ble_eq_true rfl) (fun K k kt => ?_)
  show G l E K 0 [(0, .ref (E.2.2.1 1)), (1, .int x)] [] M
  obtain ⟨hn0, hn1, hn6⟩ := hn
  have hp := p2_le6 hn6
  have hp2 := p2_ge2 hn1
  refine gs_iload_n (q := 1) k rfl rfl dX5_hasPoint_0 ?_
  refine gs_if_lt (tgt := 16) k (by decide) dX5_hasPoint_1 (fun c1 => ?_) (fun c1 => ?_)
  · refine gs_iconst (v := 0) k (by decide) dX5_hasPoint_16 ?_
    exact gs_zret k kt (by decide) dX5_hasPoint_17 (by first | exact pB1 (inR_of hn0 (by omega) (by assumption) (by assumption)) | exact pB0 (inR_n1 (by assumption)) | exact pB0 (inR_n2 hn0 (by omega) (by assumption)))
  · refine gs_iload_n (q := 1) k rfl rfl dX5_hasPoint_4 ?_
    refine gs_aload_n (q := 0) k rfl rfl dX5_hasPoint_5 ?_
    refine gs_get (C := RX5) (T := TX5) (N := 9) (ci := 5) (k0 := 1) (j := 0) k (hI 1 (by omega)) rfl rfl inX5 (by decide) fl_X5_44 rfl rfl dX5_hasPoint_6 ?_
    refine gs_icmp_ge (tgt := 16) k (by decide) dX5_hasPoint_9 (fun c2 => ?_) (fun c2 => ?_)
    · refine gs_iconst (v := 0) k (by decide) dX5_hasPoint_16 ?_
      exact gs_zret k kt (by decide) dX5_hasPoint_17 (by first | exact pB1 (inR_of hn0 (by omega) (by assumption) (by assumption)) | exact pB0 (inR_n1 (by assumption)) | exact pB0 (inR_n2 hn0 (by omega) (by assumption)))
    · refine gs_iconst (v := 1) k (by decide) dX5_hasPoint_12 ?_
      refine gs_goto (tgt := 17) k (by decide) dX5_hasPoint_13 ?_
      exact gs_zret k kt (by decide) dX5_hasPoint_17 (by first | exact pB1 (inR_of hn0 (by omega) (by assumption) (by assumption)) | exact pB0 (inR_n1 (by assumption)) | exact pB0 (inR_n2 hn0 (by omega) (by assumption)))

theorem cf_X5_hasSet : CF yX5_hasSet cX5_hasSet 2 (some .boolean) 1 := ⟨cd_X5_hasSet, iz_X5, by decide, by decide +kernel, by decide +kernel, by decide +kernel⟩
set_option maxRecDepth 100000 in
set_option maxHeartbeats 4000000 in
theorem c_X5_hasSet {l : Launch} {E : Ev} {M : Mm} {n : Nat} (hI : ∀ k, k < 108 → k ∈ E.2.1) (hn : Cn M n) {x : Int32} : Cm l E yX5_hasSet cX5_hasSet 2 (some .boolean) 1 [.ref (E.2.2.1 1), .int x] M (pB (inR x (2 ^ n)) M) := by
  refine Cm.of (by decide) (Nat.le_of_ble_eq_true rfl) (fun K k kt => ?_)
  show G l E K 0 [(0, .ref (E.2.2.1 1)), (1, .int x)] [] M
  have hn := hn
  obtain ⟨hn0, hn1, hn6⟩ := id hn
  have hp := p2_le6 hn6
  have hp2 := p2_ge2 hn1
  refine gs_iload_n (q := 1) k rfl rfl dX5_hasSet_0 ?_
  refine gs_if_lt (tgt := 16) k (by decide) dX5_hasSet_1 (fun c1 => ?_) (fun c1 => ?_)
  · refine gs_iconst (v := 0) k (by decide) dX5_hasSet_16 ?_
    exact gs_zret k kt (by decide) dX5_hasSet_17 (by first | exact pB1 (inR_of' rfl (by omega) (by omega) (by assumption) (by assumption)) | exact pB0 (inR_n1 (by assumption)) | exact pB0 (inR_n2' rfl (by omega) (by omega) (by assumption)))
  · refine gs_iload_n (q := 1) k rfl rfl dX5_hasSet_4 ?_
    refine gs_aload_n (q := 0) k rfl rfl dX5_hasSet_5 ?_
    refine gs_callV (As := []) (k0 := 1) (ci := 5) (T := TX5) (N := 9) k (c_X5_all hI hn) cf_X5_all im_X5_all sl_X5_all ml_X5_67 (hI 1 (by omega)) rfl rfl (by decide) rfl rfl (Nat.le_of_ble_eq_true rfl) dX5_hasSet_6 (ppI ?_)
    refine gs_icmp_gt (tgt := 16) k (by decide) dX5_hasSet_9 (fun c2 => ?_) (fun c2 => ?_)
    · refine gs_iconst (v := 0) k (by decide) dX5_hasSet_16 ?_
      exact gs_zret k kt (by decide) dX5_hasSet_17 (by first | exact pB1 (inR_of' rfl (by omega) (by omega) (by assumption) (by assumption)) | exact pB0 (inR_n1 (by assumption)) | exact pB0 (inR_n2' rfl (by omega) (by omega) (by assumption)))
    · refine gs_iconst (v := 1) k (by decide) dX5_hasSet_12 ?_
      refine gs_goto (tgt := 17) k (by decide) dX5_hasSet_13 ?_
      exact gs_zret k kt (by decide) dX5_hasSet_17 (by first | exact pB1 (inR_of' rfl (by omega) (by omega) (by assumption) (by assumption)) | exact pB0 (inR_n1 (by assumption)) | exact pB0 (inR_n2' rfl (by omega) (by omega) (by assumption)))

theorem cf_X7_in : CF yX7_in cX7_in 6 (some .boolean) 3 := ⟨cd_X7_in, iz_X7, by decide, by decide +kernel, by decide +kernel, by decide +kernel⟩
set_option maxRecDepth 100000 in
set_option maxHeartbeats 4000000 in
theorem c_X7_in {l : Launch} {E : Ev} {M : Mm} {v a b : Int64} : Cm l E yX7_in cX7_in 6 (some .boolean) 0 [.long (v), .long (a), .long (b)] M (pB (¬ v < a ∧ ¬ b < v) M) := by
  refine Cm.of (by decide) (Nat.le_of_ble_eq_true rfl) (fun K k kt => ?_)
  show G l E K 0 [(0, .long (v)), (2, .long (a)), (4, .long (b))] [] M
  refine gs_lload_n (q := 0) k rfl rfl dX7_in_0 ?_
  refine gs_lload_n (q := 1) k rfl rfl dX7_in_1 ?_
  refine gs_lcmp k dX7_in_2 ?_
  refine gs_if_lt (tgt := 17) k (by decide) dX7_in_3 (fun c1 => ?_) (fun c1 => ?_)
  · refine gs_iconst (v := 0) k (by decide) dX7_in_17 ?_
    exact gs_zret k kt (by decide) dX7_in_18 (by first | exact pB1 ⟨fun h => (by assumption : ¬ lg_cmp v a < 0) ((lg_cmp_lt _ _).mpr h), fun h => (by assumption : ¬ 0 < lg_cmp v b) ((lg_cmp_gt _ _).mpr h)⟩ | exact pB0 (fun h => h.1 ((lg_cmp_lt _ _).mp (by assumption))) | exact pB0 (fun h => h.2 ((lg_cmp_gt _ _).mp (by assumption))))
  · refine gs_lload_n (q := 0) k rfl rfl dX7_in_6 ?_
    refine gs_lload (q := 2) k rfl dX7_in_7 ?_
    refine gs_lcmp k dX7_in_9 ?_
    refine gs_if_gt (tgt := 17) k (by decide) dX7_in_10 (fun c2 => ?_) (fun c2 => ?_)
    · refine gs_iconst (v := 0) k (by decide) dX7_in_17 ?_
      exact gs_zret k kt (by decide) dX7_in_18 (by first | exact pB1 ⟨fun h => (by assumption : ¬ lg_cmp v a < 0) ((lg_cmp_lt _ _).mpr h), fun h => (by assumption : ¬ 0 < lg_cmp v b) ((lg_cmp_gt _ _).mpr h)⟩ | exact pB0 (fun h => h.1 ((lg_cmp_lt _ _).mp (by assumption))) | exact pB0 (fun h => h.2 ((lg_cmp_gt _ _).mp (by assumption))))
    · refine gs_iconst (v := 1) k (by decide) dX7_in_13 ?_
      refine gs_goto (tgt := 18) k (by decide) dX7_in_14 ?_
      exact gs_zret k kt (by decide) dX7_in_18 (by first | exact pB1 ⟨fun h => (by assumption : ¬ lg_cmp v a < 0) ((lg_cmp_lt _ _).mpr h), fun h => (by assumption : ¬ 0 < lg_cmp v b) ((lg_cmp_gt _ _).mpr h)⟩ | exact pB0 (fun h => h.1 ((lg_cmp_lt _ _).mp (by assumption))) | exact pB0 (fun h => h.2 ((lg_cmp_gt _ _).mp (by assumption))))

theorem cf_X7_isPoint : CF yX7_isPoint cX7_isPoint 2 (some .boolean) 1 := ⟨cd_X7_isPoint, iz_X7, by decide, by decide +kernel, by decide +kernel, by decide +kernel⟩
set_option maxRecDepth 100000 in
set_option maxHeartbeats 4000000 in
theorem c_X7_isPoint {l : Launch} {E : Ev} {M : Mm} {n : Nat} (hI : ∀ k, k < 108 → k ∈ E.2.1) (hn : Rn M n) {x : Int32} : Cm l E yX7_isPoint cX7_isPoint 2 (some .boolean) 1 [.ref (E.2.2.1 65), .int x] M (pB (inR x n) M) := by
  refine Cm.of (by decide) (Nat.le_of_ble_eq_true rfl) (fun K k kt => ?_)
  show G l E K 0 [(0, .ref (E.2.2.1 65)), (1, .int x)] [] M
  have hn := hn
  obtain ⟨hn0, hn1, hn6⟩ := id hn
  have hp := p2_le6 hn6
  have hp2 := p2_ge2 hn1
  refine gs_iload_n (q := 1) k rfl rfl dX7_isPoint_0 ?_
  refine gs_i2l k dX7_isPoint_1 ?_
  refine gs_lconst (v := 0) k (by decide) dX7_isPoint_2 ?_
  refine gs_aload_n (q := 0) k rfl rfl dX7_isPoint_3 ?_
  refine gs_get (C := RX7) (T := TX7) (N := 27) (ci := 7) (k0 := 65) (j := 0) k (hI 65 (by omega)) rfl rfl inX7 (by decide) fl_X7_9 rfl rfl dX7_isPoint_4 ?_
  refine gs_iconst (v := 1) k (by decide) dX7_isPoint_7 ?_
  refine gs_isubN (a := n) (b := 1) k hn0 rfl (by omega) dX7_isPoint_8 ?_
  refine gs_i2l k dX7_isPoint_9 ?_
  refine gs_callS (As := [.long (x.toInt64), .long (0), .long ((nI (n - 1)).toInt64)]) k (Cm.iff (inL (by decide) (nI_p1_toInt64 (n := n) (by omega) (by omega))) c_X7_in) cf_X7_in sm_X7_in ml_X7_79 (by decide) rfl rfl (Nat.le_of_ble_eq_true rfl) dX7_isPoint_10 (ppB (fun c1 => ?_) (fun c1 => ?_))
  · have bc1 := inR_lt c1
    exact gs_zret k kt (by decide) dX7_isPoint_13 (pB1 c1)
  · exact gs_zret k kt (by decide) dX7_isPoint_13 (pB0 c1)

theorem cf_X7_sets : CF yX7_sets cX7_sets 1 (some .int) 0 := ⟨cd_X7_sets, iz_X7, by decide, by decide +kernel, by decide +kernel, by decide +kernel⟩
set_option maxRecDepth 100000 in
set_option maxHeartbeats 4000000 in
theorem c_X7_sets {l : Launch} {E : Ev} {M : Mm} {n : Nat} (hI : ∀ k, k < 108 → k ∈ E.2.1) (hn : Rn M n) : Cm l E yX7_sets cX7_sets 1 (some .int) 0 [.ref (E.2.2.1 65)] M (pI (nI (2 ^ n)) M) := by
  refine Cm.of (by decide) (Nat.le_of_ble_eq_true rfl) (fun K k kt => ?_)
  show G l E K 0 [(0, .ref (E.2.2.1 65))] [] M
  obtain ⟨hn0, hn1, hn6⟩ := hn
  have hp := p2_le6 hn6
  have hp2 := p2_ge2 hn1
  refine gs_iconst (v := 1) k (by decide) dX7_sets_0 ?_
  refine gs_aload_n (q := 0) k rfl rfl dX7_sets_1 ?_
  refine gs_get (C := RX7) (T := TX7) (N := 27) (ci := 7) (k0 := 65) (j := 0) k (hI 65 (by omega)) rfl rfl inX7 (by decide) fl_X7_9 rfl rfl dX7_sets_2 ?_
  refine gs_ishlN (b := n) k rfl hn0 (by omega) dX7_sets_5 ?_
  exact gs_iret k kt dX7_sets_6 ⟨rfl, rfl⟩

theorem cf_X7_all : CF yX7_all cX7_all 1 (some .int) 0 := ⟨cd_X7_all, iz_X7, by decide, by decide +kernel, by decide +kernel, by decide +kernel⟩
set_option maxRecDepth 100000 in
set_option maxHeartbeats 4000000 in
theorem c_X7_all {l : Launch} {E : Ev} {M : Mm} {n : Nat} (hI : ∀ k, k < 108 → k ∈ E.2.1) (hn : Rn M n) : Cm l E yX7_all cX7_all 1 (some .int) 1 [.ref (E.2.2.1 65)] M (pI (nI (2 ^ n - 1)) M) := by
  refine Cm.of (by decide) (Nat.le_of_ble_eq_true rfl) (fun K k kt => ?_)
  show G l E K 0 [(0, .ref (E.2.2.1 65))] [] M
  have hn := hn
  obtain ⟨hn0, hn1, hn6⟩ := id hn
  have hp := p2_le6 hn6
  have hp2 := p2_ge2 hn1
  refine gs_aload_n (q := 0) k rfl rfl dX7_all_0 ?_
  refine gs_callV (As := []) (k0 := 65) (ci := 7) (T := TX7) (N := 27) k (c_X7_sets hI hn) cf_X7_sets im_X7_sets sl_X7_sets ml_X7_83 (hI 65 (by omega)) rfl rfl (by decide) rfl rfl (Nat.le_of_ble_eq_true rfl) dX7_all_1 (ppI ?_)
  refine gs_iconst (v := 1) k (by decide) dX7_all_4 ?_
  refine gs_isubN (a := 2 ^ n) (b := 1) k rfl rfl (by omega) dX7_all_5 ?_
  exact gs_iret k kt dX7_all_6 ⟨rfl, rfl⟩

theorem cf_X7_isSet : CF yX7_isSet cX7_isSet 2 (some .boolean) 1 := ⟨cd_X7_isSet, iz_X7, by decide, by decide +kernel, by decide +kernel, by decide +kernel⟩
set_option maxRecDepth 100000 in
set_option maxHeartbeats 4000000 in
theorem c_X7_isSet {l : Launch} {E : Ev} {M : Mm} {n : Nat} (hI : ∀ k, k < 108 → k ∈ E.2.1) (hn : Rn M n) {x : Int32} : Cm l E yX7_isSet cX7_isSet 2 (some .boolean) 2 [.ref (E.2.2.1 65), .int x] M (pB (inR x (2 ^ n)) M) := by
  refine Cm.of (by decide) (Nat.le_of_ble_eq_true rfl) (fun K k kt => ?_)
  show G l E K 0 [(0, .ref (E.2.2.1 65)), (1, .int x)] [] M
  have hn := hn
  obtain ⟨hn0, hn1, hn6⟩ := id hn
  have hp := p2_le6 hn6
  have hp2 := p2_ge2 hn1
  refine gs_iload_n (q := 1) k rfl rfl dX7_isSet_0 ?_
  refine gs_i2l k dX7_isSet_1 ?_
  refine gs_lconst (v := 0) k (by decide) dX7_isSet_2 ?_
  refine gs_aload_n (q := 0) k rfl rfl dX7_isSet_3 ?_
  refine gs_callV (As := []) (k0 := 65) (ci := 7) (T := TX7) (N := 27) k (c_X7_all hI hn) cf_X7_all im_X7_all sl_X7_all ml_X7_87 (hI 65 (by omega)) rfl rfl (by decide) rfl rfl (Nat.le_of_ble_eq_true rfl) dX7_isSet_4 (ppI ?_)
  refine gs_i2l k dX7_isSet_7 ?_
  refine gs_callS (As := [.long (x.toInt64), .long (0), .long ((nI (2 ^ n - 1)).toInt64)]) k (Cm.iff (inL (by decide) (nI_p1_toInt64 (n := 2 ^ n) (by omega) (by omega))) c_X7_in) cf_X7_in sm_X7_in ml_X7_79 (by decide) rfl rfl (Nat.le_of_ble_eq_true rfl) dX7_isSet_8 (ppB (fun c1 => ?_) (fun c1 => ?_))
  · have bc1 := inR_lt c1
    exact gs_zret k kt (by decide) dX7_isSet_11 (pB1 c1)
  · exact gs_zret k kt (by decide) dX7_isSet_11 (pB0 c1)

theorem cf_X7_isFunction : CF yX7_isFunction cX7_isFunction 1 (some .boolean) 1 := ⟨cd_X7_isFunction, iz_X7, by decide, by decide +kernel, by decide +kernel, by decide +kernel⟩
set_option maxRecDepth 100000 in
set_option maxHeartbeats 4000000 in
theorem c_X7_isFunction {l : Launch} {E : Ev} {M : Mm} {x : Int32} : Cm l E yX7_isFunction cX7_isFunction 1 (some .boolean) 1 [.int x] M (pB (inR x 6) M) := by
  refine Cm.of (by decide) (Nat.le_of_ble_eq_true rfl) (fun K k kt => ?_)
  show G l E K 0 [(0, .int x)] [] M
  refine gs_iload_n (q := 0) k rfl rfl dX7_isFunction_0 ?_
  refine gs_i2l k dX7_isFunction_1 ?_
  refine gs_lconst (v := 0) k (by decide) dX7_isFunction_2 ?_
  refine gs_ldc2 (v := 5) k cl_X7_109 dX7_isFunction_3 ?_
  refine gs_callS (As := [.long (x.toInt64), .long (0), .long (5)]) k (Cm.iff (inL (n := 6) (by decide) (by decide)) c_X7_in) cf_X7_in sm_X7_in ml_X7_79 (by decide) rfl rfl (Nat.le_of_ble_eq_true rfl) dX7_isFunction_6 (ppB (fun c1 => ?_) (fun c1 => ?_))
  · have bc1 := inR_lt c1
    exact gs_zret k kt (by decide) dX7_isFunction_9 (pB1 c1)
  · exact gs_zret k kt (by decide) dX7_isFunction_9 (pB0 c1)

theorem cf_X7_isBlock : CF yX7_isBlock cX7_isBlock 1 (some .boolean) 1 := ⟨cd_X7_isBlock, iz_X7, by decide, by decide +kernel, by decide +kernel, by decide +kernel⟩
set_option maxRecDepth 100000 in
set_option maxHeartbeats 4000000 in
theorem c_X7_isBlock {l : Launch} {E : Ev} {M : Mm} {x : Int32} : Cm l E yX7_isBlock cX7_isBlock 1 (some .boolean) 1 [.int x] M (pB (inR x 6) M) := by
  refine Cm.of (by decide) (Nat.le_of_ble_eq_true rfl) (fun K k kt => ?_)
  show G l E K 0 [(0, .int x)] [] M
  refine gs_iload_n (q := 0) k rfl rfl dX7_isBlock_0 ?_
  refine gs_i2l k dX7_isBlock_1 ?_
  refine gs_lconst (v := 0) k (by decide) dX7_isBlock_2 ?_
  refine gs_ldc2 (v := 5) k cl_X7_109 dX7_isBlock_3 ?_
  refine gs_callS (As := [.long (x.toInt64), .long (0), .long (5)]) k (Cm.iff (inL (n := 6) (by decide) (by decide)) c_X7_in) cf_X7_in sm_X7_in ml_X7_79 (by decide) rfl rfl (Nat.le_of_ble_eq_true rfl) dX7_isBlock_6 (ppB (fun c1 => ?_) (fun c1 => ?_))
  · have bc1 := inR_lt c1
    exact gs_zret k kt (by decide) dX7_isBlock_9 (pB1 c1)
  · exact gs_zret k kt (by decide) dX7_isBlock_9 (pB0 c1)

theorem cf_X7_isList : CF yX7_isList cX7_isList 1 (some .boolean) 1 := ⟨cd_X7_isList, iz_X7, by decide, by decide +kernel, by decide +kernel, by decide +kernel⟩
set_option maxRecDepth 100000 in
set_option maxHeartbeats 4000000 in
theorem c_X7_isList {l : Launch} {E : Ev} {M : Mm} {x : Int32} : Cm l E yX7_isList cX7_isList 1 (some .boolean) 1 [.int x] M (pB (inR x 4) M) := by
  refine Cm.of (by decide) (Nat.le_of_ble_eq_true rfl) (fun K k kt => ?_)
  show G l E K 0 [(0, .int x)] [] M
  refine gs_iload_n (q := 0) k rfl rfl dX7_isList_0 ?_
  refine gs_i2l k dX7_isList_1 ?_
  refine gs_lconst (v := 0) k (by decide) dX7_isList_2 ?_
  refine gs_ldc2 (v := 3) k cl_X7_218 dX7_isList_3 ?_
  refine gs_callS (As := [.long (x.toInt64), .long (0), .long (3)]) k (Cm.iff (inL (n := 4) (by decide) (by decide)) c_X7_in) cf_X7_in sm_X7_in ml_X7_79 (by decide) rfl rfl (Nat.le_of_ble_eq_true rfl) dX7_isList_6 (ppB (fun c1 => ?_) (fun c1 => ?_))
  · have bc1 := inR_lt c1
    exact gs_zret k kt (by decide) dX7_isList_9 (pB1 c1)
  · exact gs_zret k kt (by decide) dX7_isList_9 (pB0 c1)

theorem cf_X7_isValue : CF yX7_isValue cX7_isValue 2 (some .boolean) 1 := ⟨cd_X7_isValue, iz_X7, by decide, by decide +kernel, by decide +kernel, by decide +kernel⟩
set_option maxRecDepth 100000 in
set_option maxHeartbeats 4000000 in
theorem c_X7_isValue {l : Launch} {E : Ev} {M : Mm} {v : Int64} : Cm l E yX7_isValue cX7_isValue 2 (some .boolean) 1 [.long (v)] M (pB (¬ v < -999999 ∧ ¬ 999999 < v) M) := by
  refine Cm.of (by decide) (Nat.le_of_ble_eq_true rfl) (fun K k kt => ?_)
  show G l E K 0 [(0, .long (v))] [] M
  refine gs_lload_n (q := 0) k rfl rfl dX7_isValue_0 ?_
  refine gs_ldc2 (v := -999999) k cl_X7_131 dX7_isValue_1 ?_
  refine gs_ldc2 (v := 999999) k cl_X7_133 dX7_isValue_4 ?_
  refine gs_callS (As := [.long (v), .long (-999999), .long (999999)]) k c_X7_in cf_X7_in sm_X7_in ml_X7_79 (by decide) rfl rfl (Nat.le_of_ble_eq_true rfl) dX7_isValue_7 (ppB (fun c1 => ?_) (fun c1 => ?_))
  · exact gs_zret k kt (by decide) dX7_isValue_10 (pB1 c1)
  · exact gs_zret k kt (by decide) dX7_isValue_10 (pB0 c1)

