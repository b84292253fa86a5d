theorem nnlt {x : Int32} {a : Nat} (h : x = nI a) (ha : a < 2 ^ 31) : ¬ x < 0 := by rw [h]; exact nI_pos ha
theorem nnge {x : Int32} {a : Nat} (h : x = nI a) (ha : a < 2 ^ 31) : 0 ≤ x := by rw [h]; exact nI_pos' ha
theorem nnne {x c : Int32} {a : Nat} (h : x = nI a) (ha : a < 2 ^ 31) (hc : c < 0) : ¬ x = c := fun e => nnlt h ha (by rw [e]; exact hc)
theorem for_upJ {σ : Type} (F : Nat → σ → Prop) (J : Nat → σ → Prop) (f : Nat → σ → σ) (N : Nat) (hJ : ∀ i s, i < N → J i s → J (i + 1) (f i s)) (hs : ∀ i s, i < N → J i s → (∀ s', s' = f i s → F (i + 1) s') → F i s) : ∀ (k i : Nat) (s : σ), i + k = N → J i s → (J N (lp f k i s) → F N (lp f k i s)) → F i s := by
  intro k
  induction k with
  | zero => intro i s h h0 hF
            have e : i = N := by omega
            subst e; exact hF h0
  | succ k ih => intro i s h h0 hF; exact hs i s (by omega) h0 (fun s' e => by subst e; exact ih (i + 1) _ (by omega) (hJ i s (by omega) h0) hF)
theorem lp_J {σ : Type} {f : Nat → σ → σ} (J : Nat → σ → Prop) (N : Nat) (hJ : ∀ i s, i < N → J i s → J (i + 1) (f i s)) : ∀ (k i : Nat) (s : σ), i + k = N → J i s → J N (lp f k i s) := by
  intro k
  induction k with
  | zero => intro i s h h0
            have e : i = N := by omega
            subst e; exact h0
  | succ k ih => intro i s h h0; exact ih (i + 1) _ (by omega) (hJ i s (by omega) h0)
def ob (c : Int32) (o : Option Nat) : Int32 := match o with
  | none => c
  | some p => nI p
/-- how many of the first six bits -/
def pcn (S : Nat) : Nat := S % 2 + S / 2 % 2 + S / 4 % 2 + S / 8 % 2 + S / 16 % 2 + S / 32 % 2
def bc1 (x : Int32) : Int32 := x - ((x.toUInt32 >>> ((1 : Int32).toUInt32 &&& Int32.toUInt32 31)).toInt32 &&& 1431655765)
def bc2 (x : Int32) : Int32 := (x &&& 858993459) + ((x.toUInt32 >>> ((2 : Int32).toUInt32 &&& Int32.toUInt32 31)).toInt32 &&& 858993459)
def bc3 (x : Int32) : Int32 := (x + (x.toUInt32 >>> ((4 : Int32).toUInt32 &&& Int32.toUInt32 31)).toInt32) &&& 252645135
def bc4 (x : Int32) : Int32 := x + (x.toUInt32 >>> ((8 : Int32).toUInt32 &&& Int32.toUInt32 31)).toInt32
def bc5 (x : Int32) : Int32 := x + (x.toUInt32 >>> ((16 : Int32).toUInt32 &&& Int32.toUInt32 31)).toInt32
theorem bc_ok : ∀ S, S < 64 → bc5 (bc4 (bc3 (bc2 (bc1 (nI S))))) &&& 63 = nI (pcn S) := by decide +kernel
theorem pcn_le (S : Nat) : pcn S ≤ 6 := by unfold pcn; omega

theorem cf_J6_bitCount_0f7a4 : CF yJ6_bitCount_0f7a4 cJ6_bitCount_0f7a4 1 (some .int) 1 := ⟨cd_J6_bitCount_0f7a4, iz_J6, by decide, by decide +kernel, by decide +kernel, by decide +kernel⟩
set_option maxRecDepth 100000 in
set_option maxHeartbeats 4000000 in
theorem c_J6_bitCount_0f7a4 {l : Launch} {E : Ev} {M : Mm} {x : Int32} {S : Nat} (hx : x = nI S) (hS : S < 64) : Cm l E yJ6_bitCount_0f7a4 cJ6_bitCount_0f7a4 1 (some .int) 0 [.int x] M (pI (nI (pcn S)) M) := by
  refine Cm.of (by decide) (Nat.le_of_ble_eq_true rfl) (fun K k kt => ?_)
  show G l E K 0 [(0, .int x)] [] M
  refine gs_iload_n (q := 0) k rfl rfl dJ6_bitCount_0f7a4_0 ?_
  refine gs_iload_n (q := 0) k rfl rfl dJ6_bitCount_0f7a4_1 ?_
  refine gs_iconst (v := 1) k (by decide) dJ6_bitCount_0f7a4_2 ?_
  refine gs_iushr (v := (x.toUInt32 >>> ((1 : Int32).toUInt32 &&& Int32.toUInt32 31)).toInt32) k rfl dJ6_bitCount_0f7a4_3 ?_
  refine gs_ldcw (v := 1431655765) k cn_J6_265 dJ6_bitCount_0f7a4_4 ?_
  refine gs_iand k dJ6_bitCount_0f7a4_7 ?_
  refine gs_isub k dJ6_bitCount_0f7a4_8 ?_
  refine gs_top (y := bc1 x) rfl ?_
  refine gs_istore_n (lv' := [(0, .int (bc1 x))]) k rfl (by decide) rfl dJ6_bitCount_0f7a4_9 ?_
  refine gs_iload_n (q := 0) k rfl rfl dJ6_bitCount_0f7a4_10 ?_
  refine gs_ldcw (v := 858993459) k cn_J6_266 dJ6_bitCount_0f7a4_11 ?_
  refine gs_iand k dJ6_bitCount_0f7a4_14 ?_
  refine gs_iload_n (q := 0) k rfl rfl dJ6_bitCount_0f7a4_15 ?_
  refine gs_iconst (v := 2) k (by decide) dJ6_bitCount_0f7a4_16 ?_
  refine gs_iushr (v := ((bc1 x).toUInt32 >>> ((2 : Int32).toUInt32 &&& Int32.toUInt32 31)).toInt32) k rfl dJ6_bitCount_0f7a4_17 ?_
  refine gs_ldcw (v := 858993459) k cn_J6_266 dJ6_bitCount_0f7a4_18 ?_
  refine gs_iand k dJ6_bitCount_0f7a4_21 ?_
  refine gs_iadd k dJ6_bitCount_0f7a4_22 ?_
  refine gs_top (y := bc2 (bc1 x)) rfl ?_
  refine gs_istore_n (lv' := [(0, .int (bc2 (bc1 x)))]) k rfl (by decide) rfl dJ6_bitCount_0f7a4_23 ?_
  refine gs_iload_n (q := 0) k rfl rfl dJ6_bitCount_0f7a4_24 ?_
  refine gs_iload_n (q := 0) k rfl rfl dJ6_bitCount_0f7a4_25 ?_
  refine gs_iconst (v := 4) k (by decide) dJ6_bitCount_0f7a4_26 ?_
  refine gs_iushr (v := ((bc2 (bc1 x)).toUInt32 >>> ((4 : Int32).toUInt32 &&& Int32.toUInt32 31)).toInt32) k rfl dJ6_bitCount_0f7a4_27 ?_
  refine gs_iadd k dJ6_bitCount_0f7a4_28 ?_
  refine gs_ldcw (v := 252645135) k cn_J6_267 dJ6_bitCount_0f7a4_29 ?_
  refine gs_iand k dJ6_bitCount_0f7a4_32 ?_
  refine gs_top (y := bc3 (bc2 (bc1 x))) rfl ?_
  refine gs_istore_n (lv' := [(0, .int (bc3 (bc2 (bc1 x))))]) k rfl (by decide) rfl dJ6_bitCount_0f7a4_33 ?_
  refine gs_iload_n (q := 0) k rfl rfl dJ6_bitCount_0f7a4_34 ?_
  refine gs_iload_n (q := 0) k rfl rfl dJ6_bitCount_0f7a4_35 ?_
  refine gs_bipush (v := 8) k (by decide) dJ6_bitCount_0f7a4_36 ?_
  refine gs_iushr (v := ((bc3 (bc2 (bc1 x))).toUInt32 >>> ((8 : Int32).toUInt32 &&& Int32.toUInt32 31)).toInt32) k rfl dJ6_bitCount_0f7a4_38 ?_
  refine gs_iadd k dJ6_bitCount_0f7a4_39 ?_
  refine gs_top (y := bc4 (bc3 (bc2 (bc1 x)))) rfl ?_
  refine gs_istore_n (lv' := [(0, .int (bc4 (bc3 (bc2 (bc1 x)))))]) k rfl (by decide) rfl dJ6_bitCount_0f7a4_40 ?_
  refine gs_iload_n (q := 0) k rfl rfl dJ6_bitCount_0f7a4_41 ?_
  refine gs_iload_n (q := 0) k rfl rfl dJ6_bitCount_0f7a4_42 ?_
  refine gs_bipush (v := 16) k (by decide) dJ6_bitCount_0f7a4_43 ?_
  refine gs_iushr (v := ((bc4 (bc3 (bc2 (bc1 x)))).toUInt32 >>> ((16 : Int32).toUInt32 &&& Int32.toUInt32 31)).toInt32) k rfl dJ6_bitCount_0f7a4_45 ?_
  refine gs_iadd k dJ6_bitCount_0f7a4_46 ?_
  refine gs_top (y := bc5 (bc4 (bc3 (bc2 (bc1 x))))) rfl ?_
  refine gs_istore_n (lv' := [(0, .int (bc5 (bc4 (bc3 (bc2 (bc1 x))))))]) k rfl (by decide) rfl dJ6_bitCount_0f7a4_47 ?_
  refine gs_iload_n (q := 0) k rfl rfl dJ6_bitCount_0f7a4_48 ?_
  refine gs_bipush (v := 63) k (by decide) dJ6_bitCount_0f7a4_49 ?_
  refine gs_iand k dJ6_bitCount_0f7a4_51 ?_
  exact gs_iret k kt dJ6_bitCount_0f7a4_52 ⟨(by rw [hx, bc_ok S hS]), rfl⟩

theorem cf_X7_many : CF yX7_many cX7_many 1 (some .int) 1 := ⟨cd_X7_many, iz_X7, by decide, by decide +kernel, by decide +kernel, by decide +kernel⟩
set_option maxRecDepth 100000 in
set_option maxHeartbeats 4000000 in
theorem c_X7_many {l : Launch} {E : Ev} {M : Mm} {x : Int32} {S : Nat} (hx : x = nI S) (hS : S < 64) : Cm l E yX7_many cX7_many 1 (some .int) 1 [.int x] M (pI (nI (pcn S)) M) := by
  refine Cm.of (by decide) (Nat.le_of_ble_eq_true rfl) (fun K k kt => ?_)
  show G l E K 0 [(0, .int x)] [] M
  refine gs_iload_n (q := 0) k rfl rfl dX7_many_0 ?_
  refine gs_callS (As := [.int x]) k (c_J6_bitCount_0f7a4 (S := S) hx (by omega)) cf_J6_bitCount_0f7a4 sm_J6_bitCount_0f7a4 ml_X7_90 (by decide) rfl rfl (Nat.le_of_ble_eq_true rfl) dX7_many_1 (ppI ?_)
  have hpc1 := pcn_le S
  exact gs_iret k kt dX7_many_4 ⟨rfl, rfl⟩

def smc (v : Nat → Int32) (a b : Nat) : Prop := v a < v b ∨ (v a = v b ∧ pcn a < pcn b)
/-- the first S with P, then every S with P that is better (Q) than what is held -/
def ostep (P : Prop) [Decidable P] (Q : Nat → Prop) [DecidablePred Q] (S : Nat) (o : Option Nat) : Option Nat := if P then (match o with
  | none => some S
  | some b => if Q b then some S else some b) else o
section OS
variable {P : Prop} {Q : Nat → Prop} {S b : Nat} {o : Option Nat} {dP : Decidable P} {dQ : DecidablePred Q}
theorem os_skip (h : ¬ P) : o = ostep P Q S o := by unfold ostep; rw [if_neg h]
theorem os_first (h : P) : some S = ostep P Q S none := by unfold ostep; rw [if_pos h]
theorem os_take (h : P) (q : Q b) : some S = ostep P Q S (some b) := by unfold ostep; rw [if_pos h]; show _ = if Q b then some S else some b; rw [if_pos q]
theorem os_keep (h : P) (q : ¬ Q b) : some b = ostep P Q S (some b) := by unfold ostep; rw [if_pos h]; show _ = if Q b then some S else some b; rw [if_neg q]
theorem os_J {B : Nat → Prop} (hS : P → B S) (h : ∀ q, o = some q → B q) : ∀ q, ostep P Q S o = some q → B q := by
  intro q e
  by_cases c : P
  · cases o with
    | none => rw [← os_first c] at e; cases e; exact hS c
    | some b =>
      by_cases d : Q b
      · rw [← os_take c d] at e; cases e; exact hS c
      · rw [← os_keep c d] at e; cases e; exact h _ rfl
  · rw [← os_skip c] at e; exact h q e
theorem os_some {b : Nat} : ∃ q, ostep P Q S (some b) = some q := by
  by_cases c : P
  · by_cases d : Q b
    · exact ⟨_, (os_take c d).symm⟩
    · exact ⟨_, (os_keep c d).symm⟩
  · exact ⟨_, (os_skip c).symm⟩
theorem os_now (h : P) : ∃ q, ostep P Q S o = some q := by
  cases o with
  | none => exact ⟨_, (os_first h).symm⟩
  | some b => exact os_some
end OS
def wallC (v : Nat → Int32) (n s t : Nat) : Nat := lp (fun S b => if S.testBit s = true ∧ ¬ S.testBit t = true ∧ (v S < v b ∨ (v S = v b ∧ pcn S < pcn b)) then S else b) (2 ^ n) 0 (2 ^ s)
def wallR (v : Nat → Int32) (n s t : Nat) : Option Nat := lp (fun S o => ostep (S.testBit s = true ∧ ¬ S.testBit t = true) (fun b => v S < v b ∨ (v S = v b ∧ pcn S < pcn b)) S o) (2 ^ n) 0 none
def bestC (v : Nat → Int32) (n k : Nat) : Nat := lp (fun S b => if pcn S = k ∧ v b < v S then S else b) (2 ^ n) 0 (2 ^ k - 1)
def bestR (v : Nat → Int32) (n k : Nat) : Option Nat := lp (fun S o => ostep (pcn S = k) (fun b => v b < v S) S o) (2 ^ n) 0 none
def gbest (v : Nat → Int32) (n S : Nat) : Option Nat := lp (fun p o => ostep (¬ S.testBit p = true) (fun b => gn v S b < gn v S p) p o) n 0 none
def gstep (v : Nat → Int32) (n S : Nat) : Nat := match gbest v n S with
  | none => S
  | some p => S ||| 2 ^ p
def greedyS (v : Nat → Int32) (n k : Nat) : Nat := lp (fun _ S => gstep v n S) k 0 0
theorem pc_room : ∀ n, n < 7 → ∀ S, S < 2 ^ n → pcn S < n → ∃ p, p < n ∧ ¬ S.testBit p = true := by
  have H : ∀ n, n < 7 → ∀ S, S < 2 ^ n → pcn S < n → (List.range n).any (fun p => !S.testBit p) = true := by decide +kernel
  intro n hn S hS hp
  obtain ⟨p, h1, h2⟩ := List.any_eq_true.mp (H n hn S hS hp)
  exact ⟨p, List.mem_range.mp h1, by simpa using h2⟩
theorem pc_add : ∀ S, S < 64 → ∀ p, p < 6 → S.testBit p = false → pcn (S ||| 2 ^ p) = pcn S + 1 := by decide +kernel
theorem gbest_J (v : Nat → Int32) (n S : Nat) : ∀ p, gbest v n S = some p → p < n ∧ ¬ S.testBit p = true :=
  lp_J (fun i o => ∀ p, o = some p → p < n ∧ ¬ S.testBit p = true) n (fun _ _ hi h => os_J (B := fun p => p < n ∧ ¬ S.testBit p = true) (fun c => ⟨hi, c⟩) h) n 0 none (by omega) (by intro p hp; cases hp)
theorem gbest_some {v : Nat → Int32} {n S : Nat} (h : ∃ p, p < n ∧ ¬ S.testBit p = true) : ∃ p, gbest v n S = some p := by
  obtain ⟨p0, h1, h2⟩ := h
  refine lp_J (fun i o => p0 < i → ∃ p, o = some p) n (fun i o hi h hi2 => ?_) n 0 none (by omega) (by omega) h1
  by_cases e : p0 = i
  · subst e; exact os_now h2
  · obtain ⟨p, hp⟩ := h (by omega)
    subst hp
    exact os_some
theorem gstep_ok {v : Nat → Int32} {n S i : Nat} (hn : n ≤ 6) (hS : S < 2 ^ n) (hi : i < n) (hp : pcn S = i) : gstep v n S < 2 ^ n ∧ pcn (gstep v n S) = i + 1 := by
  obtain ⟨p, e⟩ := gbest_some (v := v) (pc_room n (by omega) S hS (by omega))
  obtain ⟨h1, h2⟩ := gbest_J v n S p e
  have h6 := p2_le6 hn
  unfold gstep
  rw [e]
  refine ⟨orlt hS h1, ?_⟩
  show pcn (S ||| 2 ^ p) = i + 1
  rw [pc_add S (by omega) p (by omega) (by simpa using h2), hp]

theorem cf_X3_isSmallerCut : CF yX3_isSmallerCut cX3_isSmallerCut 3 (some .boolean) 2 := ⟨cd_X3_isSmallerCut, iz_X3, by decide, by decide +kernel, by decide +kernel, by decide +kernel⟩
set_option maxRecDepth 100000 in
set_option maxHeartbeats 4000000 in
theorem c_X3_isSmallerCut {l : Launch} {E : Ev} {M : Mm} {n : Nat} {kd : Nat → Int32} {V : Nat → Nat → Int32} (hI : ∀ k, k < 108 → k ∈ E.2.1) (hF : CFn M n kd V) {f : Nat} (hf : f < 6) (hn1 : 1 ≤ n) (hn6 : n ≤ 6) {a b : Int32} {S T : Nat} (ha : a = nI S) (hb : b = nI T) (hS : S < 2 ^ n) (hT : T < 2 ^ n) : Cm l E yX3_isSmallerCut cX3_isSmallerCut 3 (some .boolean) 1 [.ref (E.2.2.1 (10 + 2 * f)), .int a, .int b] M (pB (smc (V f) S T) M) := by
  refine Cm.of (by decide) (Nat.le_of_ble_eq_true rfl) (fun K k kt => ?_)
  show G l E K 0 [(0, .ref (E.2.2.1 (10 + 2 * f))), (1, .int a), (2, .int b)] [] M
  have hp := p2_le6 hn6
  have hp2 := p2_ge2 hn1
  refine gs_aload_n (q := 0) k rfl rfl dX3_isSmallerCut_0 ?_
  refine gs_get (C := RX3) (T := TX3) (N := 2) (ci := 3) (k0 := (10 + 2 * f)) (j := 1) k (hI (10 + 2 * f) (by omega)) (ent_F1 hf _) rfl inX3 (by decide) fl_X3_15 rfl rfl dX3_isSmallerCut_1 ?_
  refine gs_iload_n (q := 1) k rfl rfl dX3_isSmallerCut_4 ?_
  refine gs_ialdN (k0 := (11 + 2 * f)) (n := 64) (e := S) k (hI (11 + 2 * f) (by omega)) (ent_V1 hf) ha (by omega) (by decide) dX3_isSmallerCut_5 ?_
  refine gs_top (y := V f S) ((hF f hf).2.2 S (by omega)) ?_
  refine gs_aload_n (q := 0) k rfl rfl dX3_isSmallerCut_6 ?_
  refine gs_get (C := RX3) (T := TX3) (N := 2) (ci := 3) (k0 := (10 + 2 * f)) (j := 1) k (hI (10 + 2 * f) (by omega)) (ent_F1 hf _) rfl inX3 (by decide) fl_X3_15 rfl rfl dX3_isSmallerCut_7 ?_
  refine gs_iload_n (q := 2) k rfl rfl dX3_isSmallerCut_10 ?_
  refine gs_ialdN (k0 := (11 + 2 * f)) (n := 64) (e := T) k (hI (11 + 2 * f) (by omega)) (ent_V1 hf) hb (by omega) (by decide) dX3_isSmallerCut_11 ?_
  refine gs_top (y := V f T) ((hF f hf).2.2 T (by omega)) ?_
  refine gs_icmp_eq (tgt := 36) k (by decide) dX3_isSmallerCut_12 (fun c1 => ?_) (fun c1 => ?_)
  · refine gs_iload_n (q := 1) k rfl rfl dX3_isSmallerCut_36 ?_
    refine gs_callS (As := [.int a]) k (c_J6_bitCount_0f7a4 (S := S) ha (by omega)) cf_J6_bitCount_0f7a4 sm_J6_bitCount_0f7a4 ml_X3_55 (by decide) rfl rfl (Nat.le_of_ble_eq_true rfl) dX3_isSmallerCut_37 (ppI ?_)
    have hpc2 := pcn_le S
    refine gs_iload_n (q := 2) k rfl rfl dX3_isSmallerCut_40 ?_
    refine gs_callS (As := [.int b]) k (c_J6_bitCount_0f7a4 (S := T) hb (by omega)) cf_J6_bitCount_0f7a4 sm_J6_bitCount_0f7a4 ml_X3_55 (by decide) rfl rfl (Nat.le_of_ble_eq_true rfl) dX3_isSmallerCut_41 (ppI ?_)
    have hpc3 := pcn_le T
    refine gs_icmpN_ge (a := pcn S) (b := pcn T) (tgt := 51) k rfl rfl (by omega) (by omega) (by decide) dX3_isSmallerCut_44 (fun c2 => ?_) (fun c2 => ?_)
    · refine gs_iconst (v := 0) k (by decide) dX3_isSmallerCut_51 ?_
      exact gs_zret k kt (by decide) dX3_isSmallerCut_52 (pB0 (fun q => q.elim (fun q => Int32.lt_irrefl (by rw [c1] at q; exact q)) (fun q => absurd q.2 (by omega))))
    · refine gs_iconst (v := 1) k (by decide) dX3_isSmallerCut_47 ?_
      refine gs_goto (tgt := 52) k (by decide) dX3_isSmallerCut_48 ?_
      exact gs_zret k kt (by decide) dX3_isSmallerCut_52 (pB1 (Or.inr ⟨c1, c2⟩))
  · refine gs_aload_n (q := 0) k rfl rfl dX3_isSmallerCut_15 ?_
    refine gs_get (C := RX3) (T := TX3) (N := 2) (ci := 3) (k0 := (10 + 2 * f)) (j := 1) k (hI (10 + 2 * f) (by omega)) (ent_F1 hf _) rfl inX3 (by decide) fl_X3_15 rfl rfl dX3_isSmallerCut_16 ?_
    refine gs_iload_n (q := 1) k rfl rfl dX3_isSmallerCut_19 ?_
    refine gs_ialdN (k0 := (11 + 2 * f)) (n := 64) (e := S) k (hI (11 + 2 * f) (by omega)) (ent_V1 hf) ha (by omega) (by decide) dX3_isSmallerCut_20 ?_
    refine gs_top (y := V f S) ((hF f hf).2.2 S (by omega)) ?_
    refine gs_aload_n (q := 0) k rfl rfl dX3_isSmallerCut_21 ?_
    refine gs_get (C := RX3) (T := TX3) (N := 2) (ci := 3) (k0 := (10 + 2 * f)) (j := 1) k (hI (10 + 2 * f) (by omega)) (ent_F1 hf _) rfl inX3 (by decide) fl_X3_15 rfl rfl dX3_isSmallerCut_22 ?_
    refine gs_iload_n (q := 2) k rfl rfl dX3_isSmallerCut_25 ?_
    refine gs_ialdN (k0 := (11 + 2 * f)) (n := 64) (e := T) k (hI (11 + 2 * f) (by omega)) (ent_V1 hf) hb (by omega) (by decide) dX3_isSmallerCut_26 ?_
    refine gs_top (y := V f T) ((hF f hf).2.2 T (by omega)) ?_
    refine gs_icmp_ge (tgt := 34) k (by decide) dX3_isSmallerCut_27 (fun c3 => ?_) (fun c3 => ?_)
    · refine gs_iconst (v := 0) k (by decide) dX3_isSmallerCut_34 ?_
      exact gs_zret k kt (by decide) dX3_isSmallerCut_35 (pB0 (fun q => q.elim (fun q => Int32.not_le.mpr q c3) (fun q => c1 q.1)))
    · refine gs_iconst (v := 1) k (by decide) dX3_isSmallerCut_30 ?_
      refine gs_goto (tgt := 35) k (by decide) dX3_isSmallerCut_31 ?_
      exact gs_zret k kt (by decide) dX3_isSmallerCut_35 (pB1 (Or.inl (Int32.not_le.mp c3)))

theorem cf_X3_leastApart : CF yX3_leastApart cX3_leastApart 6 (some .int) 3 := ⟨cd_X3_leastApart, iz_X3, by decide, by decide +kernel, by decide +kernel, by decide +kernel⟩
set_option maxRecDepth 100000 in
set_option maxHeartbeats 4000000 in
theorem c_X3_leastApart {l : Launch} {E : Ev} {M : Mm} {n : Nat} {kd : Nat → Int32} {V : Nat → Nat → Int32} (hI : ∀ k, k < 108 → k ∈ E.2.1) (hF : CFn M n kd V) {f : Nat} (hf : f < 6) (hn1 : 1 ≤ n) (hn6 : n ≤ 6) {y p q : Int32} {s t : Nat} (hy : y = nI n) (hp0 : p = nI s) (hq : q = nI t) (hs : s < n) (ht : t < n) : Cm l E yX3_leastApart cX3_leastApart 6 (some .int) 2 [.ref (E.2.2.1 (10 + 2 * f)), .int y, .int p, .int q] M (pI (nI (wallC (V f) n s t)) M) := by
  refine Cm.of (by decide) (Nat.le_of_ble_eq_true rfl) (fun K k kt => ?_)
  show G l E K 0 [(0, .ref (E.2.2.1 (10 + 2 * f))), (1, .int y), (2, .int p), (3, .int q)] [] M
  have hp := p2_le6 hn6
  have hp2 := p2_ge2 hn1
  have hs2 : 2 ^ s < 2 ^ n := Nat.pow_lt_pow_right (by omega) hs
  refine gs_iconst (v := 1) k (by decide) dX3_leastApart_0 ?_
  refine gs_iload_n (q := 2) k rfl rfl dX3_leastApart_1 ?_
  refine gs_ishlN (b := s) k rfl hp0 (by omega) dX3_leastApart_2 ?_
  refine gs_istore (lv' := [(4, .int (nI (2 ^ s))), (0, .ref (E.2.2.1 (10 + 2 * f))), (1, .int y), (2, .int p), (3, .int q)]) k (by decide) rfl dX3_leastApart_3 ?_
  refine gs_iconst (v := 0) k (by decide) dX3_leastApart_5 ?_
  refine gs_istore (lv' := [(5, .int 0), (4, .int (nI (2 ^ s))), (0, .ref (E.2.2.1 (10 + 2 * f))), (1, .int y), (2, .int p), (3, .int q)]) k (by decide) rfl dX3_leastApart_6 ?_
  refine gs_lv (lv' := [(0, .ref (E.2.2.1 (10 + 2 * f))), (1, .int y), (2, .int p), (3, .int q), (4, .int (nI (2 ^ s))), (5, .int 0)]) [2, 3, 4, 5, 1, 0] rfl ?_
  refine for_upJ (σ := Nat) (fun S b => G l E K 8 [(0, .ref (E.2.2.1 (10 + 2 * f))), (1, .int y), (2, .int p), (3, .int q), (4, .int (nI b)), (5, .int (nI S))] [] M) (fun S b => b < 2 ^ n) (fun S b => if S.testBit s = true ∧ ¬ S.testBit t = true ∧ (V f S < V f b ∨ (V f S = V f b ∧ pcn S < pcn b)) then S else b) (2 ^ n) (fun S b hS hb => by split <;> assumption) (fun S b hS hJS hGS => ?_) (2 ^ n) 0 (2 ^ s) (by omega) hs2 (fun hJS => ?_)
  · show G l E K 8 [(0, .ref (E.2.2.1 (10 + 2 * f))), (1, .int y), (2, .int p), (3, .int q), (4, .int (nI b)), (5, .int (nI S))] [] M
    refine gs_iload (q := 5) k rfl dX3_leastApart_8 ?_
    refine gs_iconst (v := 1) k (by decide) dX3_leastApart_10 ?_
    refine gs_iload_n (q := 1) k rfl rfl dX3_leastApart_11 ?_
    refine gs_ishlN (b := n) k rfl hy (by omega) dX3_leastApart_12 ?_
    refine gs_icmpN_ge (a := S) (b := 2 ^ n) (tgt := 55) k rfl rfl (by omega) (by omega) (by decide) dX3_leastApart_13 (fun c1 => absurd c1 (by omega)) (fun c1 => ?_)
    refine gs_iload (q := 5) k rfl dX3_leastApart_16 ?_
    refine gs_iload_n (q := 2) k rfl rfl dX3_leastApart_18 ?_
    refine gs_callH3 (As := [.int (nI S), .int p]) k (c_X6_holds (S := S) (P := s) rfl hp0 (by omega) (by omega)) cf_X6_holds sm_X6_holds (by decide) rfl rfl (Nat.le_of_ble_eq_true rfl) dX3_leastApart_19 (ppB (fun c2 => ?_) (fun c2 => ?_))
    · refine gs_if_eq (tgt := 49) k (by decide) dX3_leastApart_22 (fun h => absurd h (by decide)) (fun _ => ?_)
      refine gs_iload (q := 5) k rfl dX3_leastApart_25 ?_
      refine gs_iload_n (q := 3) k rfl rfl dX3_leastApart_27 ?_
      refine gs_callH3 (As := [.int (nI S), .int q]) k (c_X6_holds (S := S) (P := t) rfl hq (by omega) (by omega)) cf_X6_holds sm_X6_holds (by decide) rfl rfl (Nat.le_of_ble_eq_true rfl) dX3_leastApart_28 (ppB (fun c3 => ?_) (fun c3 => ?_))
      · refine gs_if_ne (tgt := 49) k (by decide) dX3_leastApart_31 (fun _ => ?_) (fun h => absurd h (by decide))
        refine gs_iincN (q := 5) (a := S) (c := 1) (lv' := [(5, .int (nI (S + 1))), (0, .ref (E.2.2.1 (10 + 2 * f))), (1, .int y), (2, .int p), (3, .int q), (4, .int (nI b))]) k rfl rfl (by decide) rfl dX3_leastApart_49 ?_
        refine gs_goto (tgt := 8) k (by decide) dX3_leastApart_52 ?_
        refine gs_lv (lv' := [(0, .ref (E.2.2.1 (10 + 2 * f))), (1, .int y), (2, .int p), (3, .int q), (4, .int (nI b)), (5, .int (nI (S + 1)))]) [1, 2, 3, 4, 5, 0] rfl ?_
        exact hGS _ (by rw [if_neg (fun q => q.2.1 c3)])
      · refine gs_if_ne (tgt := 49) k (by decide) dX3_leastApart_31 (fun h => absurd h (by decide)) (fun _ => ?_)
        refine gs_aload_n (q := 0) k rfl rfl dX3_leastApart_34 ?_
        refine gs_iload (q := 5) k rfl dX3_leastApart_35 ?_
        refine gs_iload (q := 4) k rfl dX3_leastApart_37 ?_
        refine gs_callV (As := [.int (nI S), .int (nI b)]) (k0 := (10 + 2 * f)) (ci := 3) (T := TX3) (N := 2) k (c_X3_isSmallerCut (S := S) (T := b) hI hF hf hn1 hn6 rfl rfl (by omega) (by omega)) cf_X3_isSmallerCut im_X3_isSmallerCut sl_X3_isSmallerCut ml_X3_52 (hI (10 + 2 * f) (by omega)) (ent_F1 hf _) rfl (by decide) rfl rfl (Nat.le_of_ble_eq_true rfl) dX3_leastApart_39 (ppB (fun c4 => ?_) (fun c4 => ?_))
        · refine gs_if_eq (tgt := 49) k (by decide) dX3_leastApart_42 (fun h => absurd h (by decide)) (fun _ => ?_)
          refine gs_iload (q := 5) k rfl dX3_leastApart_45 ?_
          refine gs_istore (lv' := [(4, .int (nI S)), (0, .ref (E.2.2.1 (10 + 2 * f))), (1, .int y), (2, .int p), (3, .int q), (5, .int (nI S))]) k (by decide) rfl dX3_leastApart_47 ?_
          refine gs_iincN (q := 5) (a := S) (c := 1) (lv' := [(5, .int (nI (S + 1))), (4, .int (nI S)), (0, .ref (E.2.2.1 (10 + 2 * f))), (1, .int y), (2, .int p), (3, .int q)]) k rfl rfl (by decide) rfl dX3_leastApart_49 ?_
          refine gs_goto (tgt := 8) k (by decide) dX3_leastApart_52 ?_
          refine gs_lv (lv' := [(0, .ref (E.2.2.1 (10 + 2 * f))), (1, .int y), (2, .int p), (3, .int q), (4, .int (nI S)), (5, .int (nI (S + 1)))]) [2, 3, 4, 5, 1, 0] rfl ?_
          exact hGS _ (by rw [if_pos ⟨c2, c3, c4⟩])
        · refine gs_if_eq (tgt := 49) k (by decide) dX3_leastApart_42 (fun _ => ?_) (fun h => absurd h (by decide))
          refine gs_iincN (q := 5) (a := S) (c := 1) (lv' := [(5, .int (nI (S + 1))), (0, .ref (E.2.2.1 (10 + 2 * f))), (1, .int y), (2, .int p), (3, .int q), (4, .int (nI b))]) k rfl rfl (by decide) rfl dX3_leastApart_49 ?_
          refine gs_goto (tgt := 8) k (by decide) dX3_leastApart_52 ?_
          refine gs_lv (lv' := [(0, .ref (E.2.2.1 (10 + 2 * f))), (1, .int y), (2, .int p), (3, .int q), (4, .int (nI b)), (5, .int (nI (S + 1)))]) [1, 2, 3, 4, 5, 0] rfl ?_
          exact hGS _ (by rw [if_neg (fun q => c4 q.2.2)])
    · refine gs_if_eq (tgt := 49) k (by decide) dX3_leastApart_22 (fun _ => ?_) (fun h => absurd h (by decide))
      refine gs_iincN (q := 5) (a := S) (c := 1) (lv' := [(5, .int (nI (S + 1))), (0, .ref (E.2.2.1 (10 + 2 * f))), (1, .int y), (2, .int p), (3, .int q), (4, .int (nI b))]) k rfl rfl (by decide) rfl dX3_leastApart_49 ?_
      refine gs_goto (tgt := 8) k (by decide) dX3_leastApart_52 ?_
      refine gs_lv (lv' := [(0, .ref (E.2.2.1 (10 + 2 * f))), (1, .int y), (2, .int p), (3, .int q), (4, .int (nI b)), (5, .int (nI (S + 1)))]) [1, 2, 3, 4, 5, 0] rfl ?_
      exact hGS _ (by rw [if_neg (fun q => c2 q.1)])
  · show G l E K 8 [(0, .ref (E.2.2.1 (10 + 2 * f))), (1, .int y), (2, .int p), (3, .int q), (4, .int (nI (wallC (V f) n s t))), (5, .int (nI (2 ^ n)))] [] M
    refine gs_iload (q := 5) k rfl dX3_leastApart_8 ?_
    refine gs_iconst (v := 1) k (by decide) dX3_leastApart_10 ?_
    refine gs_iload_n (q := 1) k rfl rfl dX3_leastApart_11 ?_
    refine gs_ishlN (b := n) k rfl hy (by omega) dX3_leastApart_12 ?_
    refine gs_icmpN_ge (a := 2 ^ n) (b := 2 ^ n) (tgt := 55) k rfl rfl (by omega) (by omega) (by decide) dX3_leastApart_13 (fun c1 => ?_) (fun c1 => absurd c1 (by omega))
    refine gs_iload (q := 4) k rfl dX3_leastApart_55 ?_
    exact gs_iret k kt dX3_leastApart_57 ⟨rfl, rfl⟩

theorem cf_X7_wallOf : CF yX7_wallOf cX7_wallOf 6 (some .int) 3 := ⟨cd_X7_wallOf, iz_X7, by decide, by decide +kernel, by decide +kernel, by decide +kernel⟩
set_option maxRecDepth 100000 in
set_option maxHeartbeats 4000000 in
theorem c_X7_wallOf {l : Launch} {E : Ev} {M : Mm} {n : Nat} {kd : Nat → Int32} {V : Nat → Nat → Int32} (hI : ∀ k, k < 108 → k ∈ E.2.1) (hn : Rn M n) (hF : RFn M n kd V) {z : Int32} {f : Nat} (hz : z = nI f) (hf : f < 6) (ht : ¬ kd f < 0) {p q : Int32} {s u : Nat} (hp0 : p = nI s) (hq : q = nI u) (hs : s < n) (hu : u < n) : Cm l E yX7_wallOf cX7_wallOf 6 (some .int) 2 [.ref (E.2.2.1 65), .int z, .int p, .int q] M (pI (ob (-5) (wallR (V f) n s u)) M) := by
  refine Cm.of (by decide) (Nat.le_of_ble_eq_true rfl) (fun K k kt => ?_)
  show G l E K 0 [(0, .ref (E.2.2.1 65)), (1, .int z), (2, .int p), (3, .int q)] [] M
  obtain ⟨hn0, hn1, hn6⟩ := id hn
  have hp := p2_le6 hn6
  have hp2 := p2_ge2 hn1
  refine gs_bipush (v := -5) k (by decide) dX7_wallOf_0 ?_
  refine gs_istore (lv' := [(4, .int (-5)), (0, .ref (E.2.2.1 65)), (1, .int z), (2, .int p), (3, .int q)]) k (by decide) rfl dX7_wallOf_2 ?_
  refine gs_iconst (v := 0) k (by decide) dX7_wallOf_4 ?_
  refine gs_istore (lv' := [(5, .int 0), (4, .int (-5)), (0, .ref (E.2.2.1 65)), (1, .int z), (2, .int p), (3, .int q)]) k (by decide) rfl dX7_wallOf_5 ?_
  refine gs_lv (lv' := [(0, .ref (E.2.2.1 65)), (1, .int z), (2, .int p), (3, .int q), (4, .int (-5)), (5, .int 0)]) [2, 3, 4, 5, 1, 0] rfl ?_
  refine for_upJ (σ := Option Nat) (fun S o => G l E K 7 [(0, .ref (E.2.2.1 65)), (1, .int z), (2, .int p), (3, .int q), (4, .int (ob (-5) o)), (5, .int (nI S))] [] M) (fun S o => ∀ q, o = some q → q < 2 ^ n) (fun S o => ostep (S.testBit s = true ∧ ¬ S.testBit u = true) (fun b => V f S < V f b ∨ (V f S = V f b ∧ pcn S < pcn b)) S o) (2 ^ n) (fun S o hS hb => os_J (B := fun q => q < 2 ^ n) (fun _ => hS) hb) (fun S o hS hJS hGS => ?_) (2 ^ n) 0 none (by omega) (by intro q hq; cases hq) (fun hJe => ?_)
  · cases o with
    | none =>
      show G l E K 7 [(0, .ref (E.2.2.1 65)), (1, .int z), (2, .int p), (3, .int q), (4, .int (-5)), (5, .int (nI S))] [] M
      refine gs_iload (q := 5) k rfl dX7_wallOf_7 ?_
      refine gs_aload_n (q := 0) k rfl rfl dX7_wallOf_9 ?_
      refine gs_callV (As := []) (k0 := 65) (ci := 7) (T := TX7) (N := 27) k (c_X7_sets hI hn) cf_X7_sets im_X7_sets sl_X7_sets ml_X7_83 (hI 65 (by omega)) rfl rfl (by decide) rfl rfl (Nat.le_of_ble_eq_true rfl) dX7_wallOf_10 (ppI ?_)
      refine gs_icmpN_ge (a := S) (b := 2 ^ n) (tgt := 107) k rfl rfl (by omega) (by omega) (by decide) dX7_wallOf_13 (fun c1 => absurd c1 (by omega)) (fun c1 => ?_)
      refine gs_iload (q := 5) k rfl dX7_wallOf_16 ?_
      refine gs_iload_n (q := 2) k rfl rfl dX7_wallOf_18 ?_
      refine gs_callS (As := [.int (nI S), .int p]) k (c_X7_has (S := S) (P := s) rfl hp0 (by omega) (by omega)) cf_X7_has sm_X7_has ml_X7_118 (by decide) rfl rfl (Nat.le_of_ble_eq_true rfl) dX7_wallOf_19 (ppB (fun c2 => ?_) (fun c2 => ?_))
      · refine gs_if_eq (tgt := 101) k (by decide) dX7_wallOf_22 (fun h => absurd h (by decide)) (fun _ => ?_)
        refine gs_iload (q := 5) k rfl dX7_wallOf_25 ?_
        refine gs_iload_n (q := 3) k rfl rfl dX7_wallOf_27 ?_
        refine gs_callS (As := [.int (nI S), .int q]) k (c_X7_has (S := S) (P := u) rfl hq (by omega) (by omega)) cf_X7_has sm_X7_has ml_X7_118 (by decide) rfl rfl (Nat.le_of_ble_eq_true rfl) dX7_wallOf_28 (ppB (fun c3 => ?_) (fun c3 => ?_))
        · refine gs_if_eq (tgt := 37) k (by decide) dX7_wallOf_31 (fun h => absurd h (by decide)) (fun _ => ?_)
          refine gs_goto (tgt := 101) k (by decide) dX7_wallOf_34 ?_
          refine gs_iincN (q := 5) (a := S) (c := 1) (lv' := [(5, .int (nI (S + 1))), (0, .ref (E.2.2.1 65)), (1, .int z), (2, .int p), (3, .int q), (4, .int (-5))]) k rfl rfl (by decide) rfl dX7_wallOf_101 ?_
          refine gs_goto (tgt := 7) k (by decide) dX7_wallOf_104 ?_
          refine gs_lv (lv' := [(0, .ref (E.2.2.1 65)), (1, .int z), (2, .int p), (3, .int q), (4, .int (-5)), (5, .int (nI (S + 1)))]) [1, 2, 3, 4, 5, 0] rfl ?_
          exact hGS none (os_skip (fun q => q.2 c3))
        · refine gs_if_eq (tgt := 37) k (by decide) dX7_wallOf_31 (fun _ => ?_) (fun h => absurd h (by decide))
          refine gs_iload (q := 4) k rfl dX7_wallOf_37 ?_
          refine gs_if_lt (tgt := 97) k (by decide) dX7_wallOf_39 (fun _ => ?_) (fun h => absurd h (by decide))
          refine gs_iload (q := 5) k rfl dX7_wallOf_97 ?_
          refine gs_istore (lv' := [(4, .int (nI S)), (0, .ref (E.2.2.1 65)), (1, .int z), (2, .int p), (3, .int q), (5, .int (nI S))]) k (by decide) rfl dX7_wallOf_99 ?_
          refine gs_iincN (q := 5) (a := S) (c := 1) (lv' := [(5, .int (nI (S + 1))), (4, .int (nI S)), (0, .ref (E.2.2.1 65)), (1, .int z), (2, .int p), (3, .int q)]) k rfl rfl (by decide) rfl dX7_wallOf_101 ?_
          refine gs_goto (tgt := 7) k (by decide) dX7_wallOf_104 ?_
          refine gs_lv (lv' := [(0, .ref (E.2.2.1 65)), (1, .int z), (2, .int p), (3, .int q), (4, .int (nI S)), (5, .int (nI (S + 1)))]) [2, 3, 4, 5, 1, 0] rfl ?_
          exact hGS (some S) (os_first ⟨c2, c3⟩)
      · refine gs_if_eq (tgt := 101) k (by decide) dX7_wallOf_22 (fun _ => ?_) (fun h => absurd h (by decide))
        refine gs_iincN (q := 5) (a := S) (c := 1) (lv' := [(5, .int (nI (S + 1))), (0, .ref (E.2.2.1 65)), (1, .int z), (2, .int p), (3, .int q), (4, .int (-5))]) k rfl rfl (by decide) rfl dX7_wallOf_101 ?_
        refine gs_goto (tgt := 7) k (by decide) dX7_wallOf_104 ?_
        refine gs_lv (lv' := [(0, .ref (E.2.2.1 65)), (1, .int z), (2, .int p), (3, .int q), (4, .int (-5)), (5, .int (nI (S + 1)))]) [1, 2, 3, 4, 5, 0] rfl ?_
        exact hGS none (os_skip (fun q => c2 q.1))
    | some b =>
      have hb : b < 2 ^ n := hJS b rfl
      show G l E K 7 [(0, .ref (E.2.2.1 65)), (1, .int z), (2, .int p), (3, .int q), (4, .int (nI b)), (5, .int (nI S))] [] M
      refine gs_iload (q := 5) k rfl dX7_wallOf_7 ?_
      refine gs_aload_n (q := 0) k rfl rfl dX7_wallOf_9 ?_
      refine gs_callV (As := []) (k0 := 65) (ci := 7) (T := TX7) (N := 27) k (c_X7_sets hI hn) cf_X7_sets im_X7_sets sl_X7_sets ml_X7_83 (hI 65 (by omega)) rfl rfl (by decide) rfl rfl (Nat.le_of_ble_eq_true rfl) dX7_wallOf_10 (ppI ?_)
      refine gs_icmpN_ge (a := S) (b := 2 ^ n) (tgt := 107) k rfl rfl (by omega) (by omega) (by decide) dX7_wallOf_13 (fun c4 => absurd c4 (by omega)) (fun c4 => ?_)
      refine gs_iload (q := 5) k rfl dX7_wallOf_16 ?_
      refine gs_iload_n (q := 2) k rfl rfl dX7_wallOf_18 ?_
      refine gs_callS (As := [.int (nI S), .int p]) k (c_X7_has (S := S) (P := s) rfl hp0 (by omega) (by omega)) cf_X7_has sm_X7_has ml_X7_118 (by decide) rfl rfl (Nat.le_of_ble_eq_true rfl) dX7_wallOf_19 (ppB (fun c5 => ?_) (fun c5 => ?_))
      · refine gs_if_eq (tgt := 101) k (by decide) dX7_wallOf_22 (fun h => absurd h (by decide)) (fun _ => ?_)
        refine gs_iload (q := 5) k rfl dX7_wallOf_25 ?_
        refine gs_iload_n (q := 3) k rfl rfl dX7_wallOf_27 ?_
        refine gs_callS (As := [.int (nI S), .int q]) k (c_X7_has (S := S) (P := u) rfl hq (by omega) (by omega)) cf_X7_has sm_X7_has ml_X7_118 (by decide) rfl rfl (Nat.le_of_ble_eq_true rfl) dX7_wallOf_28 (ppB (fun c6 => ?_) (fun c6 => ?_))
        · refine gs_if_eq (tgt := 37) k (by decide) dX7_wallOf_31 (fun h => absurd h (by decide)) (fun _ => ?_)
          refine gs_goto (tgt := 101) k (by decide) dX7_wallOf_34 ?_
          refine gs_iincN (q := 5) (a := S) (c := 1) (lv' := [(5, .int (nI (S + 1))), (0, .ref (E.2.2.1 65)), (1, .int z), (2, .int p), (3, .int q), (4, .int (nI b))]) k rfl rfl (by decide) rfl dX7_wallOf_101 ?_
          refine gs_goto (tgt := 7) k (by decide) dX7_wallOf_104 ?_
          refine gs_lv (lv' := [(0, .ref (E.2.2.1 65)), (1, .int z), (2, .int p), (3, .int q), (4, .int (nI b)), (5, .int (nI (S + 1)))]) [1, 2, 3, 4, 5, 0] rfl ?_
          exact hGS (some b) (os_skip (fun q => q.2 c6))
        · refine gs_if_eq (tgt := 37) k (by decide) dX7_wallOf_31 (fun _ => ?_) (fun h => absurd h (by decide))
          refine gs_iload (q := 4) k rfl dX7_wallOf_37 ?_
          refine gs_if_lt (tgt := 97) k (by decide) dX7_wallOf_39 (fun h => absurd h (nnlt rfl (by omega))) (fun _ => ?_)
          refine gs_aload_n (q := 0) k rfl rfl dX7_wallOf_42 ?_
          refine gs_get (C := RX7) (T := TX7) (N := 27) (ci := 7) (k0 := 65) (j := 8) k (hI 65 (by omega)) rfl rfl inX7 (by decide) fl_X7_39 rfl rfl dX7_wallOf_43 ?_
          refine gs_iload_n (q := 1) k rfl rfl dX7_wallOf_46 ?_
          refine gs_aaldIN (k0 := 73) (n := 6) (e := f) (a := E.2.2.1 (74 + f)) k (hI 73 (by omega)) (fun _ => rfl) hz (by omega) (by decide) rfl dX7_wallOf_47 ?_
          refine gs_iload (q := 5) k rfl dX7_wallOf_48 ?_
          refine gs_ialdN (k0 := (74 + f)) (n := 64) (e := S) k (hI (74 + f) (by omega)) (ent_RV (by omega)) rfl (by omega) (by decide) dX7_wallOf_50 ?_
          refine gs_top (y := V f S) ((hF f hf).2.2 ht S (by omega)) ?_
          refine gs_aload_n (q := 0) k rfl rfl dX7_wallOf_51 ?_
          refine gs_get (C := RX7) (T := TX7) (N := 27) (ci := 7) (k0 := 65) (j := 8) k (hI 65 (by omega)) rfl rfl inX7 (by decide) fl_X7_39 rfl rfl dX7_wallOf_52 ?_
          refine gs_iload_n (q := 1) k rfl rfl dX7_wallOf_55 ?_
          refine gs_aaldIN (k0 := 73) (n := 6) (e := f) (a := E.2.2.1 (74 + f)) k (hI 73 (by omega)) (fun _ => rfl) hz (by omega) (by decide) rfl dX7_wallOf_56 ?_
          refine gs_iload (q := 4) k rfl dX7_wallOf_57 ?_
          refine gs_ialdN (k0 := (74 + f)) (n := 64) (e := b) k (hI (74 + f) (by omega)) (ent_RV (by omega)) rfl (by omega) (by decide) dX7_wallOf_59 ?_
          refine gs_top (y := V f b) ((hF f hf).2.2 ht b (by omega)) ?_
          refine gs_icmp_lt (tgt := 97) k (by decide) dX7_wallOf_60 (fun c7 => ?_) (fun c7 => ?_)
          · refine gs_iload (q := 5) k rfl dX7_wallOf_97 ?_
            refine gs_istore (lv' := [(4, .int (nI S)), (0, .ref (E.2.2.1 65)), (1, .int z), (2, .int p), (3, .int q), (5, .int (nI S))]) k (by decide) rfl dX7_wallOf_99 ?_
            refine gs_iincN (q := 5) (a := S) (c := 1) (lv' := [(5, .int (nI (S + 1))), (4, .int (nI S)), (0, .ref (E.2.2.1 65)), (1, .int z), (2, .int p), (3, .int q)]) k rfl rfl (by decide) rfl dX7_wallOf_101 ?_
            refine gs_goto (tgt := 7) k (by decide) dX7_wallOf_104 ?_
            refine gs_lv (lv' := [(0, .ref (E.2.2.1 65)), (1, .int z), (2, .int p), (3, .int q), (4, .int (nI S)), (5, .int (nI (S + 1)))]) [2, 3, 4, 5, 1, 0] rfl ?_
            exact hGS (some S) (os_take ⟨c5, c6⟩ (Or.inl c7))
          · refine gs_aload_n (q := 0) k rfl rfl dX7_wallOf_63 ?_
            refine gs_get (C := RX7) (T := TX7) (N := 27) (ci := 7) (k0 := 65) (j := 8) k (hI 65 (by omega)) rfl rfl inX7 (by decide) fl_X7_39 rfl rfl dX7_wallOf_64 ?_
            refine gs_iload_n (q := 1) k rfl rfl dX7_wallOf_67 ?_
            refine gs_aaldIN (k0 := 73) (n := 6) (e := f) (a := E.2.2.1 (74 + f)) k (hI 73 (by omega)) (fun _ => rfl) hz (by omega) (by decide) rfl dX7_wallOf_68 ?_
            refine gs_iload (q := 5) k rfl dX7_wallOf_69 ?_
            refine gs_ialdN (k0 := (74 + f)) (n := 64) (e := S) k (hI (74 + f) (by omega)) (ent_RV (by omega)) rfl (by omega) (by decide) dX7_wallOf_71 ?_
            refine gs_top (y := V f S) ((hF f hf).2.2 ht S (by omega)) ?_
            refine gs_aload_n (q := 0) k rfl rfl dX7_wallOf_72 ?_
            refine gs_get (C := RX7) (T := TX7) (N := 27) (ci := 7) (k0 := 65) (j := 8) k (hI 65 (by omega)) rfl rfl inX7 (by decide) fl_X7_39 rfl rfl dX7_wallOf_73 ?_
            refine gs_iload_n (q := 1) k rfl rfl dX7_wallOf_76 ?_
            refine gs_aaldIN (k0 := 73) (n := 6) (e := f) (a := E.2.2.1 (74 + f)) k (hI 73 (by omega)) (fun _ => rfl) hz (by omega) (by decide) rfl dX7_wallOf_77 ?_
            refine gs_iload (q := 4) k rfl dX7_wallOf_78 ?_
            refine gs_ialdN (k0 := (74 + f)) (n := 64) (e := b) k (hI (74 + f) (by omega)) (ent_RV (by omega)) rfl (by omega) (by decide) dX7_wallOf_80 ?_
            refine gs_top (y := V f b) ((hF f hf).2.2 ht b (by omega)) ?_
            refine gs_icmp_ne (tgt := 101) k (by decide) dX7_wallOf_81 (fun c8 => ?_) (fun c8 => ?_)
            · refine gs_iincN (q := 5) (a := S) (c := 1) (lv' := [(5, .int (nI (S + 1))), (0, .ref (E.2.2.1 65)), (1, .int z), (2, .int p), (3, .int q), (4, .int (nI b))]) k rfl rfl (by decide) rfl dX7_wallOf_101 ?_
              refine gs_goto (tgt := 7) k (by decide) dX7_wallOf_104 ?_
              refine gs_lv (lv' := [(0, .ref (E.2.2.1 65)), (1, .int z), (2, .int p), (3, .int q), (4, .int (nI b)), (5, .int (nI (S + 1)))]) [1, 2, 3, 4, 5, 0] rfl ?_
              exact hGS (some b) (os_keep ⟨c5, c6⟩ (fun q => q.elim c7 (fun q => c8 q.1)))
            · refine gs_iload (q := 5) k rfl dX7_wallOf_84 ?_
              refine gs_callS (As := [.int (nI S)]) k (c_X7_many (S := S) rfl (by omega)) cf_X7_many sm_X7_many ml_X7_229 (by decide) rfl rfl (Nat.le_of_ble_eq_true rfl) dX7_wallOf_86 (ppI ?_)
              have hpc4 := pcn_le S
              refine gs_iload (q := 4) k rfl dX7_wallOf_89 ?_
              refine gs_callS (As := [.int (nI b)]) k (c_X7_many (S := b) rfl (by omega)) cf_X7_many sm_X7_many ml_X7_229 (by decide) rfl rfl (Nat.le_of_ble_eq_true rfl) dX7_wallOf_91 (ppI ?_)
              have hpc5 := pcn_le b
              refine gs_icmpN_ge (a := pcn S) (b := pcn b) (tgt := 101) k rfl rfl (by omega) (by omega) (by decide) dX7_wallOf_94 (fun c9 => ?_) (fun c9 => ?_)
              · refine gs_iincN (q := 5) (a := S) (c := 1) (lv' := [(5, .int (nI (S + 1))), (0, .ref (E.2.2.1 65)), (1, .int z), (2, .int p), (3, .int q), (4, .int (nI b))]) k rfl rfl (by decide) rfl dX7_wallOf_101 ?_
                refine gs_goto (tgt := 7) k (by decide) dX7_wallOf_104 ?_
                refine gs_lv (lv' := [(0, .ref (E.2.2.1 65)), (1, .int z), (2, .int p), (3, .int q), (4, .int (nI b)), (5, .int (nI (S + 1)))]) [1, 2, 3, 4, 5, 0] rfl ?_
                exact hGS (some b) (os_keep ⟨c5, c6⟩ (fun q => q.elim c7 (fun q => absurd q.2 (by omega))))
              · refine gs_iload (q := 5) k rfl dX7_wallOf_97 ?_
                refine gs_istore (lv' := [(4, .int (nI S)), (0, .ref (E.2.2.1 65)), (1, .int z), (2, .int p), (3, .int q), (5, .int (nI S))]) k (by decide) rfl dX7_wallOf_99 ?_
                refine gs_iincN (q := 5) (a := S) (c := 1) (lv' := [(5, .int (nI (S + 1))), (4, .int (nI S)), (0, .ref (E.2.2.1 65)), (1, .int z), (2, .int p), (3, .int q)]) k rfl rfl (by decide) rfl dX7_wallOf_101 ?_
                refine gs_goto (tgt := 7) k (by decide) dX7_wallOf_104 ?_
                refine gs_lv (lv' := [(0, .ref (E.2.2.1 65)), (1, .int z), (2, .int p), (3, .int q), (4, .int (nI S)), (5, .int (nI (S + 1)))]) [2, 3, 4, 5, 1, 0] rfl ?_
                exact hGS (some S) (os_take ⟨c5, c6⟩ (Or.inr ⟨c8, c9⟩))
      · refine gs_if_eq (tgt := 101) k (by decide) dX7_wallOf_22 (fun _ => ?_) (fun h => absurd h (by decide))
        refine gs_iincN (q := 5) (a := S) (c := 1) (lv' := [(5, .int (nI (S + 1))), (0, .ref (E.2.2.1 65)), (1, .int z), (2, .int p), (3, .int q), (4, .int (nI b))]) k rfl rfl (by decide) rfl dX7_wallOf_101 ?_
        refine gs_goto (tgt := 7) k (by decide) dX7_wallOf_104 ?_
        refine gs_lv (lv' := [(0, .ref (E.2.2.1 65)), (1, .int z), (2, .int p), (3, .int q), (4, .int (nI b)), (5, .int (nI (S + 1)))]) [1, 2, 3, 4, 5, 0] rfl ?_
        exact hGS (some b) (os_skip (fun q => c5 q.1))
  · show G l E K 7 [(0, .ref (E.2.2.1 65)), (1, .int z), (2, .int p), (3, .int q), (4, .int (ob (-5) (wallR (V f) n s u))), (5, .int (nI (2 ^ n)))] [] M
    refine gs_iload (q := 5) k rfl dX7_wallOf_7 ?_
    refine gs_aload_n (q := 0) k rfl rfl dX7_wallOf_9 ?_
    refine gs_callV (As := []) (k0 := 65) (ci := 7) (T := TX7) (N := 27) k (c_X7_sets hI hn) cf_X7_sets im_X7_sets sl_X7_sets ml_X7_83 (hI 65 (by omega)) rfl rfl (by decide) rfl rfl (Nat.le_of_ble_eq_true rfl) dX7_wallOf_10 (ppI ?_)
    refine gs_icmpN_ge (a := 2 ^ n) (b := 2 ^ n) (tgt := 107) k rfl rfl (by omega) (by omega) (by decide) dX7_wallOf_13 (fun c1 => ?_) (fun c1 => absurd c1 (by omega))
    refine gs_iload (q := 4) k rfl dX7_wallOf_107 ?_
    exact gs_iret k kt dX7_wallOf_109 ⟨rfl, rfl⟩

theorem cf_X3_bestChoice : CF yX3_bestChoice cX3_bestChoice 5 (some .int) 2 := ⟨cd_X3_bestChoice, iz_X3, by decide, by decide +kernel, by decide +kernel, by decide +kernel⟩
set_option maxRecDepth 100000 in
set_option maxHeartbeats 4000000 in
theorem c_X3_bestChoice {l : Launch} {E : Ev} {M : Mm} {n : Nat} {kd : Nat → Int32} {V : Nat → Nat → Int32} (hI : ∀ k, k < 108 → k ∈ E.2.1) (hF : CFn M n kd V) {f : Nat} (hf : f < 6) (hn1 : 1 ≤ n) (hn6 : n ≤ 6) {y p : Int32} {m : Nat} (hy : y = nI n) (hp0 : p = nI m) (hm : m ≤ n) : Cm l E yX3_bestChoice cX3_bestChoice 5 (some .int) 2 [.ref (E.2.2.1 (10 + 2 * f)), .int y, .int p] M (pI (nI (bestC (V f) n m)) M) := by
  refine Cm.of (by decide) (Nat.le_of_ble_eq_true rfl) (fun K k kt => ?_)
  show G l E K 0 [(0, .ref (E.2.2.1 (10 + 2 * f))), (1, .int y), (2, .int p)] [] M
  have hp := p2_le6 hn6
  have hp2 := p2_ge2 hn1
  have hm2 : 2 ^ m ≤ 2 ^ n := Nat.pow_le_pow_right (by omega) hm
  have hm0 := p2_pos m
  refine gs_iconst (v := 1) k (by decide) dX3_bestChoice_0 ?_
  refine gs_iload_n (q := 2) k rfl rfl dX3_bestChoice_1 ?_
  refine gs_ishlN (b := m) k rfl hp0 (by omega) dX3_bestChoice_2 ?_
  refine gs_iconst (v := 1) k (by decide) dX3_bestChoice_3 ?_
  refine gs_isubN (a := 2 ^ m) (b := 1) k rfl rfl (by omega) dX3_bestChoice_4 ?_
  refine gs_istore_n (lv' := [(3, .int (nI ((2 ^ m) - 1))), (0, .ref (E.2.2.1 (10 + 2 * f))), (1, .int y), (2, .int p)]) k rfl (by decide) rfl dX3_bestChoice_5 ?_
  refine gs_iconst (v := 0) k (by decide) dX3_bestChoice_6 ?_
  refine gs_istore (lv' := [(4, .int 0), (3, .int (nI ((2 ^ m) - 1))), (0, .ref (E.2.2.1 (10 + 2 * f))), (1, .int y), (2, .int p)]) k (by decide) rfl dX3_bestChoice_7 ?_
  refine gs_lv (lv' := [(0, .ref (E.2.2.1 (10 + 2 * f))), (1, .int y), (2, .int p), (3, .int (nI ((2 ^ m) - 1))), (4, .int 0)]) [2, 3, 4, 1, 0] rfl ?_
  refine for_upJ (σ := Nat) (fun S b => G l E K 9 [(0, .ref (E.2.2.1 (10 + 2 * f))), (1, .int y), (2, .int p), (3, .int (nI b)), (4, .int (nI S))] [] M) (fun S b => b < 2 ^ n) (fun S b => if pcn S = m ∧ V f b < V f S then S else b) (2 ^ n) (fun S b hS hb => by split <;> assumption) (fun S b hS hJS hGS => ?_) (2 ^ n) 0 ((2 ^ m) - 1) (by omega) (by omega) (fun hJS => ?_)
  · show G l E K 9 [(0, .ref (E.2.2.1 (10 + 2 * f))), (1, .int y), (2, .int p), (3, .int (nI b)), (4, .int (nI S))] [] M
    refine gs_iload (q := 4) k rfl dX3_bestChoice_9 ?_
    refine gs_iconst (v := 1) k (by decide) dX3_bestChoice_11 ?_
    refine gs_iload_n (q := 1) k rfl rfl dX3_bestChoice_12 ?_
    refine gs_ishlN (b := n) k rfl hy (by omega) dX3_bestChoice_13 ?_
    refine gs_icmpN_ge (a := S) (b := 2 ^ n) (tgt := 51) k rfl rfl (by omega) (by omega) (by decide) dX3_bestChoice_14 (fun c1 => absurd c1 (by omega)) (fun c1 => ?_)
    refine gs_iload (q := 4) k rfl dX3_bestChoice_17 ?_
    refine gs_callS (As := [.int (nI S)]) k (c_J6_bitCount_0f7a4 (S := S) rfl (by omega)) cf_J6_bitCount_0f7a4 sm_J6_bitCount_0f7a4 ml_X3_55 (by decide) rfl rfl (Nat.le_of_ble_eq_true rfl) dX3_bestChoice_19 (ppI ?_)
    have hpc6 := pcn_le S
    refine gs_iload_n (q := 2) k rfl rfl dX3_bestChoice_22 ?_
    refine gs_icmpN_ne (a := pcn S) (b := m) (tgt := 45) k rfl hp0 (by omega) (by omega) (by decide) dX3_bestChoice_23 (fun c2 => ?_) (fun c2 => ?_)
    · refine gs_iincN (q := 4) (a := S) (c := 1) (lv' := [(4, .int (nI (S + 1))), (0, .ref (E.2.2.1 (10 + 2 * f))), (1, .int y), (2, .int p), (3, .int (nI b))]) k rfl rfl (by decide) rfl dX3_bestChoice_45 ?_
      refine gs_goto (tgt := 9) k (by decide) dX3_bestChoice_48 ?_
      refine gs_lv (lv' := [(0, .ref (E.2.2.1 (10 + 2 * f))), (1, .int y), (2, .int p), (3, .int (nI b)), (4, .int (nI (S + 1)))]) [1, 2, 3, 4, 0] rfl ?_
      exact hGS _ (by rw [if_neg (fun q => c2 q.1)])
    · refine gs_aload_n (q := 0) k rfl rfl dX3_bestChoice_26 ?_
      refine gs_get (C := RX3) (T := TX3) (N := 2) (ci := 3) (k0 := (10 + 2 * f)) (j := 1) k (hI (10 + 2 * f) (by omega)) (ent_F1 hf _) rfl inX3 (by decide) fl_X3_15 rfl rfl dX3_bestChoice_27 ?_
      refine gs_iload (q := 4) k rfl dX3_bestChoice_30 ?_
      refine gs_ialdN (k0 := (11 + 2 * f)) (n := 64) (e := S) k (hI (11 + 2 * f) (by omega)) (ent_V1 hf) rfl (by omega) (by decide) dX3_bestChoice_32 ?_
      refine gs_top (y := V f S) ((hF f hf).2.2 S (by omega)) ?_
      refine gs_aload_n (q := 0) k rfl rfl dX3_bestChoice_33 ?_
      refine gs_get (C := RX3) (T := TX3) (N := 2) (ci := 3) (k0 := (10 + 2 * f)) (j := 1) k (hI (10 + 2 * f) (by omega)) (ent_F1 hf _) rfl inX3 (by decide) fl_X3_15 rfl rfl dX3_bestChoice_34 ?_
      refine gs_iload_n (q := 3) k rfl rfl dX3_bestChoice_37 ?_
      refine gs_ialdN (k0 := (11 + 2 * f)) (n := 64) (e := b) k (hI (11 + 2 * f) (by omega)) (ent_V1 hf) rfl (by omega) (by decide) dX3_bestChoice_38 ?_
      refine gs_top (y := V f b) ((hF f hf).2.2 b (by omega)) ?_
      refine gs_icmp_le (tgt := 45) k (by decide) dX3_bestChoice_39 (fun c3 => ?_) (fun c3 => ?_)
      · refine gs_iincN (q := 4) (a := S) (c := 1) (lv' := [(4, .int (nI (S + 1))), (0, .ref (E.2.2.1 (10 + 2 * f))), (1, .int y), (2, .int p), (3, .int (nI b))]) k rfl rfl (by decide) rfl dX3_bestChoice_45 ?_
        refine gs_goto (tgt := 9) k (by decide) dX3_bestChoice_48 ?_
        refine gs_lv (lv' := [(0, .ref (E.2.2.1 (10 + 2 * f))), (1, .int y), (2, .int p), (3, .int (nI b)), (4, .int (nI (S + 1)))]) [1, 2, 3, 4, 0] rfl ?_
        exact hGS _ (by rw [if_neg (fun q => Int32.not_le.mpr q.2 c3)])
      · refine gs_iload (q := 4) k rfl dX3_bestChoice_42 ?_
        refine gs_istore_n (lv' := [(3, .int (nI S)), (0, .ref (E.2.2.1 (10 + 2 * f))), (1, .int y), (2, .int p), (4, .int (nI S))]) k rfl (by decide) rfl dX3_bestChoice_44 ?_
        refine gs_iincN (q := 4) (a := S) (c := 1) (lv' := [(4, .int (nI (S + 1))), (3, .int (nI S)), (0, .ref (E.2.2.1 (10 + 2 * f))), (1, .int y), (2, .int p)]) k rfl rfl (by decide) rfl dX3_bestChoice_45 ?_
        refine gs_goto (tgt := 9) k (by decide) dX3_bestChoice_48 ?_
        refine gs_lv (lv' := [(0, .ref (E.2.2.1 (10 + 2 * f))), (1, .int y), (2, .int p), (3, .int (nI S)), (4, .int (nI (S + 1)))]) [2, 3, 4, 1, 0] rfl ?_
        exact hGS _ (by rw [if_pos ⟨c2, Int32.not_le.mp c3⟩])
  · show G l E K 9 [(0, .ref (E.2.2.1 (10 + 2 * f))), (1, .int y), (2, .int p), (3, .int (nI (bestC (V f) n m))), (4, .int (nI (2 ^ n)))] [] M
    refine gs_iload (q := 4) k rfl dX3_bestChoice_9 ?_
    refine gs_iconst (v := 1) k (by decide) dX3_bestChoice_11 ?_
    refine gs_iload_n (q := 1) k rfl rfl dX3_bestChoice_12 ?_
    refine gs_ishlN (b := n) k rfl hy (by omega) dX3_bestChoice_13 ?_
    refine gs_icmpN_ge (a := 2 ^ n) (b := 2 ^ n) (tgt := 51) k rfl rfl (by omega) (by omega) (by decide) dX3_bestChoice_14 (fun c1 => ?_) (fun c1 => absurd c1 (by omega))
    refine gs_iload_n (q := 3) k rfl rfl dX3_bestChoice_51 ?_
    exact gs_iret k kt dX3_bestChoice_52 ⟨rfl, rfl⟩

theorem cf_X7_best : CF yX7_best cX7_best 5 (some .int) 2 := ⟨cd_X7_best, iz_X7, by decide, by decide +kernel, by decide +kernel, by decide +kernel⟩
set_option maxRecDepth 100000 in
set_option maxHeartbeats 4000000 in
theorem c_X7_best {l : Launch} {E : Ev} {M : Mm} {n : Nat} {kd : Nat → Int32} {V : Nat → Nat → Int32} (hI : ∀ k, k < 108 → k ∈ E.2.1) (hn : Rn M n) (hF : RFn M n kd V) {z : Int32} {f : Nat} (hz : z = nI f) (hf : f < 6) (ht : ¬ kd f < 0) {p : Int32} {m : Nat} (hp0 : p = nI m) (hm : m ≤ n) : Cm l E yX7_best cX7_best 5 (some .int) 2 [.ref (E.2.2.1 65), .int z, .int p] M (pI (ob (-5) (bestR (V f) n m)) M) := by
  refine Cm.of (by decide) (Nat.le_of_ble_eq_true rfl) (fun K k kt => ?_)
  show G l E K 0 [(0, .ref (E.2.2.1 65)), (1, .int z), (2, .int p)] [] M
  obtain ⟨hn0, hn1, hn6⟩ := id hn
  have hp := p2_le6 hn6
  have hp2 := p2_ge2 hn1
  refine gs_bipush (v := -5) k (by decide) dX7_best_0 ?_
  refine gs_istore_n (lv' := [(3, .int (-5)), (0, .ref (E.2.2.1 65)), (1, .int z), (2, .int p)]) k rfl (by decide) rfl dX7_best_2 ?_
  refine gs_iconst (v := 0) k (by decide) dX7_best_3 ?_
  refine gs_istore (lv' := [(4, .int 0), (3, .int (-5)), (0, .ref (E.2.2.1 65)), (1, .int z), (2, .int p)]) k (by decide) rfl dX7_best_4 ?_
  refine gs_lv (lv' := [(0, .ref (E.2.2.1 65)), (1, .int z), (2, .int p), (3, .int (-5)), (4, .int 0)]) [2, 3, 4, 1, 0] rfl ?_
  refine for_upJ (σ := Option Nat) (fun S o => G l E K 6 [(0, .ref (E.2.2.1 65)), (1, .int z), (2, .int p), (3, .int (ob (-5) o)), (4, .int (nI S))] [] M) (fun S o => ∀ q, o = some q → q < 2 ^ n) (fun S o => ostep (pcn S = m) (fun b => V f b < V f S) S o) (2 ^ n) (fun S o hS hb => os_J (B := fun q => q < 2 ^ n) (fun _ => hS) hb) (fun S o hS hJS hGS => ?_) (2 ^ n) 0 none (by omega) (by intro q hq; cases hq) (fun hJe => ?_)
  · cases o with
    | none =>
      show G l E K 6 [(0, .ref (E.2.2.1 65)), (1, .int z), (2, .int p), (3, .int (-5)), (4, .int (nI S))] [] M
      refine gs_iload (q := 4) k rfl dX7_best_6 ?_
      refine gs_aload_n (q := 0) k rfl rfl dX7_best_8 ?_
      refine gs_callV (As := []) (k0 := 65) (ci := 7) (T := TX7) (N := 27) k (c_X7_sets hI hn) cf_X7_sets im_X7_sets sl_X7_sets ml_X7_83 (hI 65 (by omega)) rfl rfl (by decide) rfl rfl (Nat.le_of_ble_eq_true rfl) dX7_best_9 (ppI ?_)
      refine gs_icmpN_ge (a := S) (b := 2 ^ n) (tgt := 57) k rfl rfl (by omega) (by omega) (by decide) dX7_best_12 (fun c1 => absurd c1 (by omega)) (fun c1 => ?_)
      refine gs_iload (q := 4) k rfl dX7_best_15 ?_
      refine gs_callS (As := [.int (nI S)]) k (c_X7_many (S := S) rfl (by omega)) cf_X7_many sm_X7_many ml_X7_229 (by decide) rfl rfl (Nat.le_of_ble_eq_true rfl) dX7_best_17 (ppI ?_)
      have hpc7 := pcn_le S
      refine gs_iload_n (q := 2) k rfl rfl dX7_best_20 ?_
      refine gs_icmpN_ne (a := pcn S) (b := m) (tgt := 51) k rfl hp0 (by omega) (by omega) (by decide) dX7_best_21 (fun c2 => ?_) (fun c2 => ?_)
      · refine gs_iincN (q := 4) (a := S) (c := 1) (lv' := [(4, .int (nI (S + 1))), (0, .ref (E.2.2.1 65)), (1, .int z), (2, .int p), (3, .int (-5))]) k rfl rfl (by decide) rfl dX7_best_51 ?_
        refine gs_goto (tgt := 6) k (by decide) dX7_best_54 ?_
        refine gs_lv (lv' := [(0, .ref (E.2.2.1 65)), (1, .int z), (2, .int p), (3, .int (-5)), (4, .int (nI (S + 1)))]) [1, 2, 3, 4, 0] rfl ?_
        exact hGS none (os_skip c2)
      · refine gs_iload_n (q := 3) k rfl rfl dX7_best_24 ?_
        refine gs_if_lt (tgt := 48) k (by decide) dX7_best_25 (fun _ => ?_) (fun h => absurd h (by decide))
        refine gs_iload (q := 4) k rfl dX7_best_48 ?_
        refine gs_istore_n (lv' := [(3, .int (nI S)), (0, .ref (E.2.2.1 65)), (1, .int z), (2, .int p), (4, .int (nI S))]) k rfl (by decide) rfl dX7_best_50 ?_
        refine gs_iincN (q := 4) (a := S) (c := 1) (lv' := [(4, .int (nI (S + 1))), (3, .int (nI S)), (0, .ref (E.2.2.1 65)), (1, .int z), (2, .int p)]) k rfl rfl (by decide) rfl dX7_best_51 ?_
        refine gs_goto (tgt := 6) k (by decide) dX7_best_54 ?_
        refine gs_lv (lv' := [(0, .ref (E.2.2.1 65)), (1, .int z), (2, .int p), (3, .int (nI S)), (4, .int (nI (S + 1)))]) [2, 3, 4, 1, 0] rfl ?_
        exact hGS (some S) (os_first c2)
    | some b =>
      have hb : b < 2 ^ n := hJS b rfl
      show G l E K 6 [(0, .ref (E.2.2.1 65)), (1, .int z), (2, .int p), (3, .int (nI b)), (4, .int (nI S))] [] M
      refine gs_iload (q := 4) k rfl dX7_best_6 ?_
      refine gs_aload_n (q := 0) k rfl rfl dX7_best_8 ?_
      refine gs_callV (As := []) (k0 := 65) (ci := 7) (T := TX7) (N := 27) k (c_X7_sets hI hn) cf_X7_sets im_X7_sets sl_X7_sets ml_X7_83 (hI 65 (by omega)) rfl rfl (by decide) rfl rfl (Nat.le_of_ble_eq_true rfl) dX7_best_9 (ppI ?_)
      refine gs_icmpN_ge (a := S) (b := 2 ^ n) (tgt := 57) k rfl rfl (by omega) (by omega) (by decide) dX7_best_12 (fun c3 => absurd c3 (by omega)) (fun c3 => ?_)
      refine gs_iload (q := 4) k rfl dX7_best_15 ?_
      refine gs_callS (As := [.int (nI S)]) k (c_X7_many (S := S) rfl (by omega)) cf_X7_many sm_X7_many ml_X7_229 (by decide) rfl rfl (Nat.le_of_ble_eq_true rfl) dX7_best_17 (ppI ?_)
      have hpc8 := pcn_le S
      refine gs_iload_n (q := 2) k rfl rfl dX7_best_20 ?_
      refine gs_icmpN_ne (a := pcn S) (b := m) (tgt := 51) k rfl hp0 (by omega) (by omega) (by decide) dX7_best_21 (fun c4 => ?_) (fun c4 => ?_)
      · refine gs_iincN (q := 4) (a := S) (c := 1) (lv' := [(4, .int (nI (S + 1))), (0, .ref (E.2.2.1 65)), (1, .int z), (2, .int p), (3, .int (nI b))]) k rfl rfl (by decide) rfl dX7_best_51 ?_
        refine gs_goto (tgt := 6) k (by decide) dX7_best_54 ?_
        refine gs_lv (lv' := [(0, .ref (E.2.2.1 65)), (1, .int z), (2, .int p), (3, .int (nI b)), (4, .int (nI (S + 1)))]) [1, 2, 3, 4, 0] rfl ?_
        exact hGS (some b) (os_skip c4)
      · refine gs_iload_n (q := 3) k rfl rfl dX7_best_24 ?_
        refine gs_if_lt (tgt := 48) k (by decide) dX7_best_25 (fun h => absurd h (nnlt rfl (by omega))) (fun _ => ?_)
        refine gs_aload_n (q := 0) k rfl rfl dX7_best_28 ?_
        refine gs_get (C := RX7) (T := TX7) (N := 27) (ci := 7) (k0 := 65) (j := 8) k (hI 65 (by omega)) rfl rfl inX7 (by decide) fl_X7_39 rfl rfl dX7_best_29 ?_
        refine gs_iload_n (q := 1) k rfl rfl dX7_best_32 ?_
        refine gs_aaldIN (k0 := 73) (n := 6) (e := f) (a := E.2.2.1 (74 + f)) k (hI 73 (by omega)) (fun _ => rfl) hz (by omega) (by decide) rfl dX7_best_33 ?_
        refine gs_iload (q := 4) k rfl dX7_best_34 ?_
        refine gs_ialdN (k0 := (74 + f)) (n := 64) (e := S) k (hI (74 + f) (by omega)) (ent_RV (by omega)) rfl (by omega) (by decide) dX7_best_36 ?_
        refine gs_top (y := V f S) ((hF f hf).2.2 ht S (by omega)) ?_
        refine gs_aload_n (q := 0) k rfl rfl dX7_best_37 ?_
        refine gs_get (C := RX7) (T := TX7) (N := 27) (ci := 7) (k0 := 65) (j := 8) k (hI 65 (by omega)) rfl rfl inX7 (by decide) fl_X7_39 rfl rfl dX7_best_38 ?_
        refine gs_iload_n (q := 1) k rfl rfl dX7_best_41 ?_
        refine gs_aaldIN (k0 := 73) (n := 6) (e := f) (a := E.2.2.1 (74 + f)) k (hI 73 (by omega)) (fun _ => rfl) hz (by omega) (by decide) rfl dX7_best_42 ?_
        refine gs_iload_n (q := 3) k rfl rfl dX7_best_43 ?_
        refine gs_ialdN (k0 := (74 + f)) (n := 64) (e := b) k (hI (74 + f) (by omega)) (ent_RV (by omega)) rfl (by omega) (by decide) dX7_best_44 ?_
        refine gs_top (y := V f b) ((hF f hf).2.2 ht b (by omega)) ?_
        refine gs_icmp_le (tgt := 51) k (by decide) dX7_best_45 (fun c5 => ?_) (fun c5 => ?_)
        · refine gs_iincN (q := 4) (a := S) (c := 1) (lv' := [(4, .int (nI (S + 1))), (0, .ref (E.2.2.1 65)), (1, .int z), (2, .int p), (3, .int (nI b))]) k rfl rfl (by decide) rfl dX7_best_51 ?_
          refine gs_goto (tgt := 6) k (by decide) dX7_best_54 ?_
          refine gs_lv (lv' := [(0, .ref (E.2.2.1 65)), (1, .int z), (2, .int p), (3, .int (nI b)), (4, .int (nI (S + 1)))]) [1, 2, 3, 4, 0] rfl ?_
          exact hGS (some b) (os_keep c4 (fun q => Int32.not_le.mpr q c5))
        · refine gs_iload (q := 4) k rfl dX7_best_48 ?_
          refine gs_istore_n (lv' := [(3, .int (nI S)), (0, .ref (E.2.2.1 65)), (1, .int z), (2, .int p), (4, .int (nI S))]) k rfl (by decide) rfl dX7_best_50 ?_
          refine gs_iincN (q := 4) (a := S) (c := 1) (lv' := [(4, .int (nI (S + 1))), (3, .int (nI S)), (0, .ref (E.2.2.1 65)), (1, .int z), (2, .int p)]) k rfl rfl (by decide) rfl dX7_best_51 ?_
          refine gs_goto (tgt := 6) k (by decide) dX7_best_54 ?_
          refine gs_lv (lv' := [(0, .ref (E.2.2.1 65)), (1, .int z), (2, .int p), (3, .int (nI S)), (4, .int (nI (S + 1)))]) [2, 3, 4, 1, 0] rfl ?_
          exact hGS (some S) (os_take c4 (Int32.not_le.mp c5))
  · show G l E K 6 [(0, .ref (E.2.2.1 65)), (1, .int z), (2, .int p), (3, .int (ob (-5) (bestR (V f) n m))), (4, .int (nI (2 ^ n)))] [] M
    refine gs_iload (q := 4) k rfl dX7_best_6 ?_
    refine gs_aload_n (q := 0) k rfl rfl dX7_best_8 ?_
    refine gs_callV (As := []) (k0 := 65) (ci := 7) (T := TX7) (N := 27) k (c_X7_sets hI hn) cf_X7_sets im_X7_sets sl_X7_sets ml_X7_83 (hI 65 (by omega)) rfl rfl (by decide) rfl rfl (Nat.le_of_ble_eq_true rfl) dX7_best_9 (ppI ?_)
    refine gs_icmpN_ge (a := 2 ^ n) (b := 2 ^ n) (tgt := 57) k rfl rfl (by omega) (by omega) (by decide) dX7_best_12 (fun c1 => ?_) (fun c1 => absurd c1 (by omega))
    refine gs_iload_n (q := 3) k rfl rfl dX7_best_57 ?_
    exact gs_iret k kt dX7_best_58 ⟨rfl, rfl⟩

theorem cf_X3_greedyChoice : CF yX3_greedyChoice cX3_greedyChoice 7 (some .int) 2 := ⟨cd_X3_greedyChoice, iz_X3, by decide, by decide +kernel, by decide +kernel, by decide +kernel⟩
set_option maxRecDepth 100000 in
set_option maxHeartbeats 4000000 in
theorem c_X3_greedyChoice {l : Launch} {E : Ev} {M : Mm} {n : Nat} {kd : Nat → Int32} {V : Nat → Nat → Int32} (hI : ∀ k, k < 108 → k ∈ E.2.1) (hF : CFn M n kd V) {f : Nat} (hf : f < 6) (hn1 : 1 ≤ n) (hn6 : n ≤ 6) {y pa : Int32} {m : Nat} (hy : y = nI n) (hp0 : pa = nI m) (hm : m ≤ n) : Cm l E yX3_greedyChoice cX3_greedyChoice 7 (some .int) 2 [.ref (E.2.2.1 (10 + 2 * f)), .int y, .int pa] M (pI (nI (greedyS (V f) n m)) M) := by
  refine Cm.of (by decide) (Nat.le_of_ble_eq_true rfl) (fun K k kt => ?_)
  show G l E K 0 [(0, .ref (E.2.2.1 (10 + 2 * f))), (1, .int y), (2, .int pa)] [] M
  have hp := p2_le6 hn6
  have hp2 := p2_ge2 hn1
  refine gs_iconst (v := 0) k (by decide) dX3_greedyChoice_0 ?_
  refine gs_istore_n (lv' := [(3, .int 0), (0, .ref (E.2.2.1 (10 + 2 * f))), (1, .int y), (2, .int pa)]) k rfl (by decide) rfl dX3_greedyChoice_1 ?_
  refine gs_iconst (v := 0) k (by decide) dX3_greedyChoice_2 ?_
  refine gs_istore (lv' := [(4, .int 0), (3, .int 0), (0, .ref (E.2.2.1 (10 + 2 * f))), (1, .int y), (2, .int pa)]) k (by decide) rfl dX3_greedyChoice_3 ?_
  refine gs_lv (lv' := [(0, .ref (E.2.2.1 (10 + 2 * f))), (1, .int y), (2, .int pa), (3, .int 0), (4, .int 0)]) [2, 3, 4, 1, 0] rfl ?_
  refine for_upJ (σ := Nat) (fun a S => G l E K 5 [(0, .ref (E.2.2.1 (10 + 2 * f))), (1, .int y), (2, .int pa), (3, .int (nI S)), (4, .int (nI a))] [] M) (fun a S => S < 2 ^ n ∧ pcn S = a) (fun a S => gstep (V f) n S) m (fun a S ha hS => gstep_ok hn6 hS.1 (by omega) hS.2) (fun a S ha hJa hGa => ?_) m 0 0 (by omega) ⟨by omega, rfl⟩ (fun hJa => ?_)
  · show G l E K 5 [(0, .ref (E.2.2.1 (10 + 2 * f))), (1, .int y), (2, .int pa), (3, .int (nI S)), (4, .int (nI a))] [] M
    have hS1 := hJa.1
    refine gs_iload (q := 4) k rfl dX3_greedyChoice_5 ?_
    refine gs_iload_n (q := 2) k rfl rfl dX3_greedyChoice_7 ?_
    refine gs_icmpN_ge (a := a) (b := m) (tgt := 84) k rfl hp0 (by omega) (by omega) (by decide) dX3_greedyChoice_8 (fun c1 => absurd c1 (by omega)) (fun c1 => ?_)
    refine gs_iconst (v := -1) k (by decide) dX3_greedyChoice_11 ?_
    refine gs_istore (lv' := [(5, .int (-1)), (0, .ref (E.2.2.1 (10 + 2 * f))), (1, .int y), (2, .int pa), (3, .int (nI S)), (4, .int (nI a))]) k (by decide) rfl dX3_greedyChoice_12 ?_
    refine gs_iconst (v := 0) k (by decide) dX3_greedyChoice_14 ?_
    refine gs_istore (lv' := [(6, .int 0), (5, .int (-1)), (0, .ref (E.2.2.1 (10 + 2 * f))), (1, .int y), (2, .int pa), (3, .int (nI S)), (4, .int (nI a))]) k (by decide) rfl dX3_greedyChoice_15 ?_
    refine gs_lv (lv' := [(0, .ref (E.2.2.1 (10 + 2 * f))), (1, .int y), (2, .int pa), (3, .int (nI S)), (4, .int (nI a)), (5, .int (-1)), (6, .int 0)]) [2, 3, 4, 5, 6, 1, 0] rfl ?_
    refine for_upJ (σ := Option Nat) (fun p o => G l E K 17 [(0, .ref (E.2.2.1 (10 + 2 * f))), (1, .int y), (2, .int pa), (3, .int (nI S)), (4, .int (nI a)), (5, .int (ob (-1) o)), (6, .int (nI p))] [] M) (fun p o => ∀ q, o = some q → q < n) (fun p o => ostep (¬ S.testBit p = true) (fun b => gn (V f) S b < gn (V f) S p) p o) n (fun p o hp hb => os_J (B := fun q => q < n) (fun _ => hp) hb) (fun p o hp hJp hGp => ?_) n 0 none (by omega) (by intro q hq; cases hq) (fun hJe => ?_)
    · cases o with
      | none =>
        show G l E K 17 [(0, .ref (E.2.2.1 (10 + 2 * f))), (1, .int y), (2, .int pa), (3, .int (nI S)), (4, .int (nI a)), (5, .int (-1)), (6, .int (nI p))] [] M
        refine gs_iload (q := 6) k rfl dX3_greedyChoice_17 ?_
        refine gs_iload_n (q := 1) k rfl rfl dX3_greedyChoice_19 ?_
        refine gs_icmpN_ge (a := p) (b := n) (tgt := 65) k rfl hy (by omega) (by omega) (by decide) dX3_greedyChoice_20 (fun c2 => absurd c2 (by omega)) (fun c2 => ?_)
        refine gs_iload_n (q := 3) k rfl rfl dX3_greedyChoice_23 ?_
        refine gs_iload (q := 6) k rfl dX3_greedyChoice_24 ?_
        refine gs_callH3 (As := [.int (nI S), .int (nI p)]) k (c_X6_holds (S := S) (P := p) rfl rfl (by omega) (by omega)) cf_X6_holds sm_X6_holds (by decide) rfl rfl (Nat.le_of_ble_eq_true rfl) dX3_greedyChoice_26 (ppB (fun c3 => ?_) (fun c3 => ?_))
        · refine gs_if_ne (tgt := 59) k (by decide) dX3_greedyChoice_29 (fun _ => ?_) (fun h => absurd h (by decide))
          refine gs_iincN (q := 6) (a := p) (c := 1) (lv' := [(6, .int (nI (p + 1))), (0, .ref (E.2.2.1 (10 + 2 * f))), (1, .int y), (2, .int pa), (3, .int (nI S)), (4, .int (nI a)), (5, .int (-1))]) k rfl rfl (by decide) rfl dX3_greedyChoice_59 ?_
          refine gs_goto (tgt := 17) k (by decide) dX3_greedyChoice_62 ?_
          refine gs_lv (lv' := [(0, .ref (E.2.2.1 (10 + 2 * f))), (1, .int y), (2, .int pa), (3, .int (nI S)), (4, .int (nI a)), (5, .int (-1)), (6, .int (nI (p + 1)))]) [1, 2, 3, 4, 5, 6, 0] rfl ?_
          exact hGp none (os_skip (fun q => q c3))
        · refine gs_if_ne (tgt := 59) k (by decide) dX3_greedyChoice_29 (fun h => absurd h (by decide)) (fun _ => ?_)
          refine gs_iload (q := 5) k rfl dX3_greedyChoice_32 ?_
          refine gs_iconst (v := -1) k (by decide) dX3_greedyChoice_34 ?_
          refine gs_icmp_eq (tgt := 55) k (by decide) dX3_greedyChoice_35 (fun _ => ?_) (fun h => absurd h (by decide))
          refine gs_iload (q := 6) k rfl dX3_greedyChoice_55 ?_
          refine gs_istore (lv' := [(5, .int (nI p)), (0, .ref (E.2.2.1 (10 + 2 * f))), (1, .int y), (2, .int pa), (3, .int (nI S)), (4, .int (nI a)), (6, .int (nI p))]) k (by decide) rfl dX3_greedyChoice_57 ?_
          refine gs_iincN (q := 6) (a := p) (c := 1) (lv' := [(6, .int (nI (p + 1))), (5, .int (nI p)), (0, .ref (E.2.2.1 (10 + 2 * f))), (1, .int y), (2, .int pa), (3, .int (nI S)), (4, .int (nI a))]) k rfl rfl (by decide) rfl dX3_greedyChoice_59 ?_
          refine gs_goto (tgt := 17) k (by decide) dX3_greedyChoice_62 ?_
          refine gs_lv (lv' := [(0, .ref (E.2.2.1 (10 + 2 * f))), (1, .int y), (2, .int pa), (3, .int (nI S)), (4, .int (nI a)), (5, .int (nI p)), (6, .int (nI (p + 1)))]) [2, 3, 4, 5, 6, 1, 0] rfl ?_
          exact hGp (some p) (os_first c3)
      | some b =>
        have hb : b < n := hJp b rfl
        show G l E K 17 [(0, .ref (E.2.2.1 (10 + 2 * f))), (1, .int y), (2, .int pa), (3, .int (nI S)), (4, .int (nI a)), (5, .int (nI b)), (6, .int (nI p))] [] M
        refine gs_iload (q := 6) k rfl dX3_greedyChoice_17 ?_
        refine gs_iload_n (q := 1) k rfl rfl dX3_greedyChoice_19 ?_
        refine gs_icmpN_ge (a := p) (b := n) (tgt := 65) k rfl hy (by omega) (by omega) (by decide) dX3_greedyChoice_20 (fun c4 => absurd c4 (by omega)) (fun c4 => ?_)
        refine gs_iload_n (q := 3) k rfl rfl dX3_greedyChoice_23 ?_
        refine gs_iload (q := 6) k rfl dX3_greedyChoice_24 ?_
        refine gs_callH3 (As := [.int (nI S), .int (nI p)]) k (c_X6_holds (S := S) (P := p) rfl rfl (by omega) (by omega)) cf_X6_holds sm_X6_holds (by decide) rfl rfl (Nat.le_of_ble_eq_true rfl) dX3_greedyChoice_26 (ppB (fun c5 => ?_) (fun c5 => ?_))
        · refine gs_if_ne (tgt := 59) k (by decide) dX3_greedyChoice_29 (fun _ => ?_) (fun h => absurd h (by decide))
          refine gs_iincN (q := 6) (a := p) (c := 1) (lv' := [(6, .int (nI (p + 1))), (0, .ref (E.2.2.1 (10 + 2 * f))), (1, .int y), (2, .int pa), (3, .int (nI S)), (4, .int (nI a)), (5, .int (nI b))]) k rfl rfl (by decide) rfl dX3_greedyChoice_59 ?_
          refine gs_goto (tgt := 17) k (by decide) dX3_greedyChoice_62 ?_
          refine gs_lv (lv' := [(0, .ref (E.2.2.1 (10 + 2 * f))), (1, .int y), (2, .int pa), (3, .int (nI S)), (4, .int (nI a)), (5, .int (nI b)), (6, .int (nI (p + 1)))]) [1, 2, 3, 4, 5, 6, 0] rfl ?_
          exact hGp (some b) (os_skip (fun q => q c5))
        · refine gs_if_ne (tgt := 59) k (by decide) dX3_greedyChoice_29 (fun h => absurd h (by decide)) (fun _ => ?_)
          refine gs_iload (q := 5) k rfl dX3_greedyChoice_32 ?_
          refine gs_iconst (v := -1) k (by decide) dX3_greedyChoice_34 ?_
          refine gs_icmp_eq (tgt := 55) k (by decide) dX3_greedyChoice_35 (fun h => absurd h (nnne rfl (by omega) (by decide))) (fun _ => ?_)
          refine gs_aload_n (q := 0) k rfl rfl dX3_greedyChoice_38 ?_
          refine gs_iload_n (q := 3) k rfl rfl dX3_greedyChoice_39 ?_
          refine gs_iload (q := 6) k rfl dX3_greedyChoice_40 ?_
          refine gs_callV (As := [.int (nI S), .int (nI p)]) (k0 := (10 + 2 * f)) (ci := 3) (T := TX3) (N := 2) k (c_X3_gainAt (S := S) (P := p) hI hF hf hn6 rfl rfl (by omega) (by omega)) cf_X3_gainAt im_X3_gainAt sl_X3_gainAt ml_X3_39 (hI (10 + 2 * f) (by omega)) (ent_F1 hf _) rfl (by decide) rfl rfl (Nat.le_of_ble_eq_true rfl) dX3_greedyChoice_42 (ppI ?_)
          refine gs_aload_n (q := 0) k rfl rfl dX3_greedyChoice_45 ?_
          refine gs_iload_n (q := 3) k rfl rfl dX3_greedyChoice_46 ?_
          refine gs_iload (q := 5) k rfl dX3_greedyChoice_47 ?_
          refine gs_callV (As := [.int (nI S), .int (nI b)]) (k0 := (10 + 2 * f)) (ci := 3) (T := TX3) (N := 2) k (c_X3_gainAt (S := S) (P := b) hI hF hf hn6 rfl rfl (by omega) (by omega)) cf_X3_gainAt im_X3_gainAt sl_X3_gainAt ml_X3_39 (hI (10 + 2 * f) (by omega)) (ent_F1 hf _) rfl (by decide) rfl rfl (Nat.le_of_ble_eq_true rfl) dX3_greedyChoice_49 (ppI ?_)
          refine gs_icmp_le (tgt := 59) k (by decide) dX3_greedyChoice_52 (fun c6 => ?_) (fun c6 => ?_)
          · refine gs_iincN (q := 6) (a := p) (c := 1) (lv' := [(6, .int (nI (p + 1))), (0, .ref (E.2.2.1 (10 + 2 * f))), (1, .int y), (2, .int pa), (3, .int (nI S)), (4, .int (nI a)), (5, .int (nI b))]) k rfl rfl (by decide) rfl dX3_greedyChoice_59 ?_
            refine gs_goto (tgt := 17) k (by decide) dX3_greedyChoice_62 ?_
            refine gs_lv (lv' := [(0, .ref (E.2.2.1 (10 + 2 * f))), (1, .int y), (2, .int pa), (3, .int (nI S)), (4, .int (nI a)), (5, .int (nI b)), (6, .int (nI (p + 1)))]) [1, 2, 3, 4, 5, 6, 0] rfl ?_
            exact hGp (some b) (os_keep c5 (fun q => Int32.not_le.mpr q c6))
          · refine gs_iload (q := 6) k rfl dX3_greedyChoice_55 ?_
            refine gs_istore (lv' := [(5, .int (nI p)), (0, .ref (E.2.2.1 (10 + 2 * f))), (1, .int y), (2, .int pa), (3, .int (nI S)), (4, .int (nI a)), (6, .int (nI p))]) k (by decide) rfl dX3_greedyChoice_57 ?_
            refine gs_iincN (q := 6) (a := p) (c := 1) (lv' := [(6, .int (nI (p + 1))), (5, .int (nI p)), (0, .ref (E.2.2.1 (10 + 2 * f))), (1, .int y), (2, .int pa), (3, .int (nI S)), (4, .int (nI a))]) k rfl rfl (by decide) rfl dX3_greedyChoice_59 ?_
            refine gs_goto (tgt := 17) k (by decide) dX3_greedyChoice_62 ?_
            refine gs_lv (lv' := [(0, .ref (E.2.2.1 (10 + 2 * f))), (1, .int y), (2, .int pa), (3, .int (nI S)), (4, .int (nI a)), (5, .int (nI p)), (6, .int (nI (p + 1)))]) [2, 3, 4, 5, 6, 1, 0] rfl ?_
            exact hGp (some p) (os_take c5 (Int32.not_le.mp c6))
    · obtain ⟨p, he⟩ := gbest_some (v := V f) (pc_room n (by omega) S hJa.1 (by omega))
      have hpn := (gbest_J (V f) n S p he).1
      have hg : gstep (V f) n S = S ||| 2 ^ p := by unfold gstep; rw [he]
      show G l E K 17 [(0, .ref (E.2.2.1 (10 + 2 * f))), (1, .int y), (2, .int pa), (3, .int (nI S)), (4, .int (nI a)), (5, .int (ob (-1) (gbest (V f) n S))), (6, .int (nI n))] [] M
      rw [he]
      show G l E K 17 [(0, .ref (E.2.2.1 (10 + 2 * f))), (1, .int y), (2, .int pa), (3, .int (nI S)), (4, .int (nI a)), (5, .int (nI p)), (6, .int (nI n))] [] M
      refine gs_iload (q := 6) k rfl dX3_greedyChoice_17 ?_
      refine gs_iload_n (q := 1) k rfl rfl dX3_greedyChoice_19 ?_
      refine gs_icmpN_ge (a := n) (b := n) (tgt := 65) k rfl hy (by omega) (by omega) (by decide) dX3_greedyChoice_20 (fun c2 => ?_) (fun c2 => absurd c2 (by omega))
      refine gs_iload (q := 5) k rfl dX3_greedyChoice_65 ?_
      refine gs_iconst (v := -1) k (by decide) dX3_greedyChoice_67 ?_
      refine gs_icmp_eq (tgt := 78) k (by decide) dX3_greedyChoice_68 (fun h => absurd h (nnne rfl (by omega) (by decide))) (fun _ => ?_)
      refine gs_iload_n (q := 3) k rfl rfl dX3_greedyChoice_71 ?_
      refine gs_iconst (v := 1) k (by decide) dX3_greedyChoice_72 ?_
      refine gs_iload (q := 5) k rfl dX3_greedyChoice_73 ?_
      refine gs_ishlN (b := p) k rfl rfl (by omega) dX3_greedyChoice_75 ?_
      refine gs_iorN (a := S) (b := 2 ^ p) k rfl rfl dX3_greedyChoice_76 ?_
      refine gs_istore_n (lv' := [(3, .int (nI (S ||| (2 ^ p)))), (0, .ref (E.2.2.1 (10 + 2 * f))), (1, .int y), (2, .int pa), (4, .int (nI a)), (5, .int (nI p)), (6, .int (nI n))]) k rfl (by decide) rfl dX3_greedyChoice_77 ?_
      refine gs_iincN (q := 4) (a := a) (c := 1) (lv' := [(4, .int (nI (a + 1))), (3, .int (nI (S ||| (2 ^ p)))), (0, .ref (E.2.2.1 (10 + 2 * f))), (1, .int y), (2, .int pa), (5, .int (nI p)), (6, .int (nI n))]) k rfl rfl (by decide) rfl dX3_greedyChoice_78 ?_
      refine gs_goto (tgt := 5) k (by decide) dX3_greedyChoice_81 ?_
      refine gs_lv (lv' := [(0, .ref (E.2.2.1 (10 + 2 * f))), (1, .int y), (2, .int pa), (3, .int (nI (S ||| (2 ^ p)))), (4, .int (nI (a + 1))), (5, .int (nI p)), (6, .int (nI n))]) [2, 3, 4, 1, 0, 5, 6] rfl ?_
      refine gs_lv (lv' := [(0, .ref (E.2.2.1 (10 + 2 * f))), (1, .int y), (2, .int pa), (3, .int (nI (S ||| (2 ^ p)))), (4, .int (nI (a + 1)))]) [0, 1, 2, 3, 4] rfl ?_
      exact hGa _ hg.symm
  · show G l E K 5 [(0, .ref (E.2.2.1 (10 + 2 * f))), (1, .int y), (2, .int pa), (3, .int (nI (greedyS (V f) n m))), (4, .int (nI m))] [] M
    refine gs_iload (q := 4) k rfl dX3_greedyChoice_5 ?_
    refine gs_iload_n (q := 2) k rfl rfl dX3_greedyChoice_7 ?_
    refine gs_icmpN_ge (a := m) (b := m) (tgt := 84) k rfl hp0 (by omega) (by omega) (by decide) dX3_greedyChoice_8 (fun c1 => ?_) (fun c1 => absurd c1 (by omega))
    refine gs_iload_n (q := 3) k rfl rfl dX3_greedyChoice_84 ?_
    exact gs_iret k kt dX3_greedyChoice_85 ⟨rfl, rfl⟩

theorem cf_X7_greed : CF yX7_greed cX7_greed 7 (some .int) 2 := ⟨cd_X7_greed, iz_X7, by decide, by decide +kernel, by decide +kernel, by decide +kernel⟩
set_option maxRecDepth 100000 in
set_option maxHeartbeats 4000000 in
theorem c_X7_greed {l : Launch} {E : Ev} {M : Mm} {n : Nat} {kd : Nat → Int32} {V : Nat → Nat → Int32} (hI : ∀ k, k < 108 → k ∈ E.2.1) (hn : Rn M n) (hF : RFn M n kd V) {z : Int32} {f : Nat} (hz : z = nI f) (hf : f < 6) (ht : ¬ kd f < 0) {pa : Int32} {m : Nat} (hp0 : pa = nI m) (hm : m ≤ n) : Cm l E yX7_greed cX7_greed 7 (some .int) 1 [.ref (E.2.2.1 65), .int z, .int pa] M (pI (nI (greedyS (V f) n m)) M) := by
  refine Cm.of (by decide) (Nat.le_of_ble_eq_true rfl) (fun K k kt => ?_)
  show G l E K 0 [(0, .ref (E.2.2.1 65)), (1, .int z), (2, .int pa)] [] M
  obtain ⟨hn0, hn1, hn6⟩ := id hn
  have hp := p2_le6 hn6
  have hp2 := p2_ge2 hn1
  refine gs_iconst (v := 0) k (by decide) dX7_greed_0 ?_
  refine gs_istore_n (lv' := [(3, .int 0), (0, .ref (E.2.2.1 65)), (1, .int z), (2, .int pa)]) k rfl (by decide) rfl dX7_greed_1 ?_
  refine gs_iconst (v := 0) k (by decide) dX7_greed_2 ?_
  refine gs_istore (lv' := [(4, .int 0), (3, .int 0), (0, .ref (E.2.2.1 65)), (1, .int z), (2, .int pa)]) k (by decide) rfl dX7_greed_3 ?_
  refine gs_lv (lv' := [(0, .ref (E.2.2.1 65)), (1, .int z), (2, .int pa), (3, .int 0), (4, .int 0)]) [2, 3, 4, 1, 0] rfl ?_
  refine for_upJ (σ := Nat) (fun a S => G l E K 5 [(0, .ref (E.2.2.1 65)), (1, .int z), (2, .int pa), (3, .int (nI S)), (4, .int (nI a))] [] M) (fun a S => S < 2 ^ n ∧ pcn S = a) (fun a S => gstep (V f) n S) m (fun a S ha hS => gstep_ok hn6 hS.1 (by omega) hS.2) (fun a S ha hJa hGa => ?_) m 0 0 (by omega) ⟨by omega, rfl⟩ (fun hJa => ?_)
  · show G l E K 5 [(0, .ref (E.2.2.1 65)), (1, .int z), (2, .int pa), (3, .int (nI S)), (4, .int (nI a))] [] M
    have hS1 := hJa.1
    refine gs_iload (q := 4) k rfl dX7_greed_5 ?_
    refine gs_iload_n (q := 2) k rfl rfl dX7_greed_7 ?_
    refine gs_icmpN_ge (a := a) (b := m) (tgt := 83) k rfl hp0 (by omega) (by omega) (by decide) dX7_greed_8 (fun c1 => absurd c1 (by omega)) (fun c1 => ?_)
    refine gs_bipush (v := -5) k (by decide) dX7_greed_11 ?_
    refine gs_istore (lv' := [(5, .int (-5)), (0, .ref (E.2.2.1 65)), (1, .int z), (2, .int pa), (3, .int (nI S)), (4, .int (nI a))]) k (by decide) rfl dX7_greed_13 ?_
    refine gs_iconst (v := 0) k (by decide) dX7_greed_15 ?_
    refine gs_istore (lv' := [(6, .int 0), (5, .int (-5)), (0, .ref (E.2.2.1 65)), (1, .int z), (2, .int pa), (3, .int (nI S)), (4, .int (nI a))]) k (by decide) rfl dX7_greed_16 ?_
    refine gs_lv (lv' := [(0, .ref (E.2.2.1 65)), (1, .int z), (2, .int pa), (3, .int (nI S)), (4, .int (nI a)), (5, .int (-5)), (6, .int 0)]) [2, 3, 4, 5, 6, 1, 0] rfl ?_
    refine for_upJ (σ := Option Nat) (fun p o => G l E K 18 [(0, .ref (E.2.2.1 65)), (1, .int z), (2, .int pa), (3, .int (nI S)), (4, .int (nI a)), (5, .int (ob (-5) o)), (6, .int (nI p))] [] M) (fun p o => ∀ q, o = some q → q < n) (fun p o => ostep (¬ S.testBit p = true) (fun b => gn (V f) S b < gn (V f) S p) p o) n (fun p o hp hb => os_J (B := fun q => q < n) (fun _ => hp) hb) (fun p o hp hJp hGp => ?_) n 0 none (by omega) (by intro q hq; cases hq) (fun hJe => ?_)
    · cases o with
      | none =>
        show G l E K 18 [(0, .ref (E.2.2.1 65)), (1, .int z), (2, .int pa), (3, .int (nI S)), (4, .int (nI a)), (5, .int (-5)), (6, .int (nI p))] [] M
        refine gs_iload (q := 6) k rfl dX7_greed_18 ?_
        refine gs_aload_n (q := 0) k rfl rfl dX7_greed_20 ?_
        refine gs_get (C := RX7) (T := TX7) (N := 27) (ci := 7) (k0 := 65) (j := 0) k (hI 65 (by omega)) rfl rfl inX7 (by decide) fl_X7_9 rfl rfl dX7_greed_21 ?_
        refine gs_icmpN_ge (a := p) (b := n) (tgt := 70) k rfl hn0 (by omega) (by omega) (by decide) dX7_greed_24 (fun c2 => absurd c2 (by omega)) (fun c2 => ?_)
        refine gs_iload_n (q := 3) k rfl rfl dX7_greed_27 ?_
        refine gs_iload (q := 6) k rfl dX7_greed_28 ?_
        refine gs_callS (As := [.int (nI S), .int (nI p)]) k (c_X7_has (S := S) (P := p) rfl rfl (by omega) (by omega)) cf_X7_has sm_X7_has ml_X7_118 (by decide) rfl rfl (Nat.le_of_ble_eq_true rfl) dX7_greed_30 (ppB (fun c3 => ?_) (fun c3 => ?_))
        · refine gs_if_ne (tgt := 64) k (by decide) dX7_greed_33 (fun _ => ?_) (fun h => absurd h (by decide))
          refine gs_iincN (q := 6) (a := p) (c := 1) (lv' := [(6, .int (nI (p + 1))), (0, .ref (E.2.2.1 65)), (1, .int z), (2, .int pa), (3, .int (nI S)), (4, .int (nI a)), (5, .int (-5))]) k rfl rfl (by decide) rfl dX7_greed_64 ?_
          refine gs_goto (tgt := 18) k (by decide) dX7_greed_67 ?_
          refine gs_lv (lv' := [(0, .ref (E.2.2.1 65)), (1, .int z), (2, .int pa), (3, .int (nI S)), (4, .int (nI a)), (5, .int (-5)), (6, .int (nI (p + 1)))]) [1, 2, 3, 4, 5, 6, 0] rfl ?_
          exact hGp none (os_skip (fun q => q c3))
        · refine gs_if_ne (tgt := 64) k (by decide) dX7_greed_33 (fun h => absurd h (by decide)) (fun _ => ?_)
          refine gs_iload (q := 5) k rfl dX7_greed_36 ?_
          refine gs_if_lt (tgt := 60) k (by decide) dX7_greed_38 (fun _ => ?_) (fun h => absurd h (by decide))
          refine gs_iload (q := 6) k rfl dX7_greed_60 ?_
          refine gs_istore (lv' := [(5, .int (nI p)), (0, .ref (E.2.2.1 65)), (1, .int z), (2, .int pa), (3, .int (nI S)), (4, .int (nI a)), (6, .int (nI p))]) k (by decide) rfl dX7_greed_62 ?_
          refine gs_iincN (q := 6) (a := p) (c := 1) (lv' := [(6, .int (nI (p + 1))), (5, .int (nI p)), (0, .ref (E.2.2.1 65)), (1, .int z), (2, .int pa), (3, .int (nI S)), (4, .int (nI a))]) k rfl rfl (by decide) rfl dX7_greed_64 ?_
          refine gs_goto (tgt := 18) k (by decide) dX7_greed_67 ?_
          refine gs_lv (lv' := [(0, .ref (E.2.2.1 65)), (1, .int z), (2, .int pa), (3, .int (nI S)), (4, .int (nI a)), (5, .int (nI p)), (6, .int (nI (p + 1)))]) [2, 3, 4, 5, 6, 1, 0] rfl ?_
          exact hGp (some p) (os_first c3)
      | some b =>
        have hb : b < n := hJp b rfl
        show G l E K 18 [(0, .ref (E.2.2.1 65)), (1, .int z), (2, .int pa), (3, .int (nI S)), (4, .int (nI a)), (5, .int (nI b)), (6, .int (nI p))] [] M
        refine gs_iload (q := 6) k rfl dX7_greed_18 ?_
        refine gs_aload_n (q := 0) k rfl rfl dX7_greed_20 ?_
        refine gs_get (C := RX7) (T := TX7) (N := 27) (ci := 7) (k0 := 65) (j := 0) k (hI 65 (by omega)) rfl rfl inX7 (by decide) fl_X7_9 rfl rfl dX7_greed_21 ?_
        refine gs_icmpN_ge (a := p) (b := n) (tgt := 70) k rfl hn0 (by omega) (by omega) (by decide) dX7_greed_24 (fun c4 => absurd c4 (by omega)) (fun c4 => ?_)
        refine gs_iload_n (q := 3) k rfl rfl dX7_greed_27 ?_
        refine gs_iload (q := 6) k rfl dX7_greed_28 ?_
        refine gs_callS (As := [.int (nI S), .int (nI p)]) k (c_X7_has (S := S) (P := p) rfl rfl (by omega) (by omega)) cf_X7_has sm_X7_has ml_X7_118 (by decide) rfl rfl (Nat.le_of_ble_eq_true rfl) dX7_greed_30 (ppB (fun c5 => ?_) (fun c5 => ?_))
        · refine gs_if_ne (tgt := 64) k (by decide) dX7_greed_33 (fun _ => ?_) (fun h => absurd h (by decide))
          refine gs_iincN (q := 6) (a := p) (c := 1) (lv' := [(6, .int (nI (p + 1))), (0, .ref (E.2.2.1 65)), (1, .int z), (2, .int pa), (3, .int (nI S)), (4, .int (nI a)), (5, .int (nI b))]) k rfl rfl (by decide) rfl dX7_greed_64 ?_
          refine gs_goto (tgt := 18) k (by decide) dX7_greed_67 ?_
          refine gs_lv (lv' := [(0, .ref (E.2.2.1 65)), (1, .int z), (2, .int pa), (3, .int (nI S)), (4, .int (nI a)), (5, .int (nI b)), (6, .int (nI (p + 1)))]) [1, 2, 3, 4, 5, 6, 0] rfl ?_
          exact hGp (some b) (os_skip (fun q => q c5))
        · refine gs_if_ne (tgt := 64) k (by decide) dX7_greed_33 (fun h => absurd h (by decide)) (fun _ => ?_)
          refine gs_iload (q := 5) k rfl dX7_greed_36 ?_
          refine gs_if_lt (tgt := 60) k (by decide) dX7_greed_38 (fun h => absurd h (nnlt rfl (by omega))) (fun _ => ?_)
          refine gs_aload_n (q := 0) k rfl rfl dX7_greed_41 ?_
          refine gs_iload_n (q := 1) k rfl rfl dX7_greed_42 ?_
          refine gs_iload_n (q := 3) k rfl rfl dX7_greed_43 ?_
          refine gs_iload (q := 6) k rfl dX7_greed_44 ?_
          refine gs_callV (As := [.int z, .int (nI S), .int (nI p)]) (k0 := 65) (ci := 7) (T := TX7) (N := 27) k (c_X7_gainOf (f := f) (S := S) (P := p) hI hF hn6 hz (by omega) ht rfl rfl (by omega) (by omega)) cf_X7_gainOf im_X7_gainOf sl_X7_gainOf ml_X7_169 (hI 65 (by omega)) rfl rfl (by decide) rfl rfl (Nat.le_of_ble_eq_true rfl) dX7_greed_46 (ppI ?_)
          refine gs_aload_n (q := 0) k rfl rfl dX7_greed_49 ?_
          refine gs_iload_n (q := 1) k rfl rfl dX7_greed_50 ?_
          refine gs_iload_n (q := 3) k rfl rfl dX7_greed_51 ?_
          refine gs_iload (q := 5) k rfl dX7_greed_52 ?_
          refine gs_callV (As := [.int z, .int (nI S), .int (nI b)]) (k0 := 65) (ci := 7) (T := TX7) (N := 27) k (c_X7_gainOf (f := f) (S := S) (P := b) hI hF hn6 hz (by omega) ht rfl rfl (by omega) (by omega)) cf_X7_gainOf im_X7_gainOf sl_X7_gainOf ml_X7_169 (hI 65 (by omega)) rfl rfl (by decide) rfl rfl (Nat.le_of_ble_eq_true rfl) dX7_greed_54 (ppI ?_)
          refine gs_icmp_le (tgt := 64) k (by decide) dX7_greed_57 (fun c6 => ?_) (fun c6 => ?_)
          · refine gs_iincN (q := 6) (a := p) (c := 1) (lv' := [(6, .int (nI (p + 1))), (0, .ref (E.2.2.1 65)), (1, .int z), (2, .int pa), (3, .int (nI S)), (4, .int (nI a)), (5, .int (nI b))]) k rfl rfl (by decide) rfl dX7_greed_64 ?_
            refine gs_goto (tgt := 18) k (by decide) dX7_greed_67 ?_
            refine gs_lv (lv' := [(0, .ref (E.2.2.1 65)), (1, .int z), (2, .int pa), (3, .int (nI S)), (4, .int (nI a)), (5, .int (nI b)), (6, .int (nI (p + 1)))]) [1, 2, 3, 4, 5, 6, 0] rfl ?_
            exact hGp (some b) (os_keep c5 (fun q => Int32.not_le.mpr q c6))
          · refine gs_iload (q := 6) k rfl dX7_greed_60 ?_
            refine gs_istore (lv' := [(5, .int (nI p)), (0, .ref (E.2.2.1 65)), (1, .int z), (2, .int pa), (3, .int (nI S)), (4, .int (nI a)), (6, .int (nI p))]) k (by decide) rfl dX7_greed_62 ?_
            refine gs_iincN (q := 6) (a := p) (c := 1) (lv' := [(6, .int (nI (p + 1))), (5, .int (nI p)), (0, .ref (E.2.2.1 65)), (1, .int z), (2, .int pa), (3, .int (nI S)), (4, .int (nI a))]) k rfl rfl (by decide) rfl dX7_greed_64 ?_
            refine gs_goto (tgt := 18) k (by decide) dX7_greed_67 ?_
            refine gs_lv (lv' := [(0, .ref (E.2.2.1 65)), (1, .int z), (2, .int pa), (3, .int (nI S)), (4, .int (nI a)), (5, .int (nI p)), (6, .int (nI (p + 1)))]) [2, 3, 4, 5, 6, 1, 0] rfl ?_
            exact hGp (some p) (os_take c5 (Int32.not_le.mp c6))
    · obtain ⟨p, he⟩ := gbest_some (v := V f) (pc_room n (by omega) S hJa.1 (by omega))
      have hpn := (gbest_J (V f) n S p he).1
      have hg : gstep (V f) n S = S ||| 2 ^ p := by unfold gstep; rw [he]
      show G l E K 18 [(0, .ref (E.2.2.1 65)), (1, .int z), (2, .int pa), (3, .int (nI S)), (4, .int (nI a)), (5, .int (ob (-5) (gbest (V f) n S))), (6, .int (nI n))] [] M
      rw [he]
      show G l E K 18 [(0, .ref (E.2.2.1 65)), (1, .int z), (2, .int pa), (3, .int (nI S)), (4, .int (nI a)), (5, .int (nI p)), (6, .int (nI n))] [] M
      refine gs_iload (q := 6) k rfl dX7_greed_18 ?_
      refine gs_aload_n (q := 0) k rfl rfl dX7_greed_20 ?_
      refine gs_get (C := RX7) (T := TX7) (N := 27) (ci := 7) (k0 := 65) (j := 0) k (hI 65 (by omega)) rfl rfl inX7 (by decide) fl_X7_9 rfl rfl dX7_greed_21 ?_
      refine gs_icmpN_ge (a := n) (b := n) (tgt := 70) k rfl hn0 (by omega) (by omega) (by decide) dX7_greed_24 (fun c2 => ?_) (fun c2 => absurd c2 (by omega))
      refine gs_iload_n (q := 3) k rfl rfl dX7_greed_70 ?_
      refine gs_iconst (v := 1) k (by decide) dX7_greed_71 ?_
      refine gs_iload (q := 5) k rfl dX7_greed_72 ?_
      refine gs_ishlN (b := p) k rfl rfl (by omega) dX7_greed_74 ?_
      refine gs_iorN (a := S) (b := 2 ^ p) k rfl rfl dX7_greed_75 ?_
      refine gs_istore_n (lv' := [(3, .int (nI (S ||| (2 ^ p)))), (0, .ref (E.2.2.1 65)), (1, .int z), (2, .int pa), (4, .int (nI a)), (5, .int (nI p)), (6, .int (nI n))]) k rfl (by decide) rfl dX7_greed_76 ?_
      refine gs_iincN (q := 4) (a := a) (c := 1) (lv' := [(4, .int (nI (a + 1))), (3, .int (nI (S ||| (2 ^ p)))), (0, .ref (E.2.2.1 65)), (1, .int z), (2, .int pa), (5, .int (nI p)), (6, .int (nI n))]) k rfl rfl (by decide) rfl dX7_greed_77 ?_
      refine gs_goto (tgt := 5) k (by decide) dX7_greed_80 ?_
      refine gs_lv (lv' := [(0, .ref (E.2.2.1 65)), (1, .int z), (2, .int pa), (3, .int (nI (S ||| (2 ^ p)))), (4, .int (nI (a + 1))), (5, .int (nI p)), (6, .int (nI n))]) [2, 3, 4, 1, 0, 5, 6] rfl ?_
      refine gs_lv (lv' := [(0, .ref (E.2.2.1 65)), (1, .int z), (2, .int pa), (3, .int (nI (S ||| (2 ^ p)))), (4, .int (nI (a + 1)))]) [0, 1, 2, 3, 4] rfl ?_
      exact hGa _ hg.symm
  · show G l E K 5 [(0, .ref (E.2.2.1 65)), (1, .int z), (2, .int pa), (3, .int (nI (greedyS (V f) n m))), (4, .int (nI m))] [] M
    refine gs_iload (q := 4) k rfl dX7_greed_5 ?_
    refine gs_iload_n (q := 2) k rfl rfl dX7_greed_7 ?_
    refine gs_icmpN_ge (a := m) (b := m) (tgt := 83) k rfl hp0 (by omega) (by omega) (by decide) dX7_greed_8 (fun c1 => ?_) (fun c1 => absurd c1 (by omega))
    refine gs_iload_n (q := 3) k rfl rfl dX7_greed_83 ?_
    exact gs_iret k kt dX7_greed_84 ⟨rfl, rfl⟩

