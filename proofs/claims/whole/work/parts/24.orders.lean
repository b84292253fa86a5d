theorem ni_dec {x : Int32} {y : Nat} (h : x = nI y) (h1 : 1 ≤ y) : x + Int32.ofInt (-1) = nI (y - 1) := by
  rw [h, show nI y = nI (y - 1) + nI 1 by rw [nI_add]; congr 1; omega]
  rw [Int32.add_assoc, show nI 1 + Int32.ofInt (-1) = 0 by decide, Int32.add_zero]
def fac : Nat → Nat
  | 0 => 1
  | n + 1 => (n + 1) * fac n
theorem fac_ok {n : Nat} (h : n ≤ 6) : 0 < fac n ∧ fac n ≤ 720 := by
  have H : ∀ n, n < 7 → 0 < fac n ∧ fac n ≤ 720 := by decide +kernel
  exact H n (by omega)
/-- the first unused element behind r blocks of e orders; what is left of r -/
def pick (U e : Nat) : Nat → Nat → Nat → Option (Nat × Nat)
  | 0, _, _ => none
  | k + 1, p, r => if U.testBit p = true then pick U e k (p + 1) r else if r < e then some (p, r) else pick U e k (p + 1) (r - e)
def pickR (L : Nat) : Nat → Nat → Nat → Option Nat
  | 0, _, _ => none
  | k + 1, p, y => if L.testBit p = true then (if y = 0 then some p else pickR L k (p + 1) (y - 1)) else pickR L k (p + 1) y
def pk1 (o : Option (Nat × Nat)) : Nat := match o with
  | some (p, _) => p
  | none => 0
def pk2 (o : Option (Nat × Nat)) : Nat := match o with
  | some (_, r) => r
  | none => 0
/-- behind k elements of the order r: what is left of r, what is used -/
def uS (n r : Nat) : Nat → Nat × Nat
  | 0 => (r, 0)
  | k + 1 => (pk2 (pick (uS n r k).2 (fac (n - 1 - k)) n 0 (uS n r k).1), (uS n r k).2 ||| 2 ^ pk1 (pick (uS n r k).2 (fac (n - 1 - k)) n 0 (uS n r k).1))
def orr (n r k : Nat) : Nat := (uS n r k).1
def ou (n r k : Nat) : Nat := (uS n r k).2
def oo (n r k : Nat) : Nat := pk1 (pick (ou n r k) (fac (n - 1 - k)) n 0 (orr n r k))
def lf (n r k : Nat) : Nat := 2 ^ n - 1 - ou n r k
def pos (n r p : Nat) : Nat := (fnd (fun k => if oo n r k = p then some k else none) n 0).getD 0
def ordB (n r k : Nat) : Bool := decide (pick (ou n r k) (fac (n - 1 - k)) n 0 (orr n r k) = some (oo n r k, orr n r (k + 1))) && (decide (pickR (lf n r k) n 0 (orr n r k / fac (n - 1 - k)) = some (oo n r k)) && (decide (orr n r k % fac (n - 1 - k) = orr n r (k + 1)) && (decide (dif (lf n r k) (2 ^ oo n r k) = lf n r (k + 1)) && (decide (orr n r k < 720) && (decide (ou n r k < 2 ^ n) && decide (oo n r k < n))))))
theorem ordB_all : ∀ n, n < 7 → ∀ r, r < fac n → ∀ k, k < n → ordB n r k = true := by decide +kernel
theorem ord_all (n : Nat) (hn : n < 7) (r : Nat) (hr : r < fac n) (k : Nat) (hk : k < n) : pick (ou n r k) (fac (n - 1 - k)) n 0 (orr n r k) = some (oo n r k, orr n r (k + 1)) ∧ pickR (lf n r k) n 0 (orr n r k / fac (n - 1 - k)) = some (oo n r k) ∧ orr n r k % fac (n - 1 - k) = orr n r (k + 1) ∧ dif (lf n r k) (2 ^ oo n r k) = lf n r (k + 1) ∧ orr n r k < 720 ∧ ou n r k < 2 ^ n ∧ oo n r k < n := by
  have h := ordB_all n hn r hr k hk
  unfold ordB at h
  simp only [Bool.and_eq_true, decide_eq_true_eq] at h
  exact h
def posB (n r p : Nat) : Bool := decide (pos n r p < n) && (decide (oo n r (pos n r p) = p) && (List.range (pos n r p)).all (fun i => !decide (oo n r i = p)))
theorem posB_all : ∀ n, n < 7 → ∀ r, r < fac n → ∀ p, p < n → posB n r p = true := by decide +kernel
theorem pos_all (n : Nat) (hn : n < 7) (r : Nat) (hr : r < fac n) (p : Nat) (hp : p < n) : pos n r p < n ∧ oo n r (pos n r p) = p ∧ ∀ i, i < pos n r p → ¬ oo n r i = p := by
  have h := posB_all n hn r hr p hp
  unfold posB at h
  rw [Bool.and_eq_true, Bool.and_eq_true, decide_eq_true_eq, decide_eq_true_eq, List.all_eq_true] at h
  refine ⟨h.1, h.2.1, fun i hi => ?_⟩
  have := h.2.2 i (List.mem_range.mpr hi)
  simpa using this
theorem pos_perm : ∀ n, n < 7 → ∀ r, r < fac n → ((List.range n).map (pos n r)).isPerm (List.range n) = true := by decide +kernel
theorem pick_1 {U e q z n p x : Nat} (hp : p < n) (h : pick U e (n - p) p x = some (q, z)) (c : U.testBit p = true) : pick U e (n - (p + 1)) (p + 1) x = some (q, z) := by
  rw [show n - p = (n - (p + 1)) + 1 by omega] at h
  unfold pick at h
  rw [if_pos c] at h
  exact h
theorem pick_2 {U e q z n p x : Nat} (hp : p < n) (h : pick U e (n - p) p x = some (q, z)) (c : ¬ U.testBit p = true) (d : e ≤ x) : pick U e (n - (p + 1)) (p + 1) (x - e) = some (q, z) := by
  rw [show n - p = (n - (p + 1)) + 1 by omega] at h
  unfold pick at h
  rw [if_neg c, if_neg (by omega)] at h
  exact h
theorem pick_3 {U e q z n p x : Nat} (hp : p < n) (h : pick U e (n - p) p x = some (q, z)) (c : ¬ U.testBit p = true) (d : x < e) : p = q ∧ x = z := by
  rw [show n - p = (n - (p + 1)) + 1 by omega] at h
  unfold pick at h
  rw [if_neg c, if_pos d] at h
  cases h
  exact ⟨rfl, rfl⟩
theorem pickR_1 {U q n p y : Nat} (hp : p < n) (h : pickR U (n - p) p y = some q) (c : ¬ U.testBit p = true) : pickR U (n - (p + 1)) (p + 1) y = some q := by
  rw [show n - p = (n - (p + 1)) + 1 by omega] at h
  unfold pickR at h
  rw [if_neg c] at h
  exact h
theorem pickR_2 {U q n p y : Nat} (hp : p < n) (h : pickR U (n - p) p y = some q) (c : U.testBit p = true) (d : ¬ y = 0) : pickR U (n - (p + 1)) (p + 1) (y - 1) = some q := by
  rw [show n - p = (n - (p + 1)) + 1 by omega] at h
  unfold pickR at h
  rw [if_pos c, if_neg d] at h
  exact h
theorem pickR_3 {U q n p y : Nat} (hp : p < n) (h : pickR U (n - p) p y = some q) (c : U.testBit p = true) (d : y = 0) : p = q := by
  rw [show n - p = (n - (p + 1)) + 1 by omega] at h
  unfold pickR at h
  rw [if_pos c, if_pos d] at h
  cases h
  rfl
theorem for_pick (F : Nat → Nat → Prop) (U e q z n X : Nat) (hs : ∀ p x, p < n → x ≤ X → pick U e (n - p) p x = some (q, z) → (∀ x', x' ≤ x → pick U e (n - (p + 1)) (p + 1) x' = some (q, z) → F (p + 1) x') → F p x) : ∀ k p x, p + k = n → x ≤ X → pick U e k p x = some (q, z) → F p x := by
  intro k
  induction k with
  | zero => intro p x h hx hp; cases hp
  | succ k ih =>
    intro p x h hx hp
    refine hs p x (by omega) hx (by rw [show n - p = k + 1 by omega]; exact hp) (fun x' hx' hp' => ih (p + 1) x' (by omega) (by omega) (by rw [show k = n - (p + 1) by omega]; exact hp'))
theorem for_pickR (F : Nat → Nat → Prop) (U q n X : Nat) (hs : ∀ p y, p < n → y ≤ X → pickR U (n - p) p y = some q → (∀ y', y' ≤ y → pickR U (n - (p + 1)) (p + 1) y' = some q → F (p + 1) y') → F p y) : ∀ k p y, p + k = n → y ≤ X → pickR U k p y = some q → F p y := by
  intro k
  induction k with
  | zero => intro p x h hx hp; cases hp
  | succ k ih =>
    intro p x h hx hp
    refine hs p x (by omega) hx (by rw [show n - p = k + 1 by omega]; exact hp) (fun x' hx' hp' => ih (p + 1) x' (by omega) (by omega) (by rw [show k = n - (p + 1) by omega]; exact hp'))
theorem nle0 {y : Nat} (hy : y < 2 ^ 31) (h : nI y ≤ 0) : y = 0 := by
  have h1 := Int32.le_iff_toInt_le.mp h
  rw [nI_toInt hy, show (0 : Int32).toInt = 0 by decide] at h1
  omega
theorem nle1 {y : Nat} (hy : y < 2 ^ 31) (h : ¬ nI y ≤ 0) : ¬ y = 0 := fun e => h (by rw [e]; decide)
def orE (c : Nat) (n r : Nat) (M : Mm) (k : Nat) (m : Mm) : Prop := Same M m ∧ k ≤ n ∧ ∀ i, i < k → m c i = nI (oo n r i)
theorem orE_0 {c n r : Nat} {M : Mm} : orE c n r M 0 M := ⟨Same.rf, Nat.zero_le _, fun i hi => absurd hi (by omega)⟩
theorem orE_n {c n r k : Nat} {M m : Mm} (h : orE c n r M k m) (hk : n ≤ k) : orE c n r M n m := by
  have e := Nat.le_antisymm h.2.1 hk
  rw [e] at h; exact h
theorem orE_s {c n r k : Nat} {M m : Mm} (hc : ∀ j, scr c j) (hk : k < n) (h : orE c n r M k m) : orE c n r M (k + 1) (mw m c k (nI (oo n r k))) := by
  obtain ⟨h1, h2, h3⟩ := h
  refine ⟨Same.m1 h1 (hc _), by omega, fun i hi => ?_⟩
  by_cases e : i = k
  · subst e; exact mw_eq _ _ _ _
  · exact rdj e (h3 i (by omega))
theorem cf_X6_factorial : CF yX6_factorial cX6_factorial 3 (some .int) 1 := ⟨cd_X6_factorial, iz_X6, by decide, by decide +kernel, by decide +kernel, by decide +kernel⟩
theorem cf_X7_orders : CF yX7_orders cX7_orders 1 (some .int) 1 := ⟨cd_X7_orders, iz_X7, by decide, by decide +kernel, by decide +kernel, by decide +kernel⟩
set_option maxRecDepth 100000 in
set_option maxHeartbeats 4000000 in
theorem c_X6_factorial0 {l : Launch} {E : Ev} {M : Mm} : Cm l E yX6_factorial cX6_factorial 3 (some .int) 0 [.int 0] M (pI (nI (fac 0)) M) := by
  refine Cm.of (by decide) (Nat.le_of_ble_eq_true rfl) (fun K k kt => ?_)
  show G l E K 0 [(0, .int 0)] [] M
  refine gs_iconst (v := 1) k (by decide) dX6_factorial_0 ?_
  refine gs_istore_n (lv' := [(1, .int 1), (0, .int 0)]) k rfl (by decide) rfl dX6_factorial_1 ?_
  refine gs_iconst (v := 2) k (by decide) dX6_factorial_2 ?_
  refine gs_istore_n (lv' := [(2, .int 2), (1, .int 1), (0, .int 0)]) k rfl (by decide) rfl dX6_factorial_3 ?_
  refine gs_iload_n (q := 0) k rfl rfl dX6_factorial_4 ?_
  refine gs_iload_n (q := 2) k rfl rfl dX6_factorial_5 ?_
  refine gs_icmp_gt (tgt := 19) k (by decide) dX6_factorial_6 (fun _ => ?_) (fun h => absurd h (by decide))
  refine gs_iload_n (q := 1) k rfl rfl dX6_factorial_19 ?_
  exact gs_iret k kt dX6_factorial_20 ⟨rfl, rfl⟩

set_option maxRecDepth 100000 in
set_option maxHeartbeats 4000000 in
theorem c_X7_orders0 {l : Launch} {E : Ev} {M : Mm} {d : Nat} (hd : 0 ≤ d) : Cm l E yX7_orders cX7_orders 1 (some .int) d [.int 0] M (pI (nI (fac 0)) M) := by
  refine Cm.of (by decide) (Nat.le_of_ble_eq_true rfl) (fun K k kt => ?_)
  show G l E K 0 [(0, .int 0)] [] M
  refine gs_iload_n (q := 0) k rfl rfl dX7_orders_0 ?_
  refine gs_iconst (v := 2) k (by decide) dX7_orders_1 ?_
  refine gs_icmp_ge (tgt := 9) k (by decide) dX7_orders_2 (fun h => absurd h (by decide)) (fun _ => ?_)
  refine gs_iconst (v := 1) k (by decide) dX7_orders_5 ?_
  refine gs_goto (tgt := 17) k (by decide) dX7_orders_6 ?_
  exact gs_iret k kt dX7_orders_17 ⟨rfl, rfl⟩

set_option maxRecDepth 100000 in
set_option maxHeartbeats 4000000 in
theorem c_X6_factorial1 {l : Launch} {E : Ev} {M : Mm} : Cm l E yX6_factorial cX6_factorial 3 (some .int) 0 [.int 1] M (pI (nI (fac 1)) M) := by
  refine Cm.of (by decide) (Nat.le_of_ble_eq_true rfl) (fun K k kt => ?_)
  show G l E K 0 [(0, .int 1)] [] M
  refine gs_iconst (v := 1) k (by decide) dX6_factorial_0 ?_
  refine gs_istore_n (lv' := [(1, .int 1), (0, .int 1)]) k rfl (by decide) rfl dX6_factorial_1 ?_
  refine gs_iconst (v := 2) k (by decide) dX6_factorial_2 ?_
  refine gs_istore_n (lv' := [(2, .int 2), (1, .int 1), (0, .int 1)]) k rfl (by decide) rfl dX6_factorial_3 ?_
  refine gs_iload_n (q := 0) k rfl rfl dX6_factorial_4 ?_
  refine gs_iload_n (q := 2) k rfl rfl dX6_factorial_5 ?_
  refine gs_icmp_gt (tgt := 19) k (by decide) dX6_factorial_6 (fun _ => ?_) (fun h => absurd h (by decide))
  refine gs_iload_n (q := 1) k rfl rfl dX6_factorial_19 ?_
  exact gs_iret k kt dX6_factorial_20 ⟨rfl, rfl⟩

set_option maxRecDepth 100000 in
set_option maxHeartbeats 4000000 in
theorem c_X7_orders1 {l : Launch} {E : Ev} {M : Mm} {d : Nat} (hd : 1 ≤ d) : Cm l E yX7_orders cX7_orders 1 (some .int) d [.int 1] M (pI (nI (fac 1)) M) := by
  refine Cm.of (by decide) (Nat.le_of_ble_eq_true rfl) (fun K k kt => ?_)
  show G l E K 0 [(0, .int 1)] [] M
  refine gs_iload_n (q := 0) k rfl rfl dX7_orders_0 ?_
  refine gs_iconst (v := 2) k (by decide) dX7_orders_1 ?_
  refine gs_icmp_ge (tgt := 9) k (by decide) dX7_orders_2 (fun h => absurd h (by decide)) (fun _ => ?_)
  refine gs_iconst (v := 1) k (by decide) dX7_orders_5 ?_
  refine gs_goto (tgt := 17) k (by decide) dX7_orders_6 ?_
  exact gs_iret k kt dX7_orders_17 ⟨rfl, rfl⟩

set_option maxRecDepth 100000 in
set_option maxHeartbeats 4000000 in
theorem c_X6_factorial2 {l : Launch} {E : Ev} {M : Mm} : Cm l E yX6_factorial cX6_factorial 3 (some .int) 0 [.int 2] M (pI (nI (fac 2)) M) := by
  refine Cm.of (by decide) (Nat.le_of_ble_eq_true rfl) (fun K k kt => ?_)
  show G l E K 0 [(0, .int 2)] [] M
  refine gs_iconst (v := 1) k (by decide) dX6_factorial_0 ?_
  refine gs_istore_n (lv' := [(1, .int 1), (0, .int 2)]) k rfl (by decide) rfl dX6_factorial_1 ?_
  refine gs_iconst (v := 2) k (by decide) dX6_factorial_2 ?_
  refine gs_istore_n (lv' := [(2, .int 2), (1, .int 1), (0, .int 2)]) k rfl (by decide) rfl dX6_factorial_3 ?_
  refine gs_iload_n (q := 0) k rfl rfl dX6_factorial_4 ?_
  refine gs_iload_n (q := 2) k rfl rfl dX6_factorial_5 ?_
  refine gs_icmp_gt (tgt := 19) k (by decide) dX6_factorial_6 (fun h => absurd h (by decide)) (fun _ => ?_)
  refine gs_iload_n (q := 1) k rfl rfl dX6_factorial_9 ?_
  refine gs_iload_n (q := 0) k rfl rfl dX6_factorial_10 ?_
  refine gs_imulN (a := 1) (b := 2) k rfl rfl dX6_factorial_11 ?_
  refine gs_istore_n (lv' := [(1, .int (nI (1 * 2))), (2, .int 2), (0, .int 2)]) k rfl (by decide) rfl dX6_factorial_12 ?_
  refine gs_iinc (q := 1) (v := 3) (lv' := [(2, .int 3), (1, .int (nI (1 * 2))), (0, .int 2)]) k rfl (by decide) (by decide) rfl dX6_factorial_13 ?_
  refine gs_goto (tgt := 4) k (by decide) dX6_factorial_16 ?_
  refine gs_iload_n (q := 0) k rfl rfl dX6_factorial_4 ?_
  refine gs_iload_n (q := 2) k rfl rfl dX6_factorial_5 ?_
  refine gs_icmp_gt (tgt := 19) k (by decide) dX6_factorial_6 (fun _ => ?_) (fun h => absurd h (by decide))
  refine gs_iload_n (q := 1) k rfl rfl dX6_factorial_19 ?_
  exact gs_iret k kt dX6_factorial_20 ⟨rfl, rfl⟩

set_option maxRecDepth 100000 in
set_option maxHeartbeats 4000000 in
theorem c_X7_orders2 {l : Launch} {E : Ev} {M : Mm} {d : Nat} (hd : 2 ≤ d) : Cm l E yX7_orders cX7_orders 1 (some .int) d [.int 2] M (pI (nI (fac 2)) M) := by
  refine Cm.of (by decide) (Nat.le_of_ble_eq_true rfl) (fun K k kt => ?_)
  show G l E K 0 [(0, .int 2)] [] M
  refine gs_iload_n (q := 0) k rfl rfl dX7_orders_0 ?_
  refine gs_iconst (v := 2) k (by decide) dX7_orders_1 ?_
  refine gs_icmp_ge (tgt := 9) k (by decide) dX7_orders_2 (fun _ => ?_) (fun h => absurd h (by decide))
  refine gs_iload_n (q := 0) k rfl rfl dX7_orders_9 ?_
  refine gs_iload_n (q := 0) k rfl rfl dX7_orders_10 ?_
  refine gs_iconst (v := 1) k (by decide) dX7_orders_11 ?_
  refine gs_isubN (a := 2) (b := 1) k rfl rfl (by omega) dX7_orders_12 ?_
  refine gs_top (y := 1) (by decide) ?_
  refine gs_callS (As := [.int 1]) k (c_X7_orders1 (d := d - 1) (by omega)) cf_X7_orders sm_X7_orders ml_X7_202 (by omega) rfl rfl (Nat.le_of_ble_eq_true rfl) dX7_orders_13 (ppI ?_)
  refine gs_imulN (a := 2) (b := fac 1) k rfl rfl dX7_orders_16 ?_
  exact gs_iret k kt dX7_orders_17 ⟨rfl, rfl⟩

set_option maxRecDepth 100000 in
set_option maxHeartbeats 4000000 in
theorem c_X6_factorial3 {l : Launch} {E : Ev} {M : Mm} : Cm l E yX6_factorial cX6_factorial 3 (some .int) 0 [.int 3] M (pI (nI (fac 3)) M) := by
  refine Cm.of (by decide) (Nat.le_of_ble_eq_true rfl) (fun K k kt => ?_)
  show G l E K 0 [(0, .int 3)] [] M
  refine gs_iconst (v := 1) k (by decide) dX6_factorial_0 ?_
  refine gs_istore_n (lv' := [(1, .int 1), (0, .int 3)]) k rfl (by decide) rfl dX6_factorial_1 ?_
  refine gs_iconst (v := 2) k (by decide) dX6_factorial_2 ?_
  refine gs_istore_n (lv' := [(2, .int 2), (1, .int 1), (0, .int 3)]) k rfl (by decide) rfl dX6_factorial_3 ?_
  refine gs_iload_n (q := 0) k rfl rfl dX6_factorial_4 ?_
  refine gs_iload_n (q := 2) k rfl rfl dX6_factorial_5 ?_
  refine gs_icmp_gt (tgt := 19) k (by decide) dX6_factorial_6 (fun h => absurd h (by decide)) (fun _ => ?_)
  refine gs_iload_n (q := 1) k rfl rfl dX6_factorial_9 ?_
  refine gs_iload_n (q := 0) k rfl rfl dX6_factorial_10 ?_
  refine gs_imulN (a := 1) (b := 2) k rfl rfl dX6_factorial_11 ?_
  refine gs_istore_n (lv' := [(1, .int (nI (1 * 2))), (2, .int 2), (0, .int 3)]) k rfl (by decide) rfl dX6_factorial_12 ?_
  refine gs_iinc (q := 1) (v := 3) (lv' := [(2, .int 3), (1, .int (nI (1 * 2))), (0, .int 3)]) k rfl (by decide) (by decide) rfl dX6_factorial_13 ?_
  refine gs_goto (tgt := 4) k (by decide) dX6_factorial_16 ?_
  refine gs_iload_n (q := 0) k rfl rfl dX6_factorial_4 ?_
  refine gs_iload_n (q := 2) k rfl rfl dX6_factorial_5 ?_
  refine gs_icmp_gt (tgt := 19) k (by decide) dX6_factorial_6 (fun h => absurd h (by decide)) (fun _ => ?_)
  refine gs_iload_n (q := 1) k rfl rfl dX6_factorial_9 ?_
  refine gs_iload_n (q := 0) k rfl rfl dX6_factorial_10 ?_
  refine gs_imulN (a := 1 * 2) (b := 3) k rfl rfl dX6_factorial_11 ?_
  refine gs_istore_n (lv' := [(1, .int (nI ((1 * 2) * 3))), (2, .int 3), (0, .int 3)]) k rfl (by decide) rfl dX6_factorial_12 ?_
  refine gs_iinc (q := 1) (v := 4) (lv' := [(2, .int 4), (1, .int (nI ((1 * 2) * 3))), (0, .int 3)]) k rfl (by decide) (by decide) rfl dX6_factorial_13 ?_
  refine gs_goto (tgt := 4) k (by decide) dX6_factorial_16 ?_
  refine gs_iload_n (q := 0) k rfl rfl dX6_factorial_4 ?_
  refine gs_iload_n (q := 2) k rfl rfl dX6_factorial_5 ?_
  refine gs_icmp_gt (tgt := 19) k (by decide) dX6_factorial_6 (fun _ => ?_) (fun h => absurd h (by decide))
  refine gs_iload_n (q := 1) k rfl rfl dX6_factorial_19 ?_
  exact gs_iret k kt dX6_factorial_20 ⟨rfl, rfl⟩

set_option maxRecDepth 100000 in
set_option maxHeartbeats 4000000 in
theorem c_X7_orders3 {l : Launch} {E : Ev} {M : Mm} {d : Nat} (hd : 3 ≤ d) : Cm l E yX7_orders cX7_orders 1 (some .int) d [.int 3] M (pI (nI (fac 3)) M) := by
  refine Cm.of (by decide) (Nat.le_of_ble_eq_true rfl) (fun K k kt => ?_)
  show G l E K 0 [(0, .int 3)] [] M
  refine gs_iload_n (q := 0) k rfl rfl dX7_orders_0 ?_
  refine gs_iconst (v := 2) k (by decide) dX7_orders_1 ?_
  refine gs_icmp_ge (tgt := 9) k (by decide) dX7_orders_2 (fun _ => ?_) (fun h => absurd h (by decide))
  refine gs_iload_n (q := 0) k rfl rfl dX7_orders_9 ?_
  refine gs_iload_n (q := 0) k rfl rfl dX7_orders_10 ?_
  refine gs_iconst (v := 1) k (by decide) dX7_orders_11 ?_
  refine gs_isubN (a := 3) (b := 1) k rfl rfl (by omega) dX7_orders_12 ?_
  refine gs_top (y := 2) (by decide) ?_
  refine gs_callS (As := [.int 2]) k (c_X7_orders2 (d := d - 1) (by omega)) cf_X7_orders sm_X7_orders ml_X7_202 (by omega) rfl rfl (Nat.le_of_ble_eq_true rfl) dX7_orders_13 (ppI ?_)
  refine gs_imulN (a := 3) (b := fac 2) k rfl rfl dX7_orders_16 ?_
  exact gs_iret k kt dX7_orders_17 ⟨rfl, rfl⟩

set_option maxRecDepth 100000 in
set_option maxHeartbeats 4000000 in
theorem c_X6_factorial4 {l : Launch} {E : Ev} {M : Mm} : Cm l E yX6_factorial cX6_factorial 3 (some .int) 0 [.int 4] M (pI (nI (fac 4)) M) := by
  refine Cm.of (by decide) (Nat.le_of_ble_eq_true rfl) (fun K k kt => ?_)
  show G l E K 0 [(0, .int 4)] [] M
  refine gs_iconst (v := 1) k (by decide) dX6_factorial_0 ?_
  refine gs_istore_n (lv' := [(1, .int 1), (0, .int 4)]) k rfl (by decide) rfl dX6_factorial_1 ?_
  refine gs_iconst (v := 2) k (by decide) dX6_factorial_2 ?_
  refine gs_istore_n (lv' := [(2, .int 2), (1, .int 1), (0, .int 4)]) k rfl (by decide) rfl dX6_factorial_3 ?_
  refine gs_iload_n (q := 0) k rfl rfl dX6_factorial_4 ?_
  refine gs_iload_n (q := 2) k rfl rfl dX6_factorial_5 ?_
  refine gs_icmp_gt (tgt := 19) k (by decide) dX6_factorial_6 (fun h => absurd h (by decide)) (fun _ => ?_)
  refine gs_iload_n (q := 1) k rfl rfl dX6_factorial_9 ?_
  refine gs_iload_n (q := 0) k rfl rfl dX6_factorial_10 ?_
  refine gs_imulN (a := 1) (b := 2) k rfl rfl dX6_factorial_11 ?_
  refine gs_istore_n (lv' := [(1, .int (nI (1 * 2))), (2, .int 2), (0, .int 4)]) k rfl (by decide) rfl dX6_factorial_12 ?_
  refine gs_iinc (q := 1) (v := 3) (lv' := [(2, .int 3), (1, .int (nI (1 * 2))), (0, .int 4)]) k rfl (by decide) (by decide) rfl dX6_factorial_13 ?_
  refine gs_goto (tgt := 4) k (by decide) dX6_factorial_16 ?_
  refine gs_iload_n (q := 0) k rfl rfl dX6_factorial_4 ?_
  refine gs_iload_n (q := 2) k rfl rfl dX6_factorial_5 ?_
  refine gs_icmp_gt (tgt := 19) k (by decide) dX6_factorial_6 (fun h => absurd h (by decide)) (fun _ => ?_)
  refine gs_iload_n (q := 1) k rfl rfl dX6_factorial_9 ?_
  refine gs_iload_n (q := 0) k rfl rfl dX6_factorial_10 ?_
  refine gs_imulN (a := 1 * 2) (b := 3) k rfl rfl dX6_factorial_11 ?_
  refine gs_istore_n (lv' := [(1, .int (nI ((1 * 2) * 3))), (2, .int 3), (0, .int 4)]) k rfl (by decide) rfl dX6_factorial_12 ?_
  refine gs_iinc (q := 1) (v := 4) (lv' := [(2, .int 4), (1, .int (nI ((1 * 2) * 3))), (0, .int 4)]) k rfl (by decide) (by decide) rfl dX6_factorial_13 ?_
  refine gs_goto (tgt := 4) k (by decide) dX6_factorial_16 ?_
  refine gs_iload_n (q := 0) k rfl rfl dX6_factorial_4 ?_
  refine gs_iload_n (q := 2) k rfl rfl dX6_factorial_5 ?_
  refine gs_icmp_gt (tgt := 19) k (by decide) dX6_factorial_6 (fun h => absurd h (by decide)) (fun _ => ?_)
  refine gs_iload_n (q := 1) k rfl rfl dX6_factorial_9 ?_
  refine gs_iload_n (q := 0) k rfl rfl dX6_factorial_10 ?_
  refine gs_imulN (a := (1 * 2) * 3) (b := 4) k rfl rfl dX6_factorial_11 ?_
  refine gs_istore_n (lv' := [(1, .int (nI (((1 * 2) * 3) * 4))), (2, .int 4), (0, .int 4)]) k rfl (by decide) rfl dX6_factorial_12 ?_
  refine gs_iinc (q := 1) (v := 5) (lv' := [(2, .int 5), (1, .int (nI (((1 * 2) * 3) * 4))), (0, .int 4)]) k rfl (by decide) (by decide) rfl dX6_factorial_13 ?_
  refine gs_goto (tgt := 4) k (by decide) dX6_factorial_16 ?_
  refine gs_iload_n (q := 0) k rfl rfl dX6_factorial_4 ?_
  refine gs_iload_n (q := 2) k rfl rfl dX6_factorial_5 ?_
  refine gs_icmp_gt (tgt := 19) k (by decide) dX6_factorial_6 (fun _ => ?_) (fun h => absurd h (by decide))
  refine gs_iload_n (q := 1) k rfl rfl dX6_factorial_19 ?_
  exact gs_iret k kt dX6_factorial_20 ⟨rfl, rfl⟩

set_option maxRecDepth 100000 in
set_option maxHeartbeats 4000000 in
theorem c_X7_orders4 {l : Launch} {E : Ev} {M : Mm} {d : Nat} (hd : 4 ≤ d) : Cm l E yX7_orders cX7_orders 1 (some .int) d [.int 4] M (pI (nI (fac 4)) M) := by
  refine Cm.of (by decide) (Nat.le_of_ble_eq_true rfl) (fun K k kt => ?_)
  show G l E K 0 [(0, .int 4)] [] M
  refine gs_iload_n (q := 0) k rfl rfl dX7_orders_0 ?_
  refine gs_iconst (v := 2) k (by decide) dX7_orders_1 ?_
  refine gs_icmp_ge (tgt := 9) k (by decide) dX7_orders_2 (fun _ => ?_) (fun h => absurd h (by decide))
  refine gs_iload_n (q := 0) k rfl rfl dX7_orders_9 ?_
  refine gs_iload_n (q := 0) k rfl rfl dX7_orders_10 ?_
  refine gs_iconst (v := 1) k (by decide) dX7_orders_11 ?_
  refine gs_isubN (a := 4) (b := 1) k rfl rfl (by omega) dX7_orders_12 ?_
  refine gs_top (y := 3) (by decide) ?_
  refine gs_callS (As := [.int 3]) k (c_X7_orders3 (d := d - 1) (by omega)) cf_X7_orders sm_X7_orders ml_X7_202 (by omega) rfl rfl (Nat.le_of_ble_eq_true rfl) dX7_orders_13 (ppI ?_)
  refine gs_imulN (a := 4) (b := fac 3) k rfl rfl dX7_orders_16 ?_
  exact gs_iret k kt dX7_orders_17 ⟨rfl, rfl⟩

set_option maxRecDepth 100000 in
set_option maxHeartbeats 4000000 in
theorem c_X6_factorial5 {l : Launch} {E : Ev} {M : Mm} : Cm l E yX6_factorial cX6_factorial 3 (some .int) 0 [.int 5] M (pI (nI (fac 5)) M) := by
  refine Cm.of (by decide) (Nat.le_of_ble_eq_true rfl) (fun K k kt => ?_)
  show G l E K 0 [(0, .int 5)] [] M
  refine gs_iconst (v := 1) k (by decide) dX6_factorial_0 ?_
  refine gs_istore_n (lv' := [(1, .int 1), (0, .int 5)]) k rfl (by decide) rfl dX6_factorial_1 ?_
  refine gs_iconst (v := 2) k (by decide) dX6_factorial_2 ?_
  refine gs_istore_n (lv' := [(2, .int 2), (1, .int 1), (0, .int 5)]) k rfl (by decide) rfl dX6_factorial_3 ?_
  refine gs_iload_n (q := 0) k rfl rfl dX6_factorial_4 ?_
  refine gs_iload_n (q := 2) k rfl rfl dX6_factorial_5 ?_
  refine gs_icmp_gt (tgt := 19) k (by decide) dX6_factorial_6 (fun h => absurd h (by decide)) (fun _ => ?_)
  refine gs_iload_n (q := 1) k rfl rfl dX6_factorial_9 ?_
  refine gs_iload_n (q := 0) k rfl rfl dX6_factorial_10 ?_
  refine gs_imulN (a := 1) (b := 2) k rfl rfl dX6_factorial_11 ?_
  refine gs_istore_n (lv' := [(1, .int (nI (1 * 2))), (2, .int 2), (0, .int 5)]) k rfl (by decide) rfl dX6_factorial_12 ?_
  refine gs_iinc (q := 1) (v := 3) (lv' := [(2, .int 3), (1, .int (nI (1 * 2))), (0, .int 5)]) k rfl (by decide) (by decide) rfl dX6_factorial_13 ?_
  refine gs_goto (tgt := 4) k (by decide) dX6_factorial_16 ?_
  refine gs_iload_n (q := 0) k rfl rfl dX6_factorial_4 ?_
  refine gs_iload_n (q := 2) k rfl rfl dX6_factorial_5 ?_
  refine gs_icmp_gt (tgt := 19) k (by decide) dX6_factorial_6 (fun h => absurd h (by decide)) (fun _ => ?_)
  refine gs_iload_n (q := 1) k rfl rfl dX6_factorial_9 ?_
  refine gs_iload_n (q := 0) k rfl rfl dX6_factorial_10 ?_
  refine gs_imulN (a := 1 * 2) (b := 3) k rfl rfl dX6_factorial_11 ?_
  refine gs_istore_n (lv' := [(1, .int (nI ((1 * 2) * 3))), (2, .int 3), (0, .int 5)]) k rfl (by decide) rfl dX6_factorial_12 ?_
  refine gs_iinc (q := 1) (v := 4) (lv' := [(2, .int 4), (1, .int (nI ((1 * 2) * 3))), (0, .int 5)]) k rfl (by decide) (by decide) rfl dX6_factorial_13 ?_
  refine gs_goto (tgt := 4) k (by decide) dX6_factorial_16 ?_
  refine gs_iload_n (q := 0) k rfl rfl dX6_factorial_4 ?_
  refine gs_iload_n (q := 2) k rfl rfl dX6_factorial_5 ?_
  refine gs_icmp_gt (tgt := 19) k (by decide) dX6_factorial_6 (fun h => absurd h (by decide)) (fun _ => ?_)
  refine gs_iload_n (q := 1) k rfl rfl dX6_factorial_9 ?_
  refine gs_iload_n (q := 0) k rfl rfl dX6_factorial_10 ?_
  refine gs_imulN (a := (1 * 2) * 3) (b := 4) k rfl rfl dX6_factorial_11 ?_
  refine gs_istore_n (lv' := [(1, .int (nI (((1 * 2) * 3) * 4))), (2, .int 4), (0, .int 5)]) k rfl (by decide) rfl dX6_factorial_12 ?_
  refine gs_iinc (q := 1) (v := 5) (lv' := [(2, .int 5), (1, .int (nI (((1 * 2) * 3) * 4))), (0, .int 5)]) k rfl (by decide) (by decide) rfl dX6_factorial_13 ?_
  refine gs_goto (tgt := 4) k (by decide) dX6_factorial_16 ?_
  refine gs_iload_n (q := 0) k rfl rfl dX6_factorial_4 ?_
  refine gs_iload_n (q := 2) k rfl rfl dX6_factorial_5 ?_
  refine gs_icmp_gt (tgt := 19) k (by decide) dX6_factorial_6 (fun h => absurd h (by decide)) (fun _ => ?_)
  refine gs_iload_n (q := 1) k rfl rfl dX6_factorial_9 ?_
  refine gs_iload_n (q := 0) k rfl rfl dX6_factorial_10 ?_
  refine gs_imulN (a := ((1 * 2) * 3) * 4) (b := 5) k rfl rfl dX6_factorial_11 ?_
  refine gs_istore_n (lv' := [(1, .int (nI ((((1 * 2) * 3) * 4) * 5))), (2, .int 5), (0, .int 5)]) k rfl (by decide) rfl dX6_factorial_12 ?_
  refine gs_iinc (q := 1) (v := 6) (lv' := [(2, .int 6), (1, .int (nI ((((1 * 2) * 3) * 4) * 5))), (0, .int 5)]) k rfl (by decide) (by decide) rfl dX6_factorial_13 ?_
  refine gs_goto (tgt := 4) k (by decide) dX6_factorial_16 ?_
  refine gs_iload_n (q := 0) k rfl rfl dX6_factorial_4 ?_
  refine gs_iload_n (q := 2) k rfl rfl dX6_factorial_5 ?_
  refine gs_icmp_gt (tgt := 19) k (by decide) dX6_factorial_6 (fun _ => ?_) (fun h => absurd h (by decide))
  refine gs_iload_n (q := 1) k rfl rfl dX6_factorial_19 ?_
  exact gs_iret k kt dX6_factorial_20 ⟨rfl, rfl⟩

set_option maxRecDepth 100000 in
set_option maxHeartbeats 4000000 in
theorem c_X7_orders5 {l : Launch} {E : Ev} {M : Mm} {d : Nat} (hd : 5 ≤ d) : Cm l E yX7_orders cX7_orders 1 (some .int) d [.int 5] M (pI (nI (fac 5)) M) := by
  refine Cm.of (by decide) (Nat.le_of_ble_eq_true rfl) (fun K k kt => ?_)
  show G l E K 0 [(0, .int 5)] [] M
  refine gs_iload_n (q := 0) k rfl rfl dX7_orders_0 ?_
  refine gs_iconst (v := 2) k (by decide) dX7_orders_1 ?_
  refine gs_icmp_ge (tgt := 9) k (by decide) dX7_orders_2 (fun _ => ?_) (fun h => absurd h (by decide))
  refine gs_iload_n (q := 0) k rfl rfl dX7_orders_9 ?_
  refine gs_iload_n (q := 0) k rfl rfl dX7_orders_10 ?_
  refine gs_iconst (v := 1) k (by decide) dX7_orders_11 ?_
  refine gs_isubN (a := 5) (b := 1) k rfl rfl (by omega) dX7_orders_12 ?_
  refine gs_top (y := 4) (by decide) ?_
  refine gs_callS (As := [.int 4]) k (c_X7_orders4 (d := d - 1) (by omega)) cf_X7_orders sm_X7_orders ml_X7_202 (by omega) rfl rfl (Nat.le_of_ble_eq_true rfl) dX7_orders_13 (ppI ?_)
  refine gs_imulN (a := 5) (b := fac 4) k rfl rfl dX7_orders_16 ?_
  exact gs_iret k kt dX7_orders_17 ⟨rfl, rfl⟩

set_option maxRecDepth 100000 in
set_option maxHeartbeats 4000000 in
theorem c_X6_factorial6 {l : Launch} {E : Ev} {M : Mm} : Cm l E yX6_factorial cX6_factorial 3 (some .int) 0 [.int 6] M (pI (nI (fac 6)) M) := by
  refine Cm.of (by decide) (Nat.le_of_ble_eq_true rfl) (fun K k kt => ?_)
  show G l E K 0 [(0, .int 6)] [] M
  refine gs_iconst (v := 1) k (by decide) dX6_factorial_0 ?_
  refine gs_istore_n (lv' := [(1, .int 1), (0, .int 6)]) k rfl (by decide) rfl dX6_factorial_1 ?_
  refine gs_iconst (v := 2) k (by decide) dX6_factorial_2 ?_
  refine gs_istore_n (lv' := [(2, .int 2), (1, .int 1), (0, .int 6)]) k rfl (by decide) rfl dX6_factorial_3 ?_
  refine gs_iload_n (q := 0) k rfl rfl dX6_factorial_4 ?_
  refine gs_iload_n (q := 2) k rfl rfl dX6_factorial_5 ?_
  refine gs_icmp_gt (tgt := 19) k (by decide) dX6_factorial_6 (fun h => absurd h (by decide)) (fun _ => ?_)
  refine gs_iload_n (q := 1) k rfl rfl dX6_factorial_9 ?_
  refine gs_iload_n (q := 0) k rfl rfl dX6_factorial_10 ?_
  refine gs_imulN (a := 1) (b := 2) k rfl rfl dX6_factorial_11 ?_
  refine gs_istore_n (lv' := [(1, .int (nI (1 * 2))), (2, .int 2), (0, .int 6)]) k rfl (by decide) rfl dX6_factorial_12 ?_
  refine gs_iinc (q := 1) (v := 3) (lv' := [(2, .int 3), (1, .int (nI (1 * 2))), (0, .int 6)]) k rfl (by decide) (by decide) rfl dX6_factorial_13 ?_
  refine gs_goto (tgt := 4) k (by decide) dX6_factorial_16 ?_
  refine gs_iload_n (q := 0) k rfl rfl dX6_factorial_4 ?_
  refine gs_iload_n (q := 2) k rfl rfl dX6_factorial_5 ?_
  refine gs_icmp_gt (tgt := 19) k (by decide) dX6_factorial_6 (fun h => absurd h (by decide)) (fun _ => ?_)
  refine gs_iload_n (q := 1) k rfl rfl dX6_factorial_9 ?_
  refine gs_iload_n (q := 0) k rfl rfl dX6_factorial_10 ?_
  refine gs_imulN (a := 1 * 2) (b := 3) k rfl rfl dX6_factorial_11 ?_
  refine gs_istore_n (lv' := [(1, .int (nI ((1 * 2) * 3))), (2, .int 3), (0, .int 6)]) k rfl (by decide) rfl dX6_factorial_12 ?_
  refine gs_iinc (q := 1) (v := 4) (lv' := [(2, .int 4), (1, .int (nI ((1 * 2) * 3))), (0, .int 6)]) k rfl (by decide) (by decide) rfl dX6_factorial_13 ?_
  refine gs_goto (tgt := 4) k (by decide) dX6_factorial_16 ?_
  refine gs_iload_n (q := 0) k rfl rfl dX6_factorial_4 ?_
  refine gs_iload_n (q := 2) k rfl rfl dX6_factorial_5 ?_
  refine gs_icmp_gt (tgt := 19) k (by decide) dX6_factorial_6 (fun h => absurd h (by decide)) (fun _ => ?_)
  refine gs_iload_n (q := 1) k rfl rfl dX6_factorial_9 ?_
  refine gs_iload_n (q := 0) k rfl rfl dX6_factorial_10 ?_
  refine gs_imulN (a := (1 * 2) * 3) (b := 4) k rfl rfl dX6_factorial_11 ?_
  refine gs_istore_n (lv' := [(1, .int (nI (((1 * 2) * 3) * 4))), (2, .int 4), (0, .int 6)]) k rfl (by decide) rfl dX6_factorial_12 ?_
  refine gs_iinc (q := 1) (v := 5) (lv' := [(2, .int 5), (1, .int (nI (((1 * 2) * 3) * 4))), (0, .int 6)]) k rfl (by decide) (by decide) rfl dX6_factorial_13 ?_
  refine gs_goto (tgt := 4) k (by decide) dX6_factorial_16 ?_
  refine gs_iload_n (q := 0) k rfl rfl dX6_factorial_4 ?_
  refine gs_iload_n (q := 2) k rfl rfl dX6_factorial_5 ?_
  refine gs_icmp_gt (tgt := 19) k (by decide) dX6_factorial_6 (fun h => absurd h (by decide)) (fun _ => ?_)
  refine gs_iload_n (q := 1) k rfl rfl dX6_factorial_9 ?_
  refine gs_iload_n (q := 0) k rfl rfl dX6_factorial_10 ?_
  refine gs_imulN (a := ((1 * 2) * 3) * 4) (b := 5) k rfl rfl dX6_factorial_11 ?_
  refine gs_istore_n (lv' := [(1, .int (nI ((((1 * 2) * 3) * 4) * 5))), (2, .int 5), (0, .int 6)]) k rfl (by decide) rfl dX6_factorial_12 ?_
  refine gs_iinc (q := 1) (v := 6) (lv' := [(2, .int 6), (1, .int (nI ((((1 * 2) * 3) * 4) * 5))), (0, .int 6)]) k rfl (by decide) (by decide) rfl dX6_factorial_13 ?_
  refine gs_goto (tgt := 4) k (by decide) dX6_factorial_16 ?_
  refine gs_iload_n (q := 0) k rfl rfl dX6_factorial_4 ?_
  refine gs_iload_n (q := 2) k rfl rfl dX6_factorial_5 ?_
  refine gs_icmp_gt (tgt := 19) k (by decide) dX6_factorial_6 (fun h => absurd h (by decide)) (fun _ => ?_)
  refine gs_iload_n (q := 1) k rfl rfl dX6_factorial_9 ?_
  refine gs_iload_n (q := 0) k rfl rfl dX6_factorial_10 ?_
  refine gs_imulN (a := (((1 * 2) * 3) * 4) * 5) (b := 6) k rfl rfl dX6_factorial_11 ?_
  refine gs_istore_n (lv' := [(1, .int (nI (((((1 * 2) * 3) * 4) * 5) * 6))), (2, .int 6), (0, .int 6)]) k rfl (by decide) rfl dX6_factorial_12 ?_
  refine gs_iinc (q := 1) (v := 7) (lv' := [(2, .int 7), (1, .int (nI (((((1 * 2) * 3) * 4) * 5) * 6))), (0, .int 6)]) k rfl (by decide) (by decide) rfl dX6_factorial_13 ?_
  refine gs_goto (tgt := 4) k (by decide) dX6_factorial_16 ?_
  refine gs_iload_n (q := 0) k rfl rfl dX6_factorial_4 ?_
  refine gs_iload_n (q := 2) k rfl rfl dX6_factorial_5 ?_
  refine gs_icmp_gt (tgt := 19) k (by decide) dX6_factorial_6 (fun _ => ?_) (fun h => absurd h (by decide))
  refine gs_iload_n (q := 1) k rfl rfl dX6_factorial_19 ?_
  exact gs_iret k kt dX6_factorial_20 ⟨rfl, rfl⟩

set_option maxRecDepth 100000 in
set_option maxHeartbeats 4000000 in
theorem c_X7_orders6 {l : Launch} {E : Ev} {M : Mm} {d : Nat} (hd : 6 ≤ d) : Cm l E yX7_orders cX7_orders 1 (some .int) d [.int 6] M (pI (nI (fac 6)) M) := by
  refine Cm.of (by decide) (Nat.le_of_ble_eq_true rfl) (fun K k kt => ?_)
  show G l E K 0 [(0, .int 6)] [] M
  refine gs_iload_n (q := 0) k rfl rfl dX7_orders_0 ?_
  refine gs_iconst (v := 2) k (by decide) dX7_orders_1 ?_
  refine gs_icmp_ge (tgt := 9) k (by decide) dX7_orders_2 (fun _ => ?_) (fun h => absurd h (by decide))
  refine gs_iload_n (q := 0) k rfl rfl dX7_orders_9 ?_
  refine gs_iload_n (q := 0) k rfl rfl dX7_orders_10 ?_
  refine gs_iconst (v := 1) k (by decide) dX7_orders_11 ?_
  refine gs_isubN (a := 6) (b := 1) k rfl rfl (by omega) dX7_orders_12 ?_
  refine gs_top (y := 5) (by decide) ?_
  refine gs_callS (As := [.int 5]) k (c_X7_orders5 (d := d - 1) (by omega)) cf_X7_orders sm_X7_orders ml_X7_202 (by omega) rfl rfl (Nat.le_of_ble_eq_true rfl) dX7_orders_13 (ppI ?_)
  refine gs_imulN (a := 6) (b := fac 5) k rfl rfl dX7_orders_16 ?_
  exact gs_iret k kt dX7_orders_17 ⟨rfl, rfl⟩

theorem c_X6_factorial {l : Launch} {E : Ev} {M : Mm} {m : Nat} (hm : m ≤ 6) : Cm l E yX6_factorial cX6_factorial 3 (some .int) 0 [.int (nI m)] M (pI (nI (fac m)) M) :=
  match m, hm with
  | 0, _ => c_X6_factorial0
  | 1, _ => c_X6_factorial1
  | 2, _ => c_X6_factorial2
  | 3, _ => c_X6_factorial3
  | 4, _ => c_X6_factorial4
  | 5, _ => c_X6_factorial5
  | 6, _ => c_X6_factorial6
  | m + 7, h => absurd h (by omega)
theorem c_X7_orders {l : Launch} {E : Ev} {M : Mm} {m : Nat} (hm : m ≤ 6) : Cm l E yX7_orders cX7_orders 1 (some .int) 6 [.int (nI m)] M (pI (nI (fac m)) M) :=
  match m, hm with
  | 0, _ => c_X7_orders0 (by omega)
  | 1, _ => c_X7_orders1 (by omega)
  | 2, _ => c_X7_orders2 (by omega)
  | 3, _ => c_X7_orders3 (by omega)
  | 4, _ => c_X7_orders4 (by omega)
  | 5, _ => c_X7_orders5 (by omega)
  | 6, _ => c_X7_orders6 (by omega)
  | m + 7, h => absurd h (by omega)
theorem cf_X6_isOrder : CF yX6_isOrder cX6_isOrder 2 (some .boolean) 1 := ⟨cd_X6_isOrder, iz_X6, by decide, by decide +kernel, by decide +kernel, by decide +kernel⟩
set_option maxRecDepth 100000 in
set_option maxHeartbeats 4000000 in
theorem c_X6_isOrder {l : Launch} {E : Ev} {M : Mm} {n : Nat} (hI : ∀ k, k < 108 → k ∈ E.2.1) (hn : Cn M n) {x : Int32} : Cm l E yX6_isOrder cX6_isOrder 2 (some .boolean) 1 [.ref (E.2.2.1 0), .int x] M (pB (inR x (fac n)) M) := by
  refine Cm.of (by decide) (Nat.le_of_ble_eq_true rfl) (fun K k kt => ?_)
  show G l E K 0 [(0, .ref (E.2.2.1 0)), (1, .int x)] [] M
  obtain ⟨hn0, hn1, hn6⟩ := id hn
  have hp := p2_le6 hn6
  have hp2 := p2_ge2 hn1
  refine gs_iload_n (q := 1) k rfl rfl dX6_isOrder_0 ?_
  refine gs_if_lt (tgt := 22) k (by decide) dX6_isOrder_1 (fun c1 => ?_) (fun c1 => ?_)
  · refine gs_iconst (v := 0) k (by decide) dX6_isOrder_22 ?_
    exact gs_zret k kt (by decide) dX6_isOrder_23 (by first | exact pB1 (inR_of rfl (by omega) (by assumption) (by assumption)) | exact pB0 (inR_n1 (by assumption)) | exact pB0 (inR_n2 rfl (by omega) (by assumption)))
  · refine gs_iload_n (q := 1) k rfl rfl dX6_isOrder_4 ?_
    refine gs_aload_n (q := 0) k rfl rfl dX6_isOrder_5 ?_
    refine gs_get (C := RX6) (T := TX6) (N := 10) (ci := 6) (k0 := 0) (j := 0) k (hI 0 (by omega)) rfl rfl inX6 (by decide) fl_X6_12 rfl rfl dX6_isOrder_6 ?_
    refine gs_get (C := RX5) (T := TX5) (N := 9) (ci := 5) (k0 := 1) (j := 0) k (hI 1 (by omega)) rfl rfl inX5 (by decide) fl_X6_63 rfl rfl dX6_isOrder_9 ?_
    refine gs_top (y := nI n) hn0 ?_
    refine gs_callS (As := [.int (nI n)]) k (c_X6_factorial (m := n) (by omega)) cf_X6_factorial sm_X6_factorial ml_X6_315 (by decide) rfl rfl (Nat.le_of_ble_eq_true rfl) dX6_isOrder_12 (ppI ?_)
    have hf1 := fac_ok (n := n) (by omega)
    refine gs_icmp_ge (tgt := 22) k (by decide) dX6_isOrder_15 (fun c2 => ?_) (fun c2 => ?_)
    · refine gs_iconst (v := 0) k (by decide) dX6_isOrder_22 ?_
      exact gs_zret k kt (by decide) dX6_isOrder_23 (by first | exact pB1 (inR_of rfl (by omega) (by assumption) (by assumption)) | exact pB0 (inR_n1 (by assumption)) | exact pB0 (inR_n2 rfl (by omega) (by assumption)))
    · refine gs_iconst (v := 1) k (by decide) dX6_isOrder_18 ?_
      refine gs_goto (tgt := 23) k (by decide) dX6_isOrder_19 ?_
      exact gs_zret k kt (by decide) dX6_isOrder_23 (by first | exact pB1 (inR_of rfl (by omega) (by assumption) (by assumption)) | exact pB0 (inR_n1 (by assumption)) | exact pB0 (inR_n2 rfl (by omega) (by assumption)))

theorem cf_X7_isOrder : CF yX7_isOrder cX7_isOrder 2 (some .boolean) 1 := ⟨cd_X7_isOrder, iz_X7, by decide, by decide +kernel, by decide +kernel, by decide +kernel⟩
set_option maxRecDepth 100000 in
set_option maxHeartbeats 4000000 in
theorem c_X7_isOrder {l : Launch} {E : Ev} {M : Mm} {n : Nat} (hI : ∀ k, k < 108 → k ∈ E.2.1) (hn : Rn M n) {x : Int32} : Cm l E yX7_isOrder cX7_isOrder 2 (some .boolean) 7 [.ref (E.2.2.1 65), .int x] M (pB (inR x (fac n)) M) := by
  refine Cm.of (by decide) (Nat.le_of_ble_eq_true rfl) (fun K k kt => ?_)
  show G l E K 0 [(0, .ref (E.2.2.1 65)), (1, .int x)] [] M
  obtain ⟨hn0, hn1, hn6⟩ := id hn
  have hp := p2_le6 hn6
  have hp2 := p2_ge2 hn1
  refine gs_iload_n (q := 1) k rfl rfl dX7_isOrder_0 ?_
  refine gs_i2l k dX7_isOrder_1 ?_
  refine gs_lconst (v := 0) k (by decide) dX7_isOrder_2 ?_
  refine gs_aload_n (q := 0) k rfl rfl dX7_isOrder_3 ?_
  refine gs_get (C := RX7) (T := TX7) (N := 27) (ci := 7) (k0 := 65) (j := 0) k (hI 65 (by omega)) rfl rfl inX7 (by decide) fl_X7_9 rfl rfl dX7_isOrder_4 ?_
  refine gs_top (y := nI n) hn0 ?_
  refine gs_callS (As := [.int (nI n)]) k (c_X7_orders (m := n) (by omega)) cf_X7_orders sm_X7_orders ml_X7_202 (by decide) rfl rfl (Nat.le_of_ble_eq_true rfl) dX7_isOrder_7 (ppI ?_)
  have hf2 := fac_ok (n := n) (by omega)
  refine gs_iconst (v := 1) k (by decide) dX7_isOrder_10 ?_
  refine gs_isubN (a := fac n) (b := 1) k rfl rfl (by omega) dX7_isOrder_11 ?_
  refine gs_i2l k dX7_isOrder_12 ?_
  refine gs_callS (As := [.long (x.toInt64), .long (0), .long ((nI ((fac n) - 1)).toInt64)]) k (Cm.iff (inL (by decide) (nI_p1_toInt64 (n := (fac n)) (by omega) (by omega))) c_X7_in) cf_X7_in sm_X7_in ml_X7_79 (by decide) rfl rfl (Nat.le_of_ble_eq_true rfl) dX7_isOrder_13 (ppB (fun c1 => ?_) (fun c1 => ?_))
  · have bc1 := inR_lt c1
    exact gs_zret k kt (by decide) dX7_isOrder_16 (pB1 c1)
  · exact gs_zret k kt (by decide) dX7_isOrder_16 (pB0 c1)

theorem cf_X6_unrank : CF yX6_unrank cX6_unrank 8 none 1 := ⟨cd_X6_unrank, iz_X6, by decide, by decide +kernel, by decide +kernel, by decide +kernel⟩
set_option maxRecDepth 100000 in
set_option maxHeartbeats 4000000 in
theorem c_X6_unrank {l : Launch} {E : Ev} {M : Mm} {n : Nat} (hI : ∀ k, k < 108 → k ∈ E.2.1) (hn : Cn M n) {y : Int32} {r : Nat} (hy : y = nI r) (hr : r < fac n) : Cm l E yX6_unrank cX6_unrank 8 none 2 [.ref (E.2.2.1 0), .int y] M (pP (orE 64 n r M n)) := by
  refine Cm.of (by decide) (Nat.le_of_ble_eq_true rfl) (fun K k kt => ?_)
  show G l E K 0 [(0, .ref (E.2.2.1 0)), (1, .int y)] [] M
  obtain ⟨hn0, hn1, hn6⟩ := id hn
  have hp := p2_le6 hn6
  have hp2 := p2_ge2 hn1
  subst hy
  refine gs_iload_n (q := 1) k rfl rfl dX6_unrank_0 ?_
  refine gs_istore_n (lv' := [(2, .int (nI r)), (0, .ref (E.2.2.1 0)), (1, .int (nI r))]) k rfl (by decide) rfl dX6_unrank_1 ?_
  refine gs_iconst (v := 0) k (by decide) dX6_unrank_2 ?_
  refine gs_istore_n (lv' := [(3, .int 0), (2, .int (nI r)), (0, .ref (E.2.2.1 0)), (1, .int (nI r))]) k rfl (by decide) rfl dX6_unrank_3 ?_
  refine gs_iconst (v := 0) k (by decide) dX6_unrank_4 ?_
  refine gs_istore (lv' := [(4, .int 0), (3, .int 0), (2, .int (nI r)), (0, .ref (E.2.2.1 0)), (1, .int (nI r))]) k (by decide) rfl dX6_unrank_5 ?_
  refine gs_lv (lv' := [(0, .ref (E.2.2.1 0)), (1, .int (nI r)), (2, .int (nI r)), (3, .int 0), (4, .int 0)]) [3, 4, 2, 1, 0] rfl ?_
  refine for_wh (σ := Mm) (fun ix m => G l E K 7 [(0, .ref (E.2.2.1 0)), (1, .int (nI r)), (2, .int (nI (orr n r ix))), (3, .int (nI (ou n r ix))), (4, .int (nI ix))] [] m) (fun ix m => orE 64 n r M ix m) n (fun ix m hJ hG => ?_) 0 M orE_0
  show G l E K 7 [(0, .ref (E.2.2.1 0)), (1, .int (nI r)), (2, .int (nI (orr n r ix))), (3, .int (nI (ou n r ix))), (4, .int (nI ix))] [] m
  have hk6 := hJ.2.1
  have hn := hn.same hJ.1
  obtain ⟨hn0, -, -⟩ := id hn
  have ho0 := ord_all n (by omega) r hr ix
  refine gs_iload (q := 4) k rfl dX6_unrank_7 ?_
  refine gs_aload_n (q := 0) k rfl rfl dX6_unrank_9 ?_
  refine gs_get (C := RX6) (T := TX6) (N := 10) (ci := 6) (k0 := 0) (j := 0) k (hI 0 (by omega)) rfl rfl inX6 (by decide) fl_X6_12 rfl rfl dX6_unrank_10 ?_
  refine gs_get (C := RX5) (T := TX5) (N := 9) (ci := 5) (k0 := 1) (j := 0) k (hI 1 (by omega)) rfl rfl inX5 (by decide) fl_X6_63 rfl rfl dX6_unrank_13 ?_
  refine gs_icmpN_ge (a := ix) (b := n) (tgt := 116) k rfl hn0 (by omega) (by omega) (by decide) dX6_unrank_16 (fun c1 => ?_) (fun c1 => ?_)
  · exact gs_vret k kt dX6_unrank_116 ⟨rfl, orE_n hJ c1⟩
  · refine gs_aload_n (q := 0) k rfl rfl dX6_unrank_19 ?_
    refine gs_get (C := RX6) (T := TX6) (N := 10) (ci := 6) (k0 := 0) (j := 0) k (hI 0 (by omega)) rfl rfl inX6 (by decide) fl_X6_12 rfl rfl dX6_unrank_20 ?_
    refine gs_get (C := RX5) (T := TX5) (N := 9) (ci := 5) (k0 := 1) (j := 0) k (hI 1 (by omega)) rfl rfl inX5 (by decide) fl_X6_63 rfl rfl dX6_unrank_23 ?_
    refine gs_iconst (v := 1) k (by decide) dX6_unrank_26 ?_
    refine gs_isubN (a := n) (b := 1) k hn0 rfl (by omega) dX6_unrank_27 ?_
    refine gs_iload (q := 4) k rfl dX6_unrank_28 ?_
    refine gs_isubN (a := n - 1) (b := ix) k rfl rfl (by omega) dX6_unrank_30 ?_
    refine gs_callS (As := [.int (nI ((n - 1) - ix))]) k (c_X6_factorial (m := (n - 1) - ix) (by omega)) cf_X6_factorial sm_X6_factorial ml_X6_315 (by decide) rfl rfl (Nat.le_of_ble_eq_true rfl) dX6_unrank_31 (ppI ?_)
    have hf3 := fac_ok (n := (n - 1) - ix) (by omega)
    refine gs_istore (lv' := [(5, .int (nI (fac ((n - 1) - ix)))), (0, .ref (E.2.2.1 0)), (1, .int (nI r)), (2, .int (nI (orr n r ix))), (3, .int (nI (ou n r ix))), (4, .int (nI ix))]) k (by decide) rfl dX6_unrank_34 ?_
    refine gs_iconst (v := 0) k (by decide) dX6_unrank_36 ?_
    refine gs_istore (lv' := [(6, .int 0), (5, .int (nI (fac ((n - 1) - ix)))), (0, .ref (E.2.2.1 0)), (1, .int (nI r)), (2, .int (nI (orr n r ix))), (3, .int (nI (ou n r ix))), (4, .int (nI ix))]) k (by decide) rfl dX6_unrank_37 ?_
    refine gs_iconst (v := 0) k (by decide) dX6_unrank_39 ?_
    refine gs_istore (lv' := [(7, .int 0), (6, .int 0), (5, .int (nI (fac ((n - 1) - ix)))), (0, .ref (E.2.2.1 0)), (1, .int (nI r)), (2, .int (nI (orr n r ix))), (3, .int (nI (ou n r ix))), (4, .int (nI ix))]) k (by decide) rfl dX6_unrank_40 ?_
    have ho := ho0 (by omega)
    obtain ⟨-, -, -, -, ho5, ho6, ho7⟩ := id ho
    refine gs_lv (lv' := [(0, .ref (E.2.2.1 0)), (1, .int (nI r)), (2, .int (nI (orr n r ix))), (3, .int (nI (ou n r ix))), (4, .int (nI ix)), (5, .int (nI (fac ((n - 1) - ix)))), (6, .int 0), (7, .int 0)]) [3, 4, 5, 6, 7, 2, 1, 0] rfl ?_
    refine for_pick (fun p x => G l E K 42 [(0, .ref (E.2.2.1 0)), (1, .int (nI r)), (2, .int (nI x)), (3, .int (nI (ou n r ix))), (4, .int (nI ix)), (5, .int (nI (fac ((n - 1) - ix)))), (6, .int 0), (7, .int (nI p))] [] m) (ou n r ix) (fac (n - 1 - ix)) (oo n r ix) (orr n r (ix + 1)) n (orr n r ix) (fun p x hp1 hx hq hG2 => ?_) n 0 _ (by omega) (Nat.le_refl _) ho.1
    show G l E K 42 [(0, .ref (E.2.2.1 0)), (1, .int (nI r)), (2, .int (nI x)), (3, .int (nI (ou n r ix))), (4, .int (nI ix)), (5, .int (nI (fac ((n - 1) - ix)))), (6, .int 0), (7, .int (nI p))] [] m
    refine gs_iload (q := 7) k rfl dX6_unrank_42 ?_
    refine gs_aload_n (q := 0) k rfl rfl dX6_unrank_44 ?_
    refine gs_get (C := RX6) (T := TX6) (N := 10) (ci := 6) (k0 := 0) (j := 0) k (hI 0 (by omega)) rfl rfl inX6 (by decide) fl_X6_12 rfl rfl dX6_unrank_45 ?_
    refine gs_get (C := RX5) (T := TX5) (N := 9) (ci := 5) (k0 := 1) (j := 0) k (hI 1 (by omega)) rfl rfl inX5 (by decide) fl_X6_63 rfl rfl dX6_unrank_48 ?_
    refine gs_icmpN_ge (a := p) (b := n) (tgt := 110) k rfl hn0 (by omega) (by omega) (by decide) dX6_unrank_51 (fun c2 => absurd c2 (by omega)) (fun c2 => ?_)
    refine gs_iload (q := 6) k rfl dX6_unrank_54 ?_
    refine gs_if_ne (tgt := 110) k (by decide) dX6_unrank_56 (fun h => absurd h (by decide)) (fun _ => ?_)
    refine gs_iload_n (q := 3) k rfl rfl dX6_unrank_59 ?_
    refine gs_iload (q := 7) k rfl dX6_unrank_60 ?_
    refine gs_callS (As := [.int (nI (ou n r ix)), .int (nI p)]) k (c_X6_holds (S := ou n r ix) (P := p) rfl rfl (by omega) (by omega)) cf_X6_holds sm_X6_holds ml_X6_181 (by decide) rfl rfl (Nat.le_of_ble_eq_true rfl) dX6_unrank_62 (ppB (fun c3 => ?_) (fun c3 => ?_))
    · refine gs_if_eq (tgt := 71) k (by decide) dX6_unrank_65 (fun h => absurd h (by decide)) (fun _ => ?_)
      refine gs_goto (tgt := 104) k (by decide) dX6_unrank_68 ?_
      refine gs_iincN (q := 7) (a := p) (c := 1) (lv' := [(7, .int (nI (p + 1))), (0, .ref (E.2.2.1 0)), (1, .int (nI r)), (2, .int (nI x)), (3, .int (nI (ou n r ix))), (4, .int (nI ix)), (5, .int (nI (fac ((n - 1) - ix)))), (6, .int 0)]) k rfl rfl (by decide) rfl dX6_unrank_104 ?_
      refine gs_goto (tgt := 42) k (by decide) dX6_unrank_107 ?_
      refine gs_lv (lv' := [(0, .ref (E.2.2.1 0)), (1, .int (nI r)), (2, .int (nI x)), (3, .int (nI (ou n r ix))), (4, .int (nI ix)), (5, .int (nI (fac ((n - 1) - ix)))), (6, .int 0), (7, .int (nI (p + 1)))]) [1, 2, 3, 4, 5, 6, 7, 0] rfl ?_
      exact hG2 _ (Nat.le_refl _) (pick_1 hp1 hq c3)
    · refine gs_if_eq (tgt := 71) k (by decide) dX6_unrank_65 (fun _ => ?_) (fun h => absurd h (by decide))
      refine gs_iload_n (q := 2) k rfl rfl dX6_unrank_71 ?_
      refine gs_iload (q := 5) k rfl dX6_unrank_72 ?_
      refine gs_icmpN_ge (a := x) (b := fac ((n - 1) - ix)) (tgt := 99) k rfl rfl (by omega) (by omega) (by decide) dX6_unrank_74 (fun c4 => ?_) (fun c4 => ?_)
      · refine gs_iload_n (q := 2) k rfl rfl dX6_unrank_99 ?_
        refine gs_iload (q := 5) k rfl dX6_unrank_100 ?_
        refine gs_isubN (a := x) (b := fac ((n - 1) - ix)) k rfl rfl (by omega) dX6_unrank_102 ?_
        refine gs_istore_n (lv' := [(2, .int (nI (x - (fac ((n - 1) - ix))))), (0, .ref (E.2.2.1 0)), (1, .int (nI r)), (3, .int (nI (ou n r ix))), (4, .int (nI ix)), (5, .int (nI (fac ((n - 1) - ix)))), (6, .int 0), (7, .int (nI p))]) k rfl (by decide) rfl dX6_unrank_103 ?_
        refine gs_iincN (q := 7) (a := p) (c := 1) (lv' := [(7, .int (nI (p + 1))), (2, .int (nI (x - (fac ((n - 1) - ix))))), (0, .ref (E.2.2.1 0)), (1, .int (nI r)), (3, .int (nI (ou n r ix))), (4, .int (nI ix)), (5, .int (nI (fac ((n - 1) - ix)))), (6, .int 0)]) k rfl rfl (by decide) rfl dX6_unrank_104 ?_
        refine gs_goto (tgt := 42) k (by decide) dX6_unrank_107 ?_
        refine gs_lv (lv' := [(0, .ref (E.2.2.1 0)), (1, .int (nI r)), (2, .int (nI (x - (fac ((n - 1) - ix))))), (3, .int (nI (ou n r ix))), (4, .int (nI ix)), (5, .int (nI (fac ((n - 1) - ix)))), (6, .int 0), (7, .int (nI (p + 1)))]) [2, 3, 1, 4, 5, 6, 7, 0] rfl ?_
        exact hG2 _ (Nat.sub_le _ _) (pick_2 hp1 hq c3 c4)
      · obtain ⟨e1, e2⟩ := pick_3 hp1 hq c3 c4
        subst e1
        subst e2
        show G l E K 77 [(0, .ref (E.2.2.1 0)), (1, .int (nI r)), (2, .int (nI (orr n r (ix + 1)))), (3, .int (nI (ou n r ix))), (4, .int (nI ix)), (5, .int (nI (fac ((n - 1) - ix)))), (6, .int 0), (7, .int (nI (oo n r ix)))] [] m
        refine gs_aload_n (q := 0) k rfl rfl dX6_unrank_77 ?_
        refine gs_get (C := RX6) (T := TX6) (N := 10) (ci := 6) (k0 := 0) (j := 9) k (hI 0 (by omega)) rfl rfl inX6 (by decide) fl_X6_60 rfl rfl dX6_unrank_78 ?_
        refine gs_iload (q := 4) k rfl dX6_unrank_81 ?_
        refine gs_iload (q := 7) k rfl dX6_unrank_83 ?_
        refine gs_iastN (k0 := 64) (n := 6) (e := ix) k (hI 64 (by omega)) (fun _ => rfl) rfl (by omega) (by decide) dX6_unrank_85 ?_
        refine gs_iload_n (q := 3) k rfl rfl dX6_unrank_86 ?_
        refine gs_iconst (v := 1) k (by decide) dX6_unrank_87 ?_
        refine gs_iload (q := 7) k rfl dX6_unrank_88 ?_
        refine gs_ishlN (b := oo n r ix) k rfl rfl (by omega) dX6_unrank_90 ?_
        refine gs_iorN (a := ou n r ix) (b := 2 ^ (oo n r ix)) k rfl rfl dX6_unrank_91 ?_
        refine gs_istore_n (lv' := [(3, .int (nI ((ou n r ix) ||| (2 ^ (oo n r ix))))), (0, .ref (E.2.2.1 0)), (1, .int (nI r)), (2, .int (nI (orr n r (ix + 1)))), (4, .int (nI ix)), (5, .int (nI (fac ((n - 1) - ix)))), (6, .int 0), (7, .int (nI (oo n r ix)))]) k rfl (by decide) rfl dX6_unrank_92 ?_
        refine gs_iconst (v := 1) k (by decide) dX6_unrank_93 ?_
        refine gs_istore (lv' := [(6, .int 1), (3, .int (nI ((ou n r ix) ||| (2 ^ (oo n r ix))))), (0, .ref (E.2.2.1 0)), (1, .int (nI r)), (2, .int (nI (orr n r (ix + 1)))), (4, .int (nI ix)), (5, .int (nI (fac ((n - 1) - ix)))), (7, .int (nI (oo n r ix)))]) k (by decide) rfl dX6_unrank_94 ?_
        refine gs_goto (tgt := 104) k (by decide) dX6_unrank_96 ?_
        refine gs_iincN (q := 7) (a := oo n r ix) (c := 1) (lv' := [(7, .int (nI (oo n r ix + 1))), (6, .int 1), (3, .int (nI ((ou n r ix) ||| (2 ^ (oo n r ix))))), (0, .ref (E.2.2.1 0)), (1, .int (nI r)), (2, .int (nI (orr n r (ix + 1)))), (4, .int (nI ix)), (5, .int (nI (fac ((n - 1) - ix))))]) k rfl rfl (by decide) rfl dX6_unrank_104 ?_
        refine gs_goto (tgt := 42) k (by decide) dX6_unrank_107 ?_
        refine gs_iload (q := 0) k rfl dX6_unrank_42 ?_
        refine gs_aload_n (q := 3) k rfl rfl dX6_unrank_44 ?_
        refine gs_get (C := RX6) (T := TX6) (N := 10) (ci := 6) (k0 := 0) (j := 0) k (hI 0 (by omega)) rfl rfl inX6 (by decide) fl_X6_12 rfl rfl dX6_unrank_45 ?_
        refine gs_get (C := RX5) (T := TX5) (N := 9) (ci := 5) (k0 := 1) (j := 0) k (hI 1 (by omega)) rfl rfl inX5 (by decide) fl_X6_63 rfl rfl dX6_unrank_48 ?_
        refine gs_top (y := m 1 0) (rdn (by omega) (rfl)) ?_
        refine gs_icmpN_ge (a := oo n r ix + 1) (b := n) (tgt := 110) k rfl hn0 (by omega) (by omega) (by decide) dX6_unrank_51 (fun c5 => ?_) (fun c5 => ?_)
        · refine gs_iincN (q := 6) (a := ix) (c := 1) (lv' := [(4, .int (nI (ix + 1))), (7, .int (nI (oo n r ix + 1))), (6, .int 1), (3, .int (nI ((ou n r ix) ||| (2 ^ (oo n r ix))))), (0, .ref (E.2.2.1 0)), (1, .int (nI r)), (2, .int (nI (orr n r (ix + 1)))), (5, .int (nI (fac ((n - 1) - ix))))]) k rfl rfl (by decide) rfl dX6_unrank_110 ?_
          refine gs_goto (tgt := 7) k (by decide) dX6_unrank_113 ?_
          refine gs_lv (lv' := [(0, .ref (E.2.2.1 0)), (1, .int (nI r)), (2, .int (nI (orr n r (ix + 1)))), (3, .int (nI ((ou n r ix) ||| (2 ^ (oo n r ix))))), (4, .int (nI (ix + 1))), (5, .int (nI (fac ((n - 1) - ix)))), (6, .int 1), (7, .int (nI (oo n r ix + 1)))]) [4, 5, 6, 3, 0, 7, 2, 1] rfl ?_
          refine gs_lv (lv' := [(0, .ref (E.2.2.1 0)), (1, .int (nI r)), (2, .int (nI (orr n r (ix + 1)))), (3, .int (nI ((ou n r ix) ||| (2 ^ (oo n r ix))))), (4, .int (nI (ix + 1)))]) [0, 1, 2, 3, 4] rfl ?_
          exact hG (by omega) _ (orE_s (fun j => by unfold scr; omega) (by omega) hJ)
        · refine gs_iload (q := 1) k rfl dX6_unrank_54 ?_
          refine gs_if_ne (tgt := 110) k (by decide) dX6_unrank_56 (fun _ => ?_) (fun h => absurd h (by decide))
          refine gs_iincN (q := 6) (a := ix) (c := 1) (lv' := [(4, .int (nI (ix + 1))), (7, .int (nI (oo n r ix + 1))), (6, .int 1), (3, .int (nI ((ou n r ix) ||| (2 ^ (oo n r ix))))), (0, .ref (E.2.2.1 0)), (1, .int (nI r)), (2, .int (nI (orr n r (ix + 1)))), (5, .int (nI (fac ((n - 1) - ix))))]) k rfl rfl (by decide) rfl dX6_unrank_110 ?_
          refine gs_goto (tgt := 7) k (by decide) dX6_unrank_113 ?_
          refine gs_lv (lv' := [(0, .ref (E.2.2.1 0)), (1, .int (nI r)), (2, .int (nI (orr n r (ix + 1)))), (3, .int (nI ((ou n r ix) ||| (2 ^ (oo n r ix))))), (4, .int (nI (ix + 1))), (5, .int (nI (fac ((n - 1) - ix)))), (6, .int 1), (7, .int (nI (oo n r ix + 1)))]) [4, 5, 6, 3, 0, 7, 2, 1] rfl ?_
          refine gs_lv (lv' := [(0, .ref (E.2.2.1 0)), (1, .int (nI r)), (2, .int (nI (orr n r (ix + 1)))), (3, .int (nI ((ou n r ix) ||| (2 ^ (oo n r ix))))), (4, .int (nI (ix + 1)))]) [0, 1, 2, 3, 4] rfl ?_
          exact hG (by omega) _ (orE_s (fun j => by unfold scr; omega) (by omega) hJ)

theorem cf_X7_layOrder : CF yX7_layOrder cX7_layOrder 8 none 1 := ⟨cd_X7_layOrder, iz_X7, by decide, by decide +kernel, by decide +kernel, by decide +kernel⟩
set_option maxRecDepth 100000 in
set_option maxHeartbeats 4000000 in
theorem c_X7_layOrder {l : Launch} {E : Ev} {M : Mm} {n : Nat} (hI : ∀ k, k < 108 → k ∈ E.2.1) (hn : Rn M n) {y : Int32} {r : Nat} (hy : y = nI r) (hr : r < fac n) : Cm l E yX7_layOrder cX7_layOrder 8 none 7 [.ref (E.2.2.1 65), .int y] M (pP (orE 81 n r M n)) := by
  refine Cm.of (by decide) (Nat.le_of_ble_eq_true rfl) (fun K k kt => ?_)
  show G l E K 0 [(0, .ref (E.2.2.1 65)), (1, .int y)] [] M
  obtain ⟨hn0, hn1, hn6⟩ := id hn
  have hp := p2_le6 hn6
  have hp2 := p2_ge2 hn1
  subst hy
  refine gs_aload_n (q := 0) k rfl rfl dX7_layOrder_0 ?_
  refine gs_callV (As := []) (k0 := 65) (ci := 7) (T := TX7) (N := 27) k (c_X7_all hI hn) cf_X7_all im_X7_all sl_X7_all ml_X7_87 (hI 65 (by omega)) rfl rfl (by decide) rfl rfl (Nat.le_of_ble_eq_true rfl) dX7_layOrder_1 (ppI ?_)
  refine gs_istore_n (lv' := [(2, .int (nI (2 ^ n - 1))), (0, .ref (E.2.2.1 65)), (1, .int (nI r))]) k rfl (by decide) rfl dX7_layOrder_4 ?_
  refine gs_iload_n (q := 2) k rfl rfl dX7_layOrder_5 ?_
  refine gs_istore_n (lv' := [(3, .int (nI r)), (2, .int (nI (2 ^ n - 1))), (0, .ref (E.2.2.1 65)), (1, .int (nI r))]) k rfl (by decide) rfl dX7_layOrder_6 ?_
  refine gs_iconst (v := 0) k (by decide) dX7_layOrder_7 ?_
  refine gs_istore (lv' := [(4, .int 0), (3, .int (nI r)), (2, .int (nI (2 ^ n - 1))), (0, .ref (E.2.2.1 65)), (1, .int (nI r))]) k (by decide) rfl dX7_layOrder_8 ?_
  refine gs_lv (lv' := [(0, .ref (E.2.2.1 65)), (1, .int (nI r)), (2, .int (nI (2 ^ n - 1))), (3, .int (nI r)), (4, .int 0)]) [3, 4, 2, 1, 0] rfl ?_
  refine for_wh (σ := Mm) (fun ix m => G l E K 10 [(0, .ref (E.2.2.1 65)), (1, .int (nI r)), (2, .int (nI (lf n r ix))), (3, .int (nI (orr n r ix))), (4, .int (nI ix))] [] m) (fun ix m => orE 81 n r M ix m) n (fun ix m hJ hG => ?_) 0 M orE_0
  show G l E K 10 [(0, .ref (E.2.2.1 65)), (1, .int (nI r)), (2, .int (nI (lf n r ix))), (3, .int (nI (orr n r ix))), (4, .int (nI ix))] [] m
  have hk6 := hJ.2.1
  have hn := hn.same hJ.1
  obtain ⟨hn0, -, -⟩ := id hn
  have hlf : lf n r ix ≤ 2 ^ n - 1 := Nat.sub_le _ _
  refine gs_iload (q := 4) k rfl dX7_layOrder_10 ?_
  refine gs_aload_n (q := 0) k rfl rfl dX7_layOrder_12 ?_
  refine gs_get (C := RX7) (T := TX7) (N := 27) (ci := 7) (k0 := 65) (j := 0) k (hI 65 (by omega)) rfl rfl inX7 (by decide) fl_X7_9 rfl rfl dX7_layOrder_13 ?_
  refine gs_icmpN_ge (a := ix) (b := n) (tgt := 103) k rfl hn0 (by omega) (by omega) (by decide) dX7_layOrder_16 (fun c1 => ?_) (fun c1 => ?_)
  · exact gs_vret k kt dX7_layOrder_103 ⟨rfl, orE_n hJ c1⟩
  · have ho := ord_all n (by omega) r hr ix c1
    obtain ⟨-, -, -, -, ho5, ho6, ho7⟩ := id ho
    have hpw : 2 ^ oo n r ix < 64 := Nat.lt_of_lt_of_le (Nat.pow_lt_pow_right (by omega) ho7) hp
    refine gs_aload_n (q := 0) k rfl rfl dX7_layOrder_19 ?_
    refine gs_get (C := RX7) (T := TX7) (N := 27) (ci := 7) (k0 := 65) (j := 0) k (hI 65 (by omega)) rfl rfl inX7 (by decide) fl_X7_9 rfl rfl dX7_layOrder_20 ?_
    refine gs_iconst (v := 1) k (by decide) dX7_layOrder_23 ?_
    refine gs_isubN (a := n) (b := 1) k hn0 rfl (by omega) dX7_layOrder_24 ?_
    refine gs_iload (q := 4) k rfl dX7_layOrder_25 ?_
    refine gs_isubN (a := n - 1) (b := ix) k rfl rfl (by omega) dX7_layOrder_27 ?_
    refine gs_callS (As := [.int (nI ((n - 1) - ix))]) k (c_X7_orders (m := (n - 1) - ix) (by omega)) cf_X7_orders sm_X7_orders ml_X7_202 (by decide) rfl rfl (Nat.le_of_ble_eq_true rfl) dX7_layOrder_28 (ppI ?_)
    have hf4 := fac_ok (n := (n - 1) - ix) (by omega)
    refine gs_istore (lv' := [(5, .int (nI (fac ((n - 1) - ix)))), (0, .ref (E.2.2.1 65)), (1, .int (nI r)), (2, .int (nI (lf n r ix))), (3, .int (nI (orr n r ix))), (4, .int (nI ix))]) k (by decide) rfl dX7_layOrder_31 ?_
    refine gs_iload_n (q := 4) k rfl rfl dX7_layOrder_33 ?_
    refine gs_iload (q := 0) k rfl dX7_layOrder_34 ?_
    refine gs_idivN (a := orr n r ix) (b := fac ((n - 1) - ix)) k rfl rfl (by omega) (by omega) (by omega) dX7_layOrder_36 ?_
    refine gs_istore (lv' := [(6, .int (nI ((orr n r ix) / (fac ((n - 1) - ix))))), (5, .int (nI (fac ((n - 1) - ix)))), (0, .ref (E.2.2.1 65)), (1, .int (nI r)), (2, .int (nI (lf n r ix))), (3, .int (nI (orr n r ix))), (4, .int (nI ix))]) k (by decide) rfl dX7_layOrder_37 ?_
    refine gs_iload_n (q := 5) k rfl rfl dX7_layOrder_39 ?_
    refine gs_iload (q := 1) k rfl dX7_layOrder_40 ?_
    refine gs_iremN (a := orr n r ix) (b := fac ((n - 1) - ix)) k rfl rfl (by omega) (by omega) (by omega) dX7_layOrder_42 ?_
    refine gs_top (y := nI (orr n r (ix + 1))) (by rw [ho.2.2.1]) ?_
    refine gs_istore_n (lv' := [(3, .int (nI (orr n r (ix + 1)))), (6, .int (nI ((orr n r ix) / (fac ((n - 1) - ix))))), (5, .int (nI (fac ((n - 1) - ix)))), (0, .ref (E.2.2.1 65)), (1, .int (nI r)), (2, .int (nI (lf n r ix))), (4, .int (nI ix))]) k rfl (by decide) rfl dX7_layOrder_43 ?_
    refine gs_iconst (v := 0) k (by decide) dX7_layOrder_44 ?_
    refine gs_istore (lv' := [(7, .int 0), (3, .int (nI (orr n r (ix + 1)))), (6, .int (nI ((orr n r ix) / (fac ((n - 1) - ix))))), (5, .int (nI (fac ((n - 1) - ix)))), (0, .ref (E.2.2.1 65)), (1, .int (nI r)), (2, .int (nI (lf n r ix))), (4, .int (nI ix))]) k (by decide) rfl dX7_layOrder_45 ?_
    refine gs_lv (lv' := [(0, .ref (E.2.2.1 65)), (1, .int (nI r)), (2, .int (nI (lf n r ix))), (3, .int (nI (orr n r (ix + 1)))), (4, .int (nI ix)), (5, .int (nI (fac ((n - 1) - ix)))), (6, .int (nI ((orr n r ix) / (fac ((n - 1) - ix))))), (7, .int 0)]) [4, 5, 6, 1, 7, 3, 2, 0] rfl ?_
    refine for_pickR (fun p y => G l E K 47 [(0, .ref (E.2.2.1 65)), (1, .int (nI r)), (2, .int (nI (lf n r ix))), (3, .int (nI (orr n r (ix + 1)))), (4, .int (nI ix)), (5, .int (nI (fac ((n - 1) - ix)))), (6, .int (nI y)), (7, .int (nI p))] [] m) (lf n r ix) (oo n r ix) n (orr n r ix / fac (n - 1 - ix)) (fun p y hp1 hy hq hG2 => ?_) n 0 _ (by omega) (Nat.le_refl _) ho.2.1
    show G l E K 47 [(0, .ref (E.2.2.1 65)), (1, .int (nI r)), (2, .int (nI (lf n r ix))), (3, .int (nI (orr n r (ix + 1)))), (4, .int (nI ix)), (5, .int (nI (fac ((n - 1) - ix)))), (6, .int (nI y)), (7, .int (nI p))] [] m
    have hq2 : orr n r ix / fac (n - 1 - ix) ≤ orr n r ix := Nat.div_le_self _ _
    refine gs_iload_n (q := 2) k rfl rfl dX7_layOrder_47 ?_
    refine gs_iload (q := 7) k rfl dX7_layOrder_48 ?_
    refine gs_callS (As := [.int (nI (lf n r ix)), .int (nI p)]) k (c_X7_has (S := lf n r ix) (P := p) rfl rfl (by omega) (by omega)) cf_X7_has sm_X7_has ml_X7_118 (by decide) rfl rfl (Nat.le_of_ble_eq_true rfl) dX7_layOrder_50 (ppB (fun c2 => ?_) (fun c2 => ?_))
    · refine gs_if_eq (tgt := 61) k (by decide) dX7_layOrder_53 (fun h => absurd h (by decide)) (fun _ => ?_)
      refine gs_iload (q := 6) k rfl dX7_layOrder_56 ?_
      refine gs_if_le (tgt := 79) k (by decide) dX7_layOrder_58 (fun c3 => ?_) (fun c3 => ?_)
      · have e1 := pickR_3 hp1 hq c2 (nle0 (by omega) c3)
        subst e1
        show G l E K 79 [(0, .ref (E.2.2.1 65)), (1, .int (nI r)), (2, .int (nI (lf n r ix))), (3, .int (nI (orr n r (ix + 1)))), (4, .int (nI ix)), (5, .int (nI (fac ((n - 1) - ix)))), (6, .int (nI y)), (7, .int (nI (oo n r ix)))] [] m
        refine gs_aload_n (q := 0) k rfl rfl dX7_layOrder_79 ?_
        refine gs_get (C := RX7) (T := TX7) (N := 27) (ci := 7) (k0 := 65) (j := 10) k (hI 65 (by omega)) rfl rfl inX7 (by decide) fl_X7_45 rfl rfl dX7_layOrder_80 ?_
        refine gs_iload (q := 4) k rfl dX7_layOrder_83 ?_
        refine gs_iload (q := 7) k rfl dX7_layOrder_85 ?_
        refine gs_iastN (k0 := 81) (n := 6) (e := ix) k (hI 81 (by omega)) (fun _ => rfl) rfl (by omega) (by decide) dX7_layOrder_87 ?_
        refine gs_iload_n (q := 2) k rfl rfl dX7_layOrder_88 ?_
        refine gs_iconst (v := 1) k (by decide) dX7_layOrder_89 ?_
        refine gs_iload (q := 7) k rfl dX7_layOrder_90 ?_
        refine gs_ishlN (b := oo n r ix) k rfl rfl (by omega) dX7_layOrder_92 ?_
        refine gs_iconst (v := -1) k (by decide) dX7_layOrder_93 ?_
        refine gs_ixor k dX7_layOrder_94 ?_
        refine gs_iand k dX7_layOrder_95 ?_
        refine gs_top (y := nI (lf n r (ix + 1))) (by rw [ni_dif _ (by omega) _ hpw, ho.2.2.2.1]) ?_
        refine gs_istore_n (lv' := [(2, .int (nI (lf n r (ix + 1)))), (0, .ref (E.2.2.1 65)), (1, .int (nI r)), (3, .int (nI (orr n r (ix + 1)))), (4, .int (nI ix)), (5, .int (nI (fac ((n - 1) - ix)))), (6, .int (nI y)), (7, .int (nI (oo n r ix)))]) k rfl (by decide) rfl dX7_layOrder_96 ?_
        refine gs_iincN (q := 4) (a := ix) (c := 1) (lv' := [(4, .int (nI (ix + 1))), (2, .int (nI (lf n r (ix + 1)))), (0, .ref (E.2.2.1 65)), (1, .int (nI r)), (3, .int (nI (orr n r (ix + 1)))), (5, .int (nI (fac ((n - 1) - ix)))), (6, .int (nI y)), (7, .int (nI (oo n r ix)))]) k rfl rfl (by decide) rfl dX7_layOrder_97 ?_
        refine gs_goto (tgt := 10) k (by decide) dX7_layOrder_100 ?_
        refine gs_lv (lv' := [(0, .ref (E.2.2.1 65)), (1, .int (nI r)), (2, .int (nI (lf n r (ix + 1)))), (3, .int (nI (orr n r (ix + 1)))), (4, .int (nI (ix + 1))), (5, .int (nI (fac ((n - 1) - ix)))), (6, .int (nI y)), (7, .int (nI (oo n r ix)))]) [2, 3, 1, 4, 0, 5, 6, 7] rfl ?_
        refine gs_lv (lv' := [(0, .ref (E.2.2.1 65)), (1, .int (nI r)), (2, .int (nI (lf n r (ix + 1)))), (3, .int (nI (orr n r (ix + 1)))), (4, .int (nI (ix + 1)))]) [0, 1, 2, 3, 4] rfl ?_
        exact hG (by omega) _ (orE_s (fun j => by unfold scr; omega) (by omega) hJ)
      · have hy1 := nle1 (by omega) c3
        refine gs_iload_n (q := 2) k rfl rfl dX7_layOrder_61 ?_
        refine gs_iload (q := 7) k rfl dX7_layOrder_62 ?_
        refine gs_callS (As := [.int (nI (lf n r ix)), .int (nI p)]) k (c_X7_has (S := lf n r ix) (P := p) rfl rfl (by omega) (by omega)) cf_X7_has sm_X7_has ml_X7_118 (by decide) rfl rfl (Nat.le_of_ble_eq_true rfl) dX7_layOrder_64 (ppB (fun c4 => ?_) (fun c4 => absurd c2 c4))
        refine gs_if_eq (tgt := 73) k (by decide) dX7_layOrder_67 (fun h => absurd h (by decide)) (fun _ => ?_)
        refine gs_iinc (q := 6) (v := nI (y - 1)) (lv' := [(6, .int (nI (y - 1))), (0, .ref (E.2.2.1 65)), (1, .int (nI r)), (2, .int (nI (lf n r ix))), (3, .int (nI (orr n r (ix + 1)))), (4, .int (nI ix)), (5, .int (nI (fac ((n - 1) - ix)))), (7, .int (nI p))]) k rfl (ni_dec rfl (by omega)) (by decide) rfl dX7_layOrder_70 ?_
        refine gs_iincN (q := 7) (a := p) (c := 1) (lv' := [(7, .int (nI (p + 1))), (6, .int (nI (y - 1))), (0, .ref (E.2.2.1 65)), (1, .int (nI r)), (2, .int (nI (lf n r ix))), (3, .int (nI (orr n r (ix + 1)))), (4, .int (nI ix)), (5, .int (nI (fac ((n - 1) - ix))))]) k rfl rfl (by decide) rfl dX7_layOrder_73 ?_
        refine gs_goto (tgt := 47) k (by decide) dX7_layOrder_76 ?_
        refine gs_lv (lv' := [(0, .ref (E.2.2.1 65)), (1, .int (nI r)), (2, .int (nI (lf n r ix))), (3, .int (nI (orr n r (ix + 1)))), (4, .int (nI ix)), (5, .int (nI (fac ((n - 1) - ix)))), (6, .int (nI (y - 1))), (7, .int (nI (p + 1)))]) [2, 3, 4, 5, 6, 7, 1, 0] rfl ?_
        exact hG2 _ (Nat.sub_le _ _) (pickR_2 hp1 hq c2 (nle1 (by omega) c3))
    · refine gs_if_eq (tgt := 61) k (by decide) dX7_layOrder_53 (fun _ => ?_) (fun h => absurd h (by decide))
      refine gs_iload_n (q := 2) k rfl rfl dX7_layOrder_61 ?_
      refine gs_iload (q := 7) k rfl dX7_layOrder_62 ?_
      refine gs_callS (As := [.int (nI (lf n r ix)), .int (nI p)]) k (c_X7_has (S := lf n r ix) (P := p) rfl rfl (by omega) (by omega)) cf_X7_has sm_X7_has ml_X7_118 (by decide) rfl rfl (Nat.le_of_ble_eq_true rfl) dX7_layOrder_64 (ppB (fun c5 => absurd c5 c2) (fun c5 => ?_))
      refine gs_if_eq (tgt := 73) k (by decide) dX7_layOrder_67 (fun _ => ?_) (fun h => absurd h (by decide))
      refine gs_iincN (q := 7) (a := p) (c := 1) (lv' := [(7, .int (nI (p + 1))), (0, .ref (E.2.2.1 65)), (1, .int (nI r)), (2, .int (nI (lf n r ix))), (3, .int (nI (orr n r (ix + 1)))), (4, .int (nI ix)), (5, .int (nI (fac ((n - 1) - ix)))), (6, .int (nI y))]) k rfl rfl (by decide) rfl dX7_layOrder_73 ?_
      refine gs_goto (tgt := 47) k (by decide) dX7_layOrder_76 ?_
      refine gs_lv (lv' := [(0, .ref (E.2.2.1 65)), (1, .int (nI r)), (2, .int (nI (lf n r ix))), (3, .int (nI (orr n r (ix + 1)))), (4, .int (nI ix)), (5, .int (nI (fac ((n - 1) - ix)))), (6, .int (nI y)), (7, .int (nI (p + 1)))]) [1, 2, 3, 4, 5, 6, 7, 0] rfl ?_
      exact hG2 _ (Nat.le_refl _) (pickR_1 hp1 hq c2)

noncomputable def A_base (n : Nat) (kd : Nat → Int32) (V : Nat → Nat → Int32) (f r p : Int32) : Int64 := ifc (((inR f 6 ∧ ¬ kd (tn f) < 0) ∧ inR r (fac n)) ∧ inR p n) ((gn (V (tn f)) (ou n (tn r) (pos n (tn r) (tn p))) (tn p)).toInt64) (-9223372036854775808)
noncomputable def A_negative (x : Int64) (n : Nat) (kd : Nat → Int32) (f r : Int32) : Int64 := ifc ((inR f 6 ∧ ¬ kd (tn f) < 0) ∧ inR r (fac n)) x (-9223372036854775808)
def nsC (v : Nat → Int32) (n r : Nat) : Nat → Int64
  | 0 => 0
  | k + 1 => nsC v n r k + (imin 0 (gn v (ou n r k) (oo n r k))).toInt64
def nsR (v : Nat → Int32) (n r : Nat) : Nat → Int32
  | 0 => 0
  | p + 1 => nsR v n r p + imin 0 (gn v (ou n r (pos n r p)) p)
theorem pos_k {n r p k : Nat} (h : pos n r p < n ∧ oo n r (pos n r p) = p ∧ ∀ i, i < pos n r p → ¬ oo n r i = p) (hk : k ≤ pos n r p) (c : oo n r k = p) : k = pos n r p := by
  rcases Nat.lt_or_ge k (pos n r p) with h1 | h1
  · exact absurd c (h.2.2 k h1)
  · omega
theorem pos_s {n r p k : Nat} (h : pos n r p < n ∧ oo n r (pos n r p) = p ∧ ∀ i, i < pos n r p → ¬ oo n r i = p) (hk : k ≤ pos n r p) (c : ¬ oo n r k = p) : k + 1 ≤ pos n r p := by
  rcases Nat.lt_or_ge k (pos n r p) with h1 | h1
  · omega
  · rw [show k = pos n r p by omega] at c
    exact absurd h.2.1 c
theorem cf_X6_base : CF yX6_base cX6_base 6 (some .long) 3 := ⟨cd_X6_base, iz_X6, by decide, by decide +kernel, by decide +kernel, by decide +kernel⟩
set_option maxRecDepth 100000 in
set_option maxHeartbeats 4000000 in
theorem c_X6_base {l : Launch} {E : Ev} {M : Mm} {n : Nat} {kd : Nat → Int32} {V : Nat → Nat → Int32} (hI : ∀ k, k < 108 → k ∈ E.2.1) (hn : Cn M n) (hF : CFn M n kd V) {f r p : Int32} : Cm l E yX6_base cX6_base 6 (some .long) 4 [.ref (E.2.2.1 0), .int f, .int r, .int p] M (pR (.long (A_base n kd V f r p)) M) := by
  refine Cm.of (by decide) (Nat.le_of_ble_eq_true rfl) (fun K k kt => ?_)
  show G l E K 0 [(0, .ref (E.2.2.1 0)), (1, .int f), (2, .int r), (3, .int p)] [] M
  obtain ⟨hn0, hn1, hn6⟩ := id hn
  have hp := p2_le6 hn6
  have hp2 := p2_ge2 hn1
  refine gs_aload_n (q := 0) k rfl rfl dX6_base_0 ?_
  refine gs_iload_n (q := 1) k rfl rfl dX6_base_1 ?_
  refine gs_callV (As := [.int f]) (k0 := 0) (ci := 6) (T := TX6) (N := 10) k (c_X6_errorOf hI hF) cf_X6_errorOf im_X6_errorOf sl_X6_errorOf ml_X6_154 (hI 0 (by omega)) rfl rfl (by decide) rfl rfl (Nat.le_of_ble_eq_true rfl) dX6_base_2 (ppE (fun c1 => ?_) (fun c1 c2 => ?_) (fun c1 c2 => ?_))
  · refine gs_if_ne (tgt := 27) k (by decide) dX6_base_5 (fun _ => ?_) (fun h => absurd h (by decide))
    refine gs_ldc2 (v := -9223372036854775808) k cl_X6_184 dX6_base_27 ?_
    exact gs_lret k kt dX6_base_30 ⟨(by simp [-Int32.not_lt, A_base, ifc_T, ifc_F, c1]), Same.rf⟩
  · have bc1 := inR_lt c1
    refine gs_if_ne (tgt := 27) k (by decide) dX6_base_5 (fun _ => ?_) (fun h => absurd h (by decide))
    refine gs_ldc2 (v := -9223372036854775808) k cl_X6_184 dX6_base_27 ?_
    exact gs_lret k kt dX6_base_30 ⟨(by simp [-Int32.not_lt, A_base, ifc_T, ifc_F, c1, c2]), Same.rf⟩
  · have bc1 := inR_lt c1
    refine gs_if_ne (tgt := 27) k (by decide) dX6_base_5 (fun h => absurd h (by decide)) (fun _ => ?_)
    refine gs_aload_n (q := 0) k rfl rfl dX6_base_8 ?_
    refine gs_iload_n (q := 2) k rfl rfl dX6_base_9 ?_
    refine gs_callV (As := [.int r]) (k0 := 0) (ci := 6) (T := TX6) (N := 10) k (c_X6_isOrder hI hn) cf_X6_isOrder im_X6_isOrder sl_X6_isOrder ml_X6_198 (hI 0 (by omega)) rfl rfl (by decide) rfl rfl (Nat.le_of_ble_eq_true rfl) dX6_base_10 (ppB (fun c3 => ?_) (fun c3 => ?_))
    · have bc3 := inR_lt c3
      refine gs_if_eq (tgt := 27) k (by decide) dX6_base_13 (fun h => absurd h (by decide)) (fun _ => ?_)
      refine gs_aload_n (q := 0) k rfl rfl dX6_base_16 ?_
      refine gs_get (C := RX6) (T := TX6) (N := 10) (ci := 6) (k0 := 0) (j := 0) k (hI 0 (by omega)) rfl rfl inX6 (by decide) fl_X6_12 rfl rfl dX6_base_17 ?_
      refine gs_iload_n (q := 3) k rfl rfl dX6_base_20 ?_
      refine gs_callV (As := [.int p]) (k0 := 1) (ci := 5) (T := TX5) (N := 9) k (c_X5_hasPoint hI hn) cf_X5_hasPoint im_X5_hasPoint sl_X5_hasPoint ml_X6_71 (hI 1 (by omega)) rfl rfl (by decide) rfl rfl (Nat.le_of_ble_eq_true rfl) dX6_base_21 (ppB (fun c4 => ?_) (fun c4 => ?_))
      · have bc4 := inR_lt c4
        refine gs_if_ne (tgt := 31) k (by decide) dX6_base_24 (fun _ => ?_) (fun h => absurd h (by decide))
        refine gs_aload_n (q := 0) k rfl rfl dX6_base_31 ?_
        refine gs_iload_n (q := 2) k rfl rfl dX6_base_32 ?_
        refine gs_callV (As := [.int r]) (k0 := 0) (ci := 6) (T := TX6) (N := 10) k (c_X6_unrank (r := tn r) hI hn (inR_eq c3) (by omega)) cf_X6_unrank im_X6_unrank sl_X6_unrank ml_X6_201 (hI 0 (by omega)) rfl rfl (by decide) rfl rfl (Nat.le_of_ble_eq_true rfl) dX6_base_33 (ppP (fun m hm => ?_))
        have hF := hF.same hm.1
        have hn := hn.same hm.1
        obtain ⟨hn0, -, -⟩ := id hn
        refine gs_iconst (v := 0) k (by decide) dX6_base_36 ?_
        refine gs_istore (lv' := [(4, .int 0), (0, .ref (E.2.2.1 0)), (1, .int f), (2, .int r), (3, .int p)]) k (by decide) rfl dX6_base_37 ?_
        refine gs_iconst (v := 0) k (by decide) dX6_base_39 ?_
        refine gs_istore (lv' := [(5, .int 0), (4, .int 0), (0, .ref (E.2.2.1 0)), (1, .int f), (2, .int r), (3, .int p)]) k (by decide) rfl dX6_base_40 ?_
        refine gs_lv (lv' := [(0, .ref (E.2.2.1 0)), (1, .int f), (2, .int r), (3, .int p), (4, .int 0), (5, .int 0)]) [2, 3, 4, 5, 1, 0] rfl ?_
        refine for_wh (σ := Unit) (fun ix _u => G l E K 42 [(0, .ref (E.2.2.1 0)), (1, .int f), (2, .int r), (3, .int p), (4, .int (nI (ou n (tn r) ix))), (5, .int (nI ix))] [] m) (fun ix _u => ix ≤ pos n (tn r) (tn p)) n (fun ix _u hJ hG => ?_) 0 () (Nat.zero_le _)
        show G l E K 42 [(0, .ref (E.2.2.1 0)), (1, .int f), (2, .int r), (3, .int p), (4, .int (nI (ou n (tn r) ix))), (5, .int (nI ix))] [] m
        have hpo := pos_all n (by omega) (tn r) (by omega) (tn p) (by omega)
        have ho0 := ord_all n (by omega) (tn r) (by omega) ix
        refine gs_iload (q := 5) k rfl dX6_base_42 ?_
        refine gs_aload_n (q := 0) k rfl rfl dX6_base_44 ?_
        refine gs_get (C := RX6) (T := TX6) (N := 10) (ci := 6) (k0 := 0) (j := 0) k (hI 0 (by omega)) rfl rfl inX6 (by decide) fl_X6_12 rfl rfl dX6_base_45 ?_
        refine gs_get (C := RX5) (T := TX5) (N := 9) (ci := 5) (k0 := 1) (j := 0) k (hI 1 (by omega)) rfl rfl inX5 (by decide) fl_X6_63 rfl rfl dX6_base_48 ?_
        refine gs_icmpN_ge (a := ix) (b := n) (tgt := 85) k rfl hn0 (by omega) (by omega) (by decide) dX6_base_51 (fun c5 => ?_) (fun c5 => ?_)
        · refine gs_aload_n (q := 0) k rfl rfl dX6_base_85 ?_
          refine gs_get (C := RX6) (T := TX6) (N := 10) (ci := 6) (k0 := 0) (j := 0) k (hI 0 (by omega)) rfl rfl inX6 (by decide) fl_X6_12 rfl rfl dX6_base_86 ?_
          refine gs_get (C := RX5) (T := TX5) (N := 9) (ci := 5) (k0 := 1) (j := 7) k (hI 1 (by omega)) rfl rfl inX5 (by decide) fl_X6_107 rfl rfl dX6_base_89 ?_
          refine gs_iload_n (q := 1) k rfl rfl dX6_base_92 ?_
          refine gs_aaldSN (k0 := 8) (n := 6) (e := tn f) (a := E.2.2.1 (10 + 2 * (tn f))) k (hI 8 (by omega)) (fun _ => rfl) (inR_eq c1) (by omega) (by decide) rfl dX6_base_93 ?_
          refine gs_iload (q := 4) k rfl dX6_base_94 ?_
          refine gs_iload_n (q := 3) k rfl rfl dX6_base_96 ?_
          refine gs_callV (As := [.int (nI (ou n (tn r) ix)), .int p]) (k0 := (10 + 2 * (tn f))) (ci := 3) (T := TX3) (N := 2) k (c_X3_gainAt (S := ou n (tn r) ix) (P := tn p) hI hF (by omega) hn6 rfl (inR_eq c4) (by omega) (by omega)) cf_X3_gainAt im_X3_gainAt sl_X3_gainAt ml_X6_186 (hI (10 + 2 * (tn f)) (by omega)) (ent_F1 (by omega) _) rfl (by decide) rfl rfl (Nat.le_of_ble_eq_true rfl) dX6_base_97 (ppI ?_)
          refine gs_i2l k dX6_base_100 ?_
          exact gs_lret k kt dX6_base_101 (absurd hpo.1 (by omega))
        · obtain ⟨-, -, -, -, ho5, ho6, ho7⟩ := ho0 c5
          refine gs_aload_n (q := 0) k rfl rfl dX6_base_54 ?_
          refine gs_get (C := RX6) (T := TX6) (N := 10) (ci := 6) (k0 := 0) (j := 9) k (hI 0 (by omega)) rfl rfl inX6 (by decide) fl_X6_60 rfl rfl dX6_base_55 ?_
          refine gs_iload (q := 5) k rfl dX6_base_58 ?_
          refine gs_ialdN (k0 := 64) (n := 6) (e := ix) k (hI 64 (by omega)) (fun _ => rfl) rfl (by omega) (by decide) dX6_base_60 ?_
          refine gs_top (y := nI (oo n (tn r) ix)) (hm.2.2 ix (by omega)) ?_
          refine gs_iload_n (q := 3) k rfl rfl dX6_base_61 ?_
          refine gs_icmpN_eq (a := oo n (tn r) ix) (b := tn p) (tgt := 85) k rfl (inR_eq c4) (by omega) (by omega) (by decide) dX6_base_62 (fun c6 => ?_) (fun c6 => ?_)
          · refine gs_aload_n (q := 0) k rfl rfl dX6_base_85 ?_
            refine gs_get (C := RX6) (T := TX6) (N := 10) (ci := 6) (k0 := 0) (j := 0) k (hI 0 (by omega)) rfl rfl inX6 (by decide) fl_X6_12 rfl rfl dX6_base_86 ?_
            refine gs_get (C := RX5) (T := TX5) (N := 9) (ci := 5) (k0 := 1) (j := 7) k (hI 1 (by omega)) rfl rfl inX5 (by decide) fl_X6_107 rfl rfl dX6_base_89 ?_
            refine gs_iload_n (q := 1) k rfl rfl dX6_base_92 ?_
            refine gs_aaldSN (k0 := 8) (n := 6) (e := tn f) (a := E.2.2.1 (10 + 2 * (tn f))) k (hI 8 (by omega)) (fun _ => rfl) (inR_eq c1) (by omega) (by decide) rfl dX6_base_93 ?_
            refine gs_iload (q := 4) k rfl dX6_base_94 ?_
            refine gs_iload_n (q := 3) k rfl rfl dX6_base_96 ?_
            refine gs_callV (As := [.int (nI (ou n (tn r) ix)), .int p]) (k0 := (10 + 2 * (tn f))) (ci := 3) (T := TX3) (N := 2) k (c_X3_gainAt (S := ou n (tn r) ix) (P := tn p) hI hF (by omega) hn6 rfl (inR_eq c4) (by omega) (by omega)) cf_X3_gainAt im_X3_gainAt sl_X3_gainAt ml_X6_186 (hI (10 + 2 * (tn f)) (by omega)) (ent_F1 (by omega) _) rfl (by decide) rfl rfl (Nat.le_of_ble_eq_true rfl) dX6_base_97 (ppI ?_)
            refine gs_i2l k dX6_base_100 ?_
            exact gs_lret k kt dX6_base_101 ⟨(by rw [pos_k hpo hJ c6]; simp [-Int32.not_lt, A_base, ifc_T, ifc_F, c1, c2, c3, c4]), hm.1⟩
          · refine gs_iload (q := 4) k rfl dX6_base_65 ?_
            refine gs_iconst (v := 1) k (by decide) dX6_base_67 ?_
            refine gs_aload_n (q := 0) k rfl rfl dX6_base_68 ?_
            refine gs_get (C := RX6) (T := TX6) (N := 10) (ci := 6) (k0 := 0) (j := 9) k (hI 0 (by omega)) rfl rfl inX6 (by decide) fl_X6_60 rfl rfl dX6_base_69 ?_
            refine gs_iload (q := 5) k rfl dX6_base_72 ?_
            refine gs_ialdN (k0 := 64) (n := 6) (e := ix) k (hI 64 (by omega)) (fun _ => rfl) rfl (by omega) (by decide) dX6_base_74 ?_
            refine gs_top (y := nI (oo n (tn r) ix)) (hm.2.2 ix (by omega)) ?_
            refine gs_ishlN (b := oo n (tn r) ix) k rfl rfl (by omega) dX6_base_75 ?_
            refine gs_iorN (a := ou n (tn r) ix) (b := 2 ^ (oo n (tn r) ix)) k rfl rfl dX6_base_76 ?_
            refine gs_istore (lv' := [(4, .int (nI ((ou n (tn r) ix) ||| (2 ^ (oo n (tn r) ix))))), (0, .ref (E.2.2.1 0)), (1, .int f), (2, .int r), (3, .int p), (5, .int (nI ix))]) k (by decide) rfl dX6_base_77 ?_
            refine gs_iincN (q := 5) (a := ix) (c := 1) (lv' := [(5, .int (nI (ix + 1))), (4, .int (nI ((ou n (tn r) ix) ||| (2 ^ (oo n (tn r) ix))))), (0, .ref (E.2.2.1 0)), (1, .int f), (2, .int r), (3, .int p)]) k rfl rfl (by decide) rfl dX6_base_79 ?_
            refine gs_goto (tgt := 42) k (by decide) dX6_base_82 ?_
            refine gs_lv (lv' := [(0, .ref (E.2.2.1 0)), (1, .int f), (2, .int r), (3, .int p), (4, .int (nI ((ou n (tn r) ix) ||| (2 ^ (oo n (tn r) ix))))), (5, .int (nI (ix + 1)))]) [2, 3, 4, 5, 1, 0] rfl ?_
            exact hG (by omega) () (pos_s hpo hJ c6)
      · refine gs_if_ne (tgt := 31) k (by decide) dX6_base_24 (fun h => absurd h (by decide)) (fun _ => ?_)
        refine gs_ldc2 (v := -9223372036854775808) k cl_X6_184 dX6_base_27 ?_
        exact gs_lret k kt dX6_base_30 ⟨(by simp [-Int32.not_lt, A_base, ifc_T, ifc_F, c1, c2, c3, c4]), Same.rf⟩
    · refine gs_if_eq (tgt := 27) k (by decide) dX6_base_13 (fun _ => ?_) (fun h => absurd h (by decide))
      refine gs_ldc2 (v := -9223372036854775808) k cl_X6_184 dX6_base_27 ?_
      exact gs_lret k kt dX6_base_30 ⟨(by simp [-Int32.not_lt, A_base, ifc_T, ifc_F, c1, c2, c3]), Same.rf⟩

theorem cf_X7_baseOf : CF yX7_baseOf cX7_baseOf 5 (some .int) 2 := ⟨cd_X7_baseOf, iz_X7, by decide, by decide +kernel, by decide +kernel, by decide +kernel⟩
set_option maxRecDepth 100000 in
set_option maxHeartbeats 4000000 in
theorem c_X7_baseOf {l : Launch} {E : Ev} {M : Mm} {n : Nat} {kd : Nat → Int32} {V : Nat → Nat → Int32} (hI : ∀ k, k < 108 → k ∈ E.2.1) (hn : Rn M n) (hF : RFn M n kd V) {z : Int32} {f : Nat} (hz : z = nI f) (hf : f < 6) (ht : ¬ kd f < 0) {r : Nat} (hr : r < fac n) (hO : ∀ i, i < n → M 81 i = nI (oo n r i)) {y : Int32} {p : Nat} (hy : y = nI p) (hp1 : p < n) : Cm l E yX7_baseOf cX7_baseOf 5 (some .int) 3 [.ref (E.2.2.1 65), .int z, .int y] M (pI (gn (V f) (ou n r (pos n r p)) p) M) := by
  refine Cm.of (by decide) (Nat.le_of_ble_eq_true rfl) (fun K k kt => ?_)
  show G l E K 0 [(0, .ref (E.2.2.1 65)), (1, .int z), (2, .int y)] [] M
  obtain ⟨hn0, hn1, hn6⟩ := id hn
  have hp := p2_le6 hn6
  have hp2 := p2_ge2 hn1
  refine gs_iconst (v := 0) k (by decide) dX7_baseOf_0 ?_
  refine gs_istore_n (lv' := [(3, .int 0), (0, .ref (E.2.2.1 65)), (1, .int z), (2, .int y)]) k rfl (by decide) rfl dX7_baseOf_1 ?_
  refine gs_iconst (v := 0) k (by decide) dX7_baseOf_2 ?_
  refine gs_istore (lv' := [(4, .int 0), (3, .int 0), (0, .ref (E.2.2.1 65)), (1, .int z), (2, .int y)]) k (by decide) rfl dX7_baseOf_3 ?_
  refine gs_lv (lv' := [(0, .ref (E.2.2.1 65)), (1, .int z), (2, .int y), (3, .int 0), (4, .int 0)]) [2, 3, 4, 1, 0] rfl ?_
  refine for_wh (σ := Unit) (fun ix _u => G l E K 5 [(0, .ref (E.2.2.1 65)), (1, .int z), (2, .int y), (3, .int (nI (ou n r ix))), (4, .int (nI ix))] [] M) (fun ix _u => ix ≤ pos n r p) n (fun ix _u hJ hG => ?_) 0 () (Nat.zero_le _)
  show G l E K 5 [(0, .ref (E.2.2.1 65)), (1, .int z), (2, .int y), (3, .int (nI (ou n r ix))), (4, .int (nI ix))] [] M
  have hpo := pos_all n (by omega) r hr p hp1
  obtain ⟨-, -, -, -, ho5, ho6, ho7⟩ := ord_all n (by omega) r hr ix (by omega)
  refine gs_aload_n (q := 0) k rfl rfl dX7_baseOf_5 ?_
  refine gs_get (C := RX7) (T := TX7) (N := 27) (ci := 7) (k0 := 65) (j := 10) k (hI 65 (by omega)) rfl rfl inX7 (by decide) fl_X7_45 rfl rfl dX7_baseOf_6 ?_
  refine gs_iload (q := 4) k rfl dX7_baseOf_9 ?_
  refine gs_ialdN (k0 := 81) (n := 6) (e := ix) k (hI 81 (by omega)) (fun _ => rfl) rfl (by omega) (by decide) dX7_baseOf_11 ?_
  refine gs_top (y := nI (oo n r ix)) (hO ix (by omega)) ?_
  refine gs_iload_n (q := 2) k rfl rfl dX7_baseOf_12 ?_
  refine gs_icmpN_eq (a := oo n r ix) (b := p) (tgt := 34) k rfl hy (by omega) (by omega) (by decide) dX7_baseOf_13 (fun c1 => ?_) (fun c1 => ?_)
  · refine gs_aload_n (q := 0) k rfl rfl dX7_baseOf_34 ?_
    refine gs_iload_n (q := 1) k rfl rfl dX7_baseOf_35 ?_
    refine gs_iload_n (q := 3) k rfl rfl dX7_baseOf_36 ?_
    refine gs_iload_n (q := 2) k rfl rfl dX7_baseOf_37 ?_
    refine gs_callV (As := [.int z, .int (nI (ou n r ix)), .int y]) (k0 := 65) (ci := 7) (T := TX7) (N := 27) k (c_X7_gainOf (f := f) (S := ou n r ix) (P := p) hI hF hn6 hz (by omega) ht rfl hy (by omega) (by omega)) cf_X7_gainOf im_X7_gainOf sl_X7_gainOf ml_X7_169 (hI 65 (by omega)) rfl rfl (by decide) rfl rfl (Nat.le_of_ble_eq_true rfl) dX7_baseOf_38 (ppI ?_)
    exact gs_iret k kt dX7_baseOf_41 ⟨(by rw [pos_k hpo hJ c1]), rfl⟩
  · refine gs_iload_n (q := 3) k rfl rfl dX7_baseOf_16 ?_
    refine gs_iconst (v := 1) k (by decide) dX7_baseOf_17 ?_
    refine gs_aload_n (q := 0) k rfl rfl dX7_baseOf_18 ?_
    refine gs_get (C := RX7) (T := TX7) (N := 27) (ci := 7) (k0 := 65) (j := 10) k (hI 65 (by omega)) rfl rfl inX7 (by decide) fl_X7_45 rfl rfl dX7_baseOf_19 ?_
    refine gs_iload (q := 4) k rfl dX7_baseOf_22 ?_
    refine gs_ialdN (k0 := 81) (n := 6) (e := ix) k (hI 81 (by omega)) (fun _ => rfl) rfl (by omega) (by decide) dX7_baseOf_24 ?_
    refine gs_top (y := nI (oo n r ix)) (hO ix (by omega)) ?_
    refine gs_ishlN (b := oo n r ix) k rfl rfl (by omega) dX7_baseOf_25 ?_
    refine gs_iorN (a := ou n r ix) (b := 2 ^ (oo n r ix)) k rfl rfl dX7_baseOf_26 ?_
    refine gs_istore_n (lv' := [(3, .int (nI ((ou n r ix) ||| (2 ^ (oo n r ix))))), (0, .ref (E.2.2.1 65)), (1, .int z), (2, .int y), (4, .int (nI ix))]) k rfl (by decide) rfl dX7_baseOf_27 ?_
    refine gs_iincN (q := 4) (a := ix) (c := 1) (lv' := [(4, .int (nI (ix + 1))), (3, .int (nI ((ou n r ix) ||| (2 ^ (oo n r ix))))), (0, .ref (E.2.2.1 65)), (1, .int z), (2, .int y)]) k rfl rfl (by decide) rfl dX7_baseOf_28 ?_
    refine gs_goto (tgt := 5) k (by decide) dX7_baseOf_31 ?_
    refine gs_lv (lv' := [(0, .ref (E.2.2.1 65)), (1, .int z), (2, .int y), (3, .int (nI ((ou n r ix) ||| (2 ^ (oo n r ix))))), (4, .int (nI (ix + 1)))]) [2, 3, 4, 1, 0] rfl ?_
    exact hG (by omega) () (pos_s hpo hJ c1)

theorem cf_X7_base : CF yX7_base cX7_base 4 (some .long) 3 := ⟨cd_X7_base, iz_X7, by decide, by decide +kernel, by decide +kernel, by decide +kernel⟩
set_option maxRecDepth 100000 in
set_option maxHeartbeats 4000000 in
theorem c_X7_base {l : Launch} {E : Ev} {M : Mm} {n : Nat} {kd : Nat → Int32} {V : Nat → Nat → Int32} (hI : ∀ k, k < 108 → k ∈ E.2.1) (hn : Rn M n) (hF : RFn M n kd V) {f r p : Int32} : Cm l E yX7_base cX7_base 4 (some .long) 8 [.ref (E.2.2.1 65), .int f, .int r, .int p] M (pR (.long (A_base n kd V f r p)) M) := by
  refine Cm.of (by decide) (Nat.le_of_ble_eq_true rfl) (fun K k kt => ?_)
  show G l E K 0 [(0, .ref (E.2.2.1 65)), (1, .int f), (2, .int r), (3, .int p)] [] M
  obtain ⟨hn0, hn1, hn6⟩ := id hn
  have hp := p2_le6 hn6
  have hp2 := p2_ge2 hn1
  refine gs_aload_n (q := 0) k rfl rfl dX7_base_0 ?_
  refine gs_iload_n (q := 1) k rfl rfl dX7_base_1 ?_
  refine gs_callV (As := [.int f]) (k0 := 65) (ci := 7) (T := TX7) (N := 27) k (c_X7_isThere hI hF) cf_X7_isThere im_X7_isThere sl_X7_isThere ml_X7_163 (hI 65 (by omega)) rfl rfl (by decide) rfl rfl (Nat.le_of_ble_eq_true rfl) dX7_base_2 (ppB (fun c1 => ?_) (fun c1 => ?_))
  · have bc1 := inR_lt c1.1
    have tc1 := c1.2
    refine gs_if_eq (tgt := 24) k (by decide) dX7_base_5 (fun h => absurd h (by decide)) (fun _ => ?_)
    refine gs_aload_n (q := 0) k rfl rfl dX7_base_8 ?_
    refine gs_iload_n (q := 2) k rfl rfl dX7_base_9 ?_
    refine gs_callV (As := [.int r]) (k0 := 65) (ci := 7) (T := TX7) (N := 27) k (c_X7_isOrder hI hn) cf_X7_isOrder im_X7_isOrder sl_X7_isOrder ml_X7_205 (hI 65 (by omega)) rfl rfl (by decide) rfl rfl (Nat.le_of_ble_eq_true rfl) dX7_base_10 (ppB (fun c2 => ?_) (fun c2 => ?_))
    · have bc2 := inR_lt c2
      refine gs_if_eq (tgt := 24) k (by decide) dX7_base_13 (fun h => absurd h (by decide)) (fun _ => ?_)
      refine gs_aload_n (q := 0) k rfl rfl dX7_base_16 ?_
      refine gs_iload_n (q := 3) k rfl rfl dX7_base_17 ?_
      refine gs_callV (As := [.int p]) (k0 := 65) (ci := 7) (T := TX7) (N := 27) k (c_X7_isPoint hI hn) cf_X7_isPoint im_X7_isPoint sl_X7_isPoint ml_X7_98 (hI 65 (by omega)) rfl rfl (by decide) rfl rfl (Nat.le_of_ble_eq_true rfl) dX7_base_18 (ppB (fun c3 => ?_) (fun c3 => ?_))
      · have bc3 := inR_lt c3
        refine gs_if_ne (tgt := 28) k (by decide) dX7_base_21 (fun _ => ?_) (fun h => absurd h (by decide))
        refine gs_aload_n (q := 0) k rfl rfl dX7_base_28 ?_
        refine gs_iload_n (q := 2) k rfl rfl dX7_base_29 ?_
        refine gs_callV (As := [.int r]) (k0 := 65) (ci := 7) (T := TX7) (N := 27) k (c_X7_layOrder (r := tn r) hI hn (inR_eq c2) (by omega)) cf_X7_layOrder im_X7_layOrder sl_X7_layOrder ml_X7_208 (hI 65 (by omega)) rfl rfl (by decide) rfl rfl (Nat.le_of_ble_eq_true rfl) dX7_base_30 (ppP (fun m hm => ?_))
        have hF := hF.same hm.1
        have hn := hn.same hm.1
        obtain ⟨hn0, -, -⟩ := id hn
        refine gs_aload_n (q := 0) k rfl rfl dX7_base_33 ?_
        refine gs_iload_n (q := 1) k rfl rfl dX7_base_34 ?_
        refine gs_iload_n (q := 3) k rfl rfl dX7_base_35 ?_
        refine gs_callV (As := [.int f, .int p]) (k0 := 65) (ci := 7) (T := TX7) (N := 27) k (c_X7_baseOf (f := tn f) (r := tn r) (p := tn p) hI hn hF (inR_eq c1.1) (by omega) (by assumption) (by omega) hm.2.2 (inR_eq c3) (by omega)) cf_X7_baseOf im_X7_baseOf sl_X7_baseOf ml_X7_212 (hI 65 (by omega)) rfl rfl (by decide) rfl rfl (Nat.le_of_ble_eq_true rfl) dX7_base_36 (ppI ?_)
        refine gs_i2l k dX7_base_39 ?_
        exact gs_lret k kt dX7_base_40 ⟨(by simp [-Int32.not_lt, A_base, ifc_T, ifc_F, c1, tc1, c2, c3]), hm.1⟩
      · refine gs_if_ne (tgt := 28) k (by decide) dX7_base_21 (fun h => absurd h (by decide)) (fun _ => ?_)
        refine gs_ldc2 (v := -9223372036854775808) k cl_X7_198 dX7_base_24 ?_
        exact gs_lret k kt dX7_base_27 ⟨(by simp [-Int32.not_lt, A_base, ifc_T, ifc_F, c1, tc1, c2, c3]), Same.rf⟩
    · refine gs_if_eq (tgt := 24) k (by decide) dX7_base_13 (fun _ => ?_) (fun h => absurd h (by decide))
      refine gs_ldc2 (v := -9223372036854775808) k cl_X7_198 dX7_base_24 ?_
      exact gs_lret k kt dX7_base_27 ⟨(by simp [-Int32.not_lt, A_base, ifc_T, ifc_F, c1, tc1, c2]), Same.rf⟩
  · refine gs_if_eq (tgt := 24) k (by decide) dX7_base_5 (fun _ => ?_) (fun h => absurd h (by decide))
    refine gs_ldc2 (v := -9223372036854775808) k cl_X7_198 dX7_base_24 ?_
    exact gs_lret k kt dX7_base_27 ⟨(by simp [-Int32.not_lt, A_base, ifc_T, ifc_F, c1]), Same.rf⟩

theorem cf_X6_negative : CF yX6_negative cX6_negative 7 (some .long) 2 := ⟨cd_X6_negative, iz_X6, by decide, by decide +kernel, by decide +kernel, by decide +kernel⟩
set_option maxRecDepth 100000 in
set_option maxHeartbeats 4000000 in
theorem c_X6_negative {l : Launch} {E : Ev} {M : Mm} {n : Nat} {kd : Nat → Int32} {V : Nat → Nat → Int32} (hI : ∀ k, k < 108 → k ∈ E.2.1) (hn : Cn M n) (hF : CFn M n kd V) {f r : Int32} : Cm l E yX6_negative cX6_negative 7 (some .long) 4 [.ref (E.2.2.1 0), .int f, .int r] M (pR (.long (A_negative (nsC (V (tn f)) n (tn r) n) n kd f r)) M) := by
  refine Cm.of (by decide) (Nat.le_of_ble_eq_true rfl) (fun K k kt => ?_)
  show G l E K 0 [(0, .ref (E.2.2.1 0)), (1, .int f), (2, .int r)] [] M
  obtain ⟨hn0, hn1, hn6⟩ := id hn
  have hp := p2_le6 hn6
  have hp2 := p2_ge2 hn1
  refine gs_aload_n (q := 0) k rfl rfl dX6_negative_0 ?_
  refine gs_iload_n (q := 1) k rfl rfl dX6_negative_1 ?_
  refine gs_callV (As := [.int f]) (k0 := 0) (ci := 6) (T := TX6) (N := 10) k (c_X6_errorOf hI hF) cf_X6_errorOf im_X6_errorOf sl_X6_errorOf ml_X6_154 (hI 0 (by omega)) rfl rfl (by decide) rfl rfl (Nat.le_of_ble_eq_true rfl) dX6_negative_2 (ppE (fun c1 => ?_) (fun c1 c2 => ?_) (fun c1 c2 => ?_))
  · refine gs_if_ne (tgt := 16) k (by decide) dX6_negative_5 (fun _ => ?_) (fun h => absurd h (by decide))
    refine gs_ldc2 (v := -9223372036854775808) k cl_X6_184 dX6_negative_16 ?_
    exact gs_lret k kt dX6_negative_19 ⟨(by simp [-Int32.not_lt, A_negative, ifc_T, ifc_F, c1]), Same.rf⟩
  · have bc1 := inR_lt c1
    refine gs_if_ne (tgt := 16) k (by decide) dX6_negative_5 (fun _ => ?_) (fun h => absurd h (by decide))
    refine gs_ldc2 (v := -9223372036854775808) k cl_X6_184 dX6_negative_16 ?_
    exact gs_lret k kt dX6_negative_19 ⟨(by simp [-Int32.not_lt, A_negative, ifc_T, ifc_F, c1, c2]), Same.rf⟩
  · have bc1 := inR_lt c1
    refine gs_if_ne (tgt := 16) k (by decide) dX6_negative_5 (fun h => absurd h (by decide)) (fun _ => ?_)
    refine gs_aload_n (q := 0) k rfl rfl dX6_negative_8 ?_
    refine gs_iload_n (q := 2) k rfl rfl dX6_negative_9 ?_
    refine gs_callV (As := [.int r]) (k0 := 0) (ci := 6) (T := TX6) (N := 10) k (c_X6_isOrder hI hn) cf_X6_isOrder im_X6_isOrder sl_X6_isOrder ml_X6_198 (hI 0 (by omega)) rfl rfl (by decide) rfl rfl (Nat.le_of_ble_eq_true rfl) dX6_negative_10 (ppB (fun c3 => ?_) (fun c3 => ?_))
    · have bc3 := inR_lt c3
      refine gs_if_ne (tgt := 20) k (by decide) dX6_negative_13 (fun _ => ?_) (fun h => absurd h (by decide))
      refine gs_aload_n (q := 0) k rfl rfl dX6_negative_20 ?_
      refine gs_iload_n (q := 2) k rfl rfl dX6_negative_21 ?_
      refine gs_callV (As := [.int r]) (k0 := 0) (ci := 6) (T := TX6) (N := 10) k (c_X6_unrank (r := tn r) hI hn (inR_eq c3) (by omega)) cf_X6_unrank im_X6_unrank sl_X6_unrank ml_X6_201 (hI 0 (by omega)) rfl rfl (by decide) rfl rfl (Nat.le_of_ble_eq_true rfl) dX6_negative_22 (ppP (fun m hm => ?_))
      have hF := hF.same hm.1
      have hn := hn.same hm.1
      obtain ⟨hn0, -, -⟩ := id hn
      refine gs_iconst (v := 0) k (by decide) dX6_negative_25 ?_
      refine gs_istore_n (lv' := [(3, .int 0), (0, .ref (E.2.2.1 0)), (1, .int f), (2, .int r)]) k rfl (by decide) rfl dX6_negative_26 ?_
      refine gs_lconst (v := 0) k (by decide) dX6_negative_27 ?_
      refine gs_lstore (lv' := [(4, .long (0)), (3, .int 0), (0, .ref (E.2.2.1 0)), (1, .int f), (2, .int r)]) k (by decide) rfl dX6_negative_28 ?_
      refine gs_iconst (v := 0) k (by decide) dX6_negative_30 ?_
      refine gs_istore (lv' := [(6, .int 0), (4, .long (0)), (3, .int 0), (0, .ref (E.2.2.1 0)), (1, .int f), (2, .int r)]) k (by decide) rfl dX6_negative_31 ?_
      refine gs_lv (lv' := [(0, .ref (E.2.2.1 0)), (1, .int f), (2, .int r), (3, .int 0), (4, .long (0)), (6, .int 0)]) [3, 4, 5, 2, 1, 0] rfl ?_
      refine for_wh (σ := Unit) (fun ix _u => G l E K 33 [(0, .ref (E.2.2.1 0)), (1, .int f), (2, .int r), (3, .int (nI (ou n (tn r) ix))), (4, .long (nsC (V (tn f)) n (tn r) ix)), (6, .int (nI ix))] [] m) (fun ix _u => ix ≤ n) n (fun ix _u hJ hG => ?_) 0 () (Nat.zero_le _)
      show G l E K 33 [(0, .ref (E.2.2.1 0)), (1, .int f), (2, .int r), (3, .int (nI (ou n (tn r) ix))), (4, .long (nsC (V (tn f)) n (tn r) ix)), (6, .int (nI ix))] [] m
      have ho0 := ord_all n (by omega) (tn r) (by omega) ix
      refine gs_iload (q := 5) k rfl dX6_negative_33 ?_
      refine gs_aload_n (q := 0) k rfl rfl dX6_negative_35 ?_
      refine gs_get (C := RX6) (T := TX6) (N := 10) (ci := 6) (k0 := 0) (j := 0) k (hI 0 (by omega)) rfl rfl inX6 (by decide) fl_X6_12 rfl rfl dX6_negative_36 ?_
      refine gs_get (C := RX5) (T := TX5) (N := 9) (ci := 5) (k0 := 1) (j := 0) k (hI 1 (by omega)) rfl rfl inX5 (by decide) fl_X6_63 rfl rfl dX6_negative_39 ?_
      refine gs_icmpN_ge (a := ix) (b := n) (tgt := 93) k rfl hn0 (by omega) (by omega) (by decide) dX6_negative_42 (fun c4 => ?_) (fun c4 => ?_)
      · refine gs_lload (q := 4) k rfl dX6_negative_93 ?_
        exact gs_lret k kt dX6_negative_95 ⟨(by have e := Nat.le_antisymm hJ c4; subst e; simp [-Int32.not_lt, A_negative, ifc_T, ifc_F, c1, c2, c3]), hm.1⟩
      · obtain ⟨-, -, -, -, ho5, ho6, ho7⟩ := ho0 c4
        refine gs_lload (q := 4) k rfl dX6_negative_45 ?_
        refine gs_iconst (v := 0) k (by decide) dX6_negative_47 ?_
        refine gs_aload_n (q := 0) k rfl rfl dX6_negative_48 ?_
        refine gs_get (C := RX6) (T := TX6) (N := 10) (ci := 6) (k0 := 0) (j := 0) k (hI 0 (by omega)) rfl rfl inX6 (by decide) fl_X6_12 rfl rfl dX6_negative_49 ?_
        refine gs_get (C := RX5) (T := TX5) (N := 9) (ci := 5) (k0 := 1) (j := 7) k (hI 1 (by omega)) rfl rfl inX5 (by decide) fl_X6_107 rfl rfl dX6_negative_52 ?_
        refine gs_iload_n (q := 1) k rfl rfl dX6_negative_55 ?_
        refine gs_aaldSN (k0 := 8) (n := 6) (e := tn f) (a := E.2.2.1 (10 + 2 * (tn f))) k (hI 8 (by omega)) (fun _ => rfl) (inR_eq c1) (by omega) (by decide) rfl dX6_negative_56 ?_
        refine gs_iload_n (q := 3) k rfl rfl dX6_negative_57 ?_
        refine gs_aload_n (q := 0) k rfl rfl dX6_negative_58 ?_
        refine gs_get (C := RX6) (T := TX6) (N := 10) (ci := 6) (k0 := 0) (j := 9) k (hI 0 (by omega)) rfl rfl inX6 (by decide) fl_X6_60 rfl rfl dX6_negative_59 ?_
        refine gs_iload (q := 5) k rfl dX6_negative_62 ?_
        refine gs_ialdN (k0 := 64) (n := 6) (e := ix) k (hI 64 (by omega)) (fun _ => rfl) rfl (by omega) (by decide) dX6_negative_64 ?_
        refine gs_top (y := nI (oo n (tn r) ix)) (hm.2.2 ix (by omega)) ?_
        refine gs_callV (As := [.int (nI (ou n (tn r) ix)), .int (nI (oo n (tn r) ix))]) (k0 := (10 + 2 * (tn f))) (ci := 3) (T := TX3) (N := 2) k (c_X3_gainAt (S := ou n (tn r) ix) (P := oo n (tn r) ix) hI hF (by omega) hn6 rfl rfl (by omega) (by omega)) cf_X3_gainAt im_X3_gainAt sl_X3_gainAt ml_X6_186 (hI (10 + 2 * (tn f)) (by omega)) (ent_F1 (by omega) _) rfl (by decide) rfl rfl (Nat.le_of_ble_eq_true rfl) dX6_negative_65 (ppI ?_)
        refine gs_min k ml_X6_149 (by decide) (Nat.le_of_ble_eq_true rfl) dX6_negative_68 ?_
        refine gs_i2l k dX6_negative_71 ?_
        refine gs_ladd k dX6_negative_72 ?_
        refine gs_lstore (lv' := [(4, .long ((nsC (V (tn f)) n (tn r) ix) + ((imin 0 (gn (V (tn f)) (ou n (tn r) ix) (oo n (tn r) ix))).toInt64))), (0, .ref (E.2.2.1 0)), (1, .int f), (2, .int r), (3, .int (nI (ou n (tn r) ix))), (6, .int (nI ix))]) k (by decide) rfl dX6_negative_73 ?_
        refine gs_iload_n (q := 4) k rfl rfl dX6_negative_75 ?_
        refine gs_iconst (v := 1) k (by decide) dX6_negative_76 ?_
        refine gs_aload_n (q := 1) k rfl rfl dX6_negative_77 ?_
        refine gs_get (C := RX6) (T := TX6) (N := 10) (ci := 6) (k0 := 0) (j := 9) k (hI 0 (by omega)) rfl rfl inX6 (by decide) fl_X6_60 rfl rfl dX6_negative_78 ?_
        refine gs_iload (q := 5) k rfl dX6_negative_81 ?_
        refine gs_ialdN (k0 := 64) (n := 6) (e := ix) k (hI 64 (by omega)) (fun _ => rfl) rfl (by omega) (by decide) dX6_negative_83 ?_
        refine gs_top (y := nI (oo n (tn r) ix)) (hm.2.2 ix (by omega)) ?_
        refine gs_ishlN (b := oo n (tn r) ix) k rfl rfl (by omega) dX6_negative_84 ?_
        refine gs_iorN (a := ou n (tn r) ix) (b := 2 ^ (oo n (tn r) ix)) k rfl rfl dX6_negative_85 ?_
        refine gs_istore_n (lv' := [(3, .int (nI ((ou n (tn r) ix) ||| (2 ^ (oo n (tn r) ix))))), (4, .long ((nsC (V (tn f)) n (tn r) ix) + ((imin 0 (gn (V (tn f)) (ou n (tn r) ix) (oo n (tn r) ix))).toInt64))), (0, .ref (E.2.2.1 0)), (1, .int f), (2, .int r), (6, .int (nI ix))]) k rfl (by decide) rfl dX6_negative_86 ?_
        refine gs_iincN (q := 5) (a := ix) (c := 1) (lv' := [(6, .int (nI (ix + 1))), (3, .int (nI ((ou n (tn r) ix) ||| (2 ^ (oo n (tn r) ix))))), (4, .long ((nsC (V (tn f)) n (tn r) ix) + ((imin 0 (gn (V (tn f)) (ou n (tn r) ix) (oo n (tn r) ix))).toInt64))), (0, .ref (E.2.2.1 0)), (1, .int f), (2, .int r)]) k rfl rfl (by decide) rfl dX6_negative_87 ?_
        refine gs_goto (tgt := 33) k (by decide) dX6_negative_90 ?_
        refine gs_lv (lv' := [(0, .ref (E.2.2.1 0)), (1, .int f), (2, .int r), (3, .int (nI ((ou n (tn r) ix) ||| (2 ^ (oo n (tn r) ix))))), (4, .long ((nsC (V (tn f)) n (tn r) ix) + ((imin 0 (gn (V (tn f)) (ou n (tn r) ix) (oo n (tn r) ix))).toInt64))), (6, .int (nI (ix + 1)))]) [3, 4, 5, 1, 2, 0] rfl ?_
        exact hG (by omega) () (by omega)
    · refine gs_if_ne (tgt := 20) k (by decide) dX6_negative_13 (fun h => absurd h (by decide)) (fun _ => ?_)
      refine gs_ldc2 (v := -9223372036854775808) k cl_X6_184 dX6_negative_16 ?_
      exact gs_lret k kt dX6_negative_19 ⟨(by simp [-Int32.not_lt, A_negative, ifc_T, ifc_F, c1, c2, c3]), Same.rf⟩

theorem cf_X7_negative : CF yX7_negative cX7_negative 5 (some .long) 2 := ⟨cd_X7_negative, iz_X7, by decide, by decide +kernel, by decide +kernel, by decide +kernel⟩
set_option maxRecDepth 100000 in
set_option maxHeartbeats 4000000 in
theorem c_X7_negative {l : Launch} {E : Ev} {M : Mm} {n : Nat} {kd : Nat → Int32} {V : Nat → Nat → Int32} (hI : ∀ k, k < 108 → k ∈ E.2.1) (hn : Rn M n) (hF : RFn M n kd V) {f r : Int32} : Cm l E yX7_negative cX7_negative 5 (some .long) 8 [.ref (E.2.2.1 65), .int f, .int r] M (pR (.long (A_negative ((nsR (V (tn f)) n (tn r) n).toInt64) n kd f r)) M) := by
  refine Cm.of (by decide) (Nat.le_of_ble_eq_true rfl) (fun K k kt => ?_)
  show G l E K 0 [(0, .ref (E.2.2.1 65)), (1, .int f), (2, .int r)] [] M
  obtain ⟨hn0, hn1, hn6⟩ := id hn
  have hp := p2_le6 hn6
  have hp2 := p2_ge2 hn1
  refine gs_aload_n (q := 0) k rfl rfl dX7_negative_0 ?_
  refine gs_iload_n (q := 1) k rfl rfl dX7_negative_1 ?_
  refine gs_callV (As := [.int f]) (k0 := 65) (ci := 7) (T := TX7) (N := 27) k (c_X7_isThere hI hF) cf_X7_isThere im_X7_isThere sl_X7_isThere ml_X7_163 (hI 65 (by omega)) rfl rfl (by decide) rfl rfl (Nat.le_of_ble_eq_true rfl) dX7_negative_2 (ppB (fun c1 => ?_) (fun c1 => ?_))
  · have bc1 := inR_lt c1.1
    have tc1 := c1.2
    refine gs_if_eq (tgt := 16) k (by decide) dX7_negative_5 (fun h => absurd h (by decide)) (fun _ => ?_)
    refine gs_aload_n (q := 0) k rfl rfl dX7_negative_8 ?_
    refine gs_iload_n (q := 2) k rfl rfl dX7_negative_9 ?_
    refine gs_callV (As := [.int r]) (k0 := 65) (ci := 7) (T := TX7) (N := 27) k (c_X7_isOrder hI hn) cf_X7_isOrder im_X7_isOrder sl_X7_isOrder ml_X7_205 (hI 65 (by omega)) rfl rfl (by decide) rfl rfl (Nat.le_of_ble_eq_true rfl) dX7_negative_10 (ppB (fun c2 => ?_) (fun c2 => ?_))
    · have bc2 := inR_lt c2
      refine gs_if_ne (tgt := 20) k (by decide) dX7_negative_13 (fun _ => ?_) (fun h => absurd h (by decide))
      refine gs_aload_n (q := 0) k rfl rfl dX7_negative_20 ?_
      refine gs_iload_n (q := 2) k rfl rfl dX7_negative_21 ?_
      refine gs_callV (As := [.int r]) (k0 := 65) (ci := 7) (T := TX7) (N := 27) k (c_X7_layOrder (r := tn r) hI hn (inR_eq c2) (by omega)) cf_X7_layOrder im_X7_layOrder sl_X7_layOrder ml_X7_208 (hI 65 (by omega)) rfl rfl (by decide) rfl rfl (Nat.le_of_ble_eq_true rfl) dX7_negative_22 (ppP (fun m hm => ?_))
      have hF := hF.same hm.1
      have hn := hn.same hm.1
      obtain ⟨hn0, -, -⟩ := id hn
      refine gs_iconst (v := 0) k (by decide) dX7_negative_25 ?_
      refine gs_istore_n (lv' := [(3, .int 0), (0, .ref (E.2.2.1 65)), (1, .int f), (2, .int r)]) k rfl (by decide) rfl dX7_negative_26 ?_
      refine gs_iconst (v := 0) k (by decide) dX7_negative_27 ?_
      refine gs_istore (lv' := [(4, .int 0), (3, .int 0), (0, .ref (E.2.2.1 65)), (1, .int f), (2, .int r)]) k (by decide) rfl dX7_negative_28 ?_
      refine gs_lv (lv' := [(0, .ref (E.2.2.1 65)), (1, .int f), (2, .int r), (3, .int 0), (4, .int 0)]) [2, 3, 4, 1, 0] rfl ?_
      refine for_wh (σ := Unit) (fun ix _u => G l E K 30 [(0, .ref (E.2.2.1 65)), (1, .int f), (2, .int r), (3, .int (nsR (V (tn f)) n (tn r) ix)), (4, .int (nI ix))] [] m) (fun ix _u => ix ≤ n) n (fun ix _u hJ hG => ?_) 0 () (Nat.zero_le _)
      show G l E K 30 [(0, .ref (E.2.2.1 65)), (1, .int f), (2, .int r), (3, .int (nsR (V (tn f)) n (tn r) ix)), (4, .int (nI ix))] [] m
      refine gs_iload (q := 4) k rfl dX7_negative_30 ?_
      refine gs_aload_n (q := 0) k rfl rfl dX7_negative_32 ?_
      refine gs_get (C := RX7) (T := TX7) (N := 27) (ci := 7) (k0 := 65) (j := 0) k (hI 65 (by omega)) rfl rfl inX7 (by decide) fl_X7_9 rfl rfl dX7_negative_33 ?_
      refine gs_icmpN_ge (a := ix) (b := n) (tgt := 59) k rfl hn0 (by omega) (by omega) (by decide) dX7_negative_36 (fun c3 => ?_) (fun c3 => ?_)
      · refine gs_iload_n (q := 3) k rfl rfl dX7_negative_59 ?_
        refine gs_i2l k dX7_negative_60 ?_
        exact gs_lret k kt dX7_negative_61 ⟨(by have e := Nat.le_antisymm hJ c3; subst e; simp [-Int32.not_lt, A_negative, ifc_T, ifc_F, c1, tc1, c2]), hm.1⟩
      · refine gs_iload_n (q := 3) k rfl rfl dX7_negative_39 ?_
        refine gs_iconst (v := 0) k (by decide) dX7_negative_40 ?_
        refine gs_aload_n (q := 0) k rfl rfl dX7_negative_41 ?_
        refine gs_iload_n (q := 1) k rfl rfl dX7_negative_42 ?_
        refine gs_iload (q := 4) k rfl dX7_negative_43 ?_
        refine gs_callV (As := [.int f, .int (nI ix)]) (k0 := 65) (ci := 7) (T := TX7) (N := 27) k (c_X7_baseOf (f := tn f) (r := tn r) (p := ix) hI hn hF (inR_eq c1.1) (by omega) (by assumption) (by omega) hm.2.2 rfl (by omega)) cf_X7_baseOf im_X7_baseOf sl_X7_baseOf ml_X7_212 (hI 65 (by omega)) rfl rfl (by decide) rfl rfl (Nat.le_of_ble_eq_true rfl) dX7_negative_45 (ppI ?_)
        refine gs_min k ml_X7_122 (by decide) (Nat.le_of_ble_eq_true rfl) dX7_negative_48 ?_
        refine gs_iadd k dX7_negative_51 ?_
        refine gs_istore_n (lv' := [(3, .int ((nsR (V (tn f)) n (tn r) ix) + (imin 0 (gn (V (tn f)) (ou n (tn r) (pos n (tn r) ix)) ix)))), (0, .ref (E.2.2.1 65)), (1, .int f), (2, .int r), (4, .int (nI ix))]) k rfl (by decide) rfl dX7_negative_52 ?_
        refine gs_iincN (q := 4) (a := ix) (c := 1) (lv' := [(4, .int (nI (ix + 1))), (3, .int ((nsR (V (tn f)) n (tn r) ix) + (imin 0 (gn (V (tn f)) (ou n (tn r) (pos n (tn r) ix)) ix)))), (0, .ref (E.2.2.1 65)), (1, .int f), (2, .int r)]) k rfl rfl (by decide) rfl dX7_negative_53 ?_
        refine gs_goto (tgt := 30) k (by decide) dX7_negative_56 ?_
        refine gs_lv (lv' := [(0, .ref (E.2.2.1 65)), (1, .int f), (2, .int r), (3, .int ((nsR (V (tn f)) n (tn r) ix) + (imin 0 (gn (V (tn f)) (ou n (tn r) (pos n (tn r) ix)) ix)))), (4, .int (nI (ix + 1)))]) [2, 3, 4, 1, 0] rfl ?_
        exact hG (by omega) () (by omega)
    · refine gs_if_ne (tgt := 20) k (by decide) dX7_negative_13 (fun h => absurd h (by decide)) (fun _ => ?_)
      refine gs_ldc2 (v := -9223372036854775808) k cl_X7_198 dX7_negative_16 ?_
      exact gs_lret k kt dX7_negative_19 ⟨(by simp [-Int32.not_lt, A_negative, ifc_T, ifc_F, c1, tc1, c2]), Same.rf⟩
  · refine gs_if_eq (tgt := 16) k (by decide) dX7_negative_5 (fun _ => ?_) (fun h => absurd h (by decide))
    refine gs_ldc2 (v := -9223372036854775808) k cl_X7_198 dX7_negative_16 ?_
    exact gs_lret k kt dX7_negative_19 ⟨(by simp [-Int32.not_lt, A_negative, ifc_T, ifc_F, c1]), Same.rf⟩

