theorem isV_int {x : Int32} (h : isV x) : -999999 ≤ x.toInt ∧ x.toInt ≤ 999999 := by
  have h1 := h.1
  have h2 := h.2
  rw [Int32.lt_iff_toInt_lt] at h1 h2
  have e1 : (-999999 : Int32).toInt = -999999 := by decide
  have e2 : (999999 : Int32).toInt = 999999 := by decide
  omega
theorem i_bmod {n : Int} (h1 : -2147483648 ≤ n) (h2 : n < 2147483648) : n.bmod (2 ^ 32) = n := by
  show n.bmod 4294967296 = n
  exact Int.bmod_eq_of_le (by omega) (by omega)
theorem l_bmod {n : Int} (h1 : -2147483648 ≤ n) (h2 : n < 2147483648) : n.bmod (2 ^ 64) = n := by
  show n.bmod 18446744073709551616 = n
  exact Int.bmod_eq_of_le (by omega) (by omega)
theorem i_sub {a b : Int32} (ha : isV a) (hb : isV b) : (a - b).toInt = a.toInt - b.toInt := by
  have h1 := isV_int ha
  have h2 := isV_int hb
  rw [Int32.toInt_sub, i_bmod (by omega) (by omega)]
theorem mul6 {x : Int} {e : Nat} (h1 : -2000000 ≤ x) (h2 : x ≤ 2000000) (he : e ≤ 6) : -2147483648 ≤ x * (e : Int) ∧ x * (e : Int) < 2147483648 := by
  have h : e = 0 ∨ e = 1 ∨ e = 2 ∨ e = 3 ∨ e = 4 ∨ e = 5 ∨ e = 6 := by omega
  rcases h with rfl | rfl | rfl | rfl | rfl | rfl | rfl <;> omega
theorem i_mulN {x : Int32} {e : Nat} (h1 : -2000000 ≤ x.toInt) (h2 : x.toInt ≤ 2000000) (he : e ≤ 6) : (x * nI e).toInt = x.toInt * (e : Int) := by
  have h := mul6 h1 h2 he
  rw [Int32.toInt_mul, nI_toInt (by omega), i_bmod h.1 h.2]
theorem l_mulN {x : Int32} {e : Nat} (h1 : -2000000 ≤ x.toInt) (h2 : x.toInt ≤ 2000000) (he : e ≤ 6) : (x.toInt64 * (nI e).toInt64).toInt = x.toInt * (e : Int) := by
  have h := mul6 h1 h2 he
  rw [Int64.toInt_mul, Int32.toInt_toInt64, Int32.toInt_toInt64, nI_toInt (by omega), l_bmod h.1 h.2]
def q60 (d : Nat) : Int := match d with
  | 1 => 60
  | 2 => 30
  | 3 => 20
  | 4 => 15
  | 5 => 12
  | _ => 10
/-- the rank of a set above A: the smaller, the sooner it is taken -/
def rk (v : Nat → Int32) (A S : Nat) : Int := ((v S).toInt - (v A).toInt) * q60 (pcn S - pcn A) * 8 - ((pcn S - pcn A : Nat) : Int)
theorem q60_iff {d e : Nat} (d1 : 1 ≤ d) (d6 : d ≤ 6) (e1 : 1 ≤ e) (e6 : e ≤ 6) (x y : Int) : (x * (e : Int) < y * (d : Int) ∨ (x * (e : Int) = y * (d : Int) ∧ e < d)) ↔ x * q60 d * 8 - (d : Int) < y * q60 e * 8 - (e : Int) := by
  have hd : d = 1 ∨ d = 2 ∨ d = 3 ∨ d = 4 ∨ d = 5 ∨ d = 6 := by omega
  have he : e = 1 ∨ e = 2 ∨ e = 3 ∨ e = 4 ∨ e = 5 ∨ e = 6 := by omega
  rcases hd with rfl | rfl | rfl | rfl | rfl | rfl <;> rcases he with rfl | rfl | rfl | rfl | rfl | rfl <;> simp only [q60] <;> omega
theorem pcn_dif : ∀ S, S < 64 → ∀ A, A < 64 → S &&& A = A → pcn (dif S A) = pcn S - pcn A ∧ pcn A ≤ pcn S ∧ (¬ S = A → pcn A < pcn S) := by decide +kernel
theorem pcn_all : ∀ n, n < 7 → ∀ S, S < 2 ^ n → ¬ S = 2 ^ n - 1 → pcn S < n := by decide +kernel
theorem pcn_n : ∀ n, n < 7 → ∀ S, S < 2 ^ n → pcn S ≤ n := by decide +kernel
theorem all_and : ∀ n, n < 7 → ∀ A, A < 2 ^ n → (2 ^ n - 1) &&& A = A := by decide +kernel
theorem low32 {v : Nat → Int32} {A S B : Nat} (vA : isV (v A)) (vS : isV (v S)) (vB : isV (v B)) (hA : A < 64) (hS : S < 64) (hB : B < 64) (s1 : S &&& A = A) (s2 : ¬ S = A) (b1 : B &&& A = A) (b2 : ¬ B = A) : ((v S - v A) * nI (pcn (dif B A)) < (v B - v A) * nI (pcn (dif S A)) ∨ ((v S - v A) * nI (pcn (dif B A)) = (v B - v A) * nI (pcn (dif S A)) ∧ pcn (dif B A) < pcn (dif S A))) ↔ rk v A S < rk v A B := by
  obtain ⟨p1, p2, p3⟩ := pcn_dif S hS A hA s1
  obtain ⟨r1, r2, r3⟩ := pcn_dif B hB A hA b1
  have p3 := p3 s2
  have r3 := r3 b2
  have q1 := pcn_le S
  have q2 := pcn_le B
  have i1 := isV_int vA
  have i2 := isV_int vS
  have i3 := isV_int vB
  have e1 := i_sub vS vA
  have e2 := i_sub vB vA
  rw [p1, r1, Int32.lt_iff_toInt_lt, ← Int32.toInt_inj, i_mulN (by omega) (by omega) (by omega), i_mulN (by omega) (by omega) (by omega), e1, e2]
  exact q60_iff (by omega) (by omega) (by omega) (by omega) _ _
theorem low64 {v : Nat → Int32} {A S B : Nat} (vA : isV (v A)) (vS : isV (v S)) (vB : isV (v B)) (hA : A < 64) (hS : S < 64) (hB : B < 64) (s1 : S &&& A = A) (s2 : ¬ S = A) (b1 : B &&& A = A) (b2 : ¬ B = A) : ((v S - v A).toInt64 * (nI (pcn B - pcn A)).toInt64 < (v B - v A).toInt64 * (nI (pcn S - pcn A)).toInt64 ∨ ((v S - v A).toInt64 * (nI (pcn B - pcn A)).toInt64 = (v B - v A).toInt64 * (nI (pcn S - pcn A)).toInt64 ∧ pcn B < pcn S)) ↔ rk v A S < rk v A B := by
  obtain ⟨p1, p2, p3⟩ := pcn_dif S hS A hA s1
  obtain ⟨r1, r2, r3⟩ := pcn_dif B hB A hA b1
  have p3 := p3 s2
  have r3 := r3 b2
  have q1 := pcn_le S
  have q2 := pcn_le B
  have i1 := isV_int vA
  have i2 := isV_int vS
  have i3 := isV_int vB
  have e1 := i_sub vS vA
  have e2 := i_sub vB vA
  rw [Int64.lt_iff_toInt_lt, ← Int64.toInt_inj, l_mulN (by omega) (by omega) (by omega), l_mulN (by omega) (by omega) (by omega), e1, e2, show pcn B < pcn S ↔ pcn B - pcn A < pcn S - pcn A by omega]
  exact q60_iff (by omega) (by omega) (by omega) (by omega) _ _
/-- the next member behind A -/
def nxt (v : Nat → Int32) (n A : Nat) : Nat := lp (fun S b => if (S &&& A = A ∧ ¬ S = A) ∧ rk v A S < rk v A b then S else b) (2 ^ n - 1) 0 (2 ^ n - 1)
def nxtR (v : Nat → Int32) (n A : Nat) : Option Nat := lp (fun S o => ostep (S &&& A = A ∧ ¬ S = A) (fun b => rk v A S < rk v A b) S o) (2 ^ n) 0 none
theorem nxt_ok {v : Nat → Int32} {n A : Nat} (hn : n ≤ 6) (hA : A < 2 ^ n) (hne : ¬ A = 2 ^ n - 1) : nxt v n A < 2 ^ n ∧ nxt v n A &&& A = A ∧ ¬ nxt v n A = A :=
  lp_J (fun _ b => b < 2 ^ n ∧ b &&& A = A ∧ ¬ b = A) (2 ^ n - 1) (fun S b hS hb => by
    split
    · rename_i h; exact ⟨by omega, h.1.1, h.1.2⟩
    · exact hb) (2 ^ n - 1) 0 _ (by omega) ⟨by have := p2_pos n; omega, all_and n (by omega) A hA, fun e => hne e.symm⟩
theorem nxt_eq {v : Nat → Int32} {n A : Nat} (hn : n ≤ 6) (hA : A < 2 ^ n) (hne : ¬ A = 2 ^ n - 1) : nxtR v n A = some (nxt v n A) := by
  have hp := p2_pos n
  have hp6 := p2_le6 hn
  have key : ∀ k, k ≤ 2 ^ n - 1 →
      (lp (fun S o => ostep (S &&& A = A ∧ ¬ S = A) (fun b => rk v A S < rk v A b) S o) k 0 none = none ∧ lp (fun S b => if (S &&& A = A ∧ ¬ S = A) ∧ rk v A S < rk v A b then S else b) k 0 (2 ^ n - 1) = 2 ^ n - 1) ∨
      (∃ b, b < k ∧ (b &&& A = A ∧ ¬ b = A) ∧ lp (fun S o => ostep (S &&& A = A ∧ ¬ S = A) (fun b => rk v A S < rk v A b) S o) k 0 none = some b ∧ lp (fun S b => if (S &&& A = A ∧ ¬ S = A) ∧ rk v A S < rk v A b then S else b) k 0 (2 ^ n - 1) = if rk v A b < rk v A (2 ^ n - 1) then b else 2 ^ n - 1) := by
    intro k
    induction k with
    | zero => intro _; exact Or.inl ⟨rfl, rfl⟩
    | succ k ih =>
      intro hk
      rw [lp_end, lp_end, Nat.zero_add]
      rcases ih (by omega) with ⟨e1, e2⟩ | ⟨b, hb, hq, e1, e2⟩
      · rw [e1, e2]
        by_cases c : k &&& A = A ∧ ¬ k = A
        · refine Or.inr ⟨k, by omega, c, (os_first c).symm, ?_⟩
          by_cases d : rk v A k < rk v A (2 ^ n - 1)
          · rw [if_pos ⟨c, d⟩, if_pos d]
          · rw [if_neg (fun z => d z.2), if_neg d]
        · exact Or.inl ⟨(os_skip c).symm, if_neg (fun z => c z.1)⟩
      · rw [e1, e2]
        by_cases c : k &&& A = A ∧ ¬ k = A
        · by_cases d : rk v A k < rk v A b
          · refine Or.inr ⟨k, by omega, c, (os_take c d).symm, ?_⟩
            by_cases e : rk v A b < rk v A (2 ^ n - 1)
            · rw [if_pos e, if_pos ⟨c, d⟩, if_pos (by omega)]
            · rw [if_neg e]
              by_cases g : rk v A k < rk v A (2 ^ n - 1)
              · rw [if_pos ⟨c, g⟩, if_pos g]
              · rw [if_neg (fun z => g z.2), if_neg g]
          · refine Or.inr ⟨b, by omega, hq, (os_keep c d).symm, ?_⟩
            by_cases e : rk v A b < rk v A (2 ^ n - 1)
            · rw [if_pos e, if_neg (fun z => d z.2)]
            · rw [if_neg e, if_neg (fun z => e (by omega))]
        · exact Or.inr ⟨b, by omega, hq, (os_skip c).symm, if_neg (fun z => c z.1)⟩
  have hl := key (2 ^ n - 1) (Nat.le_refl _)
  have hall : (2 ^ n - 1) &&& A = A ∧ ¬ 2 ^ n - 1 = A := ⟨all_and n (by omega) A hA, fun e => hne e.symm⟩
  have hN : ∀ (o : Option Nat), lp (fun S o => ostep (S &&& A = A ∧ ¬ S = A) (fun b => rk v A S < rk v A b) S o) (2 ^ n) 0 o = ostep ((2 ^ n - 1) &&& A = A ∧ ¬ 2 ^ n - 1 = A) (fun b => rk v A (2 ^ n - 1) < rk v A b) (2 ^ n - 1) (lp (fun S o => ostep (S &&& A = A ∧ ¬ S = A) (fun b => rk v A S < rk v A b) S o) (2 ^ n - 1) 0 o) := by
    intro o
    obtain ⟨m, hm⟩ : ∃ m, 2 ^ n = m + 1 := ⟨2 ^ n - 1, by omega⟩
    rw [hm, lp_end, Nat.zero_add, Nat.add_sub_cancel]
  unfold nxtR nxt
  rw [hN]
  rcases hl with ⟨e1, e2⟩ | ⟨b, hb, hq, e1, e2⟩
  · rw [e1, e2, ← os_first hall]
  · rw [e1, e2]
    have hlt : pcn b < pcn (2 ^ n - 1) := by
      have h1 := pcn_all n (by omega) b (by omega) (by omega)
      have h2 : ∀ n, n < 7 → pcn (2 ^ n - 1) = n := by decide +kernel
      rw [h2 n (by omega)]; exact h1
    have hA2 := (pcn_dif b (by omega) A (by omega) hq.1).2.2 hq.2
    have h6 := pcn_le (2 ^ n - 1)
    by_cases e : rk v A b < rk v A (2 ^ n - 1)
    · rw [if_pos e, ← os_keep hall (by omega)]
    · rw [if_neg e]
      have hne2 : ¬ rk v A b = rk v A (2 ^ n - 1) := by
        unfold rk
        have hd : pcn b - pcn A = 1 ∨ pcn b - pcn A = 2 ∨ pcn b - pcn A = 3 ∨ pcn b - pcn A = 4 ∨ pcn b - pcn A = 5 := by omega
        have he : pcn (2 ^ n - 1) - pcn A = 2 ∨ pcn (2 ^ n - 1) - pcn A = 3 ∨ pcn (2 ^ n - 1) - pcn A = 4 ∨ pcn (2 ^ n - 1) - pcn A = 5 ∨ pcn (2 ^ n - 1) - pcn A = 6 := by omega
        have hde : pcn b - pcn A ≠ pcn (2 ^ n - 1) - pcn A := by omega
        generalize pcn b - pcn A = d at *
        generalize pcn (2 ^ n - 1) - pcn A = f at *
        rcases hd with rfl | rfl | rfl | rfl | rfl <;> rcases he with rfl | rfl | rfl | rfl | rfl <;> simp only [q60] <;> omega
      rw [← os_take hall (by omega)]
/-- the members; how many there are -/
def sq (v : Nat → Int32) (n : Nat) : Nat → Nat
  | 0 => 0
  | k + 1 => nxt v n (sq v n k)
def slen (v : Nat → Int32) (n : Nat) : Nat := (fnd (fun k => if sq v n k = 2 ^ n - 1 then some k else none) 7 0).getD 0
theorem sq_ok {v : Nat → Int32} {n : Nat} (hn : n ≤ 6) : ∀ k, (∀ i, i < k → ¬ sq v n i = 2 ^ n - 1) → sq v n k < 2 ^ n ∧ k ≤ pcn (sq v n k) := by
  intro k
  have hp6 := p2_le6 hn
  induction k with
  | zero => intro _; exact ⟨p2_pos n, Nat.zero_le _⟩
  | succ k ih =>
    intro h
    obtain ⟨h1, h2⟩ := ih (fun i hi => h i (by omega))
    obtain ⟨a1, a2, a3⟩ := nxt_ok (v := v) hn h1 (h k (by omega))
    have := (pcn_dif (nxt v n (sq v n k)) (by omega) (sq v n k) (by omega) a2).2.2 a3
    exact ⟨a1, by show k + 1 ≤ pcn (nxt v n (sq v n k)); omega⟩
theorem sq_lt {v : Nat → Int32} {n k : Nat} (hn : n ≤ 6) (h : ∀ i, i < k → ¬ sq v n i = 2 ^ n - 1) (hk : ¬ sq v n k = 2 ^ n - 1) : k < n := by
  obtain ⟨h1, h2⟩ := sq_ok hn k h
  have := pcn_all n (by omega) _ h1 hk
  omega
theorem fnd_at {α : Type} {g : Nat → Option α} {a : α} : ∀ (N k i : Nat), (∀ j, j < k → g (i + j) = none) → g (i + k) = some a → k < N → fnd g N i = some a := by
  intro N
  induction N with
  | zero => intro k i _ _ h; omega
  | succ N ih =>
    intro k i h1 h2 h3
    cases k with
    | zero => exact fnd_some h2
    | succ k =>
      have h0 : g i = none := h1 0 (by omega)
      rw [fnd_none h0]
      exact ih k (i + 1) (fun j hj => by rw [show i + 1 + j = i + (j + 1) by omega]; exact h1 (j + 1) (by omega)) (by rw [show i + 1 + k = i + (k + 1) by omega]; exact h2) (by omega)
theorem slen_eq {v : Nat → Int32} {n k : Nat} (hk : k ≤ 6) (h : ∀ i, i < k → ¬ sq v n i = 2 ^ n - 1) (he : sq v n k = 2 ^ n - 1) : slen v n = k := by
  unfold slen
  rw [fnd_at (g := fun k => if sq v n k = 2 ^ n - 1 then some k else none) (a := k) 7 k 0 (fun j hj => by rw [Nat.zero_add]; exact if_neg (h j hj)) (by rw [Nat.zero_add]; exact if_pos he) (by omega)]
  rfl
theorem for_wh {σ : Type} (F : Nat → σ → Prop) (J : Nat → σ → Prop) (N : Nat) (hs : ∀ i s, J i s → (i < N → ∀ s', J (i + 1) s' → F (i + 1) s') → F i s) (i : Nat) (s : σ) (h : J i s) : F i s := by
  have key : ∀ k i s, N - i = k → J i s → F i s := by
    intro k
    induction k with
    | zero => intro i s hk hJ; exact hs i s hJ (fun h => absurd h (by omega))
    | succ k ih => intro i s hk hJ; exact hs i s hJ (fun h s' h' => ih (i + 1) s' (by omega) h')
  exact key _ i s rfl h
def pP (P : Mm → Prop) : Option Value → Mm → Prop := fun r M' => r = none ∧ P M'
theorem ppP {l : Launch} {E : Ev} {K : Kt} {pc : Nat} {lv : List (Nat × Value)} {st : List Value} {P : Mm → Prop} (h : ∀ M', P M' → G l E K pc lv st M') : ∀ r M', pP P r M' → G l E K pc lv (r.toList ++ st) M' := fun r M' hp => by
  obtain ⟨rfl, hp⟩ := hp
  exact h M' hp
theorem Cn.same {M M' : Mm} {n : Nat} (h : Cn M n) (s : Same M M') : Cn M' n := ⟨(s 1 0 (by unfold scr; omega)).trans h.1, h.2⟩
theorem Rn.same {M M' : Mm} {n : Nat} (h : Rn M n) (s : Same M M') : Rn M' n := ⟨(s 65 0 (by unfold scr; omega)).trans h.1, h.2⟩
theorem CFn.same {M M' : Mm} {n : Nat} {kd : Nat → Int32} {V : Nat → Nat → Int32} (h : CFn M n kd V) (s : Same M M') : CFn M' n kd V := fun f hf =>
  ⟨(s _ _ (by unfold scr; omega)).trans (h f hf).1, (h f hf).2.1, fun j hj => (s _ _ (by unfold scr; omega)).trans ((h f hf).2.2 j hj)⟩
theorem RFn.same {M M' : Mm} {n : Nat} {kd : Nat → Int32} {V : Nat → Nat → Int32} (h : RFn M n kd V) (s : Same M M') : RFn M' n kd V := fun f hf =>
  ⟨(s _ _ (by unfold scr; omega)).trans (h f hf).1, (h f hf).2.1, fun t j hj => (s _ _ (by unfold scr; omega)).trans ((h f hf).2.2 t j hj)⟩
/-- how far the class is; the reference -/
def seqJ (v : Nat → Int32) (n : Nat) (M : Mm) (k : Nat) (m : Mm) : Prop := Same M m ∧ k ≤ 6 ∧ m 58 0 = nI k ∧ ∀ i, i < k → ¬ sq v n i = 2 ^ n - 1 ∧ m 59 i = nI (sq v n (i + 1)) ∧ m 60 i = v (sq v n (i + 1)) - v (sq v n i) ∧ m 61 i = nI (pcn (dif (sq v n (i + 1)) (sq v n i)))
def lvJ (v : Nat → Int32) (n : Nat) (M : Mm) (k : Nat) (m : Mm) : Prop := Same M m ∧ k ≤ 6 ∧ m 65 12 = nI k ∧ (∀ i, i ≤ k → m 82 i = nI (sq v n i)) ∧ ∀ i, i < k → ¬ sq v n i = 2 ^ n - 1
theorem seqJ_0 {v : Nat → Int32} {n : Nat} {M : Mm} : seqJ v n M 0 (mw M 58 0 0) := ⟨Same.m1 Same.rf (by unfold scr; omega), by omega, mw_eq _ _ _ _, fun i hi => absurd hi (by omega)⟩
theorem seqJ_s {v : Nat → Int32} {n k : Nat} {M m : Mm} (hk : k < 6) (h : seqJ v n M k m) (hne : ¬ sq v n k = 2 ^ n - 1) : seqJ v n M (k + 1) (mw (mw (mw (mw m 59 k (nI (nxt v n (sq v n k)))) 60 k (v (nxt v n (sq v n k)) - v (sq v n k))) 61 k (nI (pcn (dif (nxt v n (sq v n k)) (sq v n k))))) 58 0 (nI (k + 1))) := by
  obtain ⟨h1, h2, h3, h4⟩ := h
  refine ⟨Same.m1 (Same.m1 (Same.m1 (Same.m1 h1 (by unfold scr; omega)) (by unfold scr; omega)) (by unfold scr; omega)) (by unfold scr; omega), by omega, mw_eq _ _ _ _, fun i hi => ?_⟩
  by_cases e : i = k
  · subst e
    exact ⟨hne, rdn (by omega) (rdn (by omega) (rdn (by omega) (mw_eq _ _ _ _))), rdn (by omega) (rdn (by omega) (mw_eq _ _ _ _)), rdn (by omega) (mw_eq _ _ _ _)⟩
  · obtain ⟨a1, a2, a3, a4⟩ := h4 i (by omega)
    exact ⟨a1, rdn (by omega) (rdn (by omega) (rdn (by omega) (rdj e a2))), rdn (by omega) (rdn (by omega) (rdj e (rdn (by omega) a3))), rdn (by omega) (rdj e (rdn (by omega) (rdn (by omega) a4)))⟩
def seqE (v : Nat → Int32) (n : Nat) (M m : Mm) : Prop := seqJ v n M (slen v n) m ∧ sq v n (slen v n) = 2 ^ n - 1
def lvE (v : Nat → Int32) (n : Nat) (M m : Mm) : Prop := lvJ v n M (slen v n) m ∧ sq v n (slen v n) = 2 ^ n - 1
theorem seqE_a {v : Nat → Int32} {n k : Nat} {M m : Mm} (h : seqJ v n M k m) (he : sq v n k = 2 ^ n - 1) : seqE v n M m := by
  have e := slen_eq (v := v) (n := n) h.2.1 (fun i hi => (h.2.2.2 i hi).1) he
  exact ⟨by rw [e]; exact h, by rw [e]; exact he⟩
theorem seqE_6 {v : Nat → Int32} {n k : Nat} {M m : Mm} (hn : n ≤ 6) (h : seqJ v n M k m) (hk : 6 ≤ k) : seqE v n M m := seqE_a h (Classical.byContradiction fun c => by
  have := sq_lt (v := v) hn (fun i hi => (h.2.2.2 i hi).1) c
  omega)
theorem lvJ_0 {v : Nat → Int32} {n : Nat} {M : Mm} : lvJ v n M 0 (mw (mw M 82 0 0) 65 12 0) := ⟨Same.m1 (Same.m1 Same.rf (by unfold scr; omega)) (by unfold scr; omega), by omega, mw_eq _ _ _ _, fun i hi => by rw [show i = 0 by omega]; exact rdn (by omega) (mw_eq _ _ _ _), fun i hi => absurd hi (by omega)⟩
theorem lvJ_s {v : Nat → Int32} {n k : Nat} {M m : Mm} (hk : k < 6) (h : lvJ v n M k m) (hne : ¬ sq v n k = 2 ^ n - 1) : lvJ v n M (k + 1) (mw (mw m 65 12 (nI (k + 1))) 82 (k + 1) (nI (nxt v n (sq v n k)))) := by
  obtain ⟨h1, h2, h3, h4, h5⟩ := h
  refine ⟨Same.m1 (Same.m1 h1 (by unfold scr; omega)) (by unfold scr; omega), by omega, rdn (by omega) (mw_eq _ _ _ _), fun i hi => ?_, fun i hi => ?_⟩
  · by_cases e : i = k + 1
    · subst e; exact mw_eq _ _ _ _
    · exact rdj e (rdn (by omega) (h4 i (by omega)))
  · by_cases e : i = k
    · subst e; exact hne
    · exact h5 i (by omega)
theorem lvE_a {v : Nat → Int32} {n k : Nat} {M m : Mm} (h : lvJ v n M k m) (he : sq v n k = 2 ^ n - 1) : lvE v n M m := by
  have e := slen_eq (v := v) (n := n) h.2.1 h.2.2.2.2 he
  exact ⟨by rw [e]; exact h, by rw [e]; exact he⟩
theorem lg_lt {x y : Int64} (h : ¬ 0 ≤ lg_cmp x y) : x < y := (lg_cmp_lt _ _).mp (Int32.not_le.mp h)
theorem lg_nlt {x y : Int64} (z : x < y) (h : 0 ≤ lg_cmp x y) : False := Int32.not_le.mpr ((lg_cmp_lt _ _).mpr z) h
theorem lg_eq {x y : Int64} (z : x = y) : lg_cmp x y = 0 := (lg_cmp_eq _ _).mpr z
theorem lg_eq1 {x y : Int64} (h : lg_cmp x y = 0) : x = y := (lg_cmp_eq _ _).mp h
theorem cf_X2_isBetter : CF yX2_isBetter cX2_isBetter 8 (some .boolean) 4 := ⟨cd_X2_isBetter, iz_X2, by decide, by decide +kernel, by decide +kernel, by decide +kernel⟩
set_option maxRecDepth 100000 in
set_option maxHeartbeats 4000000 in
theorem c_X2_isBetter {l : Launch} {E : Ev} {M : Mm} {n : Nat} {kd : Nat → Int32} {V : Nat → Nat → Int32} (hI : ∀ k, k < 108 → k ∈ E.2.1) (hF : CFn M n kd V) {f : Nat} (hf : f < 6) (hn6 : n ≤ 6) (hv : ∀ s, s < 2 ^ n → isV (V f s)) {A S B : Nat} (hA : A < 2 ^ n) (hS : S < 2 ^ n) (hB : B < 2 ^ n) (s1 : S &&& A = A) (s2 : ¬ S = A) (b1 : B &&& A = A) (b2 : ¬ B = A) : Cm l E yX2_isBetter cX2_isBetter 8 (some .boolean) 1 [.ref (E.2.2.1 (11 + 2 * f)), .int (nI A), .int (nI S), .int (nI B)] M (pB (rk (V f) A S < rk (V f) A B) M) := by
  refine Cm.of (by decide) (Nat.le_of_ble_eq_true rfl) (fun K k kt => ?_)
  show G l E K 0 [(0, .ref (E.2.2.1 (11 + 2 * f))), (1, .int (nI A)), (2, .int (nI S)), (3, .int (nI B))] [] M
  have hp := p2_le6 hn6
  have hlow := low32 (hv A hA) (hv S hS) (hv B hB) (by omega) (by omega) (by omega) s1 s2 b1 b2
  have h1 := dif_le S A
  have h2 := dif_le B A
  refine gs_iload_n (q := 2) k rfl rfl dX2_isBetter_0 ?_
  refine gs_iload_n (q := 1) k rfl rfl dX2_isBetter_1 ?_
  refine gs_iconst (v := -1) k (by decide) dX2_isBetter_2 ?_
  refine gs_ixor k dX2_isBetter_3 ?_
  refine gs_iand k dX2_isBetter_4 ?_
  refine gs_top (y := nI (dif S A)) (ni_dif S (by omega) A (by omega)) ?_
  refine gs_callS (As := [.int (nI (dif S A))]) k (c_J6_bitCount_0f7a4 (S := dif S A) rfl (by omega)) cf_J6_bitCount_0f7a4 sm_J6_bitCount_0f7a4 ml_X2_29 (by decide) rfl rfl (Nat.le_of_ble_eq_true rfl) dX2_isBetter_5 (ppI ?_)
  have hpc1 := pcn_le (dif S A)
  refine gs_istore (lv' := [(4, .int (nI (pcn (dif S A)))), (0, .ref (E.2.2.1 (11 + 2 * f))), (1, .int (nI A)), (2, .int (nI S)), (3, .int (nI B))]) k (by decide) rfl dX2_isBetter_8 ?_
  refine gs_iload_n (q := 4) k rfl rfl dX2_isBetter_10 ?_
  refine gs_iload_n (q := 2) k rfl rfl dX2_isBetter_11 ?_
  refine gs_iconst (v := -1) k (by decide) dX2_isBetter_12 ?_
  refine gs_ixor k dX2_isBetter_13 ?_
  refine gs_iand k dX2_isBetter_14 ?_
  refine gs_top (y := nI (dif B A)) (ni_dif B (by omega) A (by omega)) ?_
  refine gs_callS (As := [.int (nI (dif B A))]) k (c_J6_bitCount_0f7a4 (S := dif B A) rfl (by omega)) cf_J6_bitCount_0f7a4 sm_J6_bitCount_0f7a4 ml_X2_29 (by decide) rfl rfl (Nat.le_of_ble_eq_true rfl) dX2_isBetter_15 (ppI ?_)
  have hpc2 := pcn_le (dif B A)
  refine gs_istore (lv' := [(5, .int (nI (pcn (dif B A)))), (4, .int (nI (pcn (dif S A)))), (0, .ref (E.2.2.1 (11 + 2 * f))), (1, .int (nI A)), (2, .int (nI S)), (3, .int (nI B))]) k (by decide) rfl dX2_isBetter_18 ?_
  refine gs_aload_n (q := 2) k rfl rfl dX2_isBetter_20 ?_
  refine gs_iload_n (q := 4) k rfl rfl dX2_isBetter_21 ?_
  refine gs_ialdN (k0 := (11 + 2 * f)) (n := 64) (e := S) k (hI (11 + 2 * f) (by omega)) (ent_V1 hf) rfl (by omega) (by decide) dX2_isBetter_22 ?_
  refine gs_top (y := V f S) ((hF f hf).2.2 S (by omega)) ?_
  refine gs_aload_n (q := 2) k rfl rfl dX2_isBetter_23 ?_
  refine gs_iload_n (q := 3) k rfl rfl dX2_isBetter_24 ?_
  refine gs_ialdN (k0 := (11 + 2 * f)) (n := 64) (e := A) k (hI (11 + 2 * f) (by omega)) (ent_V1 hf) rfl (by omega) (by decide) dX2_isBetter_25 ?_
  refine gs_top (y := V f A) ((hF f hf).2.2 A (by omega)) ?_
  refine gs_isub k dX2_isBetter_26 ?_
  refine gs_iload (q := 0) k rfl dX2_isBetter_27 ?_
  refine gs_imul k dX2_isBetter_29 ?_
  refine gs_istore (lv' := [(6, .int (((V f S) - (V f A)) * (nI (pcn (dif B A))))), (5, .int (nI (pcn (dif B A)))), (4, .int (nI (pcn (dif S A)))), (0, .ref (E.2.2.1 (11 + 2 * f))), (1, .int (nI A)), (2, .int (nI S)), (3, .int (nI B))]) k (by decide) rfl dX2_isBetter_30 ?_
  refine gs_aload_n (q := 3) k rfl rfl dX2_isBetter_32 ?_
  refine gs_iload_n (q := 6) k rfl rfl dX2_isBetter_33 ?_
  refine gs_ialdN (k0 := (11 + 2 * f)) (n := 64) (e := B) k (hI (11 + 2 * f) (by omega)) (ent_V1 hf) rfl (by omega) (by decide) dX2_isBetter_34 ?_
  refine gs_top (y := V f B) ((hF f hf).2.2 B (by omega)) ?_
  refine gs_aload_n (q := 3) k rfl rfl dX2_isBetter_35 ?_
  refine gs_iload_n (q := 4) k rfl rfl dX2_isBetter_36 ?_
  refine gs_ialdN (k0 := (11 + 2 * f)) (n := 64) (e := A) k (hI (11 + 2 * f) (by omega)) (ent_V1 hf) rfl (by omega) (by decide) dX2_isBetter_37 ?_
  refine gs_top (y := V f A) ((hF f hf).2.2 A (by omega)) ?_
  refine gs_isub k dX2_isBetter_38 ?_
  refine gs_iload (q := 2) k rfl dX2_isBetter_39 ?_
  refine gs_imul k dX2_isBetter_41 ?_
  refine gs_istore (lv' := [(7, .int (((V f B) - (V f A)) * (nI (pcn (dif S A))))), (6, .int (((V f S) - (V f A)) * (nI (pcn (dif B A))))), (5, .int (nI (pcn (dif B A)))), (4, .int (nI (pcn (dif S A)))), (0, .ref (E.2.2.1 (11 + 2 * f))), (1, .int (nI A)), (2, .int (nI S)), (3, .int (nI B))]) k (by decide) rfl dX2_isBetter_42 ?_
  refine gs_iload (q := 1) k rfl dX2_isBetter_44 ?_
  refine gs_iload (q := 0) k rfl dX2_isBetter_46 ?_
  refine gs_icmp_eq (tgt := 64) k (by decide) dX2_isBetter_48 (fun c1 => ?_) (fun c1 => ?_)
  · refine gs_iload (q := 3) k rfl dX2_isBetter_64 ?_
    refine gs_iload (q := 2) k rfl dX2_isBetter_66 ?_
    refine gs_icmpN_le (a := pcn (dif S A)) (b := pcn (dif B A)) (tgt := 75) k rfl rfl (by omega) (by omega) (by decide) dX2_isBetter_68 (fun c2 => ?_) (fun c2 => ?_)
    · refine gs_iconst (v := 0) k (by decide) dX2_isBetter_75 ?_
      exact gs_zret k kt (by decide) dX2_isBetter_76 (pB0 (fun q => (hlow.mpr q).elim (fun z => Int32.lt_irrefl (by rw [c1] at z; exact z)) (fun z => absurd z.2 (by omega))))
    · refine gs_iconst (v := 1) k (by decide) dX2_isBetter_71 ?_
      refine gs_goto (tgt := 76) k (by decide) dX2_isBetter_72 ?_
      exact gs_zret k kt (by decide) dX2_isBetter_76 (pB1 (hlow.mp (Or.inr ⟨c1, c2⟩)))
  · refine gs_iload (q := 1) k rfl dX2_isBetter_51 ?_
    refine gs_iload (q := 0) k rfl dX2_isBetter_53 ?_
    refine gs_icmp_ge (tgt := 62) k (by decide) dX2_isBetter_55 (fun c3 => ?_) (fun c3 => ?_)
    · refine gs_iconst (v := 0) k (by decide) dX2_isBetter_62 ?_
      exact gs_zret k kt (by decide) dX2_isBetter_63 (pB0 (fun q => (hlow.mpr q).elim (fun z => Int32.not_le.mpr z c3) (fun z => c1 z.1)))
    · refine gs_iconst (v := 1) k (by decide) dX2_isBetter_58 ?_
      refine gs_goto (tgt := 63) k (by decide) dX2_isBetter_59 ?_
      exact gs_zret k kt (by decide) dX2_isBetter_63 (pB1 (hlow.mp (Or.inl (Int32.not_le.mp c3))))

theorem cf_X7_isLower : CF yX7_isLower cX7_isLower 9 (some .boolean) 4 := ⟨cd_X7_isLower, iz_X7, by decide, by decide +kernel, by decide +kernel, by decide +kernel⟩
set_option maxRecDepth 100000 in
set_option maxHeartbeats 4000000 in
theorem c_X7_isLower {l : Launch} {E : Ev} {M : Mm} {n : Nat} {kd : Nat → Int32} {V : Nat → Nat → Int32} (hI : ∀ k, k < 108 → k ∈ E.2.1) (hn : Rn M n) (hF : RFn M n kd V) {z : Int32} {f : Nat} (hz : z = nI f) (hf : f < 6) (ht : ¬ kd f < 0) (hv : ∀ s, s < 2 ^ n → isV (V f s)) {A S B : Nat} (hA : A < 2 ^ n) (hS : S < 2 ^ n) (hB : B < 2 ^ n) (s1 : S &&& A = A) (s2 : ¬ S = A) (b1 : B &&& A = A) (b2 : ¬ B = A) : Cm l E yX7_isLower cX7_isLower 9 (some .boolean) 2 [.ref (E.2.2.1 65), .int z, .int (nI A), .int (nI S), .int (nI B)] M (pB (rk (V f) A S < rk (V f) A B) M) := by
  refine Cm.of (by decide) (Nat.le_of_ble_eq_true rfl) (fun K k kt => ?_)
  show G l E K 0 [(0, .ref (E.2.2.1 65)), (1, .int z), (2, .int (nI A)), (3, .int (nI S)), (4, .int (nI B))] [] M
  obtain ⟨hn0, hn1, hn6⟩ := id hn
  have hp := p2_le6 hn6
  have hp2 := p2_ge2 hn1
  have hlow := low64 (hv A hA) (hv S hS) (hv B hB) (by omega) (by omega) (by omega) s1 s2 b1 b2
  have h1 := (pcn_dif S (by omega) A (by omega) s1).2.1
  have h2 := (pcn_dif B (by omega) A (by omega) b1).2.1
  refine gs_aload_n (q := 0) k rfl rfl dX7_isLower_0 ?_
  refine gs_get (C := RX7) (T := TX7) (N := 27) (ci := 7) (k0 := 65) (j := 8) k (hI 65 (by omega)) rfl rfl inX7 (by decide) fl_X7_39 rfl rfl dX7_isLower_1 ?_
  refine gs_iload_n (q := 1) k rfl rfl dX7_isLower_4 ?_
  refine gs_aaldIN (k0 := 73) (n := 6) (e := f) (a := E.2.2.1 (74 + f)) k (hI 73 (by omega)) (fun _ => rfl) hz (by omega) (by decide) rfl dX7_isLower_5 ?_
  refine gs_iload_n (q := 3) k rfl rfl dX7_isLower_6 ?_
  refine gs_ialdN (k0 := (74 + f)) (n := 64) (e := S) k (hI (74 + f) (by omega)) (ent_RV (by omega)) rfl (by omega) (by decide) dX7_isLower_7 ?_
  refine gs_top (y := V f S) ((hF f hf).2.2 ht S (by omega)) ?_
  refine gs_aload_n (q := 0) k rfl rfl dX7_isLower_8 ?_
  refine gs_get (C := RX7) (T := TX7) (N := 27) (ci := 7) (k0 := 65) (j := 8) k (hI 65 (by omega)) rfl rfl inX7 (by decide) fl_X7_39 rfl rfl dX7_isLower_9 ?_
  refine gs_iload_n (q := 1) k rfl rfl dX7_isLower_12 ?_
  refine gs_aaldIN (k0 := 73) (n := 6) (e := f) (a := E.2.2.1 (74 + f)) k (hI 73 (by omega)) (fun _ => rfl) hz (by omega) (by decide) rfl dX7_isLower_13 ?_
  refine gs_iload_n (q := 2) k rfl rfl dX7_isLower_14 ?_
  refine gs_ialdN (k0 := (74 + f)) (n := 64) (e := A) k (hI (74 + f) (by omega)) (ent_RV (by omega)) rfl (by omega) (by decide) dX7_isLower_15 ?_
  refine gs_top (y := V f A) ((hF f hf).2.2 ht A (by omega)) ?_
  refine gs_isub k dX7_isLower_16 ?_
  refine gs_i2l k dX7_isLower_17 ?_
  refine gs_iload (q := 4) k rfl dX7_isLower_18 ?_
  refine gs_callS (As := [.int (nI B)]) k (c_X7_many (S := B) rfl (by omega)) cf_X7_many sm_X7_many ml_X7_229 (by decide) rfl rfl (Nat.le_of_ble_eq_true rfl) dX7_isLower_20 (ppI ?_)
  have hpc3 := pcn_le B
  refine gs_iload_n (q := 2) k rfl rfl dX7_isLower_23 ?_
  refine gs_callS (As := [.int (nI A)]) k (c_X7_many (S := A) rfl (by omega)) cf_X7_many sm_X7_many ml_X7_229 (by decide) rfl rfl (Nat.le_of_ble_eq_true rfl) dX7_isLower_24 (ppI ?_)
  have hpc4 := pcn_le A
  refine gs_isubN (a := pcn B) (b := pcn A) k rfl rfl (by omega) dX7_isLower_27 ?_
  refine gs_i2l k dX7_isLower_28 ?_
  refine gs_lmul k dX7_isLower_29 ?_
  refine gs_lstore (lv' := [(5, .long ((((V f S) - (V f A)).toInt64) * ((nI ((pcn B) - (pcn A))).toInt64))), (0, .ref (E.2.2.1 65)), (1, .int z), (2, .int (nI A)), (3, .int (nI S)), (4, .int (nI B))]) k (by decide) rfl dX7_isLower_30 ?_
  refine gs_aload_n (q := 1) k rfl rfl dX7_isLower_32 ?_
  refine gs_get (C := RX7) (T := TX7) (N := 27) (ci := 7) (k0 := 65) (j := 8) k (hI 65 (by omega)) rfl rfl inX7 (by decide) fl_X7_39 rfl rfl dX7_isLower_33 ?_
  refine gs_iload_n (q := 2) k rfl rfl dX7_isLower_36 ?_
  refine gs_aaldIN (k0 := 73) (n := 6) (e := f) (a := E.2.2.1 (74 + f)) k (hI 73 (by omega)) (fun _ => rfl) hz (by omega) (by decide) rfl dX7_isLower_37 ?_
  refine gs_iload (q := 5) k rfl dX7_isLower_38 ?_
  refine gs_ialdN (k0 := (74 + f)) (n := 64) (e := B) k (hI (74 + f) (by omega)) (ent_RV (by omega)) rfl (by omega) (by decide) dX7_isLower_40 ?_
  refine gs_top (y := V f B) ((hF f hf).2.2 ht B (by omega)) ?_
  refine gs_aload_n (q := 1) k rfl rfl dX7_isLower_41 ?_
  refine gs_get (C := RX7) (T := TX7) (N := 27) (ci := 7) (k0 := 65) (j := 8) k (hI 65 (by omega)) rfl rfl inX7 (by decide) fl_X7_39 rfl rfl dX7_isLower_42 ?_
  refine gs_iload_n (q := 2) k rfl rfl dX7_isLower_45 ?_
  refine gs_aaldIN (k0 := 73) (n := 6) (e := f) (a := E.2.2.1 (74 + f)) k (hI 73 (by omega)) (fun _ => rfl) hz (by omega) (by decide) rfl dX7_isLower_46 ?_
  refine gs_iload_n (q := 3) k rfl rfl dX7_isLower_47 ?_
  refine gs_ialdN (k0 := (74 + f)) (n := 64) (e := A) k (hI (74 + f) (by omega)) (ent_RV (by omega)) rfl (by omega) (by decide) dX7_isLower_48 ?_
  refine gs_top (y := V f A) ((hF f hf).2.2 ht A (by omega)) ?_
  refine gs_isub k dX7_isLower_49 ?_
  refine gs_i2l k dX7_isLower_50 ?_
  refine gs_iload_n (q := 4) k rfl rfl dX7_isLower_51 ?_
  refine gs_callS (As := [.int (nI S)]) k (c_X7_many (S := S) rfl (by omega)) cf_X7_many sm_X7_many ml_X7_229 (by decide) rfl rfl (Nat.le_of_ble_eq_true rfl) dX7_isLower_52 (ppI ?_)
  have hpc5 := pcn_le S
  refine gs_iload_n (q := 3) k rfl rfl dX7_isLower_55 ?_
  refine gs_callS (As := [.int (nI A)]) k (c_X7_many (S := A) rfl (by omega)) cf_X7_many sm_X7_many ml_X7_229 (by decide) rfl rfl (Nat.le_of_ble_eq_true rfl) dX7_isLower_56 (ppI ?_)
  have hpc6 := pcn_le A
  refine gs_isubN (a := pcn S) (b := pcn A) k rfl rfl (by omega) dX7_isLower_59 ?_
  refine gs_i2l k dX7_isLower_60 ?_
  refine gs_lmul k dX7_isLower_61 ?_
  refine gs_lstore (lv' := [(7, .long ((((V f B) - (V f A)).toInt64) * ((nI ((pcn S) - (pcn A))).toInt64))), (5, .long ((((V f S) - (V f A)).toInt64) * ((nI ((pcn B) - (pcn A))).toInt64))), (0, .ref (E.2.2.1 65)), (1, .int z), (2, .int (nI A)), (3, .int (nI S)), (4, .int (nI B))]) k (by decide) rfl dX7_isLower_62 ?_
  refine gs_lload (q := 1) k rfl dX7_isLower_64 ?_
  refine gs_lload (q := 0) k rfl dX7_isLower_66 ?_
  refine gs_lcmp k dX7_isLower_68 ?_
  refine gs_if_eq (tgt := 88) k (by decide) dX7_isLower_69 (fun c1 => ?_) (fun c1 => ?_)
  · refine gs_iload_n (q := 5) k rfl rfl dX7_isLower_88 ?_
    refine gs_callS (As := [.int (nI S)]) k (c_X7_many (S := S) rfl (by omega)) cf_X7_many sm_X7_many ml_X7_229 (by decide) rfl rfl (Nat.le_of_ble_eq_true rfl) dX7_isLower_89 (ppI ?_)
    have hpc7 := pcn_le S
    refine gs_iload (q := 6) k rfl dX7_isLower_92 ?_
    refine gs_callS (As := [.int (nI B)]) k (c_X7_many (S := B) rfl (by omega)) cf_X7_many sm_X7_many ml_X7_229 (by decide) rfl rfl (Nat.le_of_ble_eq_true rfl) dX7_isLower_94 (ppI ?_)
    have hpc8 := pcn_le B
    refine gs_icmpN_le (a := pcn S) (b := pcn B) (tgt := 104) k rfl rfl (by omega) (by omega) (by decide) dX7_isLower_97 (fun c2 => ?_) (fun c2 => ?_)
    · refine gs_iconst (v := 0) k (by decide) dX7_isLower_104 ?_
      exact gs_zret k kt (by decide) dX7_isLower_105 (pB0 (fun q => (hlow.mpr q).elim (fun z => Int64.lt_irrefl (by rw [(lg_eq1 c1)] at z; exact z)) (fun z => absurd z.2 (by omega))))
    · refine gs_iconst (v := 1) k (by decide) dX7_isLower_100 ?_
      refine gs_goto (tgt := 105) k (by decide) dX7_isLower_101 ?_
      exact gs_zret k kt (by decide) dX7_isLower_105 (pB1 (hlow.mp (Or.inr ⟨(lg_eq1 c1), c2⟩)))
  · refine gs_lload (q := 1) k rfl dX7_isLower_72 ?_
    refine gs_lload (q := 0) k rfl dX7_isLower_74 ?_
    refine gs_lcmp k dX7_isLower_76 ?_
    refine gs_if_ge (tgt := 84) k (by decide) dX7_isLower_77 (fun c3 => ?_) (fun c3 => ?_)
    · refine gs_iconst (v := 0) k (by decide) dX7_isLower_84 ?_
      refine gs_goto (tgt := 105) k (by decide) dX7_isLower_85 ?_
      exact gs_zret k kt (by decide) dX7_isLower_105 (pB0 (fun q => (hlow.mpr q).elim (fun z => lg_nlt z c3) (fun z => c1 (lg_eq z.1))))
    · refine gs_iconst (v := 1) k (by decide) dX7_isLower_80 ?_
      refine gs_goto (tgt := 105) k (by decide) dX7_isLower_81 ?_
      exact gs_zret k kt (by decide) dX7_isLower_105 (pB1 (hlow.mp (Or.inl (lg_lt c3))))

theorem cf_X2_nextMember : CF yX2_nextMember cX2_nextMember 5 (some .int) 3 := ⟨cd_X2_nextMember, iz_X2, by decide, by decide +kernel, by decide +kernel, by decide +kernel⟩
set_option maxRecDepth 100000 in
set_option maxHeartbeats 4000000 in
theorem c_X2_nextMember {l : Launch} {E : Ev} {M : Mm} {n : Nat} {kd : Nat → Int32} {V : Nat → Nat → Int32} (hI : ∀ k, k < 108 → k ∈ E.2.1) (hF : CFn M n kd V) {f : Nat} (hf : f < 6) (hn6 : n ≤ 6) (hv : ∀ s, s < 2 ^ n → isV (V f s)) {A : Nat} (hA : A < 2 ^ n) (hne : ¬ A = 2 ^ n - 1) : Cm l E yX2_nextMember cX2_nextMember 5 (some .int) 2 [.ref (E.2.2.1 (11 + 2 * f)), .int (nI A), .int (nI (2 ^ n - 1))] M (pI (nI (nxt (V f) n A)) M) := by
  refine Cm.of (by decide) (Nat.le_of_ble_eq_true rfl) (fun K k kt => ?_)
  show G l E K 0 [(0, .ref (E.2.2.1 (11 + 2 * f))), (1, .int (nI A)), (2, .int (nI (2 ^ n - 1)))] [] M
  have hp := p2_le6 hn6
  have hp2 := p2_pos n
  refine gs_iload_n (q := 2) k rfl rfl dX2_nextMember_0 ?_
  refine gs_istore_n (lv' := [(3, .int (nI (2 ^ n - 1))), (0, .ref (E.2.2.1 (11 + 2 * f))), (1, .int (nI A)), (2, .int (nI (2 ^ n - 1)))]) k rfl (by decide) rfl dX2_nextMember_1 ?_
  refine gs_iconst (v := 0) k (by decide) dX2_nextMember_2 ?_
  refine gs_istore (lv' := [(4, .int 0), (3, .int (nI (2 ^ n - 1))), (0, .ref (E.2.2.1 (11 + 2 * f))), (1, .int (nI A)), (2, .int (nI (2 ^ n - 1)))]) k (by decide) rfl dX2_nextMember_3 ?_
  refine gs_lv (lv' := [(0, .ref (E.2.2.1 (11 + 2 * f))), (1, .int (nI A)), (2, .int (nI (2 ^ n - 1))), (3, .int (nI (2 ^ n - 1))), (4, .int 0)]) [2, 3, 4, 1, 0] rfl ?_
  refine for_upJ (σ := Nat) (fun S b => G l E K 5 [(0, .ref (E.2.2.1 (11 + 2 * f))), (1, .int (nI A)), (2, .int (nI (2 ^ n - 1))), (3, .int (nI b)), (4, .int (nI S))] [] M) (fun S b => b < 2 ^ n ∧ b &&& A = A ∧ ¬ b = A) (fun S b => if (S &&& A = A ∧ ¬ S = A) ∧ rk (V f) A S < rk (V f) A b then S else b) (2 ^ n - 1) (fun S b hS hb => by
      split
      · rename_i h; exact ⟨by omega, h.1.1, h.1.2⟩
      · exact hb) (fun S b hS hJS hGS => ?_) (2 ^ n - 1) 0 (2 ^ n - 1) (by omega) ⟨by omega, all_and n (by omega) A hA, fun e => hne e.symm⟩ (fun hJS => ?_)
  · show G l E K 5 [(0, .ref (E.2.2.1 (11 + 2 * f))), (1, .int (nI A)), (2, .int (nI (2 ^ n - 1))), (3, .int (nI b)), (4, .int (nI S))] [] M
    have hd2 : S &&& A ≤ S := Nat.and_le_left
    refine gs_iload (q := 4) k rfl dX2_nextMember_5 ?_
    refine gs_iload_n (q := 2) k rfl rfl dX2_nextMember_7 ?_
    refine gs_icmpN_ge (a := S) (b := 2 ^ n - 1) (tgt := 45) k rfl rfl (by omega) (by omega) (by decide) dX2_nextMember_8 (fun c1 => absurd c1 (by omega)) (fun c1 => ?_)
    refine gs_iload (q := 4) k rfl dX2_nextMember_11 ?_
    refine gs_iload_n (q := 1) k rfl rfl dX2_nextMember_13 ?_
    refine gs_iandN (a := S) (b := A) k rfl rfl dX2_nextMember_14 ?_
    refine gs_iload_n (q := 1) k rfl rfl dX2_nextMember_15 ?_
    refine gs_icmpN_ne (a := S &&& A) (b := A) (tgt := 39) k rfl rfl (by omega) (by omega) (by decide) dX2_nextMember_16 (fun c2 => ?_) (fun c2 => ?_)
    · refine gs_iincN (q := 4) (a := S) (c := 1) (lv' := [(4, .int (nI (S + 1))), (0, .ref (E.2.2.1 (11 + 2 * f))), (1, .int (nI A)), (2, .int (nI (2 ^ n - 1))), (3, .int (nI b))]) k rfl rfl (by decide) rfl dX2_nextMember_39 ?_
      refine gs_goto (tgt := 5) k (by decide) dX2_nextMember_42 ?_
      refine gs_lv (lv' := [(0, .ref (E.2.2.1 (11 + 2 * f))), (1, .int (nI A)), (2, .int (nI (2 ^ n - 1))), (3, .int (nI b)), (4, .int (nI (S + 1)))]) [1, 2, 3, 4, 0] rfl ?_
      exact hGS _ (by rw [if_neg (fun q => c2 q.1.1)])
    · refine gs_iload (q := 4) k rfl dX2_nextMember_19 ?_
      refine gs_iload_n (q := 1) k rfl rfl dX2_nextMember_21 ?_
      refine gs_icmpN_eq (a := S) (b := A) (tgt := 39) k rfl rfl (by omega) (by omega) (by decide) dX2_nextMember_22 (fun c3 => ?_) (fun c3 => ?_)
      · refine gs_iincN (q := 4) (a := S) (c := 1) (lv' := [(4, .int (nI (S + 1))), (0, .ref (E.2.2.1 (11 + 2 * f))), (1, .int (nI A)), (2, .int (nI (2 ^ n - 1))), (3, .int (nI b))]) k rfl rfl (by decide) rfl dX2_nextMember_39 ?_
        refine gs_goto (tgt := 5) k (by decide) dX2_nextMember_42 ?_
        refine gs_lv (lv' := [(0, .ref (E.2.2.1 (11 + 2 * f))), (1, .int (nI A)), (2, .int (nI (2 ^ n - 1))), (3, .int (nI b)), (4, .int (nI (S + 1)))]) [1, 2, 3, 4, 0] rfl ?_
        exact hGS _ (by rw [if_neg (fun q => q.1.2 c3)])
      · refine gs_aload_n (q := 0) k rfl rfl dX2_nextMember_25 ?_
        refine gs_iload_n (q := 1) k rfl rfl dX2_nextMember_26 ?_
        refine gs_iload (q := 4) k rfl dX2_nextMember_27 ?_
        refine gs_iload_n (q := 3) k rfl rfl dX2_nextMember_29 ?_
        refine gs_callS (As := [.ref (E.2.2.1 (11 + 2 * f)), .int (nI A), .int (nI S), .int (nI b)]) k (c_X2_isBetter (f := f) (A := A) (S := S) (B := b) hI hF hf hn6 hv (by omega) (by omega) (by omega) c2 c3 hJS.2.1 hJS.2.2) cf_X2_isBetter sm_X2_isBetter ml_X2_35 (by decide) rfl rfl (Nat.le_of_ble_eq_true rfl) dX2_nextMember_30 (ppB (fun c4 => ?_) (fun c4 => ?_))
        · refine gs_if_eq (tgt := 39) k (by decide) dX2_nextMember_33 (fun h => absurd h (by decide)) (fun _ => ?_)
          refine gs_iload (q := 4) k rfl dX2_nextMember_36 ?_
          refine gs_istore_n (lv' := [(3, .int (nI S)), (0, .ref (E.2.2.1 (11 + 2 * f))), (1, .int (nI A)), (2, .int (nI (2 ^ n - 1))), (4, .int (nI S))]) k rfl (by decide) rfl dX2_nextMember_38 ?_
          refine gs_iincN (q := 4) (a := S) (c := 1) (lv' := [(4, .int (nI (S + 1))), (3, .int (nI S)), (0, .ref (E.2.2.1 (11 + 2 * f))), (1, .int (nI A)), (2, .int (nI (2 ^ n - 1)))]) k rfl rfl (by decide) rfl dX2_nextMember_39 ?_
          refine gs_goto (tgt := 5) k (by decide) dX2_nextMember_42 ?_
          refine gs_lv (lv' := [(0, .ref (E.2.2.1 (11 + 2 * f))), (1, .int (nI A)), (2, .int (nI (2 ^ n - 1))), (3, .int (nI S)), (4, .int (nI (S + 1)))]) [2, 3, 4, 1, 0] rfl ?_
          exact hGS _ (by rw [if_pos ⟨⟨c2, c3⟩, c4⟩])
        · refine gs_if_eq (tgt := 39) k (by decide) dX2_nextMember_33 (fun _ => ?_) (fun h => absurd h (by decide))
          refine gs_iincN (q := 4) (a := S) (c := 1) (lv' := [(4, .int (nI (S + 1))), (0, .ref (E.2.2.1 (11 + 2 * f))), (1, .int (nI A)), (2, .int (nI (2 ^ n - 1))), (3, .int (nI b))]) k rfl rfl (by decide) rfl dX2_nextMember_39 ?_
          refine gs_goto (tgt := 5) k (by decide) dX2_nextMember_42 ?_
          refine gs_lv (lv' := [(0, .ref (E.2.2.1 (11 + 2 * f))), (1, .int (nI A)), (2, .int (nI (2 ^ n - 1))), (3, .int (nI b)), (4, .int (nI (S + 1)))]) [1, 2, 3, 4, 0] rfl ?_
          exact hGS _ (by rw [if_neg (fun q => c4 q.2)])
  · show G l E K 5 [(0, .ref (E.2.2.1 (11 + 2 * f))), (1, .int (nI A)), (2, .int (nI (2 ^ n - 1))), (3, .int (nI (nxt (V f) n A))), (4, .int (nI (2 ^ n - 1)))] [] M
    refine gs_iload (q := 4) k rfl dX2_nextMember_5 ?_
    refine gs_iload_n (q := 2) k rfl rfl dX2_nextMember_7 ?_
    refine gs_icmpN_ge (a := 2 ^ n - 1) (b := 2 ^ n - 1) (tgt := 45) k rfl rfl (by omega) (by omega) (by decide) dX2_nextMember_8 (fun c1 => ?_) (fun c1 => absurd c1 (by omega))
    refine gs_iload_n (q := 3) k rfl rfl dX2_nextMember_45 ?_
    exact gs_iret k kt dX2_nextMember_46 ⟨rfl, rfl⟩

theorem cf_X2_follow : CF yX2_follow cX2_follow 7 none 2 := ⟨cd_X2_follow, iz_X2, by decide, by decide +kernel, by decide +kernel, by decide +kernel⟩
set_option maxRecDepth 100000 in
set_option maxHeartbeats 4000000 in
theorem c_X2_follow {l : Launch} {E : Ev} {M : Mm} {n : Nat} {kd : Nat → Int32} {V : Nat → Nat → Int32} (hI : ∀ k, k < 108 → k ∈ E.2.1) (hF : CFn M n kd V) {f : Nat} (hf : f < 6) (hn6 : n ≤ 6) (hv : ∀ s, s < 2 ^ n → isV (V f s)) (hn1 : 1 ≤ n) {y : Int32} (hy : y = nI n) : Cm l E yX2_follow cX2_follow 7 none 3 [.ref (E.2.2.1 58), .ref (E.2.2.1 (11 + 2 * f)), .int y] M (pP (seqE (V f) n M)) := by
  refine Cm.of (by decide) (Nat.le_of_ble_eq_true rfl) (fun K k kt => ?_)
  show G l E K 0 [(0, .ref (E.2.2.1 58)), (1, .ref (E.2.2.1 (11 + 2 * f))), (2, .int y)] [] M
  have hp := p2_le6 hn6
  have hp2 := p2_pos n
  refine gs_iconst (v := 1) k (by decide) dX2_follow_0 ?_
  refine gs_iload_n (q := 2) k rfl rfl dX2_follow_1 ?_
  refine gs_ishlN (b := n) k rfl hy (by omega) dX2_follow_2 ?_
  refine gs_iconst (v := 1) k (by decide) dX2_follow_3 ?_
  refine gs_isubN (a := 2 ^ n) (b := 1) k rfl rfl (by omega) dX2_follow_4 ?_
  refine gs_istore_n (lv' := [(3, .int (nI ((2 ^ n) - 1))), (0, .ref (E.2.2.1 58)), (1, .ref (E.2.2.1 (11 + 2 * f))), (2, .int y)]) k rfl (by decide) rfl dX2_follow_5 ?_
  refine gs_iconst (v := 0) k (by decide) dX2_follow_6 ?_
  refine gs_istore (lv' := [(4, .int 0), (3, .int (nI ((2 ^ n) - 1))), (0, .ref (E.2.2.1 58)), (1, .ref (E.2.2.1 (11 + 2 * f))), (2, .int y)]) k (by decide) rfl dX2_follow_7 ?_
  refine gs_aload_n (q := 2) k rfl rfl dX2_follow_9 ?_
  refine gs_iconst (v := 0) k (by decide) dX2_follow_10 ?_
  refine gs_put (C := RX2) (T := TX2) (N := 4) (ci := 2) (k0 := 58) (j := 0) (ty := .int) k (hI 58 (by omega)) rfl rfl rfl inX2 tyX2 tyX2_ok nmX2 (by decide) fl_X2_21 rfl rfl (tyX2_ok 0 (by decide)) rfl rfl (Nat.le_of_ble_eq_true rfl) dX2_follow_11 ?_
  refine gs_iconst (v := 0) k (by decide) dX2_follow_14 ?_
  refine gs_istore (lv' := [(5, .int 0), (4, .int 0), (3, .int (nI ((2 ^ n) - 1))), (0, .ref (E.2.2.1 58)), (1, .ref (E.2.2.1 (11 + 2 * f))), (2, .int y)]) k (by decide) rfl dX2_follow_15 ?_
  refine gs_lv (lv' := [(0, .ref (E.2.2.1 58)), (1, .ref (E.2.2.1 (11 + 2 * f))), (2, .int y), (3, .int (nI ((2 ^ n) - 1))), (4, .int 0), (5, .int 0)]) [3, 4, 5, 2, 1, 0] rfl ?_
  refine for_wh (σ := Mm) (fun ix m => G l E K 17 [(0, .ref (E.2.2.1 58)), (1, .ref (E.2.2.1 (11 + 2 * f))), (2, .int y), (3, .int (nI ((2 ^ n) - 1))), (4, .int (nI (sq (V f) n ix))), (5, .int (nI ix))] [] m) (fun ix m => seqJ (V f) n M ix m) 6 (fun ix m hJ hG => ?_) 0 (mw M 58 0 (0)) seqJ_0
  show G l E K 17 [(0, .ref (E.2.2.1 58)), (1, .ref (E.2.2.1 (11 + 2 * f))), (2, .int y), (3, .int (nI ((2 ^ n) - 1))), (4, .int (nI (sq (V f) n ix))), (5, .int (nI ix))] [] m
  have hq := (sq_ok (v := V f) hn6 ix (fun i hi => (hJ.2.2.2 i hi).1)).1
  have hk6 := hJ.2.1
  have hF := hF.same hJ.1
  refine gs_iload (q := 5) k rfl dX2_follow_17 ?_
  refine gs_bipush (v := 6) k (by decide) dX2_follow_19 ?_
  refine gs_icmpN_ge (a := ix) (b := 6) (tgt := 101) k rfl rfl (by omega) (by omega) (by decide) dX2_follow_21 (fun c1 => ?_) (fun c1 => ?_)
  · exact gs_vret k kt dX2_follow_101 ⟨rfl, seqE_6 hn6 hJ c1⟩
  · refine gs_iload (q := 4) k rfl dX2_follow_24 ?_
    refine gs_iload_n (q := 3) k rfl rfl dX2_follow_26 ?_
    refine gs_icmpN_eq (a := sq (V f) n ix) (b := (2 ^ n) - 1) (tgt := 101) k rfl rfl (by omega) (by omega) (by decide) dX2_follow_27 (fun c2 => ?_) (fun c2 => ?_)
    · exact gs_vret k kt dX2_follow_101 ⟨rfl, seqE_a hJ c2⟩
    · refine gs_aload_n (q := 1) k rfl rfl dX2_follow_30 ?_
      refine gs_iload (q := 4) k rfl dX2_follow_31 ?_
      refine gs_iload_n (q := 3) k rfl rfl dX2_follow_33 ?_
      refine gs_callS (As := [.ref (E.2.2.1 (11 + 2 * f)), .int (nI (sq (V f) n ix)), .int (nI ((2 ^ n) - 1))]) k (c_X2_nextMember (f := f) (A := sq (V f) n ix) hI hF hf hn6 hv (by omega) c2) cf_X2_nextMember sm_X2_nextMember ml_X2_25 (by decide) rfl rfl (Nat.le_of_ble_eq_true rfl) dX2_follow_34 (ppI ?_)
      obtain ⟨a1, a2, a3⟩ := nxt_ok (v := V f) hn6 hq c2
      have a4 := dif_le (nxt (V f) n (sq (V f) n ix)) (sq (V f) n ix)
      refine gs_istore (lv' := [(6, .int (nI (nxt (V f) n (sq (V f) n ix)))), (0, .ref (E.2.2.1 58)), (1, .ref (E.2.2.1 (11 + 2 * f))), (2, .int y), (3, .int (nI ((2 ^ n) - 1))), (4, .int (nI (sq (V f) n ix))), (5, .int (nI ix))]) k (by decide) rfl dX2_follow_37 ?_
      refine gs_aload_n (q := 1) k rfl rfl dX2_follow_39 ?_
      refine gs_get (C := RX2) (T := TX2) (N := 4) (ci := 2) (k0 := 58) (j := 1) k (hI 58 (by omega)) rfl rfl inX2 (by decide) fl_X2_9 rfl rfl dX2_follow_40 ?_
      refine gs_iload (q := 6) k rfl dX2_follow_43 ?_
      refine gs_iload (q := 0) k rfl dX2_follow_45 ?_
      refine gs_iastN (k0 := 59) (n := 6) (e := ix) k (hI 59 (by omega)) (fun _ => rfl) rfl (by omega) (by decide) dX2_follow_47 ?_
      refine gs_aload_n (q := 1) k rfl rfl dX2_follow_48 ?_
      refine gs_get (C := RX2) (T := TX2) (N := 4) (ci := 2) (k0 := 58) (j := 2) k (hI 58 (by omega)) rfl rfl inX2 (by decide) fl_X2_15 rfl rfl dX2_follow_49 ?_
      refine gs_iload (q := 6) k rfl dX2_follow_52 ?_
      refine gs_aload_n (q := 2) k rfl rfl dX2_follow_54 ?_
      refine gs_iload (q := 0) k rfl dX2_follow_55 ?_
      refine gs_ialdN (k0 := (11 + 2 * f)) (n := 64) (e := nxt (V f) n (sq (V f) n ix)) k (hI (11 + 2 * f) (by omega)) (ent_V1 hf) rfl (by omega) (by decide) dX2_follow_57 ?_
      refine gs_top (y := V f (nxt (V f) n (sq (V f) n ix))) (rdn (by omega) ((hF f hf).2.2 (nxt (V f) n (sq (V f) n ix)) (by omega))) ?_
      refine gs_aload_n (q := 2) k rfl rfl dX2_follow_58 ?_
      refine gs_iload (q := 5) k rfl dX2_follow_59 ?_
      refine gs_ialdN (k0 := (11 + 2 * f)) (n := 64) (e := sq (V f) n ix) k (hI (11 + 2 * f) (by omega)) (ent_V1 hf) rfl (by omega) (by decide) dX2_follow_61 ?_
      refine gs_top (y := V f (sq (V f) n ix)) (rdn (by omega) ((hF f hf).2.2 (sq (V f) n ix) (by omega))) ?_
      refine gs_isub k dX2_follow_62 ?_
      refine gs_iastN (k0 := 60) (n := 6) (e := ix) k (hI 60 (by omega)) (fun _ => rfl) rfl (by omega) (by decide) dX2_follow_63 ?_
      refine gs_aload_n (q := 1) k rfl rfl dX2_follow_64 ?_
      refine gs_get (C := RX2) (T := TX2) (N := 4) (ci := 2) (k0 := 58) (j := 3) k (hI 58 (by omega)) rfl rfl inX2 (by decide) fl_X2_18 rfl rfl dX2_follow_65 ?_
      refine gs_iload (q := 6) k rfl dX2_follow_68 ?_
      refine gs_iload (q := 0) k rfl dX2_follow_70 ?_
      refine gs_iload (q := 5) k rfl dX2_follow_72 ?_
      refine gs_iconst (v := -1) k (by decide) dX2_follow_74 ?_
      refine gs_ixor k dX2_follow_75 ?_
      refine gs_iand k dX2_follow_76 ?_
      refine gs_top (y := nI (dif (nxt (V f) n (sq (V f) n ix)) (sq (V f) n ix))) (ni_dif (nxt (V f) n (sq (V f) n ix)) (by omega) (sq (V f) n ix) (by omega)) ?_
      refine gs_callS (As := [.int (nI (dif (nxt (V f) n (sq (V f) n ix)) (sq (V f) n ix)))]) k (c_J6_bitCount_0f7a4 (S := dif (nxt (V f) n (sq (V f) n ix)) (sq (V f) n ix)) rfl (by omega)) cf_J6_bitCount_0f7a4 sm_J6_bitCount_0f7a4 ml_X2_29 (by decide) rfl rfl (Nat.le_of_ble_eq_true rfl) dX2_follow_77 (ppI ?_)
      have hpc9 := pcn_le (dif (nxt (V f) n (sq (V f) n ix)) (sq (V f) n ix))
      refine gs_iastN (k0 := 61) (n := 6) (e := ix) k (hI 61 (by omega)) (fun _ => rfl) rfl (by omega) (by decide) dX2_follow_80 ?_
      refine gs_aload_n (q := 1) k rfl rfl dX2_follow_81 ?_
      refine gs_dup k rfl dX2_follow_82 ?_
      refine gs_get (C := RX2) (T := TX2) (N := 4) (ci := 2) (k0 := 58) (j := 0) k (hI 58 (by omega)) rfl rfl inX2 (by decide) fl_X2_21 rfl rfl dX2_follow_83 ?_
      refine gs_top (y := m 58 0) (rdn (by omega) (rdn (by omega) (rdn (by omega) (rfl)))) ?_
      refine gs_top (y := nI ix) hJ.2.2.1 ?_
      refine gs_iconst (v := 1) k (by decide) dX2_follow_86 ?_
      refine gs_iaddN (a := ix) (b := 1) k rfl rfl dX2_follow_87 ?_
      refine gs_put (C := RX2) (T := TX2) (N := 4) (ci := 2) (k0 := 58) (j := 0) (ty := .int) k (hI 58 (by omega)) rfl rfl rfl inX2 tyX2 tyX2_ok nmX2 (by decide) fl_X2_21 rfl rfl (tyX2_ok 0 (by decide)) rfl rfl (Nat.le_of_ble_eq_true rfl) dX2_follow_88 ?_
      refine gs_iload (q := 0) k rfl dX2_follow_91 ?_
      refine gs_istore (lv' := [(4, .int (nI (nxt (V f) n (sq (V f) n ix)))), (6, .int (nI (nxt (V f) n (sq (V f) n ix)))), (0, .ref (E.2.2.1 58)), (1, .ref (E.2.2.1 (11 + 2 * f))), (2, .int y), (3, .int (nI ((2 ^ n) - 1))), (5, .int (nI ix))]) k (by decide) rfl dX2_follow_93 ?_
      refine gs_iincN (q := 6) (a := ix) (c := 1) (lv' := [(5, .int (nI (ix + 1))), (4, .int (nI (nxt (V f) n (sq (V f) n ix)))), (6, .int (nI (nxt (V f) n (sq (V f) n ix)))), (0, .ref (E.2.2.1 58)), (1, .ref (E.2.2.1 (11 + 2 * f))), (2, .int y), (3, .int (nI ((2 ^ n) - 1)))]) k rfl rfl (by decide) rfl dX2_follow_95 ?_
      refine gs_goto (tgt := 17) k (by decide) dX2_follow_98 ?_
      refine gs_lv (lv' := [(0, .ref (E.2.2.1 58)), (1, .ref (E.2.2.1 (11 + 2 * f))), (2, .int y), (3, .int (nI ((2 ^ n) - 1))), (4, .int (nI (nxt (V f) n (sq (V f) n ix)))), (5, .int (nI (ix + 1))), (6, .int (nI (nxt (V f) n (sq (V f) n ix))))]) [3, 4, 5, 6, 1, 0, 2] rfl ?_
      refine gs_lv (lv' := [(0, .ref (E.2.2.1 58)), (1, .ref (E.2.2.1 (11 + 2 * f))), (2, .int y), (3, .int (nI ((2 ^ n) - 1))), (4, .int (nI (nxt (V f) n (sq (V f) n ix)))), (5, .int (nI (ix + 1)))]) [0, 1, 2, 3, 4, 5] rfl ?_
      exact hG (by omega) _ (seqJ_s (by omega) hJ c2)

theorem cf_X7_layLevels : CF yX7_layLevels cX7_layLevels 5 none 1 := ⟨cd_X7_layLevels, iz_X7, by decide, by decide +kernel, by decide +kernel, by decide +kernel⟩
set_option maxRecDepth 100000 in
set_option maxHeartbeats 4000000 in
theorem c_X7_layLevels {l : Launch} {E : Ev} {M : Mm} {n : Nat} {kd : Nat → Int32} {V : Nat → Nat → Int32} (hI : ∀ k, k < 108 → k ∈ E.2.1) (hn : Rn M n) (hF : RFn M n kd V) {z : Int32} {f : Nat} (hz : z = nI f) (hf : f < 6) (ht : ¬ kd f < 0) (hv : ∀ s, s < 2 ^ n → isV (V f s)) : Cm l E yX7_layLevels cX7_layLevels 5 none 3 [.ref (E.2.2.1 65), .int z] M (pP (lvE (V f) n M)) := by
  refine Cm.of (by decide) (Nat.le_of_ble_eq_true rfl) (fun K k kt => ?_)
  show G l E K 0 [(0, .ref (E.2.2.1 65)), (1, .int z)] [] M
  obtain ⟨hn0, hn1, hn6⟩ := id hn
  have hp := p2_le6 hn6
  have hp2 := p2_ge2 hn1
  refine gs_aload_n (q := 0) k rfl rfl dX7_layLevels_0 ?_
  refine gs_get (C := RX7) (T := TX7) (N := 27) (ci := 7) (k0 := 65) (j := 11) k (hI 65 (by omega)) rfl rfl inX7 (by decide) fl_X7_48 rfl rfl dX7_layLevels_1 ?_
  refine gs_iconst (v := 0) k (by decide) dX7_layLevels_4 ?_
  refine gs_iconst (v := 0) k (by decide) dX7_layLevels_5 ?_
  refine gs_iastN (k0 := 82) (n := 7) (e := 0) k (hI 82 (by omega)) (fun _ => rfl) rfl (by omega) (by decide) dX7_layLevels_6 ?_
  refine gs_aload_n (q := 0) k rfl rfl dX7_layLevels_7 ?_
  refine gs_iconst (v := 0) k (by decide) dX7_layLevels_8 ?_
  refine gs_put (C := RX7) (T := TX7) (N := 27) (ci := 7) (k0 := 65) (j := 12) (ty := .int) k (hI 65 (by omega)) rfl rfl rfl inX7 tyX7 tyX7_ok nmX7 (by decide) fl_X7_232 rfl rfl (tyX7_ok 12 (by decide)) rfl rfl (Nat.le_of_ble_eq_true rfl) dX7_layLevels_9 ?_
  refine for_wh (σ := Mm) (fun ix m => G l E K 12 [(0, .ref (E.2.2.1 65)), (1, .int z)] [] m) (fun ix m => lvJ (V f) n M ix m) 6 (fun ix m hJ hG => ?_) 0 (mw (mw M 82 0 (0)) 65 12 (0)) lvJ_0
  show G l E K 12 [(0, .ref (E.2.2.1 65)), (1, .int z)] [] m
  have hq := (sq_ok (v := V f) hn6 ix hJ.2.2.2.2).1
  have hk6 := hJ.2.1
  have hF := hF.same hJ.1
  have hn := hn.same hJ.1
  refine gs_aload_n (q := 0) k rfl rfl dX7_layLevels_12 ?_
  refine gs_get (C := RX7) (T := TX7) (N := 27) (ci := 7) (k0 := 65) (j := 11) k (hI 65 (by omega)) rfl rfl inX7 (by decide) fl_X7_48 rfl rfl dX7_layLevels_13 ?_
  refine gs_aload_n (q := 0) k rfl rfl dX7_layLevels_16 ?_
  refine gs_get (C := RX7) (T := TX7) (N := 27) (ci := 7) (k0 := 65) (j := 12) k (hI 65 (by omega)) rfl rfl inX7 (by decide) fl_X7_232 rfl rfl dX7_layLevels_17 ?_
  refine gs_top (y := nI ix) hJ.2.2.1 ?_
  refine gs_ialdN (k0 := 82) (n := 7) (e := ix) k (hI 82 (by omega)) (fun _ => rfl) rfl (by omega) (by decide) dX7_layLevels_20 ?_
  refine gs_top (y := nI (sq (V f) n ix)) (hJ.2.2.2.1 ix (Nat.le_refl _)) ?_
  refine gs_aload_n (q := 0) k rfl rfl dX7_layLevels_21 ?_
  refine gs_callV (As := []) (k0 := 65) (ci := 7) (T := TX7) (N := 27) k (c_X7_all hI hn) cf_X7_all im_X7_all sl_X7_all ml_X7_87 (hI 65 (by omega)) rfl rfl (by decide) rfl rfl (Nat.le_of_ble_eq_true rfl) dX7_layLevels_22 (ppI ?_)
  refine gs_icmpN_eq (a := sq (V f) n ix) (b := 2 ^ n - 1) (tgt := 118) k rfl rfl (by omega) (by omega) (by decide) dX7_layLevels_25 (fun c1 => ?_) (fun c1 => ?_)
  · exact gs_vret k kt dX7_layLevels_118 ⟨rfl, lvE_a hJ c1⟩
  · refine gs_aload_n (q := 0) k rfl rfl dX7_layLevels_28 ?_
    refine gs_get (C := RX7) (T := TX7) (N := 27) (ci := 7) (k0 := 65) (j := 11) k (hI 65 (by omega)) rfl rfl inX7 (by decide) fl_X7_48 rfl rfl dX7_layLevels_29 ?_
    refine gs_aload_n (q := 0) k rfl rfl dX7_layLevels_32 ?_
    refine gs_get (C := RX7) (T := TX7) (N := 27) (ci := 7) (k0 := 65) (j := 12) k (hI 65 (by omega)) rfl rfl inX7 (by decide) fl_X7_232 rfl rfl dX7_layLevels_33 ?_
    refine gs_top (y := nI ix) hJ.2.2.1 ?_
    refine gs_ialdN (k0 := 82) (n := 7) (e := ix) k (hI 82 (by omega)) (fun _ => rfl) rfl (by omega) (by decide) dX7_layLevels_36 ?_
    refine gs_top (y := nI (sq (V f) n ix)) (hJ.2.2.2.1 ix (Nat.le_refl _)) ?_
    refine gs_istore_n (lv' := [(2, .int (nI (sq (V f) n ix))), (0, .ref (E.2.2.1 65)), (1, .int z)]) k rfl (by decide) rfl dX7_layLevels_37 ?_
    refine gs_bipush (v := -5) k (by decide) dX7_layLevels_38 ?_
    refine gs_istore_n (lv' := [(3, .int (-5)), (2, .int (nI (sq (V f) n ix))), (0, .ref (E.2.2.1 65)), (1, .int z)]) k rfl (by decide) rfl dX7_layLevels_40 ?_
    refine gs_iconst (v := 0) k (by decide) dX7_layLevels_41 ?_
    refine gs_istore (lv' := [(4, .int 0), (3, .int (-5)), (2, .int (nI (sq (V f) n ix))), (0, .ref (E.2.2.1 65)), (1, .int z)]) k (by decide) rfl dX7_layLevels_42 ?_
    have hne := c1
    have hlt := sq_lt (v := V f) hn6 hJ.2.2.2.2 hne
    refine gs_lv (lv' := [(0, .ref (E.2.2.1 65)), (1, .int z), (2, .int (nI (sq (V f) n ix))), (3, .int (-5)), (4, .int 0)]) [3, 4, 2, 1, 0] rfl ?_
    refine for_upJ (σ := Option Nat) (fun S o => G l E K 44 [(0, .ref (E.2.2.1 65)), (1, .int z), (2, .int (nI (sq (V f) n ix))), (3, .int (ob (-5) o)), (4, .int (nI S))] [] m) (fun S o => ∀ q, o = some q → q < 2 ^ n ∧ q &&& sq (V f) n ix = sq (V f) n ix ∧ ¬ q = sq (V f) n ix) (fun S o => ostep (S &&& sq (V f) n ix = sq (V f) n ix ∧ ¬ S = sq (V f) n ix) (fun b => rk (V f) (sq (V f) n ix) S < rk (V f) (sq (V f) n ix) b) S o) (2 ^ n) (fun S o hS hb => os_J (B := fun q => q < 2 ^ n ∧ q &&& sq (V f) n ix = sq (V f) n ix ∧ ¬ q = sq (V f) n ix) (fun c => ⟨hS, c.1, c.2⟩) hb) (fun S o hS hJS hGS => ?_) (2 ^ n) 0 none (by omega) (by intro q hq; cases hq) (fun hJe => ?_)
    · have hd2 : S &&& sq (V f) n ix ≤ S := Nat.and_le_left
      cases o with
      | none =>
        show G l E K 44 [(0, .ref (E.2.2.1 65)), (1, .int z), (2, .int (nI (sq (V f) n ix))), (3, .int (-5)), (4, .int (nI S))] [] m
        refine gs_iload (q := 4) k rfl dX7_layLevels_44 ?_
        refine gs_aload_n (q := 0) k rfl rfl dX7_layLevels_46 ?_
        refine gs_callV (As := []) (k0 := 65) (ci := 7) (T := TX7) (N := 27) k (c_X7_sets hI hn) cf_X7_sets im_X7_sets sl_X7_sets ml_X7_83 (hI 65 (by omega)) rfl rfl (by decide) rfl rfl (Nat.le_of_ble_eq_true rfl) dX7_layLevels_47 (ppI ?_)
        refine gs_icmpN_ge (a := S) (b := 2 ^ n) (tgt := 95) k rfl rfl (by omega) (by omega) (by decide) dX7_layLevels_50 (fun c2 => absurd c2 (by omega)) (fun c2 => ?_)
        refine gs_iload (q := 4) k rfl dX7_layLevels_53 ?_
        refine gs_iload_n (q := 2) k rfl rfl dX7_layLevels_55 ?_
        refine gs_iandN (a := S) (b := sq (V f) n ix) k rfl rfl dX7_layLevels_56 ?_
        refine gs_iload_n (q := 2) k rfl rfl dX7_layLevels_57 ?_
        refine gs_icmpN_ne (a := S &&& (sq (V f) n ix)) (b := sq (V f) n ix) (tgt := 89) k rfl rfl (by omega) (by omega) (by decide) dX7_layLevels_58 (fun c3 => ?_) (fun c3 => ?_)
        · refine gs_iincN (q := 4) (a := S) (c := 1) (lv' := [(4, .int (nI (S + 1))), (0, .ref (E.2.2.1 65)), (1, .int z), (2, .int (nI (sq (V f) n ix))), (3, .int (-5))]) k rfl rfl (by decide) rfl dX7_layLevels_89 ?_
          refine gs_goto (tgt := 44) k (by decide) dX7_layLevels_92 ?_
          refine gs_lv (lv' := [(0, .ref (E.2.2.1 65)), (1, .int z), (2, .int (nI (sq (V f) n ix))), (3, .int (-5)), (4, .int (nI (S + 1)))]) [1, 2, 3, 4, 0] rfl ?_
          exact hGS none (os_skip (fun q => c3 q.1))
        · refine gs_iload (q := 4) k rfl dX7_layLevels_61 ?_
          refine gs_iload_n (q := 2) k rfl rfl dX7_layLevels_63 ?_
          refine gs_icmpN_ne (a := S) (b := sq (V f) n ix) (tgt := 70) k rfl rfl (by omega) (by omega) (by decide) dX7_layLevels_64 (fun c4 => ?_) (fun c4 => ?_)
          · refine gs_iload_n (q := 3) k rfl rfl dX7_layLevels_70 ?_
            refine gs_if_lt (tgt := 86) k (by decide) dX7_layLevels_71 (fun _ => ?_) (fun h => absurd h (by decide))
            refine gs_iload (q := 4) k rfl dX7_layLevels_86 ?_
            refine gs_istore_n (lv' := [(3, .int (nI S)), (0, .ref (E.2.2.1 65)), (1, .int z), (2, .int (nI (sq (V f) n ix))), (4, .int (nI S))]) k rfl (by decide) rfl dX7_layLevels_88 ?_
            refine gs_iincN (q := 4) (a := S) (c := 1) (lv' := [(4, .int (nI (S + 1))), (3, .int (nI S)), (0, .ref (E.2.2.1 65)), (1, .int z), (2, .int (nI (sq (V f) n ix)))]) k rfl rfl (by decide) rfl dX7_layLevels_89 ?_
            refine gs_goto (tgt := 44) k (by decide) dX7_layLevels_92 ?_
            refine gs_lv (lv' := [(0, .ref (E.2.2.1 65)), (1, .int z), (2, .int (nI (sq (V f) n ix))), (3, .int (nI S)), (4, .int (nI (S + 1)))]) [2, 3, 4, 1, 0] rfl ?_
            exact hGS (some S) (os_first ⟨c3, c4⟩)
          · refine gs_goto (tgt := 89) k (by decide) dX7_layLevels_67 ?_
            refine gs_iincN (q := 4) (a := S) (c := 1) (lv' := [(4, .int (nI (S + 1))), (0, .ref (E.2.2.1 65)), (1, .int z), (2, .int (nI (sq (V f) n ix))), (3, .int (-5))]) k rfl rfl (by decide) rfl dX7_layLevels_89 ?_
            refine gs_goto (tgt := 44) k (by decide) dX7_layLevels_92 ?_
            refine gs_lv (lv' := [(0, .ref (E.2.2.1 65)), (1, .int z), (2, .int (nI (sq (V f) n ix))), (3, .int (-5)), (4, .int (nI (S + 1)))]) [1, 2, 3, 4, 0] rfl ?_
            exact hGS none (os_skip (fun q => q.2 c4))
      | some b =>
        have hb := hJS b rfl
        show G l E K 44 [(0, .ref (E.2.2.1 65)), (1, .int z), (2, .int (nI (sq (V f) n ix))), (3, .int (nI b)), (4, .int (nI S))] [] m
        refine gs_iload (q := 4) k rfl dX7_layLevels_44 ?_
        refine gs_aload_n (q := 0) k rfl rfl dX7_layLevels_46 ?_
        refine gs_callV (As := []) (k0 := 65) (ci := 7) (T := TX7) (N := 27) k (c_X7_sets hI hn) cf_X7_sets im_X7_sets sl_X7_sets ml_X7_83 (hI 65 (by omega)) rfl rfl (by decide) rfl rfl (Nat.le_of_ble_eq_true rfl) dX7_layLevels_47 (ppI ?_)
        refine gs_icmpN_ge (a := S) (b := 2 ^ n) (tgt := 95) k rfl rfl (by omega) (by omega) (by decide) dX7_layLevels_50 (fun c5 => absurd c5 (by omega)) (fun c5 => ?_)
        refine gs_iload (q := 4) k rfl dX7_layLevels_53 ?_
        refine gs_iload_n (q := 2) k rfl rfl dX7_layLevels_55 ?_
        refine gs_iandN (a := S) (b := sq (V f) n ix) k rfl rfl dX7_layLevels_56 ?_
        refine gs_iload_n (q := 2) k rfl rfl dX7_layLevels_57 ?_
        refine gs_icmpN_ne (a := S &&& (sq (V f) n ix)) (b := sq (V f) n ix) (tgt := 89) k rfl rfl (by omega) (by omega) (by decide) dX7_layLevels_58 (fun c6 => ?_) (fun c6 => ?_)
        · refine gs_iincN (q := 4) (a := S) (c := 1) (lv' := [(4, .int (nI (S + 1))), (0, .ref (E.2.2.1 65)), (1, .int z), (2, .int (nI (sq (V f) n ix))), (3, .int (nI b))]) k rfl rfl (by decide) rfl dX7_layLevels_89 ?_
          refine gs_goto (tgt := 44) k (by decide) dX7_layLevels_92 ?_
          refine gs_lv (lv' := [(0, .ref (E.2.2.1 65)), (1, .int z), (2, .int (nI (sq (V f) n ix))), (3, .int (nI b)), (4, .int (nI (S + 1)))]) [1, 2, 3, 4, 0] rfl ?_
          exact hGS (some b) (os_skip (fun q => c6 q.1))
        · refine gs_iload (q := 4) k rfl dX7_layLevels_61 ?_
          refine gs_iload_n (q := 2) k rfl rfl dX7_layLevels_63 ?_
          refine gs_icmpN_ne (a := S) (b := sq (V f) n ix) (tgt := 70) k rfl rfl (by omega) (by omega) (by decide) dX7_layLevels_64 (fun c7 => ?_) (fun c7 => ?_)
          · refine gs_iload_n (q := 3) k rfl rfl dX7_layLevels_70 ?_
            refine gs_if_lt (tgt := 86) k (by decide) dX7_layLevels_71 (fun h => absurd h (nnlt rfl (by omega))) (fun _ => ?_)
            refine gs_aload_n (q := 0) k rfl rfl dX7_layLevels_74 ?_
            refine gs_iload_n (q := 1) k rfl rfl dX7_layLevels_75 ?_
            refine gs_iload_n (q := 2) k rfl rfl dX7_layLevels_76 ?_
            refine gs_iload (q := 4) k rfl dX7_layLevels_77 ?_
            refine gs_iload_n (q := 3) k rfl rfl dX7_layLevels_79 ?_
            refine gs_callV (As := [.int z, .int (nI (sq (V f) n ix)), .int (nI S), .int (nI b)]) (k0 := 65) (ci := 7) (T := TX7) (N := 27) k (c_X7_isLower (f := f) (A := sq (V f) n ix) (S := S) (B := b) hI hn hF hz hf ht hv (by omega) (by omega) (by omega) c6 c7 hb.2.1 hb.2.2) cf_X7_isLower im_X7_isLower sl_X7_isLower ml_X7_235 (hI 65 (by omega)) rfl rfl (by decide) rfl rfl (Nat.le_of_ble_eq_true rfl) dX7_layLevels_80 (ppB (fun c8 => ?_) (fun c8 => ?_))
            · refine gs_if_eq (tgt := 89) k (by decide) dX7_layLevels_83 (fun h => absurd h (by decide)) (fun _ => ?_)
              refine gs_iload (q := 4) k rfl dX7_layLevels_86 ?_
              refine gs_istore_n (lv' := [(3, .int (nI S)), (0, .ref (E.2.2.1 65)), (1, .int z), (2, .int (nI (sq (V f) n ix))), (4, .int (nI S))]) k rfl (by decide) rfl dX7_layLevels_88 ?_
              refine gs_iincN (q := 4) (a := S) (c := 1) (lv' := [(4, .int (nI (S + 1))), (3, .int (nI S)), (0, .ref (E.2.2.1 65)), (1, .int z), (2, .int (nI (sq (V f) n ix)))]) k rfl rfl (by decide) rfl dX7_layLevels_89 ?_
              refine gs_goto (tgt := 44) k (by decide) dX7_layLevels_92 ?_
              refine gs_lv (lv' := [(0, .ref (E.2.2.1 65)), (1, .int z), (2, .int (nI (sq (V f) n ix))), (3, .int (nI S)), (4, .int (nI (S + 1)))]) [2, 3, 4, 1, 0] rfl ?_
              exact hGS (some S) (os_take ⟨c6, c7⟩ c8)
            · refine gs_if_eq (tgt := 89) k (by decide) dX7_layLevels_83 (fun _ => ?_) (fun h => absurd h (by decide))
              refine gs_iincN (q := 4) (a := S) (c := 1) (lv' := [(4, .int (nI (S + 1))), (0, .ref (E.2.2.1 65)), (1, .int z), (2, .int (nI (sq (V f) n ix))), (3, .int (nI b))]) k rfl rfl (by decide) rfl dX7_layLevels_89 ?_
              refine gs_goto (tgt := 44) k (by decide) dX7_layLevels_92 ?_
              refine gs_lv (lv' := [(0, .ref (E.2.2.1 65)), (1, .int z), (2, .int (nI (sq (V f) n ix))), (3, .int (nI b)), (4, .int (nI (S + 1)))]) [1, 2, 3, 4, 0] rfl ?_
              exact hGS (some b) (os_keep ⟨c6, c7⟩ c8)
          · refine gs_goto (tgt := 89) k (by decide) dX7_layLevels_67 ?_
            refine gs_iincN (q := 4) (a := S) (c := 1) (lv' := [(4, .int (nI (S + 1))), (0, .ref (E.2.2.1 65)), (1, .int z), (2, .int (nI (sq (V f) n ix))), (3, .int (nI b))]) k rfl rfl (by decide) rfl dX7_layLevels_89 ?_
            refine gs_goto (tgt := 44) k (by decide) dX7_layLevels_92 ?_
            refine gs_lv (lv' := [(0, .ref (E.2.2.1 65)), (1, .int z), (2, .int (nI (sq (V f) n ix))), (3, .int (nI b)), (4, .int (nI (S + 1)))]) [1, 2, 3, 4, 0] rfl ?_
            exact hGS (some b) (os_skip (fun q => q.2 c7))
    · have he := nxt_eq (v := V f) hn6 hq hne
      show G l E K 44 [(0, .ref (E.2.2.1 65)), (1, .int z), (2, .int (nI (sq (V f) n ix))), (3, .int (ob (-5) (nxtR (V f) n (sq (V f) n ix)))), (4, .int (nI (2 ^ n)))] [] m
      rw [he]
      show G l E K 44 [(0, .ref (E.2.2.1 65)), (1, .int z), (2, .int (nI (sq (V f) n ix))), (3, .int (nI (nxt (V f) n (sq (V f) n ix)))), (4, .int (nI (2 ^ n)))] [] m
      refine gs_iload (q := 4) k rfl dX7_layLevels_44 ?_
      refine gs_aload_n (q := 0) k rfl rfl dX7_layLevels_46 ?_
      refine gs_callV (As := []) (k0 := 65) (ci := 7) (T := TX7) (N := 27) k (c_X7_sets hI hn) cf_X7_sets im_X7_sets sl_X7_sets ml_X7_83 (hI 65 (by omega)) rfl rfl (by decide) rfl rfl (Nat.le_of_ble_eq_true rfl) dX7_layLevels_47 (ppI ?_)
      refine gs_icmpN_ge (a := 2 ^ n) (b := 2 ^ n) (tgt := 95) k rfl rfl (by omega) (by omega) (by decide) dX7_layLevels_50 (fun c2 => ?_) (fun c2 => absurd c2 (by omega))
      refine gs_aload_n (q := 0) k rfl rfl dX7_layLevels_95 ?_
      refine gs_dup k rfl dX7_layLevels_96 ?_
      refine gs_get (C := RX7) (T := TX7) (N := 27) (ci := 7) (k0 := 65) (j := 12) k (hI 65 (by omega)) rfl rfl inX7 (by decide) fl_X7_232 rfl rfl dX7_layLevels_97 ?_
      refine gs_top (y := nI ix) hJ.2.2.1 ?_
      refine gs_iconst (v := 1) k (by decide) dX7_layLevels_100 ?_
      refine gs_iaddN (a := ix) (b := 1) k rfl rfl dX7_layLevels_101 ?_
      refine gs_put (C := RX7) (T := TX7) (N := 27) (ci := 7) (k0 := 65) (j := 12) (ty := .int) k (hI 65 (by omega)) rfl rfl rfl inX7 tyX7 tyX7_ok nmX7 (by decide) fl_X7_232 rfl rfl (tyX7_ok 12 (by decide)) rfl rfl (Nat.le_of_ble_eq_true rfl) dX7_layLevels_102 ?_
      refine gs_aload_n (q := 0) k rfl rfl dX7_layLevels_105 ?_
      refine gs_get (C := RX7) (T := TX7) (N := 27) (ci := 7) (k0 := 65) (j := 11) k (hI 65 (by omega)) rfl rfl inX7 (by decide) fl_X7_48 rfl rfl dX7_layLevels_106 ?_
      refine gs_aload_n (q := 0) k rfl rfl dX7_layLevels_109 ?_
      refine gs_get (C := RX7) (T := TX7) (N := 27) (ci := 7) (k0 := 65) (j := 12) k (hI 65 (by omega)) rfl rfl inX7 (by decide) fl_X7_232 rfl rfl dX7_layLevels_110 ?_
      refine gs_top (y := nI (ix + 1)) (mw_eq _ _ _ _) ?_
      refine gs_iload_n (q := 3) k rfl rfl dX7_layLevels_113 ?_
      refine gs_iastN (k0 := 82) (n := 7) (e := ix + 1) k (hI 82 (by omega)) (fun _ => rfl) rfl (by omega) (by decide) dX7_layLevels_114 ?_
      refine gs_goto (tgt := 12) k (by decide) dX7_layLevels_115 ?_
      refine gs_lv (lv' := [(0, .ref (E.2.2.1 65)), (1, .int z)]) [0, 1] rfl ?_
      exact hG (by omega) _ (lvJ_s (by omega) hJ hne)

