theorem ni_and (a b : Nat) : nI a &&& nI b = nI (a &&& b) := by
  apply Int32.toBitVec_inj.1
  show BitVec.ofNat 32 a &&& BitVec.ofNat 32 b = BitVec.ofNat 32 (a &&& b)
  apply BitVec.eq_of_getLsbD_eq
  intro i hi
  simp [hi]
theorem ni_or (a b : Nat) : nI a ||| nI b = nI (a ||| b) := by
  apply Int32.toBitVec_inj.1
  show BitVec.ofNat 32 a ||| BitVec.ofNat 32 b = BitVec.ofNat 32 (a ||| b)
  apply BitVec.eq_of_getLsbD_eq
  intro i hi
  simp [hi]
theorem ni_sm : ∀ n, n < 32 → ((nI n &&& 31).toBitVec.smod 32).toNat = n := by decide +kernel
theorem ni_shl {p : Nat} (h : p < 31) : (1 : Int32) <<< (nI p &&& 31) = nI (2 ^ p) := by
  have h2 : 2 ^ p < 2 ^ 31 := Nat.pow_lt_pow_right (by omega) h
  have e := pk_shlN (n := 1) (nI p &&& 31) p (ni_sm p (by omega)) (by omega)
  rw [Nat.one_mul] at e
  exact e
theorem ni_shr {n p : Nat} (h : n < 2 ^ 31) (hp : p < 32) : nI n >>> (nI p &&& 31) = nI (n / 2 ^ p) := pk_shrN h _ p (ni_sm p hp)
theorem ni_bit {n p : Nat} (h : n < 2 ^ 31) (hp : p < 32) : (nI n >>> (nI p &&& 31)) &&& nI 1 = nI (if n.testBit p then 1 else 0) := by
  rw [ni_shr h hp, ni_and, Nat.and_one_is_mod]
  have e : n.testBit p = decide (n / 2 ^ p % 2 = 1) := Nat.testBit_eq_decide_div_mod_eq
  by_cases c : n / 2 ^ p % 2 = 1
  · rw [e, decide_eq_true c, c]; rfl
  · rw [e, decide_eq_false c, show n / 2 ^ p % 2 = 0 by omega]; rfl
theorem rdn {M : Mm} {k j k' j' : Nat} {x v : Int32} (h : k' ≠ k) (e : M k' j' = v) : mw M k j x k' j' = v := by rw [mw_nk _ _ _ h]; exact e
theorem rdr {M : Mm} {k k' j' : Nat} {r : Nat → Int32} {v : Int32} (h : k' ≠ k) (e : M k' j' = v) : rset M k r k' j' = v := by rw [rset_ne _ _ h]; exact e
theorem mw_rset (M : Mm) (k j : Nat) (r : Nat → Int32) (x : Int32) : mw (rset M k r) k j x = rset M k (upd r j x) := by unfold mw; rw [rset_eq, rset_rset]

theorem gs_iaddN {l : Launch} {E : Ev} {K : Kt} {cc : ByteArray} {own : String} {d nL pc : Nat} {lv : List (Nat × Value)} {st : List Value} {M : Mm} {x y : Int32} {a b : Nat} (k : Ok l E K cc own d nL) (hx : x = nI a) (hy : y = nI b) (hd : decode cc pc = .ok (.iadd, 1)) (h : G l E K (pc + 1) lv (.int (nI (a + b)) :: st) M) : G l E K pc lv (.int y :: .int x :: st) M := by
  refine gs_iadd k hd ?_
  rw [hx, hy, nI_add]; exact h
theorem gs_isubN {l : Launch} {E : Ev} {K : Kt} {cc : ByteArray} {own : String} {d nL pc : Nat} {lv : List (Nat × Value)} {st : List Value} {M : Mm} {x y : Int32} {a b : Nat} (k : Ok l E K cc own d nL) (hx : x = nI a) (hy : y = nI b) (hle : b ≤ a) (hd : decode cc pc = .ok (.isub, 1)) (h : G l E K (pc + 1) lv (.int (nI (a - b)) :: st) M) : G l E K pc lv (.int y :: .int x :: st) M := by
  refine gs_isub k hd ?_
  rw [hx, hy, pk_sub hle]; exact h
theorem gs_imulN {l : Launch} {E : Ev} {K : Kt} {cc : ByteArray} {own : String} {d nL pc : Nat} {lv : List (Nat × Value)} {st : List Value} {M : Mm} {x y : Int32} {a b : Nat} (k : Ok l E K cc own d nL) (hx : x = nI a) (hy : y = nI b) (hd : decode cc pc = .ok (.imul, 1)) (h : G l E K (pc + 1) lv (.int (nI (a * b)) :: st) M) : G l E K pc lv (.int y :: .int x :: st) M := by
  refine gs_imul k hd ?_
  rw [hx, hy, pk_mul]; exact h
theorem gs_iandN {l : Launch} {E : Ev} {K : Kt} {cc : ByteArray} {own : String} {d nL pc : Nat} {lv : List (Nat × Value)} {st : List Value} {M : Mm} {x y : Int32} {a b : Nat} (k : Ok l E K cc own d nL) (hx : x = nI a) (hy : y = nI b) (hd : decode cc pc = .ok (.iand, 1)) (h : G l E K (pc + 1) lv (.int (nI (a &&& b)) :: st) M) : G l E K pc lv (.int y :: .int x :: st) M := by
  refine gs_iand k hd ?_
  rw [hx, hy, ni_and]; exact h
theorem gs_iorN {l : Launch} {E : Ev} {K : Kt} {cc : ByteArray} {own : String} {d nL pc : Nat} {lv : List (Nat × Value)} {st : List Value} {M : Mm} {x y : Int32} {a b : Nat} (k : Ok l E K cc own d nL) (hx : x = nI a) (hy : y = nI b) (hd : decode cc pc = .ok (.ior, 1)) (h : G l E K (pc + 1) lv (.int (nI (a ||| b)) :: st) M) : G l E K pc lv (.int y :: .int x :: st) M := by
  refine gs_ior k hd ?_
  rw [hx, hy, ni_or]; exact h
theorem gs_ishlN {l : Launch} {E : Ev} {K : Kt} {cc : ByteArray} {own : String} {d nL pc : Nat} {lv : List (Nat × Value)} {st : List Value} {M : Mm} {x y : Int32} {b : Nat} (k : Ok l E K cc own d nL) (hx : x = 1) (hy : y = nI b) (hb : b < 31) (hd : decode cc pc = .ok (.ishl, 1)) (h : G l E K (pc + 1) lv (.int (nI (2 ^ b)) :: st) M) : G l E K pc lv (.int y :: .int x :: st) M := by
  refine gs_ishl k hd ?_
  rw [hx, hy, ni_shl hb]; exact h
theorem gs_idivN {l : Launch} {E : Ev} {K : Kt} {cc : ByteArray} {own : String} {d nL pc : Nat} {lv : List (Nat × Value)} {st : List Value} {M : Mm} {x y : Int32} {a b : Nat} (k : Ok l E K cc own d nL) (hx : x = nI a) (hy : y = nI b) (ha : a < 2 ^ 31) (h0 : 0 < b) (hb : b < 2 ^ 31) (hd : decode cc pc = .ok (.idiv, 1)) (h : G l E K (pc + 1) lv (.int (nI (a / b)) :: st) M) : G l E K pc lv (.int y :: .int x :: st) M := by
  refine gs_idiv k (by rw [hy]; exact nI_ne0 h0 hb) hd ?_
  rw [hx, hy, pk_div ha h0 hb]; exact h
theorem gs_iremN {l : Launch} {E : Ev} {K : Kt} {cc : ByteArray} {own : String} {d nL pc : Nat} {lv : List (Nat × Value)} {st : List Value} {M : Mm} {x y : Int32} {a b : Nat} (k : Ok l E K cc own d nL) (hx : x = nI a) (hy : y = nI b) (ha : a < 2 ^ 31) (h0 : 0 < b) (hb : b < 2 ^ 31) (hd : decode cc pc = .ok (.irem, 1)) (h : G l E K (pc + 1) lv (.int (nI (a % b)) :: st) M) : G l E K pc lv (.int y :: .int x :: st) M := by
  refine gs_irem k (by rw [hy]; exact nI_ne0 h0 hb) hd ?_
  rw [hx, hy, pk_rem ha h0 hb]; exact h
theorem gs_iincN {l : Launch} {E : Ev} {K : Kt} {cc : ByteArray} {own : String} {d nL pc : Nat} {lv : List (Nat × Value)} {st : List Value} {M : Mm} {i q a c : Nat} {x : Int32} {lv' : List (Nat × Value)} (k : Ok l E K cc own d nL) (hq : lv[q]? = some (i, .int x)) (hx : x = nI a) (hn : i < nL) (hl' : (i, Value.int (nI (a + c))) :: lv.filter (fun q => !(q.1 == i) && !(q.1 + 1 == i && q.2.category == 2)) = lv') (hd : decode cc pc = .ok (.iinc i (c : Int), 3)) (h : G l E K (pc + 3) lv' st M) : G l E K pc lv st M := gs_iinc k hq (by rw [hx, ← nI_add]; rfl) hn hl' hd h
theorem gs_icmpN_eq {l : Launch} {E : Ev} {K : Kt} {cc : ByteArray} {own : String} {d nL pc : Nat} {lv : List (Nat × Value)} {st : List Value} {M : Mm} {x y : Int32} {a b : Nat} {off : Int} {tgt : Nat} (k : Ok l E K cc own d nL) (hx : x = nI a) (hy : y = nI b) (ha : a < 2 ^ 31) (hb : b < 2 ^ 31) (ht : (pc : Int) + off = (tgt : Int)) (hd : decode cc pc = .ok (.if_icmp .eq off, 3)) (kt : a = b → G l E K tgt lv st M) (kf : a ≠ b → G l E K (pc + 3) lv st M) : G l E K pc lv (.int y :: .int x :: st) M := by
  subst hx
  subst hy
  exact gs_icmp_eq k ht hd (fun z => kt ((nI_eq ha hb).mp z)) (fun z => kf (fun e => z ((nI_eq ha hb).mpr e)))
theorem gs_icmpN_ne {l : Launch} {E : Ev} {K : Kt} {cc : ByteArray} {own : String} {d nL pc : Nat} {lv : List (Nat × Value)} {st : List Value} {M : Mm} {x y : Int32} {a b : Nat} {off : Int} {tgt : Nat} (k : Ok l E K cc own d nL) (hx : x = nI a) (hy : y = nI b) (ha : a < 2 ^ 31) (hb : b < 2 ^ 31) (ht : (pc : Int) + off = (tgt : Int)) (hd : decode cc pc = .ok (.if_icmp .ne off, 3)) (kt : a ≠ b → G l E K tgt lv st M) (kf : a = b → G l E K (pc + 3) lv st M) : G l E K pc lv (.int y :: .int x :: st) M := by
  subst hx
  subst hy
  exact gs_icmp_ne k ht hd (fun z => kt (fun e => z ((nI_eq ha hb).mpr e))) (fun z => kf ((nI_eq ha hb).mp z))
theorem gs_icmpN_lt {l : Launch} {E : Ev} {K : Kt} {cc : ByteArray} {own : String} {d nL pc : Nat} {lv : List (Nat × Value)} {st : List Value} {M : Mm} {x y : Int32} {a b : Nat} {off : Int} {tgt : Nat} (k : Ok l E K cc own d nL) (hx : x = nI a) (hy : y = nI b) (ha : a < 2 ^ 31) (hb : b < 2 ^ 31) (ht : (pc : Int) + off = (tgt : Int)) (hd : decode cc pc = .ok (.if_icmp .lt off, 3)) (kt : a < b → G l E K tgt lv st M) (kf : b ≤ a → G l E K (pc + 3) lv st M) : G l E K pc lv (.int y :: .int x :: st) M := by
  subst hx
  subst hy
  exact gs_icmp_lt k ht hd (fun z => kt ((nI_ltI ha hb).mp z)) (fun z => kf (Nat.le_of_not_lt fun e => z ((nI_ltI ha hb).mpr e)))
theorem gs_icmpN_ge {l : Launch} {E : Ev} {K : Kt} {cc : ByteArray} {own : String} {d nL pc : Nat} {lv : List (Nat × Value)} {st : List Value} {M : Mm} {x y : Int32} {a b : Nat} {off : Int} {tgt : Nat} (k : Ok l E K cc own d nL) (hx : x = nI a) (hy : y = nI b) (ha : a < 2 ^ 31) (hb : b < 2 ^ 31) (ht : (pc : Int) + off = (tgt : Int)) (hd : decode cc pc = .ok (.if_icmp .ge off, 3)) (kt : b ≤ a → G l E K tgt lv st M) (kf : a < b → G l E K (pc + 3) lv st M) : G l E K pc lv (.int y :: .int x :: st) M := by
  subst hx
  subst hy
  exact gs_icmp_ge k ht hd (fun z => kt ((nI_leI hb ha).mp z)) (fun z => kf (Nat.lt_of_not_le fun e => z ((nI_leI hb ha).mpr e)))
theorem gs_icmpN_gt {l : Launch} {E : Ev} {K : Kt} {cc : ByteArray} {own : String} {d nL pc : Nat} {lv : List (Nat × Value)} {st : List Value} {M : Mm} {x y : Int32} {a b : Nat} {off : Int} {tgt : Nat} (k : Ok l E K cc own d nL) (hx : x = nI a) (hy : y = nI b) (ha : a < 2 ^ 31) (hb : b < 2 ^ 31) (ht : (pc : Int) + off = (tgt : Int)) (hd : decode cc pc = .ok (.if_icmp .gt off, 3)) (kt : b < a → G l E K tgt lv st M) (kf : a ≤ b → G l E K (pc + 3) lv st M) : G l E K pc lv (.int y :: .int x :: st) M := by
  subst hx
  subst hy
  exact gs_icmp_gt k ht hd (fun z => kt ((nI_ltI hb ha).mp z)) (fun z => kf (Nat.le_of_not_lt fun e => z ((nI_ltI hb ha).mpr e)))
theorem gs_icmpN_le {l : Launch} {E : Ev} {K : Kt} {cc : ByteArray} {own : String} {d nL pc : Nat} {lv : List (Nat × Value)} {st : List Value} {M : Mm} {x y : Int32} {a b : Nat} {off : Int} {tgt : Nat} (k : Ok l E K cc own d nL) (hx : x = nI a) (hy : y = nI b) (ha : a < 2 ^ 31) (hb : b < 2 ^ 31) (ht : (pc : Int) + off = (tgt : Int)) (hd : decode cc pc = .ok (.if_icmp .le off, 3)) (kt : a ≤ b → G l E K tgt lv st M) (kf : b < a → G l E K (pc + 3) lv st M) : G l E K pc lv (.int y :: .int x :: st) M := by
  subst hx
  subst hy
  exact gs_icmp_le k ht hd (fun z => kt ((nI_leI ha hb).mp z)) (fun z => kf (Nat.lt_of_not_le fun e => z ((nI_leI ha hb).mpr e)))
theorem gs_ifN_eq {l : Launch} {E : Ev} {K : Kt} {cc : ByteArray} {own : String} {d nL pc : Nat} {lv : List (Nat × Value)} {st : List Value} {M : Mm} {x : Int32} {a : Nat} {off : Int} {tgt : Nat} (k : Ok l E K cc own d nL) (hx : x = nI a) (ha : a < 2 ^ 31) (ht : (pc : Int) + off = (tgt : Int)) (hd : decode cc pc = .ok (.ifCond .eq off, 3)) (kt : a = 0 → G l E K tgt lv st M) (kf : a ≠ 0 → G l E K (pc + 3) lv st M) : G l E K pc lv (.int x :: st) M := by
  subst hx
  have hb : 0 < 2 ^ 31 := by decide
  exact gs_if_eq k ht hd (fun z => kt ((nI_eq ha hb).mp z)) (fun z => kf (fun e => z ((nI_eq ha hb).mpr e)))
theorem gs_ifN_ne {l : Launch} {E : Ev} {K : Kt} {cc : ByteArray} {own : String} {d nL pc : Nat} {lv : List (Nat × Value)} {st : List Value} {M : Mm} {x : Int32} {a : Nat} {off : Int} {tgt : Nat} (k : Ok l E K cc own d nL) (hx : x = nI a) (ha : a < 2 ^ 31) (ht : (pc : Int) + off = (tgt : Int)) (hd : decode cc pc = .ok (.ifCond .ne off, 3)) (kt : a ≠ 0 → G l E K tgt lv st M) (kf : a = 0 → G l E K (pc + 3) lv st M) : G l E K pc lv (.int x :: st) M := by
  subst hx
  have hb : 0 < 2 ^ 31 := by decide
  exact gs_if_ne k ht hd (fun z => kt (fun e => z ((nI_eq ha hb).mpr e))) (fun z => kf ((nI_eq ha hb).mp z))
theorem gs_ialdN {l : Launch} {E : Ev} {K : Kt} {cc : ByteArray} {own : String} {d nL pc : Nat} {lv : List (Nat × Value)} {st : List Value} {M : Mm} {k0 n e : Nat} {i : Int32} (k : Ok l E K cc own d nL) (hk : k0 ∈ E.2.1) (he : ∀ r, ent E.2.2.1 E.2.2.2.1 k0 r = ai E.2.2.2.1 n r) (hi : i = nI e) (hen : e < n) (hn : n < 2 ^ 31) (hd : decode cc pc = .ok (.iaload, 1)) (h : G l E K (pc + 1) lv (.int (M k0 e) :: st) M) : G l E K pc lv (.int i :: .ref (E.2.2.1 k0) :: st) M := by
  subst hi
  refine gs_iald k hk he (vp_in_nI hen hn) hd ?_
  rw [nI_clamp (by omega)]; exact h
theorem gs_baldN {l : Launch} {E : Ev} {K : Kt} {cc : ByteArray} {own : String} {d nL pc : Nat} {lv : List (Nat × Value)} {st : List Value} {M : Mm} {k0 n e : Nat} {i : Int32} (k : Ok l E K cc own d nL) (hk : k0 ∈ E.2.1) (he : ∀ r, ent E.2.2.1 E.2.2.2.1 k0 r = ab E.2.2.2.1 n r) (hi : i = nI e) (hen : e < n) (hn : n < 2 ^ 31) (hd : decode cc pc = .ok (.baload, 1)) (h : G l E K (pc + 1) lv (.int (M k0 e) :: st) M) : G l E K pc lv (.int i :: .ref (E.2.2.1 k0) :: st) M := by
  subst hi
  refine gs_bald k hk he (vp_in_nI hen hn) hd ?_
  rw [nI_clamp (by omega)]; exact h
theorem gs_iastN {l : Launch} {E : Ev} {K : Kt} {cc : ByteArray} {own : String} {d nL pc : Nat} {lv : List (Nat × Value)} {st : List Value} {M : Mm} {k0 n e : Nat} {i x : Int32} (k : Ok l E K cc own d nL) (hk : k0 ∈ E.2.1) (he : ∀ r, ent E.2.2.1 E.2.2.2.1 k0 r = ai E.2.2.2.1 n r) (hi : i = nI e) (hen : e < n) (hn : n < 2 ^ 31) (hd : decode cc pc = .ok (.iastore, 1)) (h : G l E K (pc + 1) lv st (mw M k0 e x)) : G l E K pc lv (.int x :: .int i :: .ref (E.2.2.1 k0) :: st) M := by
  subst hi
  refine gs_iast k hk he (vp_in_nI hen hn) hd ?_
  rw [nI_clamp (by omega)]; exact h
theorem gs_bastN {l : Launch} {E : Ev} {K : Kt} {cc : ByteArray} {own : String} {d nL pc : Nat} {lv : List (Nat × Value)} {st : List Value} {M : Mm} {k0 n e : Nat} {i x x' : Int32} (k : Ok l E K cc own d nL) (hk : k0 ∈ E.2.1) (he : ∀ r, ent E.2.2.1 E.2.2.2.1 k0 r = ab E.2.2.2.1 n r) (hi : i = nI e) (hen : e < n) (hn : n < 2 ^ 31) (hx' : vp_nar .byte x = x') (hd : decode cc pc = .ok (.bastore, 1)) (h : G l E K (pc + 1) lv st (mw M k0 e x')) : G l E K pc lv (.int x :: .int i :: .ref (E.2.2.1 k0) :: st) M := by
  subst hi
  refine gs_bast k hk he (vp_in_nI hen hn) hx' hd ?_
  rw [nI_clamp (by omega)]; exact h
theorem gs_aaldSN {l : Launch} {E : Ev} {K : Kt} {cc : ByteArray} {own : String} {d nL pc : Nat} {lv : List (Nat × Value)} {st : List Value} {M : Mm} {k0 n e a : Nat} {g : Nat → Option Nat} {i : Int32} (k : Ok l E K cc own d nL) (hk : k0 ∈ E.2.1) (he : ∀ r, ent E.2.2.1 E.2.2.2.1 k0 r = ag (E.2.2.2.1 2) n g) (hi : i = nI e) (hen : e < n) (hn : n < 2 ^ 31) (hg : g e = some a) (hd : decode cc pc = .ok (.aaload, 1)) (h : G l E K (pc + 1) lv (.ref a :: st) M) : G l E K pc lv (.int i :: .ref (E.2.2.1 k0) :: st) M := by
  subst hi
  exact gs_aaldS k hk he (vp_in_nI hen hn) (by rw [nI_clamp (by omega)]; exact hg) hd h
theorem gs_aaldNN {l : Launch} {E : Ev} {K : Kt} {cc : ByteArray} {own : String} {d nL pc : Nat} {lv : List (Nat × Value)} {st : List Value} {M : Mm} {k0 n e a : Nat} {g : Nat → Option Nat} {i : Int32} (k : Ok l E K cc own d nL) (hk : k0 ∈ E.2.1) (he : ∀ r, ent E.2.2.1 E.2.2.2.1 k0 r = ag (E.2.2.2.1 3) n g) (hi : i = nI e) (hen : e < n) (hn : n < 2 ^ 31) (hg : g e = some a) (hd : decode cc pc = .ok (.aaload, 1)) (h : G l E K (pc + 1) lv (.ref a :: st) M) : G l E K pc lv (.int i :: .ref (E.2.2.1 k0) :: st) M := by
  subst hi
  exact gs_aaldN k hk he (vp_in_nI hen hn) (by rw [nI_clamp (by omega)]; exact hg) hd h
theorem gs_aaldIN {l : Launch} {E : Ev} {K : Kt} {cc : ByteArray} {own : String} {d nL pc : Nat} {lv : List (Nat × Value)} {st : List Value} {M : Mm} {k0 n e a : Nat} {g : Nat → Option Nat} {i : Int32} (k : Ok l E K cc own d nL) (hk : k0 ∈ E.2.1) (he : ∀ r, ent E.2.2.1 E.2.2.2.1 k0 r = ag (E.2.2.2.1 4) n g) (hi : i = nI e) (hen : e < n) (hn : n < 2 ^ 31) (hg : g e = some a) (hd : decode cc pc = .ok (.aaload, 1)) (h : G l E K (pc + 1) lv (.ref a :: st) M) : G l E K pc lv (.int i :: .ref (E.2.2.1 k0) :: st) M := by
  subst hi
  exact gs_aaldI k hk he (vp_in_nI hen hn) (by rw [nI_clamp (by omega)]; exact hg) hd h
/-! loops: a state is carried up from i to N by f; a search that ends at the first B -/
def lp {σ : Type} (f : Nat → σ → σ) : Nat → Nat → σ → σ
  | 0, _, s => s
  | n + 1, i, s => lp f n (i + 1) (f i s)
theorem lp_end {σ : Type} (f : Nat → σ → σ) : ∀ (n i : Nat) (s : σ), lp f (n + 1) i s = f (i + n) (lp f n i s) := by
  intro n
  induction n with
  | zero => intro i s; rfl
  | succ n ih =>
    intro i s
    show lp f (n + 1) (i + 1) (f i s) = f (i + (n + 1)) (lp f n (i + 1) (f i s))
    rw [ih (i + 1) (f i s), show i + 1 + n = i + (n + 1) by omega]
theorem lp_congr {σ : Type} {f g : Nat → σ → σ} : ∀ (n i : Nat) (s : σ), (∀ j s, i ≤ j → j < i + n → f j s = g j s) → lp f n i s = lp g n i s := by
  intro n
  induction n with
  | zero => intro i s _; rfl
  | succ n ih =>
    intro i s h
    show lp f n (i + 1) (f i s) = lp g n (i + 1) (g i s)
    rw [h i s (Nat.le_refl _) (by omega), ih (i + 1) _ (fun j s h1 h2 => h j s (by omega) (by omega))]
theorem for_up {σ : Type} (F : Nat → σ → Prop) (f : Nat → σ → σ) (N : Nat) (hs : ∀ i s, i < N → (∀ s', s' = f i s → F (i + 1) s') → F i s) : ∀ (k i : Nat) (s : σ), i + k = N → F N (lp f k i s) → F i s := by
  intro k
  induction k with
  | zero => intro i s h hF; rw [show i = N by omega]; exact hF
  | succ k ih => intro i s h hF; exact hs i s (by omega) (fun s' e => ih (i + 1) s' (by omega) (by rw [e]; exact hF))
/-- with an invariant -/
theorem for_inv {σ : Type} (F : Nat → σ → Prop) (J : Nat → σ → Prop) (N : Nat) (hs : ∀ i s, i < N → J i s → (∀ s', J (i + 1) s' → F (i + 1) s') → F i s) (he : ∀ s, J N s → F N s) : ∀ (k i : Nat) (s : σ), i + k = N → J i s → F i s := by
  intro k
  induction k with
  | zero => intro i s h hJ; have e : i = N := by omega
            subst e; exact he s hJ
  | succ k ih => intro i s h hJ; exact hs i s (by omega) hJ (fun s' h' => ih (i + 1) s' (by omega) h')
theorem for_sr (F : Nat → Prop) (B : Nat → Prop) (N : Nat) (hs : ∀ i, i < N → (∀ j, j < i → ¬ B j) → (¬ B i → F (i + 1)) → F i) (he : (∀ j, j < N → ¬ B j) → F N) : ∀ (k i : Nat), i + k = N → (∀ j, j < i → ¬ B j) → F i := by
  intro k
  induction k with
  | zero => intro i h hB; have e : i = N := by omega
            subst e; exact he hB
  | succ k ih => intro i h hB; exact hs i (by omega) hB (fun hb => ih (i + 1) (by omega) (fun j hj => by
      rcases Nat.lt_or_ge j i with h1 | h1
      · exact hB j h1
      · rw [show j = i by omega]; exact hb))

theorem ent_F1 {ad : Nat → Nat} {cA : Nat → ClassId} {f : Nat} (hf : f < 6) (r : Nat → Int32) : ent ad cA (10 + 2 * f) r = .inr (3, [.int (r 0), .ref (ad (11 + 2 * f))]) :=
  match f, hf with
  | 0, _ => rfl
  | 1, _ => rfl
  | 2, _ => rfl
  | 3, _ => rfl
  | 4, _ => rfl
  | 5, _ => rfl
  | f + 6, h => absurd h (by omega)
theorem ent_V1 {ad : Nat → Nat} {cA : Nat → ClassId} {f : Nat} (hf : f < 6) (r : Nat → Int32) : ent ad cA (11 + 2 * f) r = ai cA 64 r :=
  match f, hf with
  | 0, _ => rfl
  | 1, _ => rfl
  | 2, _ => rfl
  | 3, _ => rfl
  | 4, _ => rfl
  | 5, _ => rfl
  | f + 6, h => absurd h (by omega)
theorem ent_F22 {ad : Nat → Nat} {cA : Nat → ClassId} {f : Nat} (hf : f < 6) (r : Nat → Int32) : ent ad cA (31 + 2 * f) r = .inr (3, [.int (r 0), .ref (ad (32 + 2 * f))]) :=
  match f, hf with
  | 0, _ => rfl
  | 1, _ => rfl
  | 2, _ => rfl
  | 3, _ => rfl
  | 4, _ => rfl
  | 5, _ => rfl
  | f + 6, h => absurd h (by omega)
theorem ent_V22 {ad : Nat → Nat} {cA : Nat → ClassId} {f : Nat} (hf : f < 6) (r : Nat → Int32) : ent ad cA (32 + 2 * f) r = ai cA 64 r :=
  match f, hf with
  | 0, _ => rfl
  | 1, _ => rfl
  | 2, _ => rfl
  | 3, _ => rfl
  | 4, _ => rfl
  | 5, _ => rfl
  | f + 6, h => absurd h (by omega)
theorem ent_L {ad : Nat → Nat} {cA : Nat → ClassId} {f : Nat} (hf : f < 4) (r : Nat → Int32) : ent ad cA (44 + 2 * f) r = .inr (0, [.int (r 0), .ref (ad (45 + 2 * f))]) :=
  match f, hf with
  | 0, _ => rfl
  | 1, _ => rfl
  | 2, _ => rfl
  | 3, _ => rfl
  | f + 4, h => absurd h (by omega)
theorem ent_LN {ad : Nat → Nat} {cA : Nat → ClassId} {f : Nat} (hf : f < 4) (r : Nat → Int32) : ent ad cA (45 + 2 * f) r = ai cA 64 r :=
  match f, hf with
  | 0, _ => rfl
  | 1, _ => rfl
  | 2, _ => rfl
  | 3, _ => rfl
  | f + 4, h => absurd h (by omega)
theorem ent_RV {ad : Nat → Nat} {cA : Nat → ClassId} {f : Nat} (hf : f < 6) (r : Nat → Int32) : ent ad cA (74 + f) r = ai cA 64 r :=
  match f, hf with
  | 0, _ => rfl
  | 1, _ => rfl
  | 2, _ => rfl
  | 3, _ => rfl
  | 4, _ => rfl
  | 5, _ => rfl
  | f + 6, h => absurd h (by omega)
theorem ent_RL {ad : Nat → Nat} {cA : Nat → ClassId} {f : Nat} (hf : f < 4) (r : Nat → Int32) : ent ad cA (89 + f) r = ai cA 64 r :=
  match f, hf with
  | 0, _ => rfl
  | 1, _ => rfl
  | 2, _ => rfl
  | 3, _ => rfl
  | f + 4, h => absurd h (by omega)
theorem ent_KR {ad : Nat → Nat} {cA : Nat → ClassId} {f : Nat} (hf : f < 7) (r : Nat → Int32) : ent ad cA (94 + f) r = ai cA 36 r :=
  match f, hf with
  | 0, _ => rfl
  | 1, _ => rfl
  | 2, _ => rfl
  | 3, _ => rfl
  | 4, _ => rfl
  | 5, _ => rfl
  | 6, _ => rfl
  | f + 7, h => absurd h (by omega)
theorem ent_KV {ad : Nat → Nat} {cA : Nat → ClassId} {f : Nat} (hf : f < 6) (r : Nat → Int32) : ent ad cA (102 + f) r = ai cA 64 r :=
  match f, hf with
  | 0, _ => rfl
  | 1, _ => rfl
  | 2, _ => rfl
  | 3, _ => rfl
  | 4, _ => rfl
  | 5, _ => rfl
  | f + 6, h => absurd h (by omega)
