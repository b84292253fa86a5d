/-! calls -/
def CF (y : MethodName) (cc : ByteArray) (maxL : Nat) (ret : Option FieldType) (n : Nat) : Prop := Cond.code y cc maxL ret ∈ wsT ∧ Cond.initialized y.cls ∈ wsT ∧ maxL ≤ 41 ∧ (y.cls ≠ "java/lang/invoke/MethodHandle" ∧ y.cls ≠ "java/lang/invoke/VarHandle" ∧ (parseMethodDescriptor y.desc).map (fun d => d.parameters.length) = some n)
theorem cf_len {y : MethodName} {n : Nat} (h : (parseMethodDescriptor y.desc).map (fun d => d.parameters.length) = some n) : ∀ sig, parseMethodDescriptor y.desc = some sig → n = sig.parameters.length := fun sig e => by
  rw [e] at h
  exact (Option.some.inj h).symm
def pI (v : Int32) (M1 : Mm) : Option Value → Mm → Prop := fun r M' => r = some (.int v) ∧ M' = M1
def pL (v : Int64) (M1 : Mm) : Option Value → Mm → Prop := fun r M' => r = some (.long v) ∧ M' = M1
def pA (a : Nat) (M1 : Mm) : Option Value → Mm → Prop := fun r M' => r = some (.ref a) ∧ M' = M1
def pV (M1 : Mm) : Option Value → Mm → Prop := fun r M' => r = none ∧ M' = M1
def pB (P : Prop) (M1 : Mm) : Option Value → Mm → Prop := fun r M' => ((P ∧ r = some (.int 1)) ∨ (¬ P ∧ r = some (.int 0))) ∧ M' = M1
theorem pB1 {P : Prop} {M : Mm} (h : P) : pB P M (some (.int 1)) M := ⟨Or.inl ⟨h, rfl⟩, rfl⟩
theorem pB0 {P : Prop} {M : Mm} (h : ¬ P) : pB P M (some (.int 0)) M := ⟨Or.inr ⟨h, rfl⟩, rfl⟩
theorem ppI {l : Launch} {E : Ev} {K : Kt} {pc : Nat} {lv : List (Nat × Value)} {st : List Value} {v : Int32} {M1 : Mm} (h : G l E K pc lv (.int v :: st) M1) : ∀ r M', pI v M1 r M' → G l E K pc lv (r.toList ++ st) M' := fun r M' hp => by
  obtain ⟨rfl, rfl⟩ := hp
  exact h
theorem ppL {l : Launch} {E : Ev} {K : Kt} {pc : Nat} {lv : List (Nat × Value)} {st : List Value} {v : Int64} {M1 : Mm} (h : G l E K pc lv (.long v :: st) M1) : ∀ r M', pL v M1 r M' → G l E K pc lv (r.toList ++ st) M' := fun r M' hp => by
  obtain ⟨rfl, rfl⟩ := hp
  exact h
theorem ppA {l : Launch} {E : Ev} {K : Kt} {pc : Nat} {lv : List (Nat × Value)} {st : List Value} {v : Nat} {M1 : Mm} (h : G l E K pc lv (.ref v :: st) M1) : ∀ r M', pA v M1 r M' → G l E K pc lv (r.toList ++ st) M' := fun r M' hp => by
  obtain ⟨rfl, rfl⟩ := hp
  exact h
theorem ppV {l : Launch} {E : Ev} {K : Kt} {pc : Nat} {lv : List (Nat × Value)} {st : List Value} {M1 : Mm} (h : G l E K pc lv st M1) : ∀ r M', pV M1 r M' → G l E K pc lv (r.toList ++ st) M' := fun r M' hp => by
  obtain ⟨rfl, rfl⟩ := hp
  exact h
theorem ppB {l : Launch} {E : Ev} {K : Kt} {pc : Nat} {lv : List (Nat × Value)} {st : List Value} {P : Prop} {M1 : Mm} (h1 : P → G l E K pc lv (.int 1 :: st) M1) (h0 : ¬ P → G l E K pc lv (.int 0 :: st) M1) : ∀ r M', pB P M1 r M' → G l E K pc lv (r.toList ++ st) M' := fun r M' hp => by
  obtain ⟨h, rfl⟩ := hp
  rcases h with ⟨h, rfl⟩ | ⟨h, rfl⟩
  · exact h1 h
  · exact h0 h
theorem gs_callV {l : Launch} {E : Ev} {K : Kt} {cc : ByteArray} {own : String} {d nL pc : Nat} {lv : List (Nat × Value)} {st : List Value} {M : Mm} {y : MethodName} {bytes : ByteArray} {maxL : Nat} {ret : Option FieldType} {d' n index : Nat} {As stk : List Value} {post : Option Value → Mm → Prop} {k0 ci N : Nat} {T : u_T} {fs : List Value} (k : Ok l E K cc own d nL) (hC : Cm l E y bytes maxL ret d' (.ref (E.2.2.1 k0) :: As) M post) (cf : CF y bytes maxL ret n) (hi : Cond.instanceMethod y ∈ wsT) (hs : Cond.selects y.cls y y ∈ wsT) (hlink : Cond.methodLink own index y ∈ wsT) (hk : k0 ∈ E.2.1) (he : ent E.2.2.1 E.2.2.2.1 k0 (M k0) = .inr (ci, fs)) (hc : vwCl[ci]? = some (y.cls, T, N)) (hdd : d' < d) (hn : As.length = n) (hstk : stk = As.reverse ++ .ref (E.2.2.1 k0) :: st) (hroom : (st.map fun v => v.category).sum ≤ 8) (hd : decode cc pc = .ok (.invokevirtual index, 3)) (h : ∀ r M', post r M' → G l E K (pc + 3) lv (r.toList ++ st) M') : G l E K pc lv stk M := by
  obtain ⟨⟨p, e, R, s, m, args⟩, ⟨below, meth, c, cells, slots⟩, ⟨Q, A, nL'⟩⟩ := K
  obtain ⟨hx, hb, hml, hnl, hown, hts, hK, hA, hin, hfr, hlo, hce, hsl⟩ := id k
  subst hnl
  intro H locs ls hl hP hD hS
  subst hstk
  obtain ⟨c1, c2, c3, c4, c5, c6⟩ := cf
  obtain ⟨q, -, hq⟩ := wlist_get (M := M) hk
  rw [he] at hq
  have hrun := va_runV (p := p) (e := e) (R := R) (below := below) (meth := meth) (locs := locs) (cells := cells) (slots := slots) (As := As) (rest := st) (g := F0 m pc ls (As.reverse ++ .ref (E.2.2.1 k0) :: st)) (C := y.cls) (bytes := bytes) (maxL := maxL) (ret := ret) (n := n) (index := index) ⟨hx, hb, hml, hown, hts⟩ hC ⟨⟨rfl, rfl, Nat.le_trans hdd hfr, by show 8 + (maxL + 11) + 60 * d' ≤ R.locals; have := c3; omega, pay_in hts (ws_goodC c1), List.mem_cons_self, hts _ c1, hts _ c2, ⟨c4, c5⟩, cf_len c6, hts _ hlink⟩, hts _ hi, hts _ hs⟩ ⟨StW.blind, va_recv hK hP hc hq, fun U hU hW => ⟨rfl, stw_end hP hK hD hA hS hin hU hW⟩⟩ rfl hn hl.1 rfl (lv_room hroom) hd ⟨hce, hsl⟩
  intro Tt hT X
  obtain ⟨v, st₀, t, T', L, h0, X', hL, e1, e2, ⟨⟨r, M', hv, hp, hP', hK', hD', hA'⟩, hz, hkk⟩, stp⟩ := hrun Tt hT X
  cases hv
  rw [h0] at hz hkk
  have hD1 : va_D A (wlist E M') := ⟨hD'.1, fun k q hq => hin q.1 ((inW_A hD').2 k q hq)⟩
  have hS1 : va_S A s.heap T'.heap (locs ++ L) := ⟨Nat.le_trans hS.1 (by rw [e1]; exact hz), fun q h1 h2 => by rw [e1, hkk q (Nat.lt_of_lt_of_le h1 hS.1) (fun z => h2 (hin q z))]; exact hS.2.1 q h1 h2, fun q hq => by
    rcases List.mem_append.mp hq with h | h
    · exact hS.2.2 q h
    · exact hin _ (hL q h)⟩
  obtain ⟨t2, a1, b1⟩ := h v M' hp T'.heap (locs ++ L) ls hl (by rw [e1]; exact hP') hD1 hS1 T' rfl X'
  exact ⟨t2, stp t2 a1, b1⟩
theorem gs_callS {l : Launch} {E : Ev} {K : Kt} {cc : ByteArray} {own : String} {d nL pc : Nat} {lv : List (Nat × Value)} {st : List Value} {M : Mm} {y : MethodName} {bytes : ByteArray} {maxL : Nat} {ret : Option FieldType} {d' n index : Nat} {As stk : List Value} {post : Option Value → Mm → Prop} (k : Ok l E K cc own d nL) (hC : Cm l E y bytes maxL ret d' As M post) (cf : CF y bytes maxL ret n) (hs : Cond.static y ∈ wsT) (hlink : Cond.methodLink own index y ∈ wsT) (hdd : d' < d) (hn : As.length = n) (hstk : stk = As.reverse ++ st) (hroom : (st.map fun v => v.category).sum ≤ 8) (hd : decode cc pc = .ok (.invokestatic index, 3)) (h : ∀ r M', post r M' → G l E K (pc + 3) lv (r.toList ++ st) M') : G l E K pc lv stk M := by
  obtain ⟨⟨p, e, R, s, m, args⟩, ⟨below, meth, c, cells, slots⟩, ⟨Q, A, nL'⟩⟩ := K
  obtain ⟨hx, hb, hml, hnl, hown, hts, hK, hA, hin, hfr, hlo, hce, hsl⟩ := id k
  subst hnl
  intro H locs ls hl hP hD hS
  subst hstk
  obtain ⟨c1, c2, c3, c4, c5, c6⟩ := cf
  have hrun := va_runS (p := p) (e := e) (R := R) (below := below) (meth := meth) (locs := locs) (cells := cells) (slots := slots) (As := As) (rest := st) (g := F0 m pc ls (As.reverse ++ st)) (bytes := bytes) (maxL := maxL) (ret := ret) (n := n) (index := index) ⟨hx, hb, hml, hown, hts⟩ hC ⟨⟨rfl, rfl, Nat.le_trans hdd hfr, by show 8 + (maxL + 11) + 60 * d' ≤ R.locals; have := c3; omega, pay_in hts (ws_goodC c1), List.mem_cons_self, hts _ c1, hts _ c2, ⟨c4, c5⟩, cf_len c6, hts _ hlink⟩, hts _ hs⟩ ⟨StW.blind, fun U hU hW => ⟨rfl, stw_end hP hK hD hA hS hin hU hW⟩⟩ rfl hn hl.1 rfl (lv_room hroom) hd ⟨hce, hsl⟩
  intro Tt hT X
  obtain ⟨v, st₀, t, T', L, h0, X', hL, e1, e2, ⟨⟨r, M', hv, hp, hP', hK', hD', hA'⟩, hz, hkk⟩, stp⟩ := hrun Tt hT X
  cases hv
  rw [h0] at hz hkk
  have hD1 : va_D A (wlist E M') := ⟨hD'.1, fun k q hq => hin q.1 ((inW_A hD').2 k q hq)⟩
  have hS1 : va_S A s.heap T'.heap (locs ++ L) := ⟨Nat.le_trans hS.1 (by rw [e1]; exact hz), fun q h1 h2 => by rw [e1, hkk q (Nat.lt_of_lt_of_le h1 hS.1) (fun z => h2 (hin q z))]; exact hS.2.1 q h1 h2, fun q hq => by
    rcases List.mem_append.mp hq with h | h
    · exact hS.2.2 q h
    · exact hin _ (hL q h)⟩
  obtain ⟨t2, a1, b1⟩ := h v M' hp T'.heap (locs ++ L) ls hl (by rw [e1]; exact hP') hD1 hS1 T' rfl X'
  exact ⟨t2, stp t2 a1, b1⟩
theorem gs_callH3 {l : Launch} {E : Ev} {K : Kt} {cc : ByteArray} {d nL pc : Nat} {lv : List (Nat × Value)} {st : List Value} {M : Mm} {bytes : ByteArray} {maxL : Nat} {ret : Option FieldType} {d' n : Nat} {As stk : List Value} {post : Option Value → Mm → Prop} (k : Ok l E K cc RX3 d nL) (hC : Cm l E yX6_holds bytes maxL ret d' As M post) (cf : CF yX6_holds bytes maxL ret n) (hs : Cond.static yX6_holds ∈ wsT) (hdd : d' < d) (hn : As.length = n) (hstk : stk = As.reverse ++ st) (hroom : (st.map fun v => v.category).sum ≤ 8) (hd : decode cc pc = .ok (.invokestatic 35, 3)) (h : ∀ r M', post r M' → G l E K (pc + 3) lv (r.toList ++ st) M') : G l E K pc lv stk M := by
  obtain ⟨⟨p, e, R, s, m, args⟩, ⟨below, meth, c, cells, slots⟩, ⟨Q, A, nL'⟩⟩ := K
  obtain ⟨hx, hb, hml, hnl, hown, hts, hK, hA, hin, hfr, hlo, hce, hsl⟩ := id k
  subst hnl
  intro H locs ls hl hP hD hS
  subst hstk
  obtain ⟨c1, c2, c3, c4, c5, c6⟩ := cf
  have hrun := va_runSN (p := p) (e := e) (R := R) (below := below) (meth := meth) (locs := locs) (cells := cells) (slots := slots) (As := As) (rest := st) (g := F0 m pc ls (As.reverse ++ st)) (bytes := bytes) (maxL := maxL) (ret := ret) (n := n) (index := 35) (host := RX6) ⟨hx, hb, hml, hown, hts⟩ hC ⟨⟨⟨rfl, rfl, Nat.le_trans hdd hfr, by show 8 + (maxL + 11) + 60 * d' ≤ R.locals; have := c3; omega, pay_in hts (ws_goodC c1), List.mem_cons_self⟩, hts _ c1, hts _ c2, ⟨c4, c5⟩, cf_len c6, va_Nw.use rfl hA.1.1⟩, hts _ hs, trivial⟩ ⟨StW.blind, fun U hU hW => ⟨rfl, stw_end hP hK hD hA hS hin hU hW⟩⟩ rfl hn hl.1 rfl (lv_room hroom) hd ⟨hce, hsl⟩
  intro Tt hT X
  obtain ⟨v, st₀, t, T', L, h0, X', hL, e1, e2, ⟨⟨r, M', hv, hp, hP', hK', hD', hA'⟩, hz, hkk⟩, stp⟩ := hrun Tt hT X
  cases hv
  rw [h0] at hz hkk
  have hD1 : va_D A (wlist E M') := ⟨hD'.1, fun k q hq => hin q.1 ((inW_A hD').2 k q hq)⟩
  have hS1 : va_S A s.heap T'.heap (locs ++ L) := ⟨Nat.le_trans hS.1 (by rw [e1]; exact hz), fun q h1 h2 => by rw [e1, hkk q (Nat.lt_of_lt_of_le h1 hS.1) (fun z => h2 (hin q z))]; exact hS.2.1 q h1 h2, fun q hq => by
    rcases List.mem_append.mp hq with h | h
    · exact hS.2.2 q h
    · exact hin _ (hL q h)⟩
  obtain ⟨t2, a1, b1⟩ := h v M' hp T'.heap (locs ++ L) ls hl (by rw [e1]; exact hP') hD1 hS1 T' rfl X'
  exact ⟨t2, stp t2 a1, b1⟩
theorem gs_callH5 {l : Launch} {E : Ev} {K : Kt} {cc : ByteArray} {d nL pc : Nat} {lv : List (Nat × Value)} {st : List Value} {M : Mm} {bytes : ByteArray} {maxL : Nat} {ret : Option FieldType} {d' n : Nat} {As stk : List Value} {post : Option Value → Mm → Prop} (k : Ok l E K cc RX5 d nL) (hC : Cm l E yX6_holds bytes maxL ret d' As M post) (cf : CF yX6_holds bytes maxL ret n) (hs : Cond.static yX6_holds ∈ wsT) (hdd : d' < d) (hn : As.length = n) (hstk : stk = As.reverse ++ st) (hroom : (st.map fun v => v.category).sum ≤ 8) (hd : decode cc pc = .ok (.invokestatic 88, 3)) (h : ∀ r M', post r M' → G l E K (pc + 3) lv (r.toList ++ st) M') : G l E K pc lv stk M := by
  obtain ⟨⟨p, e, R, s, m, args⟩, ⟨below, meth, c, cells, slots⟩, ⟨Q, A, nL'⟩⟩ := K
  obtain ⟨hx, hb, hml, hnl, hown, hts, hK, hA, hin, hfr, hlo, hce, hsl⟩ := id k
  subst hnl
  intro H locs ls hl hP hD hS
  subst hstk
  obtain ⟨c1, c2, c3, c4, c5, c6⟩ := cf
  have hrun := va_runSN (p := p) (e := e) (R := R) (below := below) (meth := meth) (locs := locs) (cells := cells) (slots := slots) (As := As) (rest := st) (g := F0 m pc ls (As.reverse ++ st)) (bytes := bytes) (maxL := maxL) (ret := ret) (n := n) (index := 88) (host := RX6) ⟨hx, hb, hml, hown, hts⟩ hC ⟨⟨⟨rfl, rfl, Nat.le_trans hdd hfr, by show 8 + (maxL + 11) + 60 * d' ≤ R.locals; have := c3; omega, pay_in hts (ws_goodC c1), List.mem_cons_self⟩, hts _ c1, hts _ c2, ⟨c4, c5⟩, cf_len c6, va_Nw.use rfl hA.1.2⟩, hts _ hs, trivial⟩ ⟨StW.blind, fun U hU hW => ⟨rfl, stw_end hP hK hD hA hS hin hU hW⟩⟩ rfl hn hl.1 rfl (lv_room hroom) hd ⟨hce, hsl⟩
  intro Tt hT X
  obtain ⟨v, st₀, t, T', L, h0, X', hL, e1, e2, ⟨⟨r, M', hv, hp, hP', hK', hD', hA'⟩, hz, hkk⟩, stp⟩ := hrun Tt hT X
  cases hv
  rw [h0] at hz hkk
  have hD1 : va_D A (wlist E M') := ⟨hD'.1, fun k q hq => hin q.1 ((inW_A hD').2 k q hq)⟩
  have hS1 : va_S A s.heap T'.heap (locs ++ L) := ⟨Nat.le_trans hS.1 (by rw [e1]; exact hz), fun q h1 h2 => by rw [e1, hkk q (Nat.lt_of_lt_of_le h1 hS.1) (fun z => h2 (hin q z))]; exact hS.2.1 q h1 h2, fun q hq => by
    rcases List.mem_append.mp hq with h | h
    · exact hS.2.2 q h
    · exact hin _ (hL q h)⟩
  obtain ⟨t2, a1, b1⟩ := h v M' hp T'.heap (locs ++ L) ls hl (by rw [e1]; exact hP') hD1 hS1 T' rfl X'
  exact ⟨t2, stp t2 a1, b1⟩
def imin (x y : Int32) : Int32 := if y < x then y else x
def iabs (x : Int32) : Int32 := if 0 ≤ x then x else 0 - x
theorem gs_min {l : Launch} {E : Ev} {K : Kt} {cc : ByteArray} {own : String} {d nL pc : Nat} {lv : List (Nat × Value)} {st : List Value} {M : Mm} {index : Nat} {x y : Int32} (k : Ok l E K cc own d nL) (hlink : Cond.methodLink own index Lib.Math.min.name ∈ wsT) (h1 : 1 ≤ d) (hroom : (st.map fun v => v.category).sum ≤ 8) (hd : decode cc pc = .ok (.invokestatic index, 3)) (h : G l E K (pc + 3) lv (.int (imin x y) :: st) M) : G l E K pc lv (.int y :: .int x :: st) M := by
  obtain ⟨⟨p, e, R, s, m, args⟩, ⟨below, meth, c, cells, slots⟩, ⟨Q, A, nL'⟩⟩ := K
  obtain ⟨hx, hb, hml, hnl, hown, hts, hK, hA, hin, hfr, hlo, hce, hsl⟩ := id k
  subst hnl
  intro H locs ls hl hP hD hS
  exact va_mmin hx hb (hml.trans hl.1.symm) hown (hts _ hlink) (hts _ sm_Lib_Math_min) (hts _ iz_J9) (hts _ cd_Lib_Math_min) (by omega) (by omega) hce hsl hd (h H locs ls hl hP hD hS)
theorem gs_abs {l : Launch} {E : Ev} {K : Kt} {cc : ByteArray} {own : String} {d nL pc : Nat} {lv : List (Nat × Value)} {st : List Value} {M : Mm} {index : Nat} {x : Int32} (k : Ok l E K cc own d nL) (hlink : Cond.methodLink own index Lib.Math.abs.name ∈ wsT) (h1 : 1 ≤ d) (hroom : (st.map fun v => v.category).sum ≤ 8) (hd : decode cc pc = .ok (.invokestatic index, 3)) (h : G l E K (pc + 3) lv (.int (iabs x) :: st) M) : G l E K pc lv (.int x :: st) M := by
  obtain ⟨⟨p, e, R, s, m, args⟩, ⟨below, meth, c, cells, slots⟩, ⟨Q, A, nL'⟩⟩ := K
  obtain ⟨hx, hb, hml, hnl, hown, hts, hK, hA, hin, hfr, hlo, hce, hsl⟩ := id k
  subst hnl
  intro H locs ls hl hP hD hS
  exact va_mabs hx hb (hml.trans hl.1.symm) hown (hts _ hlink) (hts _ sm_Lib_Math_abs) (hts _ iz_J9) (hts _ cd_Lib_Math_abs) (by omega) (by omega) hce hsl hd (h H locs ls hl hP hD hS)
theorem nfw5 : nativeFrameWords "java/lang/System" "arraycopy" 5 ≤ 20 := by decide +kernel
theorem gs_copy {l : Launch} {E : Ev} {K : Kt} {cc : ByteArray} {own : String} {d nL pc : Nat} {lv : List (Nat × Value)} {st : List Value} {M : Mm} {index k0 k1 n0 n1 n : Nat} (k : Ok l E K cc own d nL) (hlink : Cond.methodLink own index arraycopyName ∈ wsT) (hk0 : k0 ∈ E.2.1) (he0 : ∀ r, ent E.2.2.1 E.2.2.2.1 k0 r = ai E.2.2.2.1 n0 r) (hk1 : k1 ∈ E.2.1) (he1 : ∀ r, ent E.2.2.1 E.2.2.2.1 k1 r = ai E.2.2.2.1 n1 r) (h1 : 1 ≤ d) (hn0 : n ≤ n0) (hn1 : n ≤ n1) (hn2 : n < 2 ^ 31) (hroom : (st.map fun v => v.category).sum ≤ 8) (hd : decode cc pc = .ok (.invokestatic index, 3)) (h : G l E K (pc + 3) lv st (rset M k1 (va_cpy (M k0) (M k1) 0 0 n))) : G l E K pc lv (.int (nI n) :: .int 0 :: .ref (E.2.2.1 k1) :: .int 0 :: .ref (E.2.2.1 k0) :: st) M := by
  obtain ⟨⟨p, e, R, s, m, args⟩, ⟨below, meth, c, cells, slots⟩, ⟨Q, A, nL'⟩⟩ := K
  obtain ⟨hx, hb, hml, hnl, hown, hts, hK, hA, hin, hfr, hlo, hce, hsl⟩ := id k
  subst hnl
  intro H locs ls hl hP hD hS
  obtain ⟨q0, hq00, hq0⟩ := wlist_get (M := M) hk0
  rw [he0] at hq0
  obtain ⟨q1, hq10, hq1⟩ := wlist_get (M := M) hk1
  rw [he1] at hq1
  have e := wlist_set (M := M) hD hq10 (he1 (va_cpy (M k0) (M k1) 0 0 n))
  have hc0 : (0 : Int32).toNatClampNeg = 0 := by decide
  have hw := nfw5
  refine va_copyi hx hb (hml.trans hl.1.symm) hown (hts _ hlink) (hts _ nm_arraycopyName) (hts _ sm_arraycopyName) (hts _ iz_J10) hK hP hD hS q0 q1 0 0 hq0 hq1 rfl rfl rfl (by decide) (by decide) (nI_pos hn2) (by rw [nI_clamp hn2, hc0]; omega) (by rw [nI_clamp hn2, hc0]; omega) (fun i _ => rfl) (by omega) (by omega) hd (fun H1 locs1 hP1 hD1 hS1 => ?_)
  rw [nI_clamp hn2, hc0] at hP1 hD1
  exact h H1 locs1 ls hl (by rw [← e]; exact hP1) (by rw [← e]; exact hD1) hS1
