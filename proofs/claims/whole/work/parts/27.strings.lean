theorem gs_getsCS {l : Launch} {E : Ev} {K : Kt} {cc : ByteArray} {own : String} {d nL pc : Nat} {lv : List (Nat × Value)} {st : List Value} {M : Mm} {index : Nat} (k : Ok l E K cc own d nL) (hlink : Cond.fieldLink own index RJ0 "COMPACT_STRINGS" "Z" ∈ wsT) (hd : decode cc pc = .ok (.getstatic index, 3)) (h : G l E K (pc + 3) lv (.int 1 :: st) M) : G l E K pc lv st M := by
  obtain ⟨⟨p, e9, R, s, m, args⟩, ⟨below, meth, c, cells, slots⟩, ⟨Q, A, nL'⟩⟩ := K
  obtain ⟨hx, hb, hml, hnl, hown, hts, hK, hA, hin, hfr, hlo, hce, hsl⟩ := id k
  subst hnl
  intro H locs ls hl hP hD hS
  exact va_gets hx hb hA.2.2.2.1.1 hS hown (hts _ hlink) (fun x h9 => h9) hd (h H locs ls hl hP hD hS)
theorem gs_getsSI {l : Launch} {E : Ev} {K : Kt} {cc : ByteArray} {own : String} {d nL pc : Nat} {lv : List (Nat × Value)} {st : List Value} {M : Mm} {index : Nat} (k : Ok l E K cc own d nL) (hlink : Cond.fieldLink own index RJ3 "SIOOBE_FORMATTER" "Ljava/util/function/BiFunction;" ∈ wsT) (hd : decode cc pc = .ok (.getstatic index, 3)) (h : ∀ v : Value, (v = .null ∨ ∃ a, v = .ref a) → G l E K (pc + 3) lv (v :: st) M) : G l E K pc lv st M := by
  obtain ⟨⟨p, e9, R, s, m, args⟩, ⟨below, meth, c, cells, slots⟩, ⟨Q, A, nL'⟩⟩ := K
  obtain ⟨hx, hb, hml, hnl, hown, hts, hK, hA, hin, hfr, hlo, hce, hsl⟩ := id k
  subst hnl
  intro H locs ls hl hP hD hS
  rcases hA.2.2.2.1.2 with hz | ⟨t, hz⟩
  · exact va_gets hx hb hz hS hown (hts _ hlink) (fun x h9 => h9) hd (h _ (Or.inl rfl) H locs ls hl hP hD hS)
  · exact va_gets hx hb hz hS hown (hts _ hlink) (fun x h9 => h9) hd (h _ (Or.inr ⟨t, rfl⟩) H locs ls hl hP hD hS)
theorem gs_scoder {l : Launch} {E : Ev} {K : Kt} {cc : ByteArray} {own : String} {d nL pc : Nat} {lv : List (Nat × Value)} {st : List Value} {M : Mm} {index i : Nat} (k : Ok l E K cc own d nL) (hi : i < 11) (hlink : Cond.fieldLink own index RJ0 "coder" "B" ∈ wsT) (hd : decode cc pc = .ok (.getfield index, 3)) (h : G l E K (pc + 3) lv (.int 0 :: st) M) : G l E K pc lv (.ref (E.2.2.2.2.2.1 i) :: st) M := by
  obtain ⟨⟨p, e9, R, s, m, args⟩, ⟨below, meth, c, cells, slots⟩, ⟨Q, A, nL'⟩⟩ := K
  obtain ⟨hx, hb, hml, hnl, hown, hts, hK, hA, hin, hfr, hlo, hce, hsl⟩ := id k
  subst hnl
  intro H locs ls hl hP hD hS
  exact vk_getf hx hb (hA.2.2.2.2.1.1 i hi).2.1 hS hown (hts _ hlink) (fun x h9 => h9) hd (h H locs ls hl hP hD hS)
theorem gs_svalue {l : Launch} {E : Ev} {K : Kt} {cc : ByteArray} {own : String} {d nL pc : Nat} {lv : List (Nat × Value)} {st : List Value} {M : Mm} {index i : Nat} (k : Ok l E K cc own d nL) (hi : i < 11) (hlink : Cond.fieldLink own index RJ0 "value" "[B" ∈ wsT) (hd : decode cc pc = .ok (.getfield index, 3)) (h : G l E K (pc + 3) lv (.ref (E.2.2.2.2.2.2 i) :: st) M) : G l E K pc lv (.ref (E.2.2.2.2.2.1 i) :: st) M := by
  obtain ⟨⟨p, e9, R, s, m, args⟩, ⟨below, meth, c, cells, slots⟩, ⟨Q, A, nL'⟩⟩ := K
  obtain ⟨hx, hb, hml, hnl, hown, hts, hK, hA, hin, hfr, hlo, hce, hsl⟩ := id k
  subst hnl
  intro H locs ls hl hP hD hS
  exact vk_getf hx hb (hA.2.2.2.2.1.1 i hi).2.2.1 hS hown (hts _ hlink) (fun x h9 => h9) hd (h H locs ls hl hP hD hS)
theorem gs_slen {l : Launch} {E : Ev} {K : Kt} {cc : ByteArray} {own : String} {d nL pc : Nat} {lv : List (Nat × Value)} {st : List Value} {M : Mm} {i : Nat} (k : Ok l E K cc own d nL) (hi : i < 11) (hd : decode cc pc = .ok (.arraylength, 1)) (h : G l E K (pc + 1) lv (.int (nI (lenL.getD i 0)) :: st) M) : G l E K pc lv (.ref (E.2.2.2.2.2.2 i) :: st) M := by
  obtain ⟨⟨p, e9, R, s, m, args⟩, ⟨below, meth, c, cells, slots⟩, ⟨Q, A, nL'⟩⟩ := K
  obtain ⟨hx, hb, hml, hnl, hown, hts, hK, hA, hin, hfr, hlo, hce, hsl⟩ := id k
  subst hnl
  intro H locs ls hl hP hD hS
  exact va_tlen hx hb (hA.2.2.2.2.1.1 i hi).2.2.2 hS rfl hd (h H locs ls hl hP hD hS)
def chr (i j : Nat) : Int32 := (bytL.getD i []).getD j 0
theorem gs_sbald {l : Launch} {E : Ev} {K : Kt} {cc : ByteArray} {own : String} {d nL pc : Nat} {lv : List (Nat × Value)} {st : List Value} {M : Mm} {i j : Nat} {x : Int32} (k : Ok l E K cc own d nL) (hi : i < 11) (hx9 : x = nI j) (hj : j < lenL.getD i 0) (hl9 : lenL.getD i 0 < 2 ^ 31) (hd : decode cc pc = .ok (.baload, 1)) (h : G l E K (pc + 1) lv (.int (chr i j) :: st) M) : G l E K pc lv (.int x :: .ref (E.2.2.2.2.2.2 i) :: st) M := by
  obtain ⟨⟨p, e9, R, s, m, args⟩, ⟨below, meth, c, cells, slots⟩, ⟨Q, A, nL'⟩⟩ := K
  obtain ⟨hx, hb, hml, hnl, hown, hts, hK, hA, hin, hfr, hlo, hce, hsl⟩ := id k
  subst hnl
  intro H locs ls hl hP hD hS
  subst hx9
  exact va_tb hx hb (hA.2.2.2.2.1.1 i hi).2.2.2 hS (vp_in_nI hj hl9) (by show Value.int ((bytL.getD i []).getD (nI j).toNatClampNeg 0) = _; rw [nI_clamp (by omega)]; rfl) hd (h H locs ls hl hP hD hS)
theorem gs_callK {l : Launch} {E : Ev} {K : Kt} {cc : ByteArray} {own : String} {d nL pc : Nat} {lv : List (Nat × Value)} {st : List Value} {M : Mm} {y : MethodName} {bytes : ByteArray} {maxL : Nat} {ret : Option FieldType} {d' n index : Nat} {As stk : List Value} {post : Option Value → Mm → Prop} {i : Nat} (k : Ok l E K cc own d nL) (hC : Cm l E y bytes maxL ret d' (.ref (E.2.2.2.2.2.1 i) :: As) M post) (cf : CF y bytes maxL ret n) (hi : Cond.instanceMethod y ∈ wsT) (hs : Cond.selects y.cls y y ∈ wsT) (hlink : Cond.methodLink own index y ∈ wsT) (hii : i < 11) (hc : y.cls = "java/lang/String") (hdd : d' < d) (hn : As.length = n) (hstk : stk = As.reverse ++ .ref (E.2.2.2.2.2.1 i) :: st) (hroom : (st.map fun v => v.category).sum ≤ 8) (hd : decode cc pc = .ok (.invokevirtual index, 3)) (h : ∀ r M', post r M' → G l E K (pc + 3) lv (r.toList ++ st) M') : G l E K pc lv stk M := by
  obtain ⟨⟨p, e, R, s, m, args⟩, ⟨below, meth, c, cells, slots⟩, ⟨Q, A, nL'⟩⟩ := K
  obtain ⟨hx, hb, hml, hnl, hown, hts, hK, hA, hin, hfr, hlo, hce, hsl⟩ := id k
  subst hnl
  intro H locs ls hl hP hD hS
  subst hstk
  obtain ⟨c1, c2, c3, c4, c5, c6⟩ := cf
  have hrun := va_runV (p := p) (e := e) (R := R) (below := below) (meth := meth) (locs := locs) (cells := cells) (slots := slots) (As := As) (rest := st) (g := F0 m pc ls (As.reverse ++ .ref (E.2.2.2.2.2.1 i) :: st)) (C := y.cls) (bytes := bytes) (maxL := maxL) (ret := ret) (n := n) (index := index) ⟨hx, hb, hml, hown, hts⟩ hC ⟨⟨rfl, rfl, Nat.le_trans hdd hfr, by show 8 + (maxL + 11) + 60 * d' ≤ R.locals; have := c3; omega, pay_in hts (ws_goodC c1), List.mem_cons_self, hts _ c1, hts _ c2, ⟨c4, c5⟩, cf_len c6, hts _ hlink⟩, hts _ hi, hts _ hs⟩ ⟨StW.blind, (by rw [hc]; exact vk_recv hA.2.2.2.2.1 hii hS), fun U hU hW => ⟨rfl, stw_end hP hK hD hA hS hin hU hW⟩⟩ rfl hn hl.1 rfl (lv_room hroom) hd ⟨hce, hsl⟩
  intro Tt hT X
  obtain ⟨v, st₀, t, T', L, h0, X', hL, e1, e2, ⟨⟨r, M', hv, hp, hP', hK', hD', hA'⟩, hz, hkk⟩, stp⟩ := hrun Tt hT X
  cases hv
  rw [h0] at hz hkk
  have hD1 : va_D A (wlist E M') := ⟨hD'.1, fun k q hq => hin q.1 ((inW_A hD').2 k q hq)⟩
  have hS1 : va_S A s.heap T'.heap (locs ++ L) := ⟨Nat.le_trans hS.1 (by rw [e1]; exact hz), fun q h1 h2 => by rw [e1, hkk q (Nat.lt_of_lt_of_le h1 hS.1) (fun z => h2 (hin q z))]; exact hS.2.1 q h1 h2, fun q hq => by
    rcases List.mem_append.mp hq with h | h
    · exact hS.2.2 q h
    · exact hin _ (hL q h)⟩
  obtain ⟨t2, a1, b1⟩ := h v M' hp T'.heap (locs ++ L) ls hl (by rw [e1]; exact hP') hD1 hS1 T' rfl X'
  exact ⟨t2, stp t2 a1, b1⟩
theorem xs_ldcwS {p : Program} {l : Launch} {e : Env} {R : Room} {s : State} {m : MethodId} {args : Array Value} {below : List Frame} {meth : Method} {c : Code} {T : State} {locs : List Loc} {cells slots : Nat}
    (X : Stand p l e R s m args below meth c T locs cells slots) (hexec : p.tables.exec = Jvm.exec) {own text : String} {index : Nat} {a : Nat} (hown : s.vm.findClass own = some m.cls)
    (hconst : (Cond.stringRef own index text).before args s = true) (hev : (Term.string own index).eval args s none [] s = some (.ref a)) {g : JFrame} (hg : g.method = m) (hdg : decode c.code g.pc = .ok (.ldc_w index, 3)) :
    ∀ target, Steps p.tables e below (T.setTop { g with pc := g.pc + 3, stack := .ref a :: g.stack }) target → Steps p.tables e below (T.setTop g) target := by
  obtain ⟨k, cf, i, a', hk, hcf, hcp, -, hr, hev'⟩ := Cond.stringRef_spec hown hconst
  cases hev.symm.trans hev'
  obtain ⟨k', hk', he⟩ := X.warmed.alike.2.2 _ _ hk
  have hr' : k'.resolved[index]? = some (some (.string a)) := by
    rcases X.warmed.entry hk hk' index with h | ⟨h, -⟩
    · rw [h]; exact hr
    · rw [hr] at h; cases h
  intro target hrest
  subst hg
  jvm_step X.here [hexec, hdg, ldc_w.wp_string (e := e) (s := T) (f := g) X.here.top hk' (by rw [he]; exact hcf) hcp hr']
  exact hrest
theorem gs_ldcwS {l : Launch} {E : Ev} {K : Kt} {cc : ByteArray} {own : String} {d nL pc : Nat} {lv : List (Nat × Value)} {st : List Value} {M : Mm} {index i : Nat} {tx : String} (k : Ok l E K cc own d nL) (hq : (own, index, tx, i) ∈ strL) (hd : decode cc pc = .ok (.ldc_w index, 3)) (h : G l E K (pc + 3) lv (.ref (E.2.2.2.2.2.1 i) :: st) M) : G l E K pc lv st M := by
  obtain ⟨⟨p, e9, R, s, m, args⟩, ⟨below, meth, c, cells, slots⟩, ⟨Q, A, nL'⟩⟩ := K
  obtain ⟨hx, hb, hml, hnl, hown, hts, hK, hA, hin, hfr, hlo, hce, hsl⟩ := id k
  subst hnl
  intro H locs ls hl hP hD hS
  intro T hT X
  obtain ⟨t, a1, b1⟩ := h H locs ls hl hP hD hS T hT X
  have hz := hA.2.2.2.2.2 _ hq
  exact ⟨t, xs_ldcwS X hx hown (text := tx) (a := E.2.2.2.2.2.1 i) hz.1 hz.2 (g := F0 m pc ls st) rfl (by rw [hb]; exact hd) t a1, b1⟩
theorem len_ok : ∀ i, i < 11 → 3 ≤ lenL.getD i 0 ∧ lenL.getD i 0 ≤ 7 := by decide +kernel
theorem chr_ok : ∀ i, i < 11 → ∀ j, j < lenL.getD i 0 → ((chr i j &&& 255).toUInt32 % 65536).toInt32 = chr i j ∧ (chr i j).toUInt32.toUInt16.toUInt32.toInt32 = chr i j := by decide +kernel
theorem chr_nar {i j : Nat} (hi : i < 11) (hj : j < lenL.getD i 0) : narrow .char (.int (chr i j)) = .int (chr i j) := congrArg Value.int (chr_ok i hi j hj).2
theorem shr_0 {n : Nat} (h : n < 2 ^ 31) : nI n >>> ((0 : Int32) &&& 31) = nI n := (ni_shr (p := 0) h (by omega)).trans (by rw [Nat.pow_zero, Nat.div_one])
/-- the reference's words in the class's order -/
def wmL : List Nat := [0, 1, 9, 2, 3, 4, 10, 5, 6, 7, 8]
def wm (w : Nat) : Nat := wmL.getD w 0
theorem wm_lt : ∀ w, w < 11 → wm w < 11 := by decide
theorem cf_J0_isLatin1_aae02 : CF yJ0_isLatin1_aae02 cJ0_isLatin1_aae02 1 (some .boolean) 0 := ⟨cd_J0_isLatin1_aae02, iz_J0, by decide, by decide +kernel, by decide +kernel, by decide +kernel⟩
set_option maxRecDepth 100000 in
set_option maxHeartbeats 4000000 in
theorem c_J0_isLatin1_aae02 {l : Launch} {E : Ev} {M : Mm} {i : Nat} (hi : i < 11) : Cm l E yJ0_isLatin1_aae02 cJ0_isLatin1_aae02 1 (some .boolean) 0 [.ref (E.2.2.2.2.2.1 i)] M (pI 1 M) := by
  refine Cm.of (by decide) (Nat.le_of_ble_eq_true rfl) (fun K k kt => ?_)
  show G l E K 0 [(0, .ref (E.2.2.2.2.2.1 i))] [] M
  refine gs_getsCS k fl_J0_38 dJ0_isLatin1_aae02_0 ?_
  refine gs_if_eq (tgt := 17) k (by decide) dJ0_isLatin1_aae02_3 (fun h => absurd h (by decide)) (fun _ => ?_)
  refine gs_aload_n (q := 0) k rfl rfl dJ0_isLatin1_aae02_6 ?_
  refine gs_scoder (i := i) k hi fl_J0_15 dJ0_isLatin1_aae02_7 ?_
  refine gs_if_ne (tgt := 17) k (by decide) dJ0_isLatin1_aae02_10 (fun h => absurd h (by decide)) (fun _ => ?_)
  refine gs_iconst (v := 1) k (by decide) dJ0_isLatin1_aae02_13 ?_
  refine gs_goto (tgt := 18) k (by decide) dJ0_isLatin1_aae02_14 ?_
  exact gs_zret k kt (by decide) dJ0_isLatin1_aae02_18 ⟨rfl, rfl⟩

theorem cf_J0_coder_7d493 : CF yJ0_coder_7d493 cJ0_coder_7d493 1 (some .byte) 0 := ⟨cd_J0_coder_7d493, iz_J0, by decide, by decide +kernel, by decide +kernel, by decide +kernel⟩
set_option maxRecDepth 100000 in
set_option maxHeartbeats 4000000 in
theorem c_J0_coder_7d493 {l : Launch} {E : Ev} {M : Mm} {i : Nat} (hi : i < 11) : Cm l E yJ0_coder_7d493 cJ0_coder_7d493 1 (some .byte) 0 [.ref (E.2.2.2.2.2.1 i)] M (pI 0 M) := by
  refine Cm.of (by decide) (Nat.le_of_ble_eq_true rfl) (fun K k kt => ?_)
  show G l E K 0 [(0, .ref (E.2.2.2.2.2.1 i))] [] M
  refine gs_getsCS k fl_J0_38 dJ0_coder_7d493_0 ?_
  refine gs_if_eq (tgt := 13) k (by decide) dJ0_coder_7d493_3 (fun h => absurd h (by decide)) (fun _ => ?_)
  refine gs_aload_n (q := 0) k rfl rfl dJ0_coder_7d493_6 ?_
  refine gs_scoder (i := i) k hi fl_J0_15 dJ0_coder_7d493_7 ?_
  refine gs_goto (tgt := 14) k (by decide) dJ0_coder_7d493_10 ?_
  exact gs_nret k kt rfl dJ0_coder_7d493_14 ⟨rfl, rfl⟩

theorem cf_J0_length_8abf5 : CF yJ0_length_8abf5 cJ0_length_8abf5 1 (some .int) 0 := ⟨cd_J0_length_8abf5, iz_J0, by decide, by decide +kernel, by decide +kernel, by decide +kernel⟩
set_option maxRecDepth 100000 in
set_option maxHeartbeats 4000000 in
theorem c_J0_length_8abf5 {l : Launch} {E : Ev} {M : Mm} {i : Nat} (hi : i < 11) : Cm l E yJ0_length_8abf5 cJ0_length_8abf5 1 (some .int) 1 [.ref (E.2.2.2.2.2.1 i)] M (pI (nI (lenL.getD i 0)) M) := by
  refine Cm.of (by decide) (Nat.le_of_ble_eq_true rfl) (fun K k kt => ?_)
  show G l E K 0 [(0, .ref (E.2.2.2.2.2.1 i))] [] M
  have hle := len_ok i hi
  refine gs_aload_n (q := 0) k rfl rfl dJ0_length_8abf5_0 ?_
  refine gs_svalue (i := i) k hi fl_J0_9 dJ0_length_8abf5_1 ?_
  refine gs_slen (i := i) k hi dJ0_length_8abf5_4 ?_
  refine gs_aload_n (q := 0) k rfl rfl dJ0_length_8abf5_5 ?_
  refine gs_callK (i := i) (As := []) k (c_J0_coder_7d493 hi) cf_J0_coder_7d493 im_J0_coder_7d493 sl_J0_coder_7d493 ml_J0_335 hi rfl (by decide) rfl rfl (Nat.le_of_ble_eq_true rfl) dJ0_length_8abf5_6 (ppI ?_)
  refine gs_ishr k dJ0_length_8abf5_9 ?_
  refine gs_top (y := nI (lenL.getD i 0)) (shr_0 (by omega)) ?_
  exact gs_iret k kt dJ0_length_8abf5_10 ⟨rfl, rfl⟩

theorem cf_J3_checkIndex_8e157 : CF yJ3_checkIndex_8e157 cJ3_checkIndex_8e157 3 (some .int) 3 := ⟨cd_J3_checkIndex_8e157, iz_J3, by decide, by decide +kernel, by decide +kernel, by decide +kernel⟩
set_option maxRecDepth 100000 in
set_option maxHeartbeats 4000000 in
theorem c_J3_checkIndex_n {l : Launch} {E : Ev} {M : Mm} {j n : Nat} (hj : j < n) (hn : n < 2 ^ 31) : Cm l E yJ3_checkIndex_8e157 cJ3_checkIndex_8e157 3 (some .int) 0 [.int (nI j), .int (nI n), .null] M (pI (nI j) M) := by
  refine Cm.of (by decide) (Nat.le_of_ble_eq_true rfl) (fun K k kt => ?_)
  show G l E K 0 [(0, .int (nI j)), (1, .int (nI n)), (2, .null)] [] M
  have hv0 := hn
  refine gs_iload_n (q := 0) k rfl rfl dJ3_checkIndex_8e157_0 ?_
  refine gs_if_lt (tgt := 9) k (by decide) dJ3_checkIndex_8e157_1 (fun h => absurd h (nnlt rfl (by omega))) (fun _ => ?_)
  refine gs_iload_n (q := 0) k rfl rfl dJ3_checkIndex_8e157_4 ?_
  refine gs_iload_n (q := 1) k rfl rfl dJ3_checkIndex_8e157_5 ?_
  refine gs_icmpN_lt (a := j) (b := n) (tgt := 16) k rfl rfl (by omega) (by omega) (by decide) dJ3_checkIndex_8e157_6 (fun c1 => ?_) (fun c1 => absurd c1 (by omega))
  refine gs_iload_n (q := 0) k rfl rfl dJ3_checkIndex_8e157_16 ?_
  exact gs_iret k kt dJ3_checkIndex_8e157_17 ⟨rfl, rfl⟩

set_option maxRecDepth 100000 in
set_option maxHeartbeats 4000000 in
theorem c_J3_checkIndex_r {l : Launch} {E : Ev} {M : Mm} {j n : Nat} (hj : j < n) (hn : n < 2 ^ 31) {a : Nat} : Cm l E yJ3_checkIndex_8e157 cJ3_checkIndex_8e157 3 (some .int) 0 [.int (nI j), .int (nI n), .ref a] M (pI (nI j) M) := by
  refine Cm.of (by decide) (Nat.le_of_ble_eq_true rfl) (fun K k kt => ?_)
  show G l E K 0 [(0, .int (nI j)), (1, .int (nI n)), (2, .ref a)] [] M
  have hv0 := hn
  refine gs_iload_n (q := 0) k rfl rfl dJ3_checkIndex_8e157_0 ?_
  refine gs_if_lt (tgt := 9) k (by decide) dJ3_checkIndex_8e157_1 (fun h => absurd h (nnlt rfl (by omega))) (fun _ => ?_)
  refine gs_iload_n (q := 0) k rfl rfl dJ3_checkIndex_8e157_4 ?_
  refine gs_iload_n (q := 1) k rfl rfl dJ3_checkIndex_8e157_5 ?_
  refine gs_icmpN_lt (a := j) (b := n) (tgt := 16) k rfl rfl (by omega) (by omega) (by decide) dJ3_checkIndex_8e157_6 (fun c1 => ?_) (fun c1 => absurd c1 (by omega))
  refine gs_iload_n (q := 0) k rfl rfl dJ3_checkIndex_8e157_16 ?_
  exact gs_iret k kt dJ3_checkIndex_8e157_17 ⟨rfl, rfl⟩

theorem c_J3_checkIndex_8e157 {l : Launch} {E : Ev} {M : Mm} {j n : Nat} (hj : j < n) (hn : n < 2 ^ 31) {v : Value} (hv : v = .null ∨ ∃ a, v = .ref a) : Cm l E yJ3_checkIndex_8e157 cJ3_checkIndex_8e157 3 (some .int) 0 [.int (nI j), .int (nI n), v] M (pI (nI j) M) := by
  rcases hv with rfl | ⟨a, rfl⟩
  · exact c_J3_checkIndex_n hj hn
  · exact c_J3_checkIndex_r hj hn
theorem cf_J0_checkIndex_df160 : CF yJ0_checkIndex_df160 cJ0_checkIndex_df160 2 none 2 := ⟨cd_J0_checkIndex_df160, iz_J0, by decide, by decide +kernel, by decide +kernel, by decide +kernel⟩
set_option maxRecDepth 100000 in
set_option maxHeartbeats 4000000 in
theorem c_J0_checkIndex_df160 {l : Launch} {E : Ev} {M : Mm} {j n : Nat} (hj : j < n) (hn : n < 2 ^ 31) : Cm l E yJ0_checkIndex_df160 cJ0_checkIndex_df160 2 none 1 [.int (nI j), .int (nI n)] M (pV M) := by
  refine Cm.of (by decide) (Nat.le_of_ble_eq_true rfl) (fun K k kt => ?_)
  show G l E K 0 [(0, .int (nI j)), (1, .int (nI n))] [] M
  refine gs_iload_n (q := 0) k rfl rfl dJ0_checkIndex_df160_0 ?_
  refine gs_iload_n (q := 1) k rfl rfl dJ0_checkIndex_df160_1 ?_
  refine gs_getsSI k fl_J0_1053 dJ0_checkIndex_df160_2 (fun v hv => ?_)
  refine gs_callS (As := [.int (nI j), .int (nI n), v]) k (c_J3_checkIndex_8e157 hj hn hv) cf_J3_checkIndex_8e157 sm_J3_checkIndex_8e157 ml_J0_1059 (by decide) rfl rfl (Nat.le_of_ble_eq_true rfl) dJ0_checkIndex_df160_5 (ppI ?_)
  refine gs_pop k rfl dJ0_checkIndex_df160_8 ?_
  exact gs_vret k kt dJ0_checkIndex_df160_9 ⟨rfl, rfl⟩

theorem cf_J1_charAt_3b067 : CF yJ1_charAt_3b067 cJ1_charAt_3b067 2 (some .char) 2 := ⟨cd_J1_charAt_3b067, iz_J1, by decide, by decide +kernel, by decide +kernel, by decide +kernel⟩
set_option maxRecDepth 100000 in
set_option maxHeartbeats 4000000 in
theorem c_J1_charAt_3b067 {l : Launch} {E : Ev} {M : Mm} {i : Nat} (hi : i < 11) {j : Nat} (hj : j < lenL.getD i 0) : Cm l E yJ1_charAt_3b067 cJ1_charAt_3b067 2 (some .char) 2 [.ref (E.2.2.2.2.2.2 i), .int (nI j)] M (pI (chr i j) M) := by
  refine Cm.of (by decide) (Nat.le_of_ble_eq_true rfl) (fun K k kt => ?_)
  show G l E K 0 [(0, .ref (E.2.2.2.2.2.2 i)), (1, .int (nI j))] [] M
  have hle := len_ok i hi
  refine gs_iload_n (q := 1) k rfl rfl dJ1_charAt_3b067_0 ?_
  refine gs_aload_n (q := 0) k rfl rfl dJ1_charAt_3b067_1 ?_
  refine gs_slen (i := i) k hi dJ1_charAt_3b067_2 ?_
  refine gs_callS (As := [.int (nI j), .int (nI (lenL.getD i 0))]) k (c_J0_checkIndex_df160 hj (by omega)) cf_J0_checkIndex_df160 sm_J0_checkIndex_df160 ml_J1_9 (by decide) rfl rfl (Nat.le_of_ble_eq_true rfl) dJ1_charAt_3b067_3 (ppV ?_)
  refine gs_aload_n (q := 0) k rfl rfl dJ1_charAt_3b067_6 ?_
  refine gs_iload_n (q := 1) k rfl rfl dJ1_charAt_3b067_7 ?_
  refine gs_sbald (i := i) (j := j) k hi rfl (by omega) (by omega) dJ1_charAt_3b067_8 ?_
  refine gs_sipush (v := 255) k (by decide) dJ1_charAt_3b067_9 ?_
  refine gs_iand k dJ1_charAt_3b067_12 ?_
  refine gs_i2c (v := chr i j) k (chr_ok i hi j hj).1 dJ1_charAt_3b067_13 ?_
  exact gs_nret k kt (chr_nar hi hj) dJ1_charAt_3b067_14 ⟨rfl, rfl⟩

theorem cf_J0_charAt_5068e : CF yJ0_charAt_5068e cJ0_charAt_5068e 2 (some .char) 1 := ⟨cd_J0_charAt_5068e, iz_J0, by decide, by decide +kernel, by decide +kernel, by decide +kernel⟩
set_option maxRecDepth 100000 in
set_option maxHeartbeats 4000000 in
theorem c_J0_charAt_5068e {l : Launch} {E : Ev} {M : Mm} {i : Nat} (hi : i < 11) {j : Nat} (hj : j < lenL.getD i 0) : Cm l E yJ0_charAt_5068e cJ0_charAt_5068e 2 (some .char) 3 [.ref (E.2.2.2.2.2.1 i), .int (nI j)] M (pI (chr i j) M) := by
  refine Cm.of (by decide) (Nat.le_of_ble_eq_true rfl) (fun K k kt => ?_)
  show G l E K 0 [(0, .ref (E.2.2.2.2.2.1 i)), (1, .int (nI j))] [] M
  refine gs_aload_n (q := 0) k rfl rfl dJ0_charAt_5068e_0 ?_
  refine gs_callK (i := i) (As := []) k (c_J0_isLatin1_aae02 hi) cf_J0_isLatin1_aae02 im_J0_isLatin1_aae02 sl_J0_isLatin1_aae02 ml_J0_492 hi rfl (by decide) rfl rfl (Nat.le_of_ble_eq_true rfl) dJ0_charAt_5068e_1 (ppI ?_)
  refine gs_if_eq (tgt := 16) k (by decide) dJ0_charAt_5068e_4 (fun h => absurd h (by decide)) (fun _ => ?_)
  refine gs_aload_n (q := 0) k rfl rfl dJ0_charAt_5068e_7 ?_
  refine gs_svalue (i := i) k hi fl_J0_9 dJ0_charAt_5068e_8 ?_
  refine gs_iload_n (q := 1) k rfl rfl dJ0_charAt_5068e_11 ?_
  refine gs_callS (As := [.ref (E.2.2.2.2.2.2 i), .int (nI j)]) k (c_J1_charAt_3b067 hi hj) cf_J1_charAt_3b067 sm_J1_charAt_3b067 ml_J0_495 (by decide) rfl rfl (Nat.le_of_ble_eq_true rfl) dJ0_charAt_5068e_12 (ppI ?_)
  exact gs_nret k kt (chr_nar hi hj) dJ0_charAt_5068e_15 ⟨rfl, rfl⟩

theorem cf_X4_spelling : CF yX4_spelling cX4_spelling 1 (some (.object "java/lang/String" )) 1 := ⟨cd_X4_spelling, iz_X4, by decide, by decide +kernel, by decide +kernel, by decide +kernel⟩
set_option maxRecDepth 100000 in
set_option maxHeartbeats 4000000 in
theorem c_X4_spelling_0 {l : Launch} {E : Ev} {M : Mm} : Cm l E yX4_spelling cX4_spelling 1 (some (.object "java/lang/String" )) 0 [.int 0] M (pA (E.2.2.2.2.2.1 0) M) := by
  refine Cm.of (by decide) (Nat.le_of_ble_eq_true rfl) (fun K k kt => ?_)
  show G l E K 0 [(0, .int 0)] [] M
  refine gs_iload_n (q := 0) k rfl rfl dX4_spelling_0 ?_
  refine gs_tableIn (off := 55) (tgt := 56) k (by decide) (by decide) (by decide) (by decide) dX4_spelling_1 ?_
  refine gs_ldcS (tx := "arc") (i := 0) k (by decide) dX4_spelling_56 ?_
  exact gs_aret k kt (Or.inl ⟨_, rfl⟩) dX4_spelling_58 ⟨rfl, rfl⟩

set_option maxRecDepth 100000 in
set_option maxHeartbeats 4000000 in
theorem c_X4_spelling_1 {l : Launch} {E : Ev} {M : Mm} : Cm l E yX4_spelling cX4_spelling 1 (some (.object "java/lang/String" )) 0 [.int 1] M (pA (E.2.2.2.2.2.1 1) M) := by
  refine Cm.of (by decide) (Nat.le_of_ble_eq_true rfl) (fun K k kt => ?_)
  show G l E K 0 [(0, .int 1)] [] M
  refine gs_iload_n (q := 0) k rfl rfl dX4_spelling_0 ?_
  refine gs_tableIn (off := 58) (tgt := 59) k (by decide) (by decide) (by decide) (by decide) dX4_spelling_1 ?_
  refine gs_ldcS (tx := "item") (i := 1) k (by decide) dX4_spelling_59 ?_
  exact gs_aret k kt (Or.inl ⟨_, rfl⟩) dX4_spelling_61 ⟨rfl, rfl⟩

set_option maxRecDepth 100000 in
set_option maxHeartbeats 4000000 in
theorem c_X4_spelling_2 {l : Launch} {E : Ev} {M : Mm} : Cm l E yX4_spelling cX4_spelling 1 (some (.object "java/lang/String" )) 0 [.int 2] M (pA (E.2.2.2.2.2.1 2) M) := by
  refine Cm.of (by decide) (Nat.le_of_ble_eq_true rfl) (fun K k kt => ?_)
  show G l E K 0 [(0, .int 2)] [] M
  refine gs_iload_n (q := 0) k rfl rfl dX4_spelling_0 ?_
  refine gs_tableIn (off := 61) (tgt := 62) k (by decide) (by decide) (by decide) (by decide) dX4_spelling_1 ?_
  refine gs_ldcS (tx := "block") (i := 2) k (by decide) dX4_spelling_62 ?_
  exact gs_aret k kt (Or.inl ⟨_, rfl⟩) dX4_spelling_64 ⟨rfl, rfl⟩

set_option maxRecDepth 100000 in
set_option maxHeartbeats 4000000 in
theorem c_X4_spelling_3 {l : Launch} {E : Ev} {M : Mm} : Cm l E yX4_spelling cX4_spelling 1 (some (.object "java/lang/String" )) 0 [.int 3] M (pA (E.2.2.2.2.2.1 3) M) := by
  refine Cm.of (by decide) (Nat.le_of_ble_eq_true rfl) (fun K k kt => ?_)
  show G l E K 0 [(0, .int 3)] [] M
  refine gs_iload_n (q := 0) k rfl rfl dX4_spelling_0 ?_
  refine gs_tableIn (off := 64) (tgt := 65) k (by decide) (by decide) (by decide) (by decide) dX4_spelling_1 ?_
  refine gs_ldcS (tx := "cap") (i := 3) k (by decide) dX4_spelling_65 ?_
  exact gs_aret k kt (Or.inl ⟨_, rfl⟩) dX4_spelling_67 ⟨rfl, rfl⟩

set_option maxRecDepth 100000 in
set_option maxHeartbeats 4000000 in
theorem c_X4_spelling_4 {l : Launch} {E : Ev} {M : Mm} : Cm l E yX4_spelling cX4_spelling 1 (some (.object "java/lang/String" )) 0 [.int 4] M (pA (E.2.2.2.2.2.1 4) M) := by
  refine Cm.of (by decide) (Nat.le_of_ble_eq_true rfl) (fun K k kt => ?_)
  show G l E K 0 [(0, .int 4)] [] M
  refine gs_iload_n (q := 0) k rfl rfl dX4_spelling_0 ?_
  refine gs_tableIn (off := 67) (tgt := 68) k (by decide) (by decide) (by decide) (by decide) dX4_spelling_1 ?_
  refine gs_ldcS (tx := "weight") (i := 4) k (by decide) dX4_spelling_68 ?_
  exact gs_aret k kt (Or.inl ⟨_, rfl⟩) dX4_spelling_70 ⟨rfl, rfl⟩

set_option maxRecDepth 100000 in
set_option maxHeartbeats 4000000 in
theorem c_X4_spelling_5 {l : Launch} {E : Ev} {M : Mm} : Cm l E yX4_spelling cX4_spelling 1 (some (.object "java/lang/String" )) 0 [.int 5] M (pA (E.2.2.2.2.2.1 5) M) := by
  refine Cm.of (by decide) (Nat.le_of_ble_eq_true rfl) (fun K k kt => ?_)
  show G l E K 0 [(0, .int 5)] [] M
  refine gs_iload_n (q := 0) k rfl rfl dX4_spelling_0 ?_
  refine gs_tableIn (off := 70) (tgt := 71) k (by decide) (by decide) (by decide) (by decide) dX4_spelling_1 ?_
  refine gs_ldcS (tx := "cut") (i := 5) k (by decide) dX4_spelling_71 ?_
  exact gs_aret k kt (Or.inl ⟨_, rfl⟩) dX4_spelling_73 ⟨rfl, rfl⟩

set_option maxRecDepth 100000 in
set_option maxHeartbeats 4000000 in
theorem c_X4_spelling_6 {l : Launch} {E : Ev} {M : Mm} : Cm l E yX4_spelling cX4_spelling 1 (some (.object "java/lang/String" )) 0 [.int 6] M (pA (E.2.2.2.2.2.1 6) M) := by
  refine Cm.of (by decide) (Nat.le_of_ble_eq_true rfl) (fun K k kt => ?_)
  show G l E K 0 [(0, .int 6)] [] M
  refine gs_iload_n (q := 0) k rfl rfl dX4_spelling_0 ?_
  refine gs_tableIn (off := 73) (tgt := 74) k (by decide) (by decide) (by decide) (by decide) dX4_spelling_1 ?_
  refine gs_ldcS (tx := "cover") (i := 6) k (by decide) dX4_spelling_74 ?_
  exact gs_aret k kt (Or.inl ⟨_, rfl⟩) dX4_spelling_76 ⟨rfl, rfl⟩

set_option maxRecDepth 100000 in
set_option maxHeartbeats 4000000 in
theorem c_X4_spelling_7 {l : Launch} {E : Ev} {M : Mm} : Cm l E yX4_spelling cX4_spelling 1 (some (.object "java/lang/String" )) 0 [.int 7] M (pA (E.2.2.2.2.2.1 7) M) := by
  refine Cm.of (by decide) (Nat.le_of_ble_eq_true rfl) (fun K k kt => ?_)
  show G l E K 0 [(0, .int 7)] [] M
  refine gs_iload_n (q := 0) k rfl rfl dX4_spelling_0 ?_
  refine gs_tableIn (off := 76) (tgt := 77) k (by decide) (by decide) (by decide) (by decide) dX4_spelling_1 ?_
  refine gs_ldcS (tx := "capped") (i := 7) k (by decide) dX4_spelling_77 ?_
  exact gs_aret k kt (Or.inl ⟨_, rfl⟩) dX4_spelling_79 ⟨rfl, rfl⟩

set_option maxRecDepth 100000 in
set_option maxHeartbeats 4000000 in
theorem c_X4_spelling_8 {l : Launch} {E : Ev} {M : Mm} : Cm l E yX4_spelling cX4_spelling 1 (some (.object "java/lang/String" )) 0 [.int 8] M (pA (E.2.2.2.2.2.1 8) M) := by
  refine Cm.of (by decide) (Nat.le_of_ble_eq_true rfl) (fun K k kt => ?_)
  show G l E K 0 [(0, .int 8)] [] M
  refine gs_iload_n (q := 0) k rfl rfl dX4_spelling_0 ?_
  refine gs_tableIn (off := 79) (tgt := 80) k (by decide) (by decide) (by decide) (by decide) dX4_spelling_1 ?_
  refine gs_ldcS (tx := "weighed") (i := 8) k (by decide) dX4_spelling_80 ?_
  exact gs_aret k kt (Or.inl ⟨_, rfl⟩) dX4_spelling_82 ⟨rfl, rfl⟩

set_option maxRecDepth 100000 in
set_option maxHeartbeats 4000000 in
theorem c_X4_spelling_9 {l : Launch} {E : Ev} {M : Mm} : Cm l E yX4_spelling cX4_spelling 1 (some (.object "java/lang/String" )) 0 [.int 9] M (pA (E.2.2.2.2.2.1 9) M) := by
  refine Cm.of (by decide) (Nat.le_of_ble_eq_true rfl) (fun K k kt => ?_)
  show G l E K 0 [(0, .int 9)] [] M
  refine gs_iload_n (q := 0) k rfl rfl dX4_spelling_0 ?_
  refine gs_tableIn (off := 82) (tgt := 83) k (by decide) (by decide) (by decide) (by decide) dX4_spelling_1 ?_
  refine gs_ldcS (tx := "sum") (i := 9) k (by decide) dX4_spelling_83 ?_
  exact gs_aret k kt (Or.inl ⟨_, rfl⟩) dX4_spelling_85 ⟨rfl, rfl⟩

set_option maxRecDepth 100000 in
set_option maxHeartbeats 4000000 in
theorem c_X4_spelling_10 {l : Launch} {E : Ev} {M : Mm} : Cm l E yX4_spelling cX4_spelling 1 (some (.object "java/lang/String" )) 0 [.int 10] M (pA (E.2.2.2.2.2.1 10) M) := by
  refine Cm.of (by decide) (Nat.le_of_ble_eq_true rfl) (fun K k kt => ?_)
  show G l E K 0 [(0, .int 10)] [] M
  refine gs_iload_n (q := 0) k rfl rfl dX4_spelling_0 ?_
  refine gs_tableOut (tgt := 86) k (by decide) (by decide) dX4_spelling_1 ?_
  refine gs_ldcS (tx := "turn") (i := 10) k (by decide) dX4_spelling_86 ?_
  exact gs_aret k kt (Or.inl ⟨_, rfl⟩) dX4_spelling_88 ⟨rfl, rfl⟩

theorem c_X4_spelling {l : Launch} {E : Ev} {M : Mm} {w : Nat} (hw : w < 11) : Cm l E yX4_spelling cX4_spelling 1 (some (.object "java/lang/String" )) 0 [.int (nI w)] M (pA (E.2.2.2.2.2.1 w) M) :=
  match w, hw with
  | 0, _ => c_X4_spelling_0
  | 1, _ => c_X4_spelling_1
  | 2, _ => c_X4_spelling_2
  | 3, _ => c_X4_spelling_3
  | 4, _ => c_X4_spelling_4
  | 5, _ => c_X4_spelling_5
  | 6, _ => c_X4_spelling_6
  | 7, _ => c_X4_spelling_7
  | 8, _ => c_X4_spelling_8
  | 9, _ => c_X4_spelling_9
  | 10, _ => c_X4_spelling_10
  | w + 11, h => absurd h (by omega)
theorem cf_X7_wordOf : CF yX7_wordOf cX7_wordOf 1 (some (.object "java/lang/String" )) 1 := ⟨cd_X7_wordOf, iz_X7, by decide, by decide +kernel, by decide +kernel, by decide +kernel⟩
set_option maxRecDepth 100000 in
set_option maxHeartbeats 4000000 in
theorem c_X7_wordOf_0 {l : Launch} {E : Ev} {M : Mm} : Cm l E yX7_wordOf cX7_wordOf 1 (some (.object "java/lang/String" )) 0 [.int 0] M (pA (E.2.2.2.2.2.1 0) M) := by
  refine Cm.of (by decide) (Nat.le_of_ble_eq_true rfl) (fun K k kt => ?_)
  show G l E K 0 [(0, .int 0)] [] M
  refine gs_iload_n (q := 0) k rfl rfl dX7_wordOf_0 ?_
  refine gs_tableIn (off := 55) (tgt := 56) k (by decide) (by decide) (by decide) (by decide) dX7_wordOf_1 ?_
  refine gs_ldcwS (tx := "arc") (i := 0) k (by decide) dX7_wordOf_56 ?_
  exact gs_aret k kt (Or.inl ⟨_, rfl⟩) dX7_wordOf_59 ⟨rfl, rfl⟩

set_option maxRecDepth 100000 in
set_option maxHeartbeats 4000000 in
theorem c_X7_wordOf_1 {l : Launch} {E : Ev} {M : Mm} : Cm l E yX7_wordOf cX7_wordOf 1 (some (.object "java/lang/String" )) 0 [.int 1] M (pA (E.2.2.2.2.2.1 1) M) := by
  refine Cm.of (by decide) (Nat.le_of_ble_eq_true rfl) (fun K k kt => ?_)
  show G l E K 0 [(0, .int 1)] [] M
  refine gs_iload_n (q := 0) k rfl rfl dX7_wordOf_0 ?_
  refine gs_tableIn (off := 59) (tgt := 60) k (by decide) (by decide) (by decide) (by decide) dX7_wordOf_1 ?_
  refine gs_ldcwS (tx := "item") (i := 1) k (by decide) dX7_wordOf_60 ?_
  exact gs_aret k kt (Or.inl ⟨_, rfl⟩) dX7_wordOf_63 ⟨rfl, rfl⟩

set_option maxRecDepth 100000 in
set_option maxHeartbeats 4000000 in
theorem c_X7_wordOf_2 {l : Launch} {E : Ev} {M : Mm} : Cm l E yX7_wordOf cX7_wordOf 1 (some (.object "java/lang/String" )) 0 [.int 2] M (pA (E.2.2.2.2.2.1 9) M) := by
  refine Cm.of (by decide) (Nat.le_of_ble_eq_true rfl) (fun K k kt => ?_)
  show G l E K 0 [(0, .int 2)] [] M
  refine gs_iload_n (q := 0) k rfl rfl dX7_wordOf_0 ?_
  refine gs_tableIn (off := 63) (tgt := 64) k (by decide) (by decide) (by decide) (by decide) dX7_wordOf_1 ?_
  refine gs_ldcwS (tx := "sum") (i := 9) k (by decide) dX7_wordOf_64 ?_
  exact gs_aret k kt (Or.inl ⟨_, rfl⟩) dX7_wordOf_67 ⟨rfl, rfl⟩

set_option maxRecDepth 100000 in
set_option maxHeartbeats 4000000 in
theorem c_X7_wordOf_3 {l : Launch} {E : Ev} {M : Mm} : Cm l E yX7_wordOf cX7_wordOf 1 (some (.object "java/lang/String" )) 0 [.int 3] M (pA (E.2.2.2.2.2.1 2) M) := by
  refine Cm.of (by decide) (Nat.le_of_ble_eq_true rfl) (fun K k kt => ?_)
  show G l E K 0 [(0, .int 3)] [] M
  refine gs_iload_n (q := 0) k rfl rfl dX7_wordOf_0 ?_
  refine gs_tableIn (off := 67) (tgt := 68) k (by decide) (by decide) (by decide) (by decide) dX7_wordOf_1 ?_
  refine gs_ldcwS (tx := "block") (i := 2) k (by decide) dX7_wordOf_68 ?_
  exact gs_aret k kt (Or.inl ⟨_, rfl⟩) dX7_wordOf_71 ⟨rfl, rfl⟩

set_option maxRecDepth 100000 in
set_option maxHeartbeats 4000000 in
theorem c_X7_wordOf_4 {l : Launch} {E : Ev} {M : Mm} : Cm l E yX7_wordOf cX7_wordOf 1 (some (.object "java/lang/String" )) 0 [.int 4] M (pA (E.2.2.2.2.2.1 3) M) := by
  refine Cm.of (by decide) (Nat.le_of_ble_eq_true rfl) (fun K k kt => ?_)
  show G l E K 0 [(0, .int 4)] [] M
  refine gs_iload_n (q := 0) k rfl rfl dX7_wordOf_0 ?_
  refine gs_tableIn (off := 71) (tgt := 72) k (by decide) (by decide) (by decide) (by decide) dX7_wordOf_1 ?_
  refine gs_ldcwS (tx := "cap") (i := 3) k (by decide) dX7_wordOf_72 ?_
  exact gs_aret k kt (Or.inl ⟨_, rfl⟩) dX7_wordOf_75 ⟨rfl, rfl⟩

set_option maxRecDepth 100000 in
set_option maxHeartbeats 4000000 in
theorem c_X7_wordOf_5 {l : Launch} {E : Ev} {M : Mm} : Cm l E yX7_wordOf cX7_wordOf 1 (some (.object "java/lang/String" )) 0 [.int 5] M (pA (E.2.2.2.2.2.1 4) M) := by
  refine Cm.of (by decide) (Nat.le_of_ble_eq_true rfl) (fun K k kt => ?_)
  show G l E K 0 [(0, .int 5)] [] M
  refine gs_iload_n (q := 0) k rfl rfl dX7_wordOf_0 ?_
  refine gs_tableIn (off := 75) (tgt := 76) k (by decide) (by decide) (by decide) (by decide) dX7_wordOf_1 ?_
  refine gs_ldcwS (tx := "weight") (i := 4) k (by decide) dX7_wordOf_76 ?_
  exact gs_aret k kt (Or.inl ⟨_, rfl⟩) dX7_wordOf_79 ⟨rfl, rfl⟩

set_option maxRecDepth 100000 in
set_option maxHeartbeats 4000000 in
theorem c_X7_wordOf_6 {l : Launch} {E : Ev} {M : Mm} : Cm l E yX7_wordOf cX7_wordOf 1 (some (.object "java/lang/String" )) 0 [.int 6] M (pA (E.2.2.2.2.2.1 10) M) := by
  refine Cm.of (by decide) (Nat.le_of_ble_eq_true rfl) (fun K k kt => ?_)
  show G l E K 0 [(0, .int 6)] [] M
  refine gs_iload_n (q := 0) k rfl rfl dX7_wordOf_0 ?_
  refine gs_tableIn (off := 79) (tgt := 80) k (by decide) (by decide) (by decide) (by decide) dX7_wordOf_1 ?_
  refine gs_ldcwS (tx := "turn") (i := 10) k (by decide) dX7_wordOf_80 ?_
  exact gs_aret k kt (Or.inl ⟨_, rfl⟩) dX7_wordOf_83 ⟨rfl, rfl⟩

set_option maxRecDepth 100000 in
set_option maxHeartbeats 4000000 in
theorem c_X7_wordOf_7 {l : Launch} {E : Ev} {M : Mm} : Cm l E yX7_wordOf cX7_wordOf 1 (some (.object "java/lang/String" )) 0 [.int 7] M (pA (E.2.2.2.2.2.1 5) M) := by
  refine Cm.of (by decide) (Nat.le_of_ble_eq_true rfl) (fun K k kt => ?_)
  show G l E K 0 [(0, .int 7)] [] M
  refine gs_iload_n (q := 0) k rfl rfl dX7_wordOf_0 ?_
  refine gs_tableIn (off := 83) (tgt := 84) k (by decide) (by decide) (by decide) (by decide) dX7_wordOf_1 ?_
  refine gs_ldcwS (tx := "cut") (i := 5) k (by decide) dX7_wordOf_84 ?_
  exact gs_aret k kt (Or.inl ⟨_, rfl⟩) dX7_wordOf_87 ⟨rfl, rfl⟩

set_option maxRecDepth 100000 in
set_option maxHeartbeats 4000000 in
theorem c_X7_wordOf_8 {l : Launch} {E : Ev} {M : Mm} : Cm l E yX7_wordOf cX7_wordOf 1 (some (.object "java/lang/String" )) 0 [.int 8] M (pA (E.2.2.2.2.2.1 6) M) := by
  refine Cm.of (by decide) (Nat.le_of_ble_eq_true rfl) (fun K k kt => ?_)
  show G l E K 0 [(0, .int 8)] [] M
  refine gs_iload_n (q := 0) k rfl rfl dX7_wordOf_0 ?_
  refine gs_tableIn (off := 87) (tgt := 88) k (by decide) (by decide) (by decide) (by decide) dX7_wordOf_1 ?_
  refine gs_ldcwS (tx := "cover") (i := 6) k (by decide) dX7_wordOf_88 ?_
  exact gs_aret k kt (Or.inl ⟨_, rfl⟩) dX7_wordOf_91 ⟨rfl, rfl⟩

set_option maxRecDepth 100000 in
set_option maxHeartbeats 4000000 in
theorem c_X7_wordOf_9 {l : Launch} {E : Ev} {M : Mm} : Cm l E yX7_wordOf cX7_wordOf 1 (some (.object "java/lang/String" )) 0 [.int 9] M (pA (E.2.2.2.2.2.1 7) M) := by
  refine Cm.of (by decide) (Nat.le_of_ble_eq_true rfl) (fun K k kt => ?_)
  show G l E K 0 [(0, .int 9)] [] M
  refine gs_iload_n (q := 0) k rfl rfl dX7_wordOf_0 ?_
  refine gs_tableIn (off := 91) (tgt := 92) k (by decide) (by decide) (by decide) (by decide) dX7_wordOf_1 ?_
  refine gs_ldcwS (tx := "capped") (i := 7) k (by decide) dX7_wordOf_92 ?_
  exact gs_aret k kt (Or.inl ⟨_, rfl⟩) dX7_wordOf_95 ⟨rfl, rfl⟩

set_option maxRecDepth 100000 in
set_option maxHeartbeats 4000000 in
theorem c_X7_wordOf_10 {l : Launch} {E : Ev} {M : Mm} : Cm l E yX7_wordOf cX7_wordOf 1 (some (.object "java/lang/String" )) 0 [.int 10] M (pA (E.2.2.2.2.2.1 8) M) := by
  refine Cm.of (by decide) (Nat.le_of_ble_eq_true rfl) (fun K k kt => ?_)
  show G l E K 0 [(0, .int 10)] [] M
  refine gs_iload_n (q := 0) k rfl rfl dX7_wordOf_0 ?_
  refine gs_tableOut (tgt := 96) k (by decide) (by decide) dX7_wordOf_1 ?_
  refine gs_ldcwS (tx := "weighed") (i := 8) k (by decide) dX7_wordOf_96 ?_
  exact gs_aret k kt (Or.inl ⟨_, rfl⟩) dX7_wordOf_99 ⟨rfl, rfl⟩

theorem c_X7_wordOf {l : Launch} {E : Ev} {M : Mm} {w : Nat} (hw : w < 11) : Cm l E yX7_wordOf cX7_wordOf 1 (some (.object "java/lang/String" )) 0 [.int (nI w)] M (pA (E.2.2.2.2.2.1 (wm w)) M) :=
  match w, hw with
  | 0, _ => c_X7_wordOf_0
  | 1, _ => c_X7_wordOf_1
  | 2, _ => c_X7_wordOf_2
  | 3, _ => c_X7_wordOf_3
  | 4, _ => c_X7_wordOf_4
  | 5, _ => c_X7_wordOf_5
  | 6, _ => c_X7_wordOf_6
  | 7, _ => c_X7_wordOf_7
  | 8, _ => c_X7_wordOf_8
  | 9, _ => c_X7_wordOf_9
  | 10, _ => c_X7_wordOf_10
  | w + 11, h => absurd h (by omega)
