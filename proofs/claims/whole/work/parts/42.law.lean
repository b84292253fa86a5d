/-! THE CLAIM OUT OF ONE WALK OF THE LAW'S BODY. Your part is whole_start (and what it stands on); all else here is the same for every law, but numbers. -/
def R_law : String := "LesseningGainsLaw"
def lw_P (b : Addr) (xs : List Int32) (args : Array Value) (s : State) : Prop := args = #[.ref b] ∧ s.IntsAt b xs ∧ xs.length ≤ 2560 ∧ (Jvm.Cond.and given_1 narrow_1).before args s = true
def lw_Q (_ : Array Value) (s : State) (o : Outcome) (t : State) : Prop := o = .returned (some (.int 1)) ∧ Framed s o t [] 600000 7302250
def lw_Z (below : List Frame) (a : Array Value) (s : State) : State → Prop := fun t => ∃ o, t.status = .running ∧ Ended t below o ∧ lw_Q a s o t
/-- the law's own end, with 1 on the stack, nothing written that was there before, its room as the claim has it -/
theorem lw_ret {p : Program} {l : Launch} {e : Env} {s : State} {m : MethodId} {below : List Frame} {meth : Method} {c : Code} {b : Nat} (hx : p.tables.exec = Jvm.exec) (hb : c.code = code) (hr : meth.sig.returnType = ret) (hlocks : meth.locks = false) {pc : Nat} {H : Heap} {ls : Array Slot} (hdg : decode code pc = .ok (.ireturn, 1)) : W p l e room_1 s m #[Value.ref b] below meth c H [] 600000 7302250 (lw_Z below #[Value.ref b] s) (F0 m pc ls [.int 1]) := by
  intro T hT X
  obtain ⟨fs, hret, hrun, hended, hW, hframe⟩ := X.leave (v := some (.int 1)) (hlocks := hlocks) (fun h => by rw [hr] at h; cases h)
  have hmeth' : T.vm.method? m = some meth := X.method'
  refine ⟨T.setFrames fs, ?_, .returned (some (.int 1)), hrun, hended, rfl, ⟨_, rfl⟩, hW, hframe⟩
  jvm_step X.here [X.here.top, hx, hb, hdg, hmeth', hr, ret, narrow_b1]
  (try refine ⟨rfl, ?_⟩); (try refine ⟨rfl, ?_⟩)
  first | (intro acts; rw [hret _ acts rfl rfl rfl]) | rw [hret _ _ rfl rfl rfl]
  exact Steps.refl _
/-- what holds at the law's entry: the machine, the code, the tables' words (any of lw_tbl by 'hts w (by decide +kernel)'), the script of L ints xs at the cell b, what the Statement gives of the start (any of its parts by flat_of_before) -/
def lw_At (p : Program) (s : State) (m : MethodId) (meth : Method) (c : Code) (b L : Nat) (xs : Nat → Int32) : Prop :=
  p.tables.exec = Jvm.exec ∧ c.code = code ∧ meth.sig.returnType = ret ∧ c.maxLocals = 4 ∧ s.vm.findClass R_law = some m.cls ∧ (∀ w ∈ lw_tbl, w.before #[Value.ref b] s = true) ∧ va_X b L xs s s.heap ∧ b < s.heap.size ∧ meth.locks = false ∧ (Jvm.Cond.and given_1 narrow_1).before #[Value.ref b] s = true
def Sx (K : Kt) (b L : Nat) (xs : Nat → Int32) : Prop :=
  match K with
  | ((_, _, _, s, _, _), _, (_, A, _)) => va_X b L xs s s.heap ∧ b < s.heap.size ∧ ¬ A b
theorem gl_sld {l : Launch} {E : Ev} {K : Kt} {cc : ByteArray} {own : String} {d nL pc : Nat} {lv : List (Nat × Value)} {st : List Value} {M : Mm} {b L : Nat} {xs : Nat → Int32} {i : Int32} (k : Ok l E K cc own d nL) (hX : Sx K b L xs) (hi : vp_in i L) (hd : decode cc pc = .ok (.iaload, 1)) (h : G l E K (pc + 1) lv (.int (xs i.toNatClampNeg) :: st) M) : G l E K pc lv (.int i :: .ref b :: st) M := by
  obtain ⟨⟨p, e, R, s, m, args⟩, ⟨below, meth, c, cells, slots⟩, ⟨Q, A, nL'⟩⟩ := K
  obtain ⟨hx, hb, hml, hnl, hown, hts, hK, hA, hin, hfr, hlo, hce, hsl⟩ := id k
  obtain ⟨x1, x2, x3⟩ := id hX
  subst hnl
  intro H locs ls hl hP hD hS
  exact va_sld hx hb x1 x2 x3 hS hi hd (h H locs ls hl hP hD hS)
theorem gl_slen {l : Launch} {E : Ev} {K : Kt} {cc : ByteArray} {own : String} {d nL pc : Nat} {lv : List (Nat × Value)} {st : List Value} {M : Mm} {b L : Nat} {xs : Nat → Int32} (k : Ok l E K cc own d nL) (hX : Sx K b L xs) (hd : decode cc pc = .ok (.arraylength, 1)) (h : G l E K (pc + 1) lv (.int (nI L) :: st) M) : G l E K pc lv (.ref b :: st) M := by
  obtain ⟨⟨p, e, R, s, m, args⟩, ⟨below, meth, c, cells, slots⟩, ⟨Q, A, nL'⟩⟩ := K
  obtain ⟨hx, hb, hml, hnl, hown, hts, hK, hA, hin, hfr, hlo, hce, hsl⟩ := id k
  obtain ⟨x1, x2, x3⟩ := id hX
  subst hnl
  intro H locs ls hl hP hD hS
  exact va_slen hx hb x1 x2 x3 hS hd (h H locs ls hl hP hD hS)
theorem nI_plus (a b : Nat) : nI a + nI b = nI (a + b) := (Int32.ofNat_add a b).symm
theorem vin {t j L : Nat} (h : t + j < L) (hL : L ≤ 2560) : vp_in (nI t + nI j) L := by
  rw [nI_plus]
  exact nI_in h (by omega)
theorem vin0 {t L : Nat} (h : t < L) (hL : L ≤ 2560) : vp_in (nI t) L := nI_in h (by omega)
theorem lcmp_self (x : Int64) : lg_cmp x x = 0 := by
  unfold lg_cmp
  simp
theorem sub5 {t L : Nat} (hL : L ≤ 2560) (ht : t ≤ L) (h : ¬ nI L - nI 5 < nI t) : t + 5 ≤ L := by
  by_cases h5 : 5 ≤ L
  · obtain ⟨q, rfl⟩ : ∃ q, L = q + 5 := ⟨L - 5, by omega⟩
    have e : nI (q + 5) - nI 5 = nI q := by rw [← nI_plus, Int32.add_sub_cancel]
    rw [e] at h
    by_cases g : q < t
    · exact absurd (nI_lt g (by omega)) h
    · omega
  · exfalso
    rcases (show L = 0 ∨ L = 1 ∨ L = 2 ∨ L = 3 ∨ L = 4 by omega) with rfl | rfl | rfl | rfl | rfl <;> rcases (show t = 0 ∨ t = 1 ∨ t = 2 ∨ t = 3 ∨ t = 4 by omega) with rfl | rfl | rfl | rfl | rfl <;> first | omega | exact h (by decide)
def Rl (K : Kt) (b : Nat) : Prop :=
  match K with
  | ((_, _, R, s, _, args), (below, meth, _, cells, slots), (Q, A, _)) => Q = lw_Z below #[.ref b] s ∧ R = room_1 ∧ args = #[.ref b] ∧ meth.sig.returnType = ret ∧ meth.locks = false ∧ cells ≤ 600000 ∧ slots ≤ 7302250 ∧ ∀ q, A q → s.heap.size ≤ q
theorem gl_lret {l : Launch} {E : Ev} {K : Kt} {own : String} {d nL pc : Nat} {lv : List (Nat × Value)} {M : Mm} {b : Nat} (k : Ok l E K cL_law own d nL) (t : Rl K b) (hd : decode cL_law pc = .ok (.ireturn, 1)) : G l E K pc lv [.int 1] M := by
  obtain ⟨⟨p, e, R, s, m, args⟩, ⟨below, meth, c, cells, slots⟩, ⟨Q, A, nL'⟩⟩ := K
  obtain ⟨hx, hb, hml, hnl, hown, hts, hK, hA, hin, hfr, hlo, hce, hsl⟩ := id k
  obtain ⟨rfl, rfl, rfl, hr, hlocks, h1, h2, h3⟩ := id t
  intro H locs ls hl hP hD hS
  refine va_forget (fun q hq => h3 _ (hS.2.2 q hq)) ?_
  refine W.widen (k := 600000) (n := 7302250) h1 h2 ?_
  exact lw_ret hx hb hr hlocks hd
/-- points -/
theorem law_0 {l : Launch} {E : Ev} {K : Kt} {b L t : Nat} {xs : Nat → Int32} {M : Mm} {S : As} (hI : ∀ k, k < 108 → k ∈ E.2.1) (k : Ok l E K cL_law RL 9 4) (hX : Sx K b L xs) (ht : t + 5 ≤ L) (hL : L ≤ 2560) (h1 : CA M S) (h2 : RA M S) (hg : GA S) (cont : ∀ M' S', CA M' S' → RA M' S' → GA S' → G l E K 1690 [(3, .int (nI t)), (2, .ref (E.2.2.1 65)), (1, .ref (E.2.2.1 0)), (0, .ref b)] [] M') : G l E K 228 [(3, .int (nI t)), (2, .ref (E.2.2.1 65)), (1, .ref (E.2.2.1 0)), (0, .ref b)] [] M := by
  refine gs_aload_n (q := 2) k rfl rfl dL_law_228 ?_
  refine gs_aload_n (q := 3) k rfl rfl dL_law_229 ?_
  refine gs_iload_n (q := 0) k rfl rfl dL_law_230 ?_
  refine gs_iconst (v := nI 1) k (by decide) dL_law_231 ?_
  refine gs_iadd k dL_law_232 ?_
  refine gl_sld k hX (vin (by omega) hL) dL_law_233 ?_
  refine gs_callV (As := [.int (xs (nI t + nI 1).toNatClampNeg)]) (k0 := 0) (ci := 6) (T := TX6) (N := 10) k (sC_points hI h1) cf_X6_points im_X6_points sl_X6_points ml_L_13 (hI 0 (by omega)) rfl rfl (by decide) rfl rfl (Nat.le_of_ble_eq_true rfl) dL_law_234 (ppH (fun m1 q1 => ?_))
  refine gs_aload_n (q := 1) k rfl rfl dL_law_237 ?_
  refine gs_aload_n (q := 3) k rfl rfl dL_law_238 ?_
  refine gs_iload_n (q := 0) k rfl rfl dL_law_239 ?_
  refine gs_iconst (v := nI 1) k (by decide) dL_law_240 ?_
  refine gs_iadd k dL_law_241 ?_
  refine gl_sld k hX (vin (by omega) hL) dL_law_242 ?_
  refine gs_callV (As := [.int (xs (nI t + nI 1).toNatClampNeg)]) (k0 := 65) (ci := 7) (T := TX7) (N := 27) k (sR_points hI (h2.fr q1.2)) cf_X7_points im_X7_points sl_X7_points ml_L_17 (hI 65 (by omega)) rfl rfl (by decide) rfl rfl (Nat.le_of_ble_eq_true rfl) dL_law_243 (ppH (fun m2 q2 => ?_))
  exact gs_icmp_eq (tgt := 1690) k (by decide) dL_law_246 (fun _ => cont m2 _ (q1.1.fc q2.2) q2.1 ⟨gPoints hg.1, hg.2⟩) (fun z => absurd rfl z)
/-- arc -/
theorem law_1 {l : Launch} {E : Ev} {K : Kt} {b L t : Nat} {xs : Nat → Int32} {M : Mm} {S : As} (hI : ∀ k, k < 108 → k ∈ E.2.1) (k : Ok l E K cL_law RL 9 4) (hX : Sx K b L xs) (ht : t + 5 ≤ L) (hL : L ≤ 2560) (h1 : CA M S) (h2 : RA M S) (hg : GA S) (cont : ∀ M' S', CA M' S' → RA M' S' → GA S' → G l E K 1690 [(3, .int (nI t)), (2, .ref (E.2.2.1 65)), (1, .ref (E.2.2.1 0)), (0, .ref b)] [] M') : G l E K 251 [(3, .int (nI t)), (2, .ref (E.2.2.1 65)), (1, .ref (E.2.2.1 0)), (0, .ref b)] [] M := by
  refine gs_aload_n (q := 2) k rfl rfl dL_law_251 ?_
  refine gs_aload_n (q := 3) k rfl rfl dL_law_252 ?_
  refine gs_iload_n (q := 0) k rfl rfl dL_law_253 ?_
  refine gs_iconst (v := nI 1) k (by decide) dL_law_254 ?_
  refine gs_iadd k dL_law_255 ?_
  refine gl_sld k hX (vin (by omega) hL) dL_law_256 ?_
  refine gs_aload_n (q := 3) k rfl rfl dL_law_257 ?_
  refine gs_iload_n (q := 0) k rfl rfl dL_law_258 ?_
  refine gs_iconst (v := nI 2) k (by decide) dL_law_259 ?_
  refine gs_iadd k dL_law_260 ?_
  refine gl_sld k hX (vin (by omega) hL) dL_law_261 ?_
  refine gs_aload_n (q := 3) k rfl rfl dL_law_262 ?_
  refine gs_iload_n (q := 0) k rfl rfl dL_law_263 ?_
  refine gs_iconst (v := nI 3) k (by decide) dL_law_264 ?_
  refine gs_iadd k dL_law_265 ?_
  refine gl_sld k hX (vin (by omega) hL) dL_law_266 ?_
  refine gs_callV (As := [.int (xs (nI t + nI 1).toNatClampNeg), .int (xs (nI t + nI 2).toNatClampNeg), .int (xs (nI t + nI 3).toNatClampNeg)]) (k0 := 0) (ci := 6) (T := TX6) (N := 10) k (sC_arc hI h1) cf_X6_arc im_X6_arc sl_X6_arc ml_L_18 (hI 0 (by omega)) rfl rfl (by decide) rfl rfl (Nat.le_of_ble_eq_true rfl) dL_law_267 (ppH (fun m1 q1 => ?_))
  refine gs_aload_n (q := 1) k rfl rfl dL_law_270 ?_
  refine gs_aload_n (q := 3) k rfl rfl dL_law_271 ?_
  refine gs_iload_n (q := 0) k rfl rfl dL_law_272 ?_
  refine gs_iconst (v := nI 1) k (by decide) dL_law_273 ?_
  refine gs_iadd k dL_law_274 ?_
  refine gl_sld k hX (vin (by omega) hL) dL_law_275 ?_
  refine gs_aload_n (q := 3) k rfl rfl dL_law_276 ?_
  refine gs_iload_n (q := 0) k rfl rfl dL_law_277 ?_
  refine gs_iconst (v := nI 2) k (by decide) dL_law_278 ?_
  refine gs_iadd k dL_law_279 ?_
  refine gl_sld k hX (vin (by omega) hL) dL_law_280 ?_
  refine gs_aload_n (q := 3) k rfl rfl dL_law_281 ?_
  refine gs_iload_n (q := 0) k rfl rfl dL_law_282 ?_
  refine gs_iconst (v := nI 3) k (by decide) dL_law_283 ?_
  refine gs_iadd k dL_law_284 ?_
  refine gl_sld k hX (vin (by omega) hL) dL_law_285 ?_
  refine gs_callV (As := [.int (xs (nI t + nI 1).toNatClampNeg), .int (xs (nI t + nI 2).toNatClampNeg), .int (xs (nI t + nI 3).toNatClampNeg)]) (k0 := 65) (ci := 7) (T := TX7) (N := 27) k (sR_arc hI (h2.fr q1.2)) cf_X7_arc im_X7_arc sl_X7_arc ml_L_22 (hI 65 (by omega)) rfl rfl (by decide) rfl rfl (Nat.le_of_ble_eq_true rfl) dL_law_286 (ppH (fun m2 q2 => ?_))
  exact gs_icmp_eq (tgt := 1690) k (by decide) dL_law_289 (fun _ => cont m2 _ (q1.1.fc q2.2) q2.1 ⟨gArc hg.1, hg.2⟩) (fun z => absurd rfl z)
/-- item -/
theorem law_2 {l : Launch} {E : Ev} {K : Kt} {b L t : Nat} {xs : Nat → Int32} {M : Mm} {S : As} (hI : ∀ k, k < 108 → k ∈ E.2.1) (k : Ok l E K cL_law RL 9 4) (hX : Sx K b L xs) (ht : t + 5 ≤ L) (hL : L ≤ 2560) (h1 : CA M S) (h2 : RA M S) (hg : GA S) (cont : ∀ M' S', CA M' S' → RA M' S' → GA S' → G l E K 1690 [(3, .int (nI t)), (2, .ref (E.2.2.1 65)), (1, .ref (E.2.2.1 0)), (0, .ref b)] [] M') : G l E K 294 [(3, .int (nI t)), (2, .ref (E.2.2.1 65)), (1, .ref (E.2.2.1 0)), (0, .ref b)] [] M := by
  refine gs_aload_n (q := 2) k rfl rfl dL_law_294 ?_
  refine gs_aload_n (q := 3) k rfl rfl dL_law_295 ?_
  refine gs_iload_n (q := 0) k rfl rfl dL_law_296 ?_
  refine gs_iconst (v := nI 1) k (by decide) dL_law_297 ?_
  refine gs_iadd k dL_law_298 ?_
  refine gl_sld k hX (vin (by omega) hL) dL_law_299 ?_
  refine gs_aload_n (q := 3) k rfl rfl dL_law_300 ?_
  refine gs_iload_n (q := 0) k rfl rfl dL_law_301 ?_
  refine gs_iconst (v := nI 2) k (by decide) dL_law_302 ?_
  refine gs_iadd k dL_law_303 ?_
  refine gl_sld k hX (vin (by omega) hL) dL_law_304 ?_
  refine gs_aload_n (q := 3) k rfl rfl dL_law_305 ?_
  refine gs_iload_n (q := 0) k rfl rfl dL_law_306 ?_
  refine gs_iconst (v := nI 3) k (by decide) dL_law_307 ?_
  refine gs_iadd k dL_law_308 ?_
  refine gl_sld k hX (vin (by omega) hL) dL_law_309 ?_
  refine gs_callV (As := [.int (xs (nI t + nI 1).toNatClampNeg), .int (xs (nI t + nI 2).toNatClampNeg), .int (xs (nI t + nI 3).toNatClampNeg)]) (k0 := 0) (ci := 6) (T := TX6) (N := 10) k (sC_item hI h1) cf_X6_item im_X6_item sl_X6_item ml_L_23 (hI 0 (by omega)) rfl rfl (by decide) rfl rfl (Nat.le_of_ble_eq_true rfl) dL_law_310 (ppH (fun m1 q1 => ?_))
  refine gs_aload_n (q := 1) k rfl rfl dL_law_313 ?_
  refine gs_aload_n (q := 3) k rfl rfl dL_law_314 ?_
  refine gs_iload_n (q := 0) k rfl rfl dL_law_315 ?_
  refine gs_iconst (v := nI 1) k (by decide) dL_law_316 ?_
  refine gs_iadd k dL_law_317 ?_
  refine gl_sld k hX (vin (by omega) hL) dL_law_318 ?_
  refine gs_aload_n (q := 3) k rfl rfl dL_law_319 ?_
  refine gs_iload_n (q := 0) k rfl rfl dL_law_320 ?_
  refine gs_iconst (v := nI 2) k (by decide) dL_law_321 ?_
  refine gs_iadd k dL_law_322 ?_
  refine gl_sld k hX (vin (by omega) hL) dL_law_323 ?_
  refine gs_aload_n (q := 3) k rfl rfl dL_law_324 ?_
  refine gs_iload_n (q := 0) k rfl rfl dL_law_325 ?_
  refine gs_iconst (v := nI 3) k (by decide) dL_law_326 ?_
  refine gs_iadd k dL_law_327 ?_
  refine gl_sld k hX (vin (by omega) hL) dL_law_328 ?_
  refine gs_callV (As := [.int (xs (nI t + nI 1).toNatClampNeg), .int (xs (nI t + nI 2).toNatClampNeg), .int (xs (nI t + nI 3).toNatClampNeg)]) (k0 := 65) (ci := 7) (T := TX7) (N := 27) k (sR_item hI (h2.fr q1.2)) cf_X7_item im_X7_item sl_X7_item ml_L_26 (hI 65 (by omega)) rfl rfl (by decide) rfl rfl (Nat.le_of_ble_eq_true rfl) dL_law_329 (ppH (fun m2 q2 => ?_))
  exact gs_icmp_eq (tgt := 1690) k (by decide) dL_law_332 (fun _ => cont m2 _ (q1.1.fc q2.2) q2.1 ⟨gItem hg.1, hg.2⟩) (fun z => absurd rfl z)
/-- block -/
theorem law_3 {l : Launch} {E : Ev} {K : Kt} {b L t : Nat} {xs : Nat → Int32} {M : Mm} {S : As} (hI : ∀ k, k < 108 → k ∈ E.2.1) (k : Ok l E K cL_law RL 9 4) (hX : Sx K b L xs) (ht : t + 5 ≤ L) (hL : L ≤ 2560) (h1 : CA M S) (h2 : RA M S) (hg : GA S) (cont : ∀ M' S', CA M' S' → RA M' S' → GA S' → G l E K 1690 [(3, .int (nI t)), (2, .ref (E.2.2.1 65)), (1, .ref (E.2.2.1 0)), (0, .ref b)] [] M') : G l E K 337 [(3, .int (nI t)), (2, .ref (E.2.2.1 65)), (1, .ref (E.2.2.1 0)), (0, .ref b)] [] M := by
  refine gs_aload_n (q := 2) k rfl rfl dL_law_337 ?_
  refine gs_aload_n (q := 3) k rfl rfl dL_law_338 ?_
  refine gs_iload_n (q := 0) k rfl rfl dL_law_339 ?_
  refine gs_iconst (v := nI 1) k (by decide) dL_law_340 ?_
  refine gs_iadd k dL_law_341 ?_
  refine gl_sld k hX (vin (by omega) hL) dL_law_342 ?_
  refine gs_aload_n (q := 3) k rfl rfl dL_law_343 ?_
  refine gs_iload_n (q := 0) k rfl rfl dL_law_344 ?_
  refine gs_iconst (v := nI 2) k (by decide) dL_law_345 ?_
  refine gs_iadd k dL_law_346 ?_
  refine gl_sld k hX (vin (by omega) hL) dL_law_347 ?_
  refine gs_callV (As := [.int (xs (nI t + nI 1).toNatClampNeg), .int (xs (nI t + nI 2).toNatClampNeg)]) (k0 := 0) (ci := 6) (T := TX6) (N := 10) k (sC_block hI h1) cf_X6_block im_X6_block sl_X6_block ml_L_27 (hI 0 (by omega)) rfl rfl (by decide) rfl rfl (Nat.le_of_ble_eq_true rfl) dL_law_348 (ppH (fun m1 q1 => ?_))
  refine gs_aload_n (q := 1) k rfl rfl dL_law_351 ?_
  refine gs_aload_n (q := 3) k rfl rfl dL_law_352 ?_
  refine gs_iload_n (q := 0) k rfl rfl dL_law_353 ?_
  refine gs_iconst (v := nI 1) k (by decide) dL_law_354 ?_
  refine gs_iadd k dL_law_355 ?_
  refine gl_sld k hX (vin (by omega) hL) dL_law_356 ?_
  refine gs_aload_n (q := 3) k rfl rfl dL_law_357 ?_
  refine gs_iload_n (q := 0) k rfl rfl dL_law_358 ?_
  refine gs_iconst (v := nI 2) k (by decide) dL_law_359 ?_
  refine gs_iadd k dL_law_360 ?_
  refine gl_sld k hX (vin (by omega) hL) dL_law_361 ?_
  refine gs_callV (As := [.int (xs (nI t + nI 1).toNatClampNeg), .int (xs (nI t + nI 2).toNatClampNeg)]) (k0 := 65) (ci := 7) (T := TX7) (N := 27) k (sR_block hI (h2.fr q1.2)) cf_X7_block im_X7_block sl_X7_block ml_L_31 (hI 65 (by omega)) rfl rfl (by decide) rfl rfl (Nat.le_of_ble_eq_true rfl) dL_law_362 (ppH (fun m2 q2 => ?_))
  exact gs_icmp_eq (tgt := 1690) k (by decide) dL_law_365 (fun _ => cont m2 _ (q1.1.fc q2.2) q2.1 ⟨gBlock hg.1, hg.2⟩) (fun z => absurd rfl z)
/-- cap -/
theorem law_4 {l : Launch} {E : Ev} {K : Kt} {b L t : Nat} {xs : Nat → Int32} {M : Mm} {S : As} (hI : ∀ k, k < 108 → k ∈ E.2.1) (k : Ok l E K cL_law RL 9 4) (hX : Sx K b L xs) (ht : t + 5 ≤ L) (hL : L ≤ 2560) (h1 : CA M S) (h2 : RA M S) (hg : GA S) (cont : ∀ M' S', CA M' S' → RA M' S' → GA S' → G l E K 1690 [(3, .int (nI t)), (2, .ref (E.2.2.1 65)), (1, .ref (E.2.2.1 0)), (0, .ref b)] [] M') : G l E K 370 [(3, .int (nI t)), (2, .ref (E.2.2.1 65)), (1, .ref (E.2.2.1 0)), (0, .ref b)] [] M := by
  refine gs_aload_n (q := 2) k rfl rfl dL_law_370 ?_
  refine gs_aload_n (q := 3) k rfl rfl dL_law_371 ?_
  refine gs_iload_n (q := 0) k rfl rfl dL_law_372 ?_
  refine gs_iconst (v := nI 1) k (by decide) dL_law_373 ?_
  refine gs_iadd k dL_law_374 ?_
  refine gl_sld k hX (vin (by omega) hL) dL_law_375 ?_
  refine gs_aload_n (q := 3) k rfl rfl dL_law_376 ?_
  refine gs_iload_n (q := 0) k rfl rfl dL_law_377 ?_
  refine gs_iconst (v := nI 2) k (by decide) dL_law_378 ?_
  refine gs_iadd k dL_law_379 ?_
  refine gl_sld k hX (vin (by omega) hL) dL_law_380 ?_
  refine gs_callV (As := [.int (xs (nI t + nI 1).toNatClampNeg), .int (xs (nI t + nI 2).toNatClampNeg)]) (k0 := 0) (ci := 6) (T := TX6) (N := 10) k (sC_cap hI h1) cf_X6_cap im_X6_cap sl_X6_cap ml_L_32 (hI 0 (by omega)) rfl rfl (by decide) rfl rfl (Nat.le_of_ble_eq_true rfl) dL_law_381 (ppH (fun m1 q1 => ?_))
  refine gs_aload_n (q := 1) k rfl rfl dL_law_384 ?_
  refine gs_aload_n (q := 3) k rfl rfl dL_law_385 ?_
  refine gs_iload_n (q := 0) k rfl rfl dL_law_386 ?_
  refine gs_iconst (v := nI 1) k (by decide) dL_law_387 ?_
  refine gs_iadd k dL_law_388 ?_
  refine gl_sld k hX (vin (by omega) hL) dL_law_389 ?_
  refine gs_aload_n (q := 3) k rfl rfl dL_law_390 ?_
  refine gs_iload_n (q := 0) k rfl rfl dL_law_391 ?_
  refine gs_iconst (v := nI 2) k (by decide) dL_law_392 ?_
  refine gs_iadd k dL_law_393 ?_
  refine gl_sld k hX (vin (by omega) hL) dL_law_394 ?_
  refine gs_callV (As := [.int (xs (nI t + nI 1).toNatClampNeg), .int (xs (nI t + nI 2).toNatClampNeg)]) (k0 := 65) (ci := 7) (T := TX7) (N := 27) k (sR_cap hI (h2.fr q1.2)) cf_X7_cap im_X7_cap sl_X7_cap ml_L_35 (hI 65 (by omega)) rfl rfl (by decide) rfl rfl (Nat.le_of_ble_eq_true rfl) dL_law_395 (ppH (fun m2 q2 => ?_))
  exact gs_icmp_eq (tgt := 1690) k (by decide) dL_law_398 (fun _ => cont m2 _ (q1.1.fc q2.2) q2.1 ⟨gCap hg.1, hg.2⟩) (fun z => absurd rfl z)
/-- weight -/
theorem law_5 {l : Launch} {E : Ev} {K : Kt} {b L t : Nat} {xs : Nat → Int32} {M : Mm} {S : As} (hI : ∀ k, k < 108 → k ∈ E.2.1) (k : Ok l E K cL_law RL 9 4) (hX : Sx K b L xs) (ht : t + 5 ≤ L) (hL : L ≤ 2560) (h1 : CA M S) (h2 : RA M S) (hg : GA S) (cont : ∀ M' S', CA M' S' → RA M' S' → GA S' → G l E K 1690 [(3, .int (nI t)), (2, .ref (E.2.2.1 65)), (1, .ref (E.2.2.1 0)), (0, .ref b)] [] M') : G l E K 403 [(3, .int (nI t)), (2, .ref (E.2.2.1 65)), (1, .ref (E.2.2.1 0)), (0, .ref b)] [] M := by
  refine gs_aload_n (q := 2) k rfl rfl dL_law_403 ?_
  refine gs_aload_n (q := 3) k rfl rfl dL_law_404 ?_
  refine gs_iload_n (q := 0) k rfl rfl dL_law_405 ?_
  refine gs_iconst (v := nI 1) k (by decide) dL_law_406 ?_
  refine gs_iadd k dL_law_407 ?_
  refine gl_sld k hX (vin (by omega) hL) dL_law_408 ?_
  refine gs_aload_n (q := 3) k rfl rfl dL_law_409 ?_
  refine gs_iload_n (q := 0) k rfl rfl dL_law_410 ?_
  refine gs_iconst (v := nI 2) k (by decide) dL_law_411 ?_
  refine gs_iadd k dL_law_412 ?_
  refine gl_sld k hX (vin (by omega) hL) dL_law_413 ?_
  refine gs_callV (As := [.int (xs (nI t + nI 1).toNatClampNeg), .int (xs (nI t + nI 2).toNatClampNeg)]) (k0 := 0) (ci := 6) (T := TX6) (N := 10) k (sC_weight hI h1) cf_X6_weight im_X6_weight sl_X6_weight ml_L_36 (hI 0 (by omega)) rfl rfl (by decide) rfl rfl (Nat.le_of_ble_eq_true rfl) dL_law_414 (ppH (fun m1 q1 => ?_))
  refine gs_aload_n (q := 1) k rfl rfl dL_law_417 ?_
  refine gs_aload_n (q := 3) k rfl rfl dL_law_418 ?_
  refine gs_iload_n (q := 0) k rfl rfl dL_law_419 ?_
  refine gs_iconst (v := nI 1) k (by decide) dL_law_420 ?_
  refine gs_iadd k dL_law_421 ?_
  refine gl_sld k hX (vin (by omega) hL) dL_law_422 ?_
  refine gs_aload_n (q := 3) k rfl rfl dL_law_423 ?_
  refine gs_iload_n (q := 0) k rfl rfl dL_law_424 ?_
  refine gs_iconst (v := nI 2) k (by decide) dL_law_425 ?_
  refine gs_iadd k dL_law_426 ?_
  refine gl_sld k hX (vin (by omega) hL) dL_law_427 ?_
  refine gs_callV (As := [.int (xs (nI t + nI 1).toNatClampNeg), .int (xs (nI t + nI 2).toNatClampNeg)]) (k0 := 65) (ci := 7) (T := TX7) (N := 27) k (sR_weight hI (h2.fr q1.2)) cf_X7_weight im_X7_weight sl_X7_weight ml_L_39 (hI 65 (by omega)) rfl rfl (by decide) rfl rfl (Nat.le_of_ble_eq_true rfl) dL_law_428 (ppH (fun m2 q2 => ?_))
  exact gs_icmp_eq (tgt := 1690) k (by decide) dL_law_431 (fun _ => cont m2 _ (q1.1.fc q2.2) q2.1 ⟨gWeight hg.1, hg.2⟩) (fun z => absurd rfl z)
/-- tell -/
theorem law_6 {l : Launch} {E : Ev} {K : Kt} {b L t : Nat} {xs : Nat → Int32} {M : Mm} {S : As} (hI : ∀ k, k < 108 → k ∈ E.2.1) (k : Ok l E K cL_law RL 9 4) (hX : Sx K b L xs) (ht : t + 5 ≤ L) (hL : L ≤ 2560) (h1 : CA M S) (h2 : RA M S) (hg : GA S) (cont : ∀ M' S', CA M' S' → RA M' S' → GA S' → G l E K 1690 [(3, .int (nI t)), (2, .ref (E.2.2.1 65)), (1, .ref (E.2.2.1 0)), (0, .ref b)] [] M') : G l E K 436 [(3, .int (nI t)), (2, .ref (E.2.2.1 65)), (1, .ref (E.2.2.1 0)), (0, .ref b)] [] M := by
  refine gs_aload_n (q := 2) k rfl rfl dL_law_436 ?_
  refine gs_aload_n (q := 3) k rfl rfl dL_law_437 ?_
  refine gs_iload_n (q := 0) k rfl rfl dL_law_438 ?_
  refine gs_iconst (v := nI 1) k (by decide) dL_law_439 ?_
  refine gs_iadd k dL_law_440 ?_
  refine gl_sld k hX (vin (by omega) hL) dL_law_441 ?_
  refine gs_aload_n (q := 3) k rfl rfl dL_law_442 ?_
  refine gs_iload_n (q := 0) k rfl rfl dL_law_443 ?_
  refine gs_iconst (v := nI 2) k (by decide) dL_law_444 ?_
  refine gs_iadd k dL_law_445 ?_
  refine gl_sld k hX (vin (by omega) hL) dL_law_446 ?_
  refine gs_aload_n (q := 3) k rfl rfl dL_law_447 ?_
  refine gs_iload_n (q := 0) k rfl rfl dL_law_448 ?_
  refine gs_iconst (v := nI 3) k (by decide) dL_law_449 ?_
  refine gs_iadd k dL_law_450 ?_
  refine gl_sld k hX (vin (by omega) hL) dL_law_451 ?_
  refine gs_callV (As := [.int (xs (nI t + nI 1).toNatClampNeg), .int (xs (nI t + nI 2).toNatClampNeg), .int (xs (nI t + nI 3).toNatClampNeg)]) (k0 := 0) (ci := 6) (T := TX6) (N := 10) k (sC_tell hI h1 hg.1) cf_X6_tell im_X6_tell sl_X6_tell ml_L_40 (hI 0 (by omega)) rfl rfl (by decide) rfl rfl (Nat.le_of_ble_eq_true rfl) dL_law_452 (ppH (fun m1 q1 => ?_))
  refine gs_aload_n (q := 1) k rfl rfl dL_law_455 ?_
  refine gs_aload_n (q := 3) k rfl rfl dL_law_456 ?_
  refine gs_iload_n (q := 0) k rfl rfl dL_law_457 ?_
  refine gs_iconst (v := nI 1) k (by decide) dL_law_458 ?_
  refine gs_iadd k dL_law_459 ?_
  refine gl_sld k hX (vin (by omega) hL) dL_law_460 ?_
  refine gs_aload_n (q := 3) k rfl rfl dL_law_461 ?_
  refine gs_iload_n (q := 0) k rfl rfl dL_law_462 ?_
  refine gs_iconst (v := nI 2) k (by decide) dL_law_463 ?_
  refine gs_iadd k dL_law_464 ?_
  refine gl_sld k hX (vin (by omega) hL) dL_law_465 ?_
  refine gs_aload_n (q := 3) k rfl rfl dL_law_466 ?_
  refine gs_iload_n (q := 0) k rfl rfl dL_law_467 ?_
  refine gs_iconst (v := nI 3) k (by decide) dL_law_468 ?_
  refine gs_iadd k dL_law_469 ?_
  refine gl_sld k hX (vin (by omega) hL) dL_law_470 ?_
  refine gs_callV (As := [.int (xs (nI t + nI 1).toNatClampNeg), .int (xs (nI t + nI 2).toNatClampNeg), .int (xs (nI t + nI 3).toNatClampNeg)]) (k0 := 65) (ci := 7) (T := TX7) (N := 27) k (sR_tell hI (h2.fr q1.2) hg.1) cf_X7_tell im_X7_tell sl_X7_tell ml_L_43 (hI 65 (by omega)) rfl rfl (by decide) rfl rfl (Nat.le_of_ble_eq_true rfl) dL_law_471 (ppH (fun m2 q2 => ?_))
  exact gs_icmp_eq (tgt := 1690) k (by decide) dL_law_474 (fun _ => cont m2 _ (q1.1.fc q2.2) q2.1 ⟨gTell hg.1, hg.2⟩) (fun z => absurd rfl z)
/-- cut -/
theorem law_7 {l : Launch} {E : Ev} {K : Kt} {b L t : Nat} {xs : Nat → Int32} {M : Mm} {S : As} (hI : ∀ k, k < 108 → k ∈ E.2.1) (k : Ok l E K cL_law RL 9 4) (hX : Sx K b L xs) (ht : t + 5 ≤ L) (hL : L ≤ 2560) (h1 : CA M S) (h2 : RA M S) (hg : GA S) (cont : ∀ M' S', CA M' S' → RA M' S' → GA S' → G l E K 1690 [(3, .int (nI t)), (2, .ref (E.2.2.1 65)), (1, .ref (E.2.2.1 0)), (0, .ref b)] [] M') : G l E K 479 [(3, .int (nI t)), (2, .ref (E.2.2.1 65)), (1, .ref (E.2.2.1 0)), (0, .ref b)] [] M := by
  refine gs_aload_n (q := 2) k rfl rfl dL_law_479 ?_
  refine gs_aload_n (q := 3) k rfl rfl dL_law_480 ?_
  refine gs_iload_n (q := 0) k rfl rfl dL_law_481 ?_
  refine gs_iconst (v := nI 1) k (by decide) dL_law_482 ?_
  refine gs_iadd k dL_law_483 ?_
  refine gl_sld k hX (vin (by omega) hL) dL_law_484 ?_
  refine gs_callV (As := [.int (xs (nI t + nI 1).toNatClampNeg)]) (k0 := 0) (ci := 6) (T := TX6) (N := 10) k (sC_cut hI h1) cf_X6_cut im_X6_cut sl_X6_cut ml_L_44 (hI 0 (by omega)) rfl rfl (by decide) rfl rfl (Nat.le_of_ble_eq_true rfl) dL_law_485 (ppH (fun m1 q1 => ?_))
  refine gs_aload_n (q := 1) k rfl rfl dL_law_488 ?_
  refine gs_aload_n (q := 3) k rfl rfl dL_law_489 ?_
  refine gs_iload_n (q := 0) k rfl rfl dL_law_490 ?_
  refine gs_iconst (v := nI 1) k (by decide) dL_law_491 ?_
  refine gs_iadd k dL_law_492 ?_
  refine gl_sld k hX (vin (by omega) hL) dL_law_493 ?_
  refine gs_callV (As := [.int (xs (nI t + nI 1).toNatClampNeg)]) (k0 := 65) (ci := 7) (T := TX7) (N := 27) k (sR_cut hI (h2.fr q1.2)) cf_X7_cut im_X7_cut sl_X7_cut ml_L_47 (hI 65 (by omega)) rfl rfl (by decide) rfl rfl (Nat.le_of_ble_eq_true rfl) dL_law_494 (ppH (fun m2 q2 => ?_))
  exact gs_icmp_eq (tgt := 1690) k (by decide) dL_law_497 (fun _ => cont m2 _ (q1.1.fc q2.2) q2.1 ⟨gKind hg.1 (by unfold inR; decide) (fun s _ => csum_V hg.1.1.2 hg.1.2.2.1), hg.2⟩) (fun z => absurd rfl z)
/-- cover -/
theorem law_8 {l : Launch} {E : Ev} {K : Kt} {b L t : Nat} {xs : Nat → Int32} {M : Mm} {S : As} (hI : ∀ k, k < 108 → k ∈ E.2.1) (k : Ok l E K cL_law RL 9 4) (hX : Sx K b L xs) (ht : t + 5 ≤ L) (hL : L ≤ 2560) (h1 : CA M S) (h2 : RA M S) (hg : GA S) (cont : ∀ M' S', CA M' S' → RA M' S' → GA S' → G l E K 1690 [(3, .int (nI t)), (2, .ref (E.2.2.1 65)), (1, .ref (E.2.2.1 0)), (0, .ref b)] [] M') : G l E K 502 [(3, .int (nI t)), (2, .ref (E.2.2.1 65)), (1, .ref (E.2.2.1 0)), (0, .ref b)] [] M := by
  refine gs_aload_n (q := 2) k rfl rfl dL_law_502 ?_
  refine gs_aload_n (q := 3) k rfl rfl dL_law_503 ?_
  refine gs_iload_n (q := 0) k rfl rfl dL_law_504 ?_
  refine gs_iconst (v := nI 1) k (by decide) dL_law_505 ?_
  refine gs_iadd k dL_law_506 ?_
  refine gl_sld k hX (vin (by omega) hL) dL_law_507 ?_
  refine gs_callV (As := [.int (xs (nI t + nI 1).toNatClampNeg)]) (k0 := 0) (ci := 6) (T := TX6) (N := 10) k (sC_cover hI h1) cf_X6_cover im_X6_cover sl_X6_cover ml_L_48 (hI 0 (by omega)) rfl rfl (by decide) rfl rfl (Nat.le_of_ble_eq_true rfl) dL_law_508 (ppH (fun m1 q1 => ?_))
  refine gs_aload_n (q := 1) k rfl rfl dL_law_511 ?_
  refine gs_aload_n (q := 3) k rfl rfl dL_law_512 ?_
  refine gs_iload_n (q := 0) k rfl rfl dL_law_513 ?_
  refine gs_iconst (v := nI 1) k (by decide) dL_law_514 ?_
  refine gs_iadd k dL_law_515 ?_
  refine gl_sld k hX (vin (by omega) hL) dL_law_516 ?_
  refine gs_callV (As := [.int (xs (nI t + nI 1).toNatClampNeg)]) (k0 := 65) (ci := 7) (T := TX7) (N := 27) k (sR_cover hI (h2.fr q1.2)) cf_X7_cover im_X7_cover sl_X7_cover ml_L_51 (hI 65 (by omega)) rfl rfl (by decide) rfl rfl (Nat.le_of_ble_eq_true rfl) dL_law_517 (ppH (fun m2 q2 => ?_))
  exact gs_icmp_eq (tgt := 1690) k (by decide) dL_law_520 (fun _ => cont m2 _ (q1.1.fc q2.2) q2.1 ⟨gKind hg.1 (by unfold inR; decide) (fun s _ => vsum_V hg.1.2.2.2.1), hg.2⟩) (fun z => absurd rfl z)
/-- capped -/
theorem law_9 {l : Launch} {E : Ev} {K : Kt} {b L t : Nat} {xs : Nat → Int32} {M : Mm} {S : As} (hI : ∀ k, k < 108 → k ∈ E.2.1) (k : Ok l E K cL_law RL 9 4) (hX : Sx K b L xs) (ht : t + 5 ≤ L) (hL : L ≤ 2560) (h1 : CA M S) (h2 : RA M S) (hg : GA S) (cont : ∀ M' S', CA M' S' → RA M' S' → GA S' → G l E K 1690 [(3, .int (nI t)), (2, .ref (E.2.2.1 65)), (1, .ref (E.2.2.1 0)), (0, .ref b)] [] M') : G l E K 525 [(3, .int (nI t)), (2, .ref (E.2.2.1 65)), (1, .ref (E.2.2.1 0)), (0, .ref b)] [] M := by
  refine gs_aload_n (q := 2) k rfl rfl dL_law_525 ?_
  refine gs_aload_n (q := 3) k rfl rfl dL_law_526 ?_
  refine gs_iload_n (q := 0) k rfl rfl dL_law_527 ?_
  refine gs_iconst (v := nI 1) k (by decide) dL_law_528 ?_
  refine gs_iadd k dL_law_529 ?_
  refine gl_sld k hX (vin (by omega) hL) dL_law_530 ?_
  refine gs_callV (As := [.int (xs (nI t + nI 1).toNatClampNeg)]) (k0 := 0) (ci := 6) (T := TX6) (N := 10) k (sC_capped hI h1 hg.1) cf_X6_capped im_X6_capped sl_X6_capped ml_L_52 (hI 0 (by omega)) rfl rfl (by decide) rfl rfl (Nat.le_of_ble_eq_true rfl) dL_law_531 (ppH (fun m1 q1 => ?_))
  refine gs_aload_n (q := 1) k rfl rfl dL_law_534 ?_
  refine gs_aload_n (q := 3) k rfl rfl dL_law_535 ?_
  refine gs_iload_n (q := 0) k rfl rfl dL_law_536 ?_
  refine gs_iconst (v := nI 1) k (by decide) dL_law_537 ?_
  refine gs_iadd k dL_law_538 ?_
  refine gl_sld k hX (vin (by omega) hL) dL_law_539 ?_
  refine gs_callV (As := [.int (xs (nI t + nI 1).toNatClampNeg)]) (k0 := 65) (ci := 7) (T := TX7) (N := 27) k (sR_capped hI (h2.fr q1.2) hg.1) cf_X7_capped im_X7_capped sl_X7_capped ml_L_55 (hI 65 (by omega)) rfl rfl (by decide) rfl rfl (Nat.le_of_ble_eq_true rfl) dL_law_540 (ppH (fun m2 q2 => ?_))
  exact gs_icmp_eq (tgt := 1690) k (by decide) dL_law_543 (fun _ => cont m2 _ (q1.1.fc q2.2) q2.1 ⟨gKind hg.1 (by unfold inR; decide) (fun s _ => ksum_V hg.1.1.2 hg.1.2.2.2.2.2.1), hg.2⟩) (fun z => absurd rfl z)
/-- weighed -/
theorem law_10 {l : Launch} {E : Ev} {K : Kt} {b L t : Nat} {xs : Nat → Int32} {M : Mm} {S : As} (hI : ∀ k, k < 108 → k ∈ E.2.1) (k : Ok l E K cL_law RL 9 4) (hX : Sx K b L xs) (ht : t + 5 ≤ L) (hL : L ≤ 2560) (h1 : CA M S) (h2 : RA M S) (hg : GA S) (cont : ∀ M' S', CA M' S' → RA M' S' → GA S' → G l E K 1690 [(3, .int (nI t)), (2, .ref (E.2.2.1 65)), (1, .ref (E.2.2.1 0)), (0, .ref b)] [] M') : G l E K 548 [(3, .int (nI t)), (2, .ref (E.2.2.1 65)), (1, .ref (E.2.2.1 0)), (0, .ref b)] [] M := by
  refine gs_aload_n (q := 2) k rfl rfl dL_law_548 ?_
  refine gs_aload_n (q := 3) k rfl rfl dL_law_549 ?_
  refine gs_iload_n (q := 0) k rfl rfl dL_law_550 ?_
  refine gs_iconst (v := nI 1) k (by decide) dL_law_551 ?_
  refine gs_iadd k dL_law_552 ?_
  refine gl_sld k hX (vin (by omega) hL) dL_law_553 ?_
  refine gs_callV (As := [.int (xs (nI t + nI 1).toNatClampNeg)]) (k0 := 0) (ci := 6) (T := TX6) (N := 10) k (sC_weighed hI h1) cf_X6_weighed im_X6_weighed sl_X6_weighed ml_L_56 (hI 0 (by omega)) rfl rfl (by decide) rfl rfl (Nat.le_of_ble_eq_true rfl) dL_law_554 (ppH (fun m1 q1 => ?_))
  refine gs_aload_n (q := 1) k rfl rfl dL_law_557 ?_
  refine gs_aload_n (q := 3) k rfl rfl dL_law_558 ?_
  refine gs_iload_n (q := 0) k rfl rfl dL_law_559 ?_
  refine gs_iconst (v := nI 1) k (by decide) dL_law_560 ?_
  refine gs_iadd k dL_law_561 ?_
  refine gl_sld k hX (vin (by omega) hL) dL_law_562 ?_
  refine gs_callV (As := [.int (xs (nI t + nI 1).toNatClampNeg)]) (k0 := 65) (ci := 7) (T := TX7) (N := 27) k (sR_weighed hI (h2.fr q1.2)) cf_X7_weighed im_X7_weighed sl_X7_weighed ml_L_59 (hI 65 (by omega)) rfl rfl (by decide) rfl rfl (Nat.le_of_ble_eq_true rfl) dL_law_563 (ppH (fun m2 q2 => ?_))
  exact gs_icmp_eq (tgt := 1690) k (by decide) dL_law_566 (fun _ => cont m2 _ (q1.1.fc q2.2) q2.1 ⟨gKind hg.1 (by unfold inR; decide) (fun s _ => wsum_V hg.1.1.2 hg.1.2.2.2.2.2.2), hg.2⟩) (fun z => absurd rfl z)
/-- sum -/
theorem law_11 {l : Launch} {E : Ev} {K : Kt} {b L t : Nat} {xs : Nat → Int32} {M : Mm} {S : As} (hI : ∀ k, k < 108 → k ∈ E.2.1) (k : Ok l E K cL_law RL 9 4) (hX : Sx K b L xs) (ht : t + 5 ≤ L) (hL : L ≤ 2560) (h1 : CA M S) (h2 : RA M S) (hg : GA S) (cont : ∀ M' S', CA M' S' → RA M' S' → GA S' → G l E K 1690 [(3, .int (nI t)), (2, .ref (E.2.2.1 65)), (1, .ref (E.2.2.1 0)), (0, .ref b)] [] M') : G l E K 571 [(3, .int (nI t)), (2, .ref (E.2.2.1 65)), (1, .ref (E.2.2.1 0)), (0, .ref b)] [] M := by
  refine gs_aload_n (q := 2) k rfl rfl dL_law_571 ?_
  refine gs_aload_n (q := 3) k rfl rfl dL_law_572 ?_
  refine gs_iload_n (q := 0) k rfl rfl dL_law_573 ?_
  refine gs_iconst (v := nI 1) k (by decide) dL_law_574 ?_
  refine gs_iadd k dL_law_575 ?_
  refine gl_sld k hX (vin (by omega) hL) dL_law_576 ?_
  refine gs_aload_n (q := 3) k rfl rfl dL_law_577 ?_
  refine gs_iload_n (q := 0) k rfl rfl dL_law_578 ?_
  refine gs_iconst (v := nI 2) k (by decide) dL_law_579 ?_
  refine gs_iadd k dL_law_580 ?_
  refine gl_sld k hX (vin (by omega) hL) dL_law_581 ?_
  refine gs_aload_n (q := 3) k rfl rfl dL_law_582 ?_
  refine gs_iload_n (q := 0) k rfl rfl dL_law_583 ?_
  refine gs_iconst (v := nI 3) k (by decide) dL_law_584 ?_
  refine gs_iadd k dL_law_585 ?_
  refine gl_sld k hX (vin (by omega) hL) dL_law_586 ?_
  refine gs_callV (As := [.int (xs (nI t + nI 1).toNatClampNeg), .int (xs (nI t + nI 2).toNatClampNeg), .int (xs (nI t + nI 3).toNatClampNeg)]) (k0 := 0) (ci := 6) (T := TX6) (N := 10) k (sC_sum hI h1) cf_X6_sum im_X6_sum sl_X6_sum ml_L_60 (hI 0 (by omega)) rfl rfl (by decide) rfl rfl (Nat.le_of_ble_eq_true rfl) dL_law_587 (ppH (fun m1 q1 => ?_))
  refine gs_aload_n (q := 1) k rfl rfl dL_law_590 ?_
  refine gs_aload_n (q := 3) k rfl rfl dL_law_591 ?_
  refine gs_iload_n (q := 0) k rfl rfl dL_law_592 ?_
  refine gs_iconst (v := nI 1) k (by decide) dL_law_593 ?_
  refine gs_iadd k dL_law_594 ?_
  refine gl_sld k hX (vin (by omega) hL) dL_law_595 ?_
  refine gs_aload_n (q := 3) k rfl rfl dL_law_596 ?_
  refine gs_iload_n (q := 0) k rfl rfl dL_law_597 ?_
  refine gs_iconst (v := nI 2) k (by decide) dL_law_598 ?_
  refine gs_iadd k dL_law_599 ?_
  refine gl_sld k hX (vin (by omega) hL) dL_law_600 ?_
  refine gs_aload_n (q := 3) k rfl rfl dL_law_601 ?_
  refine gs_iload_n (q := 0) k rfl rfl dL_law_602 ?_
  refine gs_iconst (v := nI 3) k (by decide) dL_law_603 ?_
  refine gs_iadd k dL_law_604 ?_
  refine gl_sld k hX (vin (by omega) hL) dL_law_605 ?_
  refine gs_callV (As := [.int (xs (nI t + nI 1).toNatClampNeg), .int (xs (nI t + nI 2).toNatClampNeg), .int (xs (nI t + nI 3).toNatClampNeg)]) (k0 := 65) (ci := 7) (T := TX7) (N := 27) k (sR_sum hI (h2.fr q1.2)) cf_X7_sum im_X7_sum sl_X7_sum ml_L_63 (hI 65 (by omega)) rfl rfl (by decide) rfl rfl (Nat.le_of_ble_eq_true rfl) dL_law_606 (ppH (fun m2 q2 => ?_))
  exact gs_icmp_eq (tgt := 1690) k (by decide) dL_law_609 (fun _ => cont m2 _ (q1.1.fc q2.2) q2.1 ⟨gSum hg.1, hg.2⟩) (fun z => absurd rfl z)
/-- turn -/
theorem law_12 {l : Launch} {E : Ev} {K : Kt} {b L t : Nat} {xs : Nat → Int32} {M : Mm} {S : As} (hI : ∀ k, k < 108 → k ∈ E.2.1) (k : Ok l E K cL_law RL 9 4) (hX : Sx K b L xs) (ht : t + 5 ≤ L) (hL : L ≤ 2560) (h1 : CA M S) (h2 : RA M S) (hg : GA S) (cont : ∀ M' S', CA M' S' → RA M' S' → GA S' → G l E K 1690 [(3, .int (nI t)), (2, .ref (E.2.2.1 65)), (1, .ref (E.2.2.1 0)), (0, .ref b)] [] M') : G l E K 614 [(3, .int (nI t)), (2, .ref (E.2.2.1 65)), (1, .ref (E.2.2.1 0)), (0, .ref b)] [] M := by
  refine gs_aload_n (q := 2) k rfl rfl dL_law_614 ?_
  refine gs_aload_n (q := 3) k rfl rfl dL_law_615 ?_
  refine gs_iload_n (q := 0) k rfl rfl dL_law_616 ?_
  refine gs_iconst (v := nI 1) k (by decide) dL_law_617 ?_
  refine gs_iadd k dL_law_618 ?_
  refine gl_sld k hX (vin (by omega) hL) dL_law_619 ?_
  refine gs_aload_n (q := 3) k rfl rfl dL_law_620 ?_
  refine gs_iload_n (q := 0) k rfl rfl dL_law_621 ?_
  refine gs_iconst (v := nI 2) k (by decide) dL_law_622 ?_
  refine gs_iadd k dL_law_623 ?_
  refine gl_sld k hX (vin (by omega) hL) dL_law_624 ?_
  refine gs_callV (As := [.int (xs (nI t + nI 1).toNatClampNeg), .int (xs (nI t + nI 2).toNatClampNeg)]) (k0 := 0) (ci := 6) (T := TX6) (N := 10) k (sC_turn hI h1) cf_X6_turn im_X6_turn sl_X6_turn ml_L_64 (hI 0 (by omega)) rfl rfl (by decide) rfl rfl (Nat.le_of_ble_eq_true rfl) dL_law_625 (ppH (fun m1 q1 => ?_))
  refine gs_aload_n (q := 1) k rfl rfl dL_law_628 ?_
  refine gs_aload_n (q := 3) k rfl rfl dL_law_629 ?_
  refine gs_iload_n (q := 0) k rfl rfl dL_law_630 ?_
  refine gs_iconst (v := nI 1) k (by decide) dL_law_631 ?_
  refine gs_iadd k dL_law_632 ?_
  refine gl_sld k hX (vin (by omega) hL) dL_law_633 ?_
  refine gs_aload_n (q := 3) k rfl rfl dL_law_634 ?_
  refine gs_iload_n (q := 0) k rfl rfl dL_law_635 ?_
  refine gs_iconst (v := nI 2) k (by decide) dL_law_636 ?_
  refine gs_iadd k dL_law_637 ?_
  refine gl_sld k hX (vin (by omega) hL) dL_law_638 ?_
  refine gs_callV (As := [.int (xs (nI t + nI 1).toNatClampNeg), .int (xs (nI t + nI 2).toNatClampNeg)]) (k0 := 65) (ci := 7) (T := TX7) (N := 27) k (sR_turn hI (h2.fr q1.2)) cf_X7_turn im_X7_turn sl_X7_turn ml_L_67 (hI 65 (by omega)) rfl rfl (by decide) rfl rfl (Nat.le_of_ble_eq_true rfl) dL_law_639 (ppH (fun m2 q2 => ?_))
  exact gs_icmp_eq (tgt := 1690) k (by decide) dL_law_642 (fun _ => cont m2 _ (q1.1.fc q2.2) q2.1 ⟨gTurn hg.1, hg.2⟩) (fun z => absurd rfl z)
/-- cutBack -/
theorem law_13 {l : Launch} {E : Ev} {K : Kt} {b L t : Nat} {xs : Nat → Int32} {M : Mm} {S : As} (hI : ∀ k, k < 108 → k ∈ E.2.1) (k : Ok l E K cL_law RL 9 4) (hX : Sx K b L xs) (ht : t + 5 ≤ L) (hL : L ≤ 2560) (h1 : CA M S) (h2 : RA M S) (hg : GA S) (cont : ∀ M' S', CA M' S' → RA M' S' → GA S' → G l E K 1690 [(3, .int (nI t)), (2, .ref (E.2.2.1 65)), (1, .ref (E.2.2.1 0)), (0, .ref b)] [] M') : G l E K 647 [(3, .int (nI t)), (2, .ref (E.2.2.1 65)), (1, .ref (E.2.2.1 0)), (0, .ref b)] [] M := by
  refine gs_aload_n (q := 2) k rfl rfl dL_law_647 ?_
  refine gs_aload_n (q := 3) k rfl rfl dL_law_648 ?_
  refine gs_iload_n (q := 0) k rfl rfl dL_law_649 ?_
  refine gs_iconst (v := nI 1) k (by decide) dL_law_650 ?_
  refine gs_iadd k dL_law_651 ?_
  refine gl_sld k hX (vin (by omega) hL) dL_law_652 ?_
  refine gs_aload_n (q := 3) k rfl rfl dL_law_653 ?_
  refine gs_iload_n (q := 0) k rfl rfl dL_law_654 ?_
  refine gs_iconst (v := nI 2) k (by decide) dL_law_655 ?_
  refine gs_iadd k dL_law_656 ?_
  refine gl_sld k hX (vin (by omega) hL) dL_law_657 ?_
  refine gs_callV (As := [.int (xs (nI t + nI 1).toNatClampNeg), .int (xs (nI t + nI 2).toNatClampNeg)]) (k0 := 0) (ci := 6) (T := TX6) (N := 10) k (sC_cutBack hI h1) cf_X6_cutBack im_X6_cutBack sl_X6_cutBack ml_L_68 (hI 0 (by omega)) rfl rfl (by decide) rfl rfl (Nat.le_of_ble_eq_true rfl) dL_law_658 (ppH (fun m1 q1 => ?_))
  refine gs_aload_n (q := 1) k rfl rfl dL_law_661 ?_
  refine gs_aload_n (q := 3) k rfl rfl dL_law_662 ?_
  refine gs_iload_n (q := 0) k rfl rfl dL_law_663 ?_
  refine gs_iconst (v := nI 1) k (by decide) dL_law_664 ?_
  refine gs_iadd k dL_law_665 ?_
  refine gl_sld k hX (vin (by omega) hL) dL_law_666 ?_
  refine gs_aload_n (q := 3) k rfl rfl dL_law_667 ?_
  refine gs_iload_n (q := 0) k rfl rfl dL_law_668 ?_
  refine gs_iconst (v := nI 2) k (by decide) dL_law_669 ?_
  refine gs_iadd k dL_law_670 ?_
  refine gl_sld k hX (vin (by omega) hL) dL_law_671 ?_
  refine gs_callV (As := [.int (xs (nI t + nI 1).toNatClampNeg), .int (xs (nI t + nI 2).toNatClampNeg)]) (k0 := 65) (ci := 7) (T := TX7) (N := 27) k (sR_cutBack hI (h2.fr q1.2)) cf_X7_cutBack im_X7_cutBack sl_X7_cutBack ml_L_71 (hI 65 (by omega)) rfl rfl (by decide) rfl rfl (Nat.le_of_ble_eq_true rfl) dL_law_672 (ppH (fun m2 q2 => ?_))
  exact gs_icmp_eq (tgt := 1690) k (by decide) dL_law_675 (fun _ => cont m2 _ (q1.1.fc q2.2) q2.1 ⟨gCutBack hg.1, hg.2⟩) (fun z => absurd rfl z)
/-- part -/
theorem law_14 {l : Launch} {E : Ev} {K : Kt} {b L t : Nat} {xs : Nat → Int32} {M : Mm} {S : As} (hI : ∀ k, k < 108 → k ∈ E.2.1) (k : Ok l E K cL_law RL 9 4) (hX : Sx K b L xs) (ht : t + 5 ≤ L) (hL : L ≤ 2560) (h1 : CA M S) (h2 : RA M S) (hg : GA S) (cont : ∀ M' S', CA M' S' → RA M' S' → GA S' → G l E K 1690 [(3, .int (nI t)), (2, .ref (E.2.2.1 65)), (1, .ref (E.2.2.1 0)), (0, .ref b)] [] M') : G l E K 680 [(3, .int (nI t)), (2, .ref (E.2.2.1 65)), (1, .ref (E.2.2.1 0)), (0, .ref b)] [] M := by
  refine gs_aload_n (q := 2) k rfl rfl dL_law_680 ?_
  refine gs_aload_n (q := 3) k rfl rfl dL_law_681 ?_
  refine gs_iload_n (q := 0) k rfl rfl dL_law_682 ?_
  refine gs_iconst (v := nI 1) k (by decide) dL_law_683 ?_
  refine gs_iadd k dL_law_684 ?_
  refine gl_sld k hX (vin (by omega) hL) dL_law_685 ?_
  refine gs_aload_n (q := 3) k rfl rfl dL_law_686 ?_
  refine gs_iload_n (q := 0) k rfl rfl dL_law_687 ?_
  refine gs_iconst (v := nI 2) k (by decide) dL_law_688 ?_
  refine gs_iadd k dL_law_689 ?_
  refine gl_sld k hX (vin (by omega) hL) dL_law_690 ?_
  refine gs_aload_n (q := 3) k rfl rfl dL_law_691 ?_
  refine gs_iload_n (q := 0) k rfl rfl dL_law_692 ?_
  refine gs_iconst (v := nI 3) k (by decide) dL_law_693 ?_
  refine gs_iadd k dL_law_694 ?_
  refine gl_sld k hX (vin (by omega) hL) dL_law_695 ?_
  refine gs_aload_n (q := 3) k rfl rfl dL_law_696 ?_
  refine gs_iload_n (q := 0) k rfl rfl dL_law_697 ?_
  refine gs_iconst (v := nI 4) k (by decide) dL_law_698 ?_
  refine gs_iadd k dL_law_699 ?_
  refine gl_sld k hX (vin (by omega) hL) dL_law_700 ?_
  refine gs_callV (As := [.int (xs (nI t + nI 1).toNatClampNeg), .int (xs (nI t + nI 2).toNatClampNeg), .int (xs (nI t + nI 3).toNatClampNeg), .int (xs (nI t + nI 4).toNatClampNeg)]) (k0 := 0) (ci := 6) (T := TX6) (N := 10) k (sC_part hI h1) cf_X6_part im_X6_part sl_X6_part ml_L_72 (hI 0 (by omega)) rfl rfl (by decide) rfl rfl (Nat.le_of_ble_eq_true rfl) dL_law_701 (ppH (fun m1 q1 => ?_))
  refine gs_aload_n (q := 1) k rfl rfl dL_law_704 ?_
  refine gs_aload_n (q := 3) k rfl rfl dL_law_705 ?_
  refine gs_iload_n (q := 0) k rfl rfl dL_law_706 ?_
  refine gs_iconst (v := nI 1) k (by decide) dL_law_707 ?_
  refine gs_iadd k dL_law_708 ?_
  refine gl_sld k hX (vin (by omega) hL) dL_law_709 ?_
  refine gs_aload_n (q := 3) k rfl rfl dL_law_710 ?_
  refine gs_iload_n (q := 0) k rfl rfl dL_law_711 ?_
  refine gs_iconst (v := nI 2) k (by decide) dL_law_712 ?_
  refine gs_iadd k dL_law_713 ?_
  refine gl_sld k hX (vin (by omega) hL) dL_law_714 ?_
  refine gs_aload_n (q := 3) k rfl rfl dL_law_715 ?_
  refine gs_iload_n (q := 0) k rfl rfl dL_law_716 ?_
  refine gs_iconst (v := nI 3) k (by decide) dL_law_717 ?_
  refine gs_iadd k dL_law_718 ?_
  refine gl_sld k hX (vin (by omega) hL) dL_law_719 ?_
  refine gs_aload_n (q := 3) k rfl rfl dL_law_720 ?_
  refine gs_iload_n (q := 0) k rfl rfl dL_law_721 ?_
  refine gs_iconst (v := nI 4) k (by decide) dL_law_722 ?_
  refine gs_iadd k dL_law_723 ?_
  refine gl_sld k hX (vin (by omega) hL) dL_law_724 ?_
  refine gs_callV (As := [.int (xs (nI t + nI 1).toNatClampNeg), .int (xs (nI t + nI 2).toNatClampNeg), .int (xs (nI t + nI 3).toNatClampNeg), .int (xs (nI t + nI 4).toNatClampNeg)]) (k0 := 65) (ci := 7) (T := TX7) (N := 27) k (sR_part hI (h2.fr q1.2)) cf_X7_part im_X7_part sl_X7_part ml_L_76 (hI 65 (by omega)) rfl rfl (by decide) rfl rfl (Nat.le_of_ble_eq_true rfl) dL_law_725 (ppH (fun m2 q2 => ?_))
  exact gs_icmp_eq (tgt := 1690) k (by decide) dL_law_728 (fun _ => cont m2 _ (q1.1.fc q2.2) q2.1 ⟨gPart hg.1, hg.2⟩) (fun z => absurd rfl z)
/-- held -/
theorem law_15 {l : Launch} {E : Ev} {K : Kt} {b L t : Nat} {xs : Nat → Int32} {M : Mm} {S : As} (hI : ∀ k, k < 108 → k ∈ E.2.1) (k : Ok l E K cL_law RL 9 4) (hX : Sx K b L xs) (ht : t + 5 ≤ L) (hL : L ≤ 2560) (h1 : CA M S) (h2 : RA M S) (hg : GA S) (cont : ∀ M' S', CA M' S' → RA M' S' → GA S' → G l E K 1690 [(3, .int (nI t)), (2, .ref (E.2.2.1 65)), (1, .ref (E.2.2.1 0)), (0, .ref b)] [] M') : G l E K 733 [(3, .int (nI t)), (2, .ref (E.2.2.1 65)), (1, .ref (E.2.2.1 0)), (0, .ref b)] [] M := by
  refine gs_aload_n (q := 2) k rfl rfl dL_law_733 ?_
  refine gs_aload_n (q := 3) k rfl rfl dL_law_734 ?_
  refine gs_iload_n (q := 0) k rfl rfl dL_law_735 ?_
  refine gs_iconst (v := nI 1) k (by decide) dL_law_736 ?_
  refine gs_iadd k dL_law_737 ?_
  refine gl_sld k hX (vin (by omega) hL) dL_law_738 ?_
  refine gs_aload_n (q := 3) k rfl rfl dL_law_739 ?_
  refine gs_iload_n (q := 0) k rfl rfl dL_law_740 ?_
  refine gs_iconst (v := nI 2) k (by decide) dL_law_741 ?_
  refine gs_iadd k dL_law_742 ?_
  refine gl_sld k hX (vin (by omega) hL) dL_law_743 ?_
  refine gs_aload_n (q := 3) k rfl rfl dL_law_744 ?_
  refine gs_iload_n (q := 0) k rfl rfl dL_law_745 ?_
  refine gs_iconst (v := nI 3) k (by decide) dL_law_746 ?_
  refine gs_iadd k dL_law_747 ?_
  refine gl_sld k hX (vin (by omega) hL) dL_law_748 ?_
  refine gs_callV (As := [.int (xs (nI t + nI 1).toNatClampNeg), .int (xs (nI t + nI 2).toNatClampNeg), .int (xs (nI t + nI 3).toNatClampNeg)]) (k0 := 0) (ci := 6) (T := TX6) (N := 10) k (sC_held hI h1) cf_X6_held im_X6_held sl_X6_held ml_L_77 (hI 0 (by omega)) rfl rfl (by decide) rfl rfl (Nat.le_of_ble_eq_true rfl) dL_law_749 (ppH (fun m1 q1 => ?_))
  refine gs_aload_n (q := 1) k rfl rfl dL_law_752 ?_
  refine gs_aload_n (q := 3) k rfl rfl dL_law_753 ?_
  refine gs_iload_n (q := 0) k rfl rfl dL_law_754 ?_
  refine gs_iconst (v := nI 1) k (by decide) dL_law_755 ?_
  refine gs_iadd k dL_law_756 ?_
  refine gl_sld k hX (vin (by omega) hL) dL_law_757 ?_
  refine gs_aload_n (q := 3) k rfl rfl dL_law_758 ?_
  refine gs_iload_n (q := 0) k rfl rfl dL_law_759 ?_
  refine gs_iconst (v := nI 2) k (by decide) dL_law_760 ?_
  refine gs_iadd k dL_law_761 ?_
  refine gl_sld k hX (vin (by omega) hL) dL_law_762 ?_
  refine gs_aload_n (q := 3) k rfl rfl dL_law_763 ?_
  refine gs_iload_n (q := 0) k rfl rfl dL_law_764 ?_
  refine gs_iconst (v := nI 3) k (by decide) dL_law_765 ?_
  refine gs_iadd k dL_law_766 ?_
  refine gl_sld k hX (vin (by omega) hL) dL_law_767 ?_
  refine gs_callV (As := [.int (xs (nI t + nI 1).toNatClampNeg), .int (xs (nI t + nI 2).toNatClampNeg), .int (xs (nI t + nI 3).toNatClampNeg)]) (k0 := 65) (ci := 7) (T := TX7) (N := 27) k (sR_held hI (h2.fr q1.2)) cf_X7_held im_X7_held sl_X7_held ml_L_80 (hI 65 (by omega)) rfl rfl (by decide) rfl rfl (Nat.le_of_ble_eq_true rfl) dL_law_768 (ppH (fun m2 q2 => ?_))
  exact gs_icmp_eq (tgt := 1690) k (by decide) dL_law_771 (fun _ => cont m2 _ (q1.1.fc q2.2) q2.1 ⟨gHeld hg.1, hg.2⟩) (fun z => absurd rfl z)
/-- clear -/
theorem law_16 {l : Launch} {E : Ev} {K : Kt} {b L t : Nat} {xs : Nat → Int32} {M : Mm} {S : As} (hI : ∀ k, k < 108 → k ∈ E.2.1) (k : Ok l E K cL_law RL 9 4) (hX : Sx K b L xs) (ht : t + 5 ≤ L) (hL : L ≤ 2560) (h1 : CA M S) (h2 : RA M S) (hg : GA S) (cont : ∀ M' S', CA M' S' → RA M' S' → GA S' → G l E K 1690 [(3, .int (nI t)), (2, .ref (E.2.2.1 65)), (1, .ref (E.2.2.1 0)), (0, .ref b)] [] M') : G l E K 776 [(3, .int (nI t)), (2, .ref (E.2.2.1 65)), (1, .ref (E.2.2.1 0)), (0, .ref b)] [] M := by
  refine gs_aload_n (q := 2) k rfl rfl dL_law_776 ?_
  refine gs_aload_n (q := 3) k rfl rfl dL_law_777 ?_
  refine gs_iload_n (q := 0) k rfl rfl dL_law_778 ?_
  refine gs_iconst (v := nI 1) k (by decide) dL_law_779 ?_
  refine gs_iadd k dL_law_780 ?_
  refine gl_sld k hX (vin (by omega) hL) dL_law_781 ?_
  refine gs_callV (As := [.int (xs (nI t + nI 1).toNatClampNeg)]) (k0 := 0) (ci := 6) (T := TX6) (N := 10) k (sC_clear hI h1) cf_X6_clear im_X6_clear sl_X6_clear ml_L_81 (hI 0 (by omega)) rfl rfl (by decide) rfl rfl (Nat.le_of_ble_eq_true rfl) dL_law_782 (ppH (fun m1 q1 => ?_))
  refine gs_aload_n (q := 1) k rfl rfl dL_law_785 ?_
  refine gs_aload_n (q := 3) k rfl rfl dL_law_786 ?_
  refine gs_iload_n (q := 0) k rfl rfl dL_law_787 ?_
  refine gs_iconst (v := nI 1) k (by decide) dL_law_788 ?_
  refine gs_iadd k dL_law_789 ?_
  refine gl_sld k hX (vin (by omega) hL) dL_law_790 ?_
  refine gs_callV (As := [.int (xs (nI t + nI 1).toNatClampNeg)]) (k0 := 65) (ci := 7) (T := TX7) (N := 27) k (sR_clear hI (h2.fr q1.2)) cf_X7_clear im_X7_clear sl_X7_clear ml_L_84 (hI 65 (by omega)) rfl rfl (by decide) rfl rfl (Nat.le_of_ble_eq_true rfl) dL_law_791 (ppH (fun m2 q2 => ?_))
  exact gs_icmp_eq (tgt := 1690) k (by decide) dL_law_794 (fun _ => cont m2 _ (q1.1.fc q2.2) q2.1 ⟨gClear hg.1, hg.2⟩) (fun z => absurd rfl z)
/-- of -/
theorem law_17 {l : Launch} {E : Ev} {K : Kt} {b L t : Nat} {xs : Nat → Int32} {M : Mm} {S : As} (hI : ∀ k, k < 108 → k ∈ E.2.1) (k : Ok l E K cL_law RL 9 4) (hX : Sx K b L xs) (ht : t + 5 ≤ L) (hL : L ≤ 2560) (h1 : CA M S) (h2 : RA M S) (hg : GA S) (cont : ∀ M' S', CA M' S' → RA M' S' → GA S' → G l E K 1690 [(3, .int (nI t)), (2, .ref (E.2.2.1 65)), (1, .ref (E.2.2.1 0)), (0, .ref b)] [] M') : G l E K 799 [(3, .int (nI t)), (2, .ref (E.2.2.1 65)), (1, .ref (E.2.2.1 0)), (0, .ref b)] [] M := by
  refine gs_aload_n (q := 2) k rfl rfl dL_law_799 ?_
  refine gs_aload_n (q := 3) k rfl rfl dL_law_800 ?_
  refine gs_iload_n (q := 0) k rfl rfl dL_law_801 ?_
  refine gs_iconst (v := nI 1) k (by decide) dL_law_802 ?_
  refine gs_iadd k dL_law_803 ?_
  refine gl_sld k hX (vin (by omega) hL) dL_law_804 ?_
  refine gs_aload_n (q := 3) k rfl rfl dL_law_805 ?_
  refine gs_iload_n (q := 0) k rfl rfl dL_law_806 ?_
  refine gs_iconst (v := nI 2) k (by decide) dL_law_807 ?_
  refine gs_iadd k dL_law_808 ?_
  refine gl_sld k hX (vin (by omega) hL) dL_law_809 ?_
  refine gs_callV (As := [.int (xs (nI t + nI 1).toNatClampNeg), .int (xs (nI t + nI 2).toNatClampNeg)]) (k0 := 0) (ci := 6) (T := TX6) (N := 10) k (sC_of hI h1 hg) cf_X6_of im_X6_of sl_X6_of ml_L_85 (hI 0 (by omega)) rfl rfl (by decide) rfl rfl (Nat.le_of_ble_eq_true rfl) dL_law_810 (ppH (fun m1 q1 => ?_))
  refine gs_aload_n (q := 1) k rfl rfl dL_law_813 ?_
  refine gs_aload_n (q := 3) k rfl rfl dL_law_814 ?_
  refine gs_iload_n (q := 0) k rfl rfl dL_law_815 ?_
  refine gs_iconst (v := nI 1) k (by decide) dL_law_816 ?_
  refine gs_iadd k dL_law_817 ?_
  refine gl_sld k hX (vin (by omega) hL) dL_law_818 ?_
  refine gs_aload_n (q := 3) k rfl rfl dL_law_819 ?_
  refine gs_iload_n (q := 0) k rfl rfl dL_law_820 ?_
  refine gs_iconst (v := nI 2) k (by decide) dL_law_821 ?_
  refine gs_iadd k dL_law_822 ?_
  refine gl_sld k hX (vin (by omega) hL) dL_law_823 ?_
  refine gs_callV (As := [.int (xs (nI t + nI 1).toNatClampNeg), .int (xs (nI t + nI 2).toNatClampNeg)]) (k0 := 65) (ci := 7) (T := TX7) (N := 27) k (sR_of hI (h2.fr q1.2) hg) cf_X7_of im_X7_of sl_X7_of ml_L_88 (hI 65 (by omega)) rfl rfl (by decide) rfl rfl (Nat.le_of_ble_eq_true rfl) dL_law_824 (ppH (fun m2 q2 => ?_))
  exact gs_icmp_eq (tgt := 1690) k (by decide) dL_law_827 (fun _ => cont m2 _ (q1.1.fc q2.2) q2.1 hg) (fun z => absurd rfl z)
/-- taken -/
theorem law_18 {l : Launch} {E : Ev} {K : Kt} {b L t : Nat} {xs : Nat → Int32} {M : Mm} {S : As} (hI : ∀ k, k < 108 → k ∈ E.2.1) (k : Ok l E K cL_law RL 9 4) (hX : Sx K b L xs) (ht : t + 5 ≤ L) (hL : L ≤ 2560) (h1 : CA M S) (h2 : RA M S) (hg : GA S) (cont : ∀ M' S', CA M' S' → RA M' S' → GA S' → G l E K 1690 [(3, .int (nI t)), (2, .ref (E.2.2.1 65)), (1, .ref (E.2.2.1 0)), (0, .ref b)] [] M') : G l E K 832 [(3, .int (nI t)), (2, .ref (E.2.2.1 65)), (1, .ref (E.2.2.1 0)), (0, .ref b)] [] M := by
  refine gs_aload_n (q := 2) k rfl rfl dL_law_832 ?_
  refine gs_aload_n (q := 3) k rfl rfl dL_law_833 ?_
  refine gs_iload_n (q := 0) k rfl rfl dL_law_834 ?_
  refine gs_iconst (v := nI 1) k (by decide) dL_law_835 ?_
  refine gs_iadd k dL_law_836 ?_
  refine gl_sld k hX (vin (by omega) hL) dL_law_837 ?_
  refine gs_aload_n (q := 3) k rfl rfl dL_law_838 ?_
  refine gs_iload_n (q := 0) k rfl rfl dL_law_839 ?_
  refine gs_iconst (v := nI 2) k (by decide) dL_law_840 ?_
  refine gs_iadd k dL_law_841 ?_
  refine gl_sld k hX (vin (by omega) hL) dL_law_842 ?_
  refine gs_callV (As := [.int (xs (nI t + nI 1).toNatClampNeg), .int (xs (nI t + nI 2).toNatClampNeg)]) (k0 := 0) (ci := 6) (T := TX6) (N := 10) k (sC_taken hI h1 hg) cf_X6_taken im_X6_taken sl_X6_taken ml_L_89 (hI 0 (by omega)) rfl rfl (by decide) rfl rfl (Nat.le_of_ble_eq_true rfl) dL_law_843 (ppH (fun m1 q1 => ?_))
  refine gs_aload_n (q := 1) k rfl rfl dL_law_846 ?_
  refine gs_aload_n (q := 3) k rfl rfl dL_law_847 ?_
  refine gs_iload_n (q := 0) k rfl rfl dL_law_848 ?_
  refine gs_iconst (v := nI 1) k (by decide) dL_law_849 ?_
  refine gs_iadd k dL_law_850 ?_
  refine gl_sld k hX (vin (by omega) hL) dL_law_851 ?_
  refine gs_aload_n (q := 3) k rfl rfl dL_law_852 ?_
  refine gs_iload_n (q := 0) k rfl rfl dL_law_853 ?_
  refine gs_iconst (v := nI 2) k (by decide) dL_law_854 ?_
  refine gs_iadd k dL_law_855 ?_
  refine gl_sld k hX (vin (by omega) hL) dL_law_856 ?_
  refine gs_callV (As := [.int (xs (nI t + nI 1).toNatClampNeg), .int (xs (nI t + nI 2).toNatClampNeg)]) (k0 := 65) (ci := 7) (T := TX7) (N := 27) k (sR_taken hI (h2.fr q1.2) hg) cf_X7_taken im_X7_taken sl_X7_taken ml_L_92 (hI 65 (by omega)) rfl rfl (by decide) rfl rfl (Nat.le_of_ble_eq_true rfl) dL_law_857 (ppH (fun m2 q2 => ?_))
  exact gs_icmp_eq (tgt := 1690) k (by decide) dL_law_860 (fun _ => cont m2 _ (q1.1.fc q2.2) q2.1 hg) (fun z => absurd rfl z)
/-- value -/
theorem law_19 {l : Launch} {E : Ev} {K : Kt} {b L t : Nat} {xs : Nat → Int32} {M : Mm} {S : As} (hI : ∀ k, k < 108 → k ∈ E.2.1) (k : Ok l E K cL_law RL 9 4) (hX : Sx K b L xs) (ht : t + 5 ≤ L) (hL : L ≤ 2560) (h1 : CA M S) (h2 : RA M S) (hg : GA S) (cont : ∀ M' S', CA M' S' → RA M' S' → GA S' → G l E K 1690 [(3, .int (nI t)), (2, .ref (E.2.2.1 65)), (1, .ref (E.2.2.1 0)), (0, .ref b)] [] M') : G l E K 865 [(3, .int (nI t)), (2, .ref (E.2.2.1 65)), (1, .ref (E.2.2.1 0)), (0, .ref b)] [] M := by
  refine gs_aload_n (q := 2) k rfl rfl dL_law_865 ?_
  refine gs_aload_n (q := 3) k rfl rfl dL_law_866 ?_
  refine gs_iload_n (q := 0) k rfl rfl dL_law_867 ?_
  refine gs_iconst (v := nI 1) k (by decide) dL_law_868 ?_
  refine gs_iadd k dL_law_869 ?_
  refine gl_sld k hX (vin (by omega) hL) dL_law_870 ?_
  refine gs_aload_n (q := 3) k rfl rfl dL_law_871 ?_
  refine gs_iload_n (q := 0) k rfl rfl dL_law_872 ?_
  refine gs_iconst (v := nI 2) k (by decide) dL_law_873 ?_
  refine gs_iadd k dL_law_874 ?_
  refine gl_sld k hX (vin (by omega) hL) dL_law_875 ?_
  refine gs_callV (As := [.int (xs (nI t + nI 1).toNatClampNeg), .int (xs (nI t + nI 2).toNatClampNeg)]) (k0 := 0) (ci := 6) (T := TX6) (N := 10) k (sC_value hI h1 hg) cf_X6_value im_X6_value sl_X6_value ml_L_93 (hI 0 (by omega)) rfl rfl (by decide) rfl rfl (Nat.le_of_ble_eq_true rfl) dL_law_876 (ppH (fun m1 q1 => ?_))
  refine gs_aload_n (q := 1) k rfl rfl dL_law_879 ?_
  refine gs_aload_n (q := 3) k rfl rfl dL_law_880 ?_
  refine gs_iload_n (q := 0) k rfl rfl dL_law_881 ?_
  refine gs_iconst (v := nI 1) k (by decide) dL_law_882 ?_
  refine gs_iadd k dL_law_883 ?_
  refine gl_sld k hX (vin (by omega) hL) dL_law_884 ?_
  refine gs_aload_n (q := 3) k rfl rfl dL_law_885 ?_
  refine gs_iload_n (q := 0) k rfl rfl dL_law_886 ?_
  refine gs_iconst (v := nI 2) k (by decide) dL_law_887 ?_
  refine gs_iadd k dL_law_888 ?_
  refine gl_sld k hX (vin (by omega) hL) dL_law_889 ?_
  refine gs_callV (As := [.int (xs (nI t + nI 1).toNatClampNeg), .int (xs (nI t + nI 2).toNatClampNeg)]) (k0 := 65) (ci := 7) (T := TX7) (N := 27) k (sR_value hI (h2.fr q1.2) hg) cf_X7_value im_X7_value sl_X7_value ml_L_96 (hI 65 (by omega)) rfl rfl (by decide) rfl rfl (Nat.le_of_ble_eq_true rfl) dL_law_890 (ppH (fun m2 q2 => ?_))
  exact gs_icmp_eq (tgt := 1690) k (by decide) dL_law_893 (fun _ => cont m2 _ (q1.1.fc q2.2) q2.1 hg) (fun z => absurd rfl z)
/-- gain -/
theorem law_20 {l : Launch} {E : Ev} {K : Kt} {b L t : Nat} {xs : Nat → Int32} {M : Mm} {S : As} (hI : ∀ k, k < 108 → k ∈ E.2.1) (k : Ok l E K cL_law RL 9 4) (hX : Sx K b L xs) (ht : t + 5 ≤ L) (hL : L ≤ 2560) (h1 : CA M S) (h2 : RA M S) (hg : GA S) (cont : ∀ M' S', CA M' S' → RA M' S' → GA S' → G l E K 1690 [(3, .int (nI t)), (2, .ref (E.2.2.1 65)), (1, .ref (E.2.2.1 0)), (0, .ref b)] [] M') : G l E K 898 [(3, .int (nI t)), (2, .ref (E.2.2.1 65)), (1, .ref (E.2.2.1 0)), (0, .ref b)] [] M := by
  refine gs_aload_n (q := 2) k rfl rfl dL_law_898 ?_
  refine gs_aload_n (q := 3) k rfl rfl dL_law_899 ?_
  refine gs_iload_n (q := 0) k rfl rfl dL_law_900 ?_
  refine gs_iconst (v := nI 1) k (by decide) dL_law_901 ?_
  refine gs_iadd k dL_law_902 ?_
  refine gl_sld k hX (vin (by omega) hL) dL_law_903 ?_
  refine gs_aload_n (q := 3) k rfl rfl dL_law_904 ?_
  refine gs_iload_n (q := 0) k rfl rfl dL_law_905 ?_
  refine gs_iconst (v := nI 2) k (by decide) dL_law_906 ?_
  refine gs_iadd k dL_law_907 ?_
  refine gl_sld k hX (vin (by omega) hL) dL_law_908 ?_
  refine gs_aload_n (q := 3) k rfl rfl dL_law_909 ?_
  refine gs_iload_n (q := 0) k rfl rfl dL_law_910 ?_
  refine gs_iconst (v := nI 3) k (by decide) dL_law_911 ?_
  refine gs_iadd k dL_law_912 ?_
  refine gl_sld k hX (vin (by omega) hL) dL_law_913 ?_
  refine gs_callV (As := [.int (xs (nI t + nI 1).toNatClampNeg), .int (xs (nI t + nI 2).toNatClampNeg), .int (xs (nI t + nI 3).toNatClampNeg)]) (k0 := 0) (ci := 6) (T := TX6) (N := 10) k (sC_gain hI h1 hg) cf_X6_gain im_X6_gain sl_X6_gain ml_L_97 (hI 0 (by omega)) rfl rfl (by decide) rfl rfl (Nat.le_of_ble_eq_true rfl) dL_law_914 (ppH (fun m1 q1 => ?_))
  refine gs_aload_n (q := 1) k rfl rfl dL_law_917 ?_
  refine gs_aload_n (q := 3) k rfl rfl dL_law_918 ?_
  refine gs_iload_n (q := 0) k rfl rfl dL_law_919 ?_
  refine gs_iconst (v := nI 1) k (by decide) dL_law_920 ?_
  refine gs_iadd k dL_law_921 ?_
  refine gl_sld k hX (vin (by omega) hL) dL_law_922 ?_
  refine gs_aload_n (q := 3) k rfl rfl dL_law_923 ?_
  refine gs_iload_n (q := 0) k rfl rfl dL_law_924 ?_
  refine gs_iconst (v := nI 2) k (by decide) dL_law_925 ?_
  refine gs_iadd k dL_law_926 ?_
  refine gl_sld k hX (vin (by omega) hL) dL_law_927 ?_
  refine gs_aload_n (q := 3) k rfl rfl dL_law_928 ?_
  refine gs_iload_n (q := 0) k rfl rfl dL_law_929 ?_
  refine gs_iconst (v := nI 3) k (by decide) dL_law_930 ?_
  refine gs_iadd k dL_law_931 ?_
  refine gl_sld k hX (vin (by omega) hL) dL_law_932 ?_
  refine gs_callV (As := [.int (xs (nI t + nI 1).toNatClampNeg), .int (xs (nI t + nI 2).toNatClampNeg), .int (xs (nI t + nI 3).toNatClampNeg)]) (k0 := 65) (ci := 7) (T := TX7) (N := 27) k (sR_gain hI (h2.fr q1.2) hg) cf_X7_gain im_X7_gain sl_X7_gain ml_L_101 (hI 65 (by omega)) rfl rfl (by decide) rfl rfl (Nat.le_of_ble_eq_true rfl) dL_law_933 (ppH (fun m2 q2 => ?_))
  refine gs_lcmp k dL_law_936 ?_
  exact gs_if_eq (tgt := 1690) k (by decide) dL_law_937 (fun _ => cont m2 _ (q1.1.fc q2.2) q2.1 hg) (fun z => absurd (lcmp_self _) z)
/-- fails -/
theorem law_21 {l : Launch} {E : Ev} {K : Kt} {b L t : Nat} {xs : Nat → Int32} {M : Mm} {S : As} (hI : ∀ k, k < 108 → k ∈ E.2.1) (k : Ok l E K cL_law RL 9 4) (hX : Sx K b L xs) (ht : t + 5 ≤ L) (hL : L ≤ 2560) (h1 : CA M S) (h2 : RA M S) (hg : GA S) (cont : ∀ M' S', CA M' S' → RA M' S' → GA S' → G l E K 1690 [(3, .int (nI t)), (2, .ref (E.2.2.1 65)), (1, .ref (E.2.2.1 0)), (0, .ref b)] [] M') : G l E K 942 [(3, .int (nI t)), (2, .ref (E.2.2.1 65)), (1, .ref (E.2.2.1 0)), (0, .ref b)] [] M := by
  refine gs_aload_n (q := 2) k rfl rfl dL_law_942 ?_
  refine gs_aload_n (q := 3) k rfl rfl dL_law_943 ?_
  refine gs_iload_n (q := 0) k rfl rfl dL_law_944 ?_
  refine gs_iconst (v := nI 1) k (by decide) dL_law_945 ?_
  refine gs_iadd k dL_law_946 ?_
  refine gl_sld k hX (vin (by omega) hL) dL_law_947 ?_
  refine gs_aload_n (q := 3) k rfl rfl dL_law_948 ?_
  refine gs_iload_n (q := 0) k rfl rfl dL_law_949 ?_
  refine gs_iconst (v := nI 2) k (by decide) dL_law_950 ?_
  refine gs_iadd k dL_law_951 ?_
  refine gl_sld k hX (vin (by omega) hL) dL_law_952 ?_
  refine gs_callV (As := [.int (xs (nI t + nI 1).toNatClampNeg), .int (xs (nI t + nI 2).toNatClampNeg)]) (k0 := 0) (ci := 6) (T := TX6) (N := 10) k (sC_fails hI h1 hg) cf_X6_fails im_X6_fails sl_X6_fails ml_L_102 (hI 0 (by omega)) rfl rfl (by decide) rfl rfl (Nat.le_of_ble_eq_true rfl) dL_law_953 (ppH (fun m1 q1 => ?_))
  refine gs_aload_n (q := 1) k rfl rfl dL_law_956 ?_
  refine gs_aload_n (q := 3) k rfl rfl dL_law_957 ?_
  refine gs_iload_n (q := 0) k rfl rfl dL_law_958 ?_
  refine gs_iconst (v := nI 1) k (by decide) dL_law_959 ?_
  refine gs_iadd k dL_law_960 ?_
  refine gl_sld k hX (vin (by omega) hL) dL_law_961 ?_
  refine gs_aload_n (q := 3) k rfl rfl dL_law_962 ?_
  refine gs_iload_n (q := 0) k rfl rfl dL_law_963 ?_
  refine gs_iconst (v := nI 2) k (by decide) dL_law_964 ?_
  refine gs_iadd k dL_law_965 ?_
  refine gl_sld k hX (vin (by omega) hL) dL_law_966 ?_
  refine gs_callV (As := [.int (xs (nI t + nI 1).toNatClampNeg), .int (xs (nI t + nI 2).toNatClampNeg)]) (k0 := 65) (ci := 7) (T := TX7) (N := 27) k (sR_fails hI (h2.fr q1.2) hg) cf_X7_fails im_X7_fails sl_X7_fails ml_L_105 (hI 65 (by omega)) rfl rfl (by decide) rfl rfl (Nat.le_of_ble_eq_true rfl) dL_law_967 (ppH (fun m2 q2 => ?_))
  exact gs_icmp_eq (tgt := 1690) k (by decide) dL_law_970 (fun _ => cont m2 _ (q1.1.fc q2.2) q2.1 hg) (fun z => absurd rfl z)
/-- base -/
theorem law_22 {l : Launch} {E : Ev} {K : Kt} {b L t : Nat} {xs : Nat → Int32} {M : Mm} {S : As} (hI : ∀ k, k < 108 → k ∈ E.2.1) (k : Ok l E K cL_law RL 9 4) (hX : Sx K b L xs) (ht : t + 5 ≤ L) (hL : L ≤ 2560) (h1 : CA M S) (h2 : RA M S) (hg : GA S) (cont : ∀ M' S', CA M' S' → RA M' S' → GA S' → G l E K 1690 [(3, .int (nI t)), (2, .ref (E.2.2.1 65)), (1, .ref (E.2.2.1 0)), (0, .ref b)] [] M') : G l E K 975 [(3, .int (nI t)), (2, .ref (E.2.2.1 65)), (1, .ref (E.2.2.1 0)), (0, .ref b)] [] M := by
  refine gs_aload_n (q := 2) k rfl rfl dL_law_975 ?_
  refine gs_aload_n (q := 3) k rfl rfl dL_law_976 ?_
  refine gs_iload_n (q := 0) k rfl rfl dL_law_977 ?_
  refine gs_iconst (v := nI 1) k (by decide) dL_law_978 ?_
  refine gs_iadd k dL_law_979 ?_
  refine gl_sld k hX (vin (by omega) hL) dL_law_980 ?_
  refine gs_aload_n (q := 3) k rfl rfl dL_law_981 ?_
  refine gs_iload_n (q := 0) k rfl rfl dL_law_982 ?_
  refine gs_iconst (v := nI 2) k (by decide) dL_law_983 ?_
  refine gs_iadd k dL_law_984 ?_
  refine gl_sld k hX (vin (by omega) hL) dL_law_985 ?_
  refine gs_aload_n (q := 3) k rfl rfl dL_law_986 ?_
  refine gs_iload_n (q := 0) k rfl rfl dL_law_987 ?_
  refine gs_iconst (v := nI 3) k (by decide) dL_law_988 ?_
  refine gs_iadd k dL_law_989 ?_
  refine gl_sld k hX (vin (by omega) hL) dL_law_990 ?_
  refine gs_callV (As := [.int (xs (nI t + nI 1).toNatClampNeg), .int (xs (nI t + nI 2).toNatClampNeg), .int (xs (nI t + nI 3).toNatClampNeg)]) (k0 := 0) (ci := 6) (T := TX6) (N := 10) k (sC_base hI h1 hg) cf_X6_base im_X6_base sl_X6_base ml_L_106 (hI 0 (by omega)) rfl rfl (by decide) rfl rfl (Nat.le_of_ble_eq_true rfl) dL_law_991 (ppH (fun m1 q1 => ?_))
  refine gs_aload_n (q := 1) k rfl rfl dL_law_994 ?_
  refine gs_aload_n (q := 3) k rfl rfl dL_law_995 ?_
  refine gs_iload_n (q := 0) k rfl rfl dL_law_996 ?_
  refine gs_iconst (v := nI 1) k (by decide) dL_law_997 ?_
  refine gs_iadd k dL_law_998 ?_
  refine gl_sld k hX (vin (by omega) hL) dL_law_999 ?_
  refine gs_aload_n (q := 3) k rfl rfl dL_law_1000 ?_
  refine gs_iload_n (q := 0) k rfl rfl dL_law_1001 ?_
  refine gs_iconst (v := nI 2) k (by decide) dL_law_1002 ?_
  refine gs_iadd k dL_law_1003 ?_
  refine gl_sld k hX (vin (by omega) hL) dL_law_1004 ?_
  refine gs_aload_n (q := 3) k rfl rfl dL_law_1005 ?_
  refine gs_iload_n (q := 0) k rfl rfl dL_law_1006 ?_
  refine gs_iconst (v := nI 3) k (by decide) dL_law_1007 ?_
  refine gs_iadd k dL_law_1008 ?_
  refine gl_sld k hX (vin (by omega) hL) dL_law_1009 ?_
  refine gs_callV (As := [.int (xs (nI t + nI 1).toNatClampNeg), .int (xs (nI t + nI 2).toNatClampNeg), .int (xs (nI t + nI 3).toNatClampNeg)]) (k0 := 65) (ci := 7) (T := TX7) (N := 27) k (sR_base hI (h2.fr q1.2) hg) cf_X7_base im_X7_base sl_X7_base ml_L_109 (hI 65 (by omega)) rfl rfl (by decide) rfl rfl (Nat.le_of_ble_eq_true rfl) dL_law_1010 (ppH (fun m2 q2 => ?_))
  refine gs_lcmp k dL_law_1013 ?_
  exact gs_if_eq (tgt := 1690) k (by decide) dL_law_1014 (fun _ => cont m2 _ (q1.1.fc q2.2) q2.1 hg) (fun z => absurd (lcmp_self _) z)
/-- negative -/
theorem law_23 {l : Launch} {E : Ev} {K : Kt} {b L t : Nat} {xs : Nat → Int32} {M : Mm} {S : As} (hI : ∀ k, k < 108 → k ∈ E.2.1) (k : Ok l E K cL_law RL 9 4) (hX : Sx K b L xs) (ht : t + 5 ≤ L) (hL : L ≤ 2560) (h1 : CA M S) (h2 : RA M S) (hg : GA S) (cont : ∀ M' S', CA M' S' → RA M' S' → GA S' → G l E K 1690 [(3, .int (nI t)), (2, .ref (E.2.2.1 65)), (1, .ref (E.2.2.1 0)), (0, .ref b)] [] M') : G l E K 1019 [(3, .int (nI t)), (2, .ref (E.2.2.1 65)), (1, .ref (E.2.2.1 0)), (0, .ref b)] [] M := by
  refine gs_aload_n (q := 2) k rfl rfl dL_law_1019 ?_
  refine gs_aload_n (q := 3) k rfl rfl dL_law_1020 ?_
  refine gs_iload_n (q := 0) k rfl rfl dL_law_1021 ?_
  refine gs_iconst (v := nI 1) k (by decide) dL_law_1022 ?_
  refine gs_iadd k dL_law_1023 ?_
  refine gl_sld k hX (vin (by omega) hL) dL_law_1024 ?_
  refine gs_aload_n (q := 3) k rfl rfl dL_law_1025 ?_
  refine gs_iload_n (q := 0) k rfl rfl dL_law_1026 ?_
  refine gs_iconst (v := nI 2) k (by decide) dL_law_1027 ?_
  refine gs_iadd k dL_law_1028 ?_
  refine gl_sld k hX (vin (by omega) hL) dL_law_1029 ?_
  refine gs_callV (As := [.int (xs (nI t + nI 1).toNatClampNeg), .int (xs (nI t + nI 2).toNatClampNeg)]) (k0 := 0) (ci := 6) (T := TX6) (N := 10) k (sC_negative hI h1 hg) cf_X6_negative im_X6_negative sl_X6_negative ml_L_110 (hI 0 (by omega)) rfl rfl (by decide) rfl rfl (Nat.le_of_ble_eq_true rfl) dL_law_1030 (ppH (fun m1 q1 => ?_))
  refine gs_aload_n (q := 1) k rfl rfl dL_law_1033 ?_
  refine gs_aload_n (q := 3) k rfl rfl dL_law_1034 ?_
  refine gs_iload_n (q := 0) k rfl rfl dL_law_1035 ?_
  refine gs_iconst (v := nI 1) k (by decide) dL_law_1036 ?_
  refine gs_iadd k dL_law_1037 ?_
  refine gl_sld k hX (vin (by omega) hL) dL_law_1038 ?_
  refine gs_aload_n (q := 3) k rfl rfl dL_law_1039 ?_
  refine gs_iload_n (q := 0) k rfl rfl dL_law_1040 ?_
  refine gs_iconst (v := nI 2) k (by decide) dL_law_1041 ?_
  refine gs_iadd k dL_law_1042 ?_
  refine gl_sld k hX (vin (by omega) hL) dL_law_1043 ?_
  refine gs_callV (As := [.int (xs (nI t + nI 1).toNatClampNeg), .int (xs (nI t + nI 2).toNatClampNeg)]) (k0 := 65) (ci := 7) (T := TX7) (N := 27) k (sR_negative hI (h2.fr q1.2) hg) cf_X7_negative im_X7_negative sl_X7_negative ml_L_114 (hI 65 (by omega)) rfl rfl (by decide) rfl rfl (Nat.le_of_ble_eq_true rfl) dL_law_1044 (ppH (fun m2 q2 => ?_))
  refine gs_lcmp k dL_law_1047 ?_
  exact gs_if_eq (tgt := 1690) k (by decide) dL_law_1048 (fun _ => cont m2 _ (q1.1.fc q2.2) q2.1 hg) (fun z => absurd (lcmp_self _) z)
/-- based -/
theorem law_24 {l : Launch} {E : Ev} {K : Kt} {b L t : Nat} {xs : Nat → Int32} {M : Mm} {S : As} (hI : ∀ k, k < 108 → k ∈ E.2.1) (k : Ok l E K cL_law RL 9 4) (hX : Sx K b L xs) (ht : t + 5 ≤ L) (hL : L ≤ 2560) (h1 : CA M S) (h2 : RA M S) (hg : GA S) (cont : ∀ M' S', CA M' S' → RA M' S' → GA S' → G l E K 1690 [(3, .int (nI t)), (2, .ref (E.2.2.1 65)), (1, .ref (E.2.2.1 0)), (0, .ref b)] [] M') : G l E K 1053 [(3, .int (nI t)), (2, .ref (E.2.2.1 65)), (1, .ref (E.2.2.1 0)), (0, .ref b)] [] M := by
  refine gs_aload_n (q := 2) k rfl rfl dL_law_1053 ?_
  refine gs_aload_n (q := 3) k rfl rfl dL_law_1054 ?_
  refine gs_iload_n (q := 0) k rfl rfl dL_law_1055 ?_
  refine gs_iconst (v := nI 1) k (by decide) dL_law_1056 ?_
  refine gs_iadd k dL_law_1057 ?_
  refine gl_sld k hX (vin (by omega) hL) dL_law_1058 ?_
  refine gs_aload_n (q := 3) k rfl rfl dL_law_1059 ?_
  refine gs_iload_n (q := 0) k rfl rfl dL_law_1060 ?_
  refine gs_iconst (v := nI 2) k (by decide) dL_law_1061 ?_
  refine gs_iadd k dL_law_1062 ?_
  refine gl_sld k hX (vin (by omega) hL) dL_law_1063 ?_
  refine gs_callV (As := [.int (xs (nI t + nI 1).toNatClampNeg), .int (xs (nI t + nI 2).toNatClampNeg)]) (k0 := 0) (ci := 6) (T := TX6) (N := 10) k (sC_based hI h1 hg) cf_X6_based im_X6_based sl_X6_based ml_L_115 (hI 0 (by omega)) rfl rfl (by decide) rfl rfl (Nat.le_of_ble_eq_true rfl) dL_law_1064 (ppH (fun m1 q1 => ?_))
  refine gs_aload_n (q := 1) k rfl rfl dL_law_1067 ?_
  refine gs_aload_n (q := 3) k rfl rfl dL_law_1068 ?_
  refine gs_iload_n (q := 0) k rfl rfl dL_law_1069 ?_
  refine gs_iconst (v := nI 1) k (by decide) dL_law_1070 ?_
  refine gs_iadd k dL_law_1071 ?_
  refine gl_sld k hX (vin (by omega) hL) dL_law_1072 ?_
  refine gs_aload_n (q := 3) k rfl rfl dL_law_1073 ?_
  refine gs_iload_n (q := 0) k rfl rfl dL_law_1074 ?_
  refine gs_iconst (v := nI 2) k (by decide) dL_law_1075 ?_
  refine gs_iadd k dL_law_1076 ?_
  refine gl_sld k hX (vin (by omega) hL) dL_law_1077 ?_
  refine gs_callV (As := [.int (xs (nI t + nI 1).toNatClampNeg), .int (xs (nI t + nI 2).toNatClampNeg)]) (k0 := 65) (ci := 7) (T := TX7) (N := 27) k (sR_based hI (h2.fr q1.2) hg) cf_X7_based im_X7_based sl_X7_based ml_L_118 (hI 65 (by omega)) rfl rfl (by decide) rfl rfl (Nat.le_of_ble_eq_true rfl) dL_law_1078 (ppH (fun m2 q2 => ?_))
  exact gs_icmp_eq (tgt := 1690) k (by decide) dL_law_1081 (fun _ => cont m2 _ (q1.1.fc q2.2) q2.1 hg) (fun z => absurd rfl z)
/-- least -/
theorem law_25 {l : Launch} {E : Ev} {K : Kt} {b L t : Nat} {xs : Nat → Int32} {M : Mm} {S : As} (hI : ∀ k, k < 108 → k ∈ E.2.1) (k : Ok l E K cL_law RL 9 4) (hX : Sx K b L xs) (ht : t + 5 ≤ L) (hL : L ≤ 2560) (h1 : CA M S) (h2 : RA M S) (hg : GA S) (cont : ∀ M' S', CA M' S' → RA M' S' → GA S' → G l E K 1690 [(3, .int (nI t)), (2, .ref (E.2.2.1 65)), (1, .ref (E.2.2.1 0)), (0, .ref b)] [] M') : G l E K 1086 [(3, .int (nI t)), (2, .ref (E.2.2.1 65)), (1, .ref (E.2.2.1 0)), (0, .ref b)] [] M := by
  refine gs_aload_n (q := 2) k rfl rfl dL_law_1086 ?_
  refine gs_aload_n (q := 3) k rfl rfl dL_law_1087 ?_
  refine gs_iload_n (q := 0) k rfl rfl dL_law_1088 ?_
  refine gs_iconst (v := nI 1) k (by decide) dL_law_1089 ?_
  refine gs_iadd k dL_law_1090 ?_
  refine gl_sld k hX (vin (by omega) hL) dL_law_1091 ?_
  refine gs_callV (As := [.int (xs (nI t + nI 1).toNatClampNeg)]) (k0 := 0) (ci := 6) (T := TX6) (N := 10) k (sC_least hI h1 hg) cf_X6_least im_X6_least sl_X6_least ml_L_119 (hI 0 (by omega)) rfl rfl (by decide) rfl rfl (Nat.le_of_ble_eq_true rfl) dL_law_1092 (ppH (fun m1 q1 => ?_))
  refine gs_aload_n (q := 1) k rfl rfl dL_law_1095 ?_
  refine gs_aload_n (q := 3) k rfl rfl dL_law_1096 ?_
  refine gs_iload_n (q := 0) k rfl rfl dL_law_1097 ?_
  refine gs_iconst (v := nI 1) k (by decide) dL_law_1098 ?_
  refine gs_iadd k dL_law_1099 ?_
  refine gl_sld k hX (vin (by omega) hL) dL_law_1100 ?_
  refine gs_callV (As := [.int (xs (nI t + nI 1).toNatClampNeg)]) (k0 := 65) (ci := 7) (T := TX7) (N := 27) k (sR_least hI (h2.fr q1.2) hg) cf_X7_least im_X7_least sl_X7_least ml_L_123 (hI 65 (by omega)) rfl rfl (by decide) rfl rfl (Nat.le_of_ble_eq_true rfl) dL_law_1101 (ppH (fun m2 q2 => ?_))
  refine gs_lcmp k dL_law_1104 ?_
  exact gs_if_eq (tgt := 1690) k (by decide) dL_law_1105 (fun _ => cont m2 _ (q1.1.fc q2.2) q2.1 hg) (fun z => absurd (lcmp_self _) z)
/-- leastSets -/
theorem law_26 {l : Launch} {E : Ev} {K : Kt} {b L t : Nat} {xs : Nat → Int32} {M : Mm} {S : As} (hI : ∀ k, k < 108 → k ∈ E.2.1) (k : Ok l E K cL_law RL 9 4) (hX : Sx K b L xs) (ht : t + 5 ≤ L) (hL : L ≤ 2560) (h1 : CA M S) (h2 : RA M S) (hg : GA S) (cont : ∀ M' S', CA M' S' → RA M' S' → GA S' → G l E K 1690 [(3, .int (nI t)), (2, .ref (E.2.2.1 65)), (1, .ref (E.2.2.1 0)), (0, .ref b)] [] M') : G l E K 1110 [(3, .int (nI t)), (2, .ref (E.2.2.1 65)), (1, .ref (E.2.2.1 0)), (0, .ref b)] [] M := by
  refine gs_aload_n (q := 2) k rfl rfl dL_law_1110 ?_
  refine gs_aload_n (q := 3) k rfl rfl dL_law_1111 ?_
  refine gs_iload_n (q := 0) k rfl rfl dL_law_1112 ?_
  refine gs_iconst (v := nI 1) k (by decide) dL_law_1113 ?_
  refine gs_iadd k dL_law_1114 ?_
  refine gl_sld k hX (vin (by omega) hL) dL_law_1115 ?_
  refine gs_aload_n (q := 3) k rfl rfl dL_law_1116 ?_
  refine gs_iload_n (q := 0) k rfl rfl dL_law_1117 ?_
  refine gs_iconst (v := nI 2) k (by decide) dL_law_1118 ?_
  refine gs_iadd k dL_law_1119 ?_
  refine gl_sld k hX (vin (by omega) hL) dL_law_1120 ?_
  refine gs_callV (As := [.int (xs (nI t + nI 1).toNatClampNeg), .int (xs (nI t + nI 2).toNatClampNeg)]) (k0 := 0) (ci := 6) (T := TX6) (N := 10) k (sC_leastSets hI h1 hg) cf_X6_leastSets im_X6_leastSets sl_X6_leastSets ml_L_124 (hI 0 (by omega)) rfl rfl (by decide) rfl rfl (Nat.le_of_ble_eq_true rfl) dL_law_1121 (ppH (fun m1 q1 => ?_))
  refine gs_aload_n (q := 1) k rfl rfl dL_law_1124 ?_
  refine gs_aload_n (q := 3) k rfl rfl dL_law_1125 ?_
  refine gs_iload_n (q := 0) k rfl rfl dL_law_1126 ?_
  refine gs_iconst (v := nI 1) k (by decide) dL_law_1127 ?_
  refine gs_iadd k dL_law_1128 ?_
  refine gl_sld k hX (vin (by omega) hL) dL_law_1129 ?_
  refine gs_aload_n (q := 3) k rfl rfl dL_law_1130 ?_
  refine gs_iload_n (q := 0) k rfl rfl dL_law_1131 ?_
  refine gs_iconst (v := nI 2) k (by decide) dL_law_1132 ?_
  refine gs_iadd k dL_law_1133 ?_
  refine gl_sld k hX (vin (by omega) hL) dL_law_1134 ?_
  refine gs_callV (As := [.int (xs (nI t + nI 1).toNatClampNeg), .int (xs (nI t + nI 2).toNatClampNeg)]) (k0 := 65) (ci := 7) (T := TX7) (N := 27) k (sR_leastSets hI (h2.fr q1.2) hg) cf_X7_leastSets im_X7_leastSets sl_X7_leastSets ml_L_127 (hI 65 (by omega)) rfl rfl (by decide) rfl rfl (Nat.le_of_ble_eq_true rfl) dL_law_1135 (ppH (fun m2 q2 => ?_))
  exact gs_icmp_eq (tgt := 1690) k (by decide) dL_law_1138 (fun _ => cont m2 _ (q1.1.fc q2.2) q2.1 hg) (fun z => absurd rfl z)
/-- ring -/
theorem law_27 {l : Launch} {E : Ev} {K : Kt} {b L t : Nat} {xs : Nat → Int32} {M : Mm} {S : As} (hI : ∀ k, k < 108 → k ∈ E.2.1) (k : Ok l E K cL_law RL 9 4) (hX : Sx K b L xs) (ht : t + 5 ≤ L) (hL : L ≤ 2560) (h1 : CA M S) (h2 : RA M S) (hg : GA S) (cont : ∀ M' S', CA M' S' → RA M' S' → GA S' → G l E K 1690 [(3, .int (nI t)), (2, .ref (E.2.2.1 65)), (1, .ref (E.2.2.1 0)), (0, .ref b)] [] M') : G l E K 1143 [(3, .int (nI t)), (2, .ref (E.2.2.1 65)), (1, .ref (E.2.2.1 0)), (0, .ref b)] [] M := by
  refine gs_aload_n (q := 2) k rfl rfl dL_law_1143 ?_
  refine gs_aload_n (q := 3) k rfl rfl dL_law_1144 ?_
  refine gs_iload_n (q := 0) k rfl rfl dL_law_1145 ?_
  refine gs_iconst (v := nI 1) k (by decide) dL_law_1146 ?_
  refine gs_iadd k dL_law_1147 ?_
  refine gl_sld k hX (vin (by omega) hL) dL_law_1148 ?_
  refine gs_aload_n (q := 3) k rfl rfl dL_law_1149 ?_
  refine gs_iload_n (q := 0) k rfl rfl dL_law_1150 ?_
  refine gs_iconst (v := nI 2) k (by decide) dL_law_1151 ?_
  refine gs_iadd k dL_law_1152 ?_
  refine gl_sld k hX (vin (by omega) hL) dL_law_1153 ?_
  refine gs_callV (As := [.int (xs (nI t + nI 1).toNatClampNeg), .int (xs (nI t + nI 2).toNatClampNeg)]) (k0 := 0) (ci := 6) (T := TX6) (N := 10) k (sC_ring hI h1 hg) cf_X6_ring im_X6_ring sl_X6_ring ml_L_128 (hI 0 (by omega)) rfl rfl (by decide) rfl rfl (Nat.le_of_ble_eq_true rfl) dL_law_1154 (ppH (fun m1 q1 => ?_))
  refine gs_aload_n (q := 1) k rfl rfl dL_law_1157 ?_
  refine gs_aload_n (q := 3) k rfl rfl dL_law_1158 ?_
  refine gs_iload_n (q := 0) k rfl rfl dL_law_1159 ?_
  refine gs_iconst (v := nI 1) k (by decide) dL_law_1160 ?_
  refine gs_iadd k dL_law_1161 ?_
  refine gl_sld k hX (vin (by omega) hL) dL_law_1162 ?_
  refine gs_aload_n (q := 3) k rfl rfl dL_law_1163 ?_
  refine gs_iload_n (q := 0) k rfl rfl dL_law_1164 ?_
  refine gs_iconst (v := nI 2) k (by decide) dL_law_1165 ?_
  refine gs_iadd k dL_law_1166 ?_
  refine gl_sld k hX (vin (by omega) hL) dL_law_1167 ?_
  refine gs_callV (As := [.int (xs (nI t + nI 1).toNatClampNeg), .int (xs (nI t + nI 2).toNatClampNeg)]) (k0 := 65) (ci := 7) (T := TX7) (N := 27) k (sR_ring hI (h2.fr q1.2) hg) cf_X7_ring im_X7_ring sl_X7_ring ml_L_131 (hI 65 (by omega)) rfl rfl (by decide) rfl rfl (Nat.le_of_ble_eq_true rfl) dL_law_1168 (ppH (fun m2 q2 => ?_))
  exact gs_icmp_eq (tgt := 1690) k (by decide) dL_law_1171 (fun _ => cont m2 _ (q1.1.fc q2.2) q2.1 hg) (fun z => absurd rfl z)
/-- level -/
theorem law_28 {l : Launch} {E : Ev} {K : Kt} {b L t : Nat} {xs : Nat → Int32} {M : Mm} {S : As} (hI : ∀ k, k < 108 → k ∈ E.2.1) (k : Ok l E K cL_law RL 9 4) (hX : Sx K b L xs) (ht : t + 5 ≤ L) (hL : L ≤ 2560) (h1 : CA M S) (h2 : RA M S) (hg : GA S) (cont : ∀ M' S', CA M' S' → RA M' S' → GA S' → G l E K 1690 [(3, .int (nI t)), (2, .ref (E.2.2.1 65)), (1, .ref (E.2.2.1 0)), (0, .ref b)] [] M') : G l E K 1176 [(3, .int (nI t)), (2, .ref (E.2.2.1 65)), (1, .ref (E.2.2.1 0)), (0, .ref b)] [] M := by
  refine gs_aload_n (q := 2) k rfl rfl dL_law_1176 ?_
  refine gs_aload_n (q := 3) k rfl rfl dL_law_1177 ?_
  refine gs_iload_n (q := 0) k rfl rfl dL_law_1178 ?_
  refine gs_iconst (v := nI 1) k (by decide) dL_law_1179 ?_
  refine gs_iadd k dL_law_1180 ?_
  refine gl_sld k hX (vin (by omega) hL) dL_law_1181 ?_
  refine gs_aload_n (q := 3) k rfl rfl dL_law_1182 ?_
  refine gs_iload_n (q := 0) k rfl rfl dL_law_1183 ?_
  refine gs_iconst (v := nI 2) k (by decide) dL_law_1184 ?_
  refine gs_iadd k dL_law_1185 ?_
  refine gl_sld k hX (vin (by omega) hL) dL_law_1186 ?_
  refine gs_callV (As := [.int (xs (nI t + nI 1).toNatClampNeg), .int (xs (nI t + nI 2).toNatClampNeg)]) (k0 := 0) (ci := 6) (T := TX6) (N := 10) k (sC_level hI h1 hg) cf_X6_level im_X6_level sl_X6_level ml_L_132 (hI 0 (by omega)) rfl rfl (by decide) rfl rfl (Nat.le_of_ble_eq_true rfl) dL_law_1187 (ppH (fun m1 q1 => ?_))
  refine gs_aload_n (q := 1) k rfl rfl dL_law_1190 ?_
  refine gs_aload_n (q := 3) k rfl rfl dL_law_1191 ?_
  refine gs_iload_n (q := 0) k rfl rfl dL_law_1192 ?_
  refine gs_iconst (v := nI 1) k (by decide) dL_law_1193 ?_
  refine gs_iadd k dL_law_1194 ?_
  refine gl_sld k hX (vin (by omega) hL) dL_law_1195 ?_
  refine gs_aload_n (q := 3) k rfl rfl dL_law_1196 ?_
  refine gs_iload_n (q := 0) k rfl rfl dL_law_1197 ?_
  refine gs_iconst (v := nI 2) k (by decide) dL_law_1198 ?_
  refine gs_iadd k dL_law_1199 ?_
  refine gl_sld k hX (vin (by omega) hL) dL_law_1200 ?_
  refine gs_callV (As := [.int (xs (nI t + nI 1).toNatClampNeg), .int (xs (nI t + nI 2).toNatClampNeg)]) (k0 := 65) (ci := 7) (T := TX7) (N := 27) k (sR_level hI (h2.fr q1.2) hg) cf_X7_level im_X7_level sl_X7_level ml_L_135 (hI 65 (by omega)) rfl rfl (by decide) rfl rfl (Nat.le_of_ble_eq_true rfl) dL_law_1201 (ppH (fun m2 q2 => ?_))
  exact gs_icmp_eq (tgt := 1690) k (by decide) dL_law_1204 (fun _ => cont m2 _ (q1.1.fc q2.2) q2.1 hg) (fun z => absurd rfl z)
/-- height -/
theorem law_29 {l : Launch} {E : Ev} {K : Kt} {b L t : Nat} {xs : Nat → Int32} {M : Mm} {S : As} (hI : ∀ k, k < 108 → k ∈ E.2.1) (k : Ok l E K cL_law RL 9 4) (hX : Sx K b L xs) (ht : t + 5 ≤ L) (hL : L ≤ 2560) (h1 : CA M S) (h2 : RA M S) (hg : GA S) (cont : ∀ M' S', CA M' S' → RA M' S' → GA S' → G l E K 1690 [(3, .int (nI t)), (2, .ref (E.2.2.1 65)), (1, .ref (E.2.2.1 0)), (0, .ref b)] [] M') : G l E K 1209 [(3, .int (nI t)), (2, .ref (E.2.2.1 65)), (1, .ref (E.2.2.1 0)), (0, .ref b)] [] M := by
  refine gs_aload_n (q := 2) k rfl rfl dL_law_1209 ?_
  refine gs_aload_n (q := 3) k rfl rfl dL_law_1210 ?_
  refine gs_iload_n (q := 0) k rfl rfl dL_law_1211 ?_
  refine gs_iconst (v := nI 1) k (by decide) dL_law_1212 ?_
  refine gs_iadd k dL_law_1213 ?_
  refine gl_sld k hX (vin (by omega) hL) dL_law_1214 ?_
  refine gs_aload_n (q := 3) k rfl rfl dL_law_1215 ?_
  refine gs_iload_n (q := 0) k rfl rfl dL_law_1216 ?_
  refine gs_iconst (v := nI 2) k (by decide) dL_law_1217 ?_
  refine gs_iadd k dL_law_1218 ?_
  refine gl_sld k hX (vin (by omega) hL) dL_law_1219 ?_
  refine gs_aload_n (q := 3) k rfl rfl dL_law_1220 ?_
  refine gs_iload_n (q := 0) k rfl rfl dL_law_1221 ?_
  refine gs_iconst (v := nI 3) k (by decide) dL_law_1222 ?_
  refine gs_iadd k dL_law_1223 ?_
  refine gl_sld k hX (vin (by omega) hL) dL_law_1224 ?_
  refine gs_callV (As := [.int (xs (nI t + nI 1).toNatClampNeg), .int (xs (nI t + nI 2).toNatClampNeg), .int (xs (nI t + nI 3).toNatClampNeg)]) (k0 := 0) (ci := 6) (T := TX6) (N := 10) k (sC_height hI h1 hg) cf_X6_height im_X6_height sl_X6_height ml_L_136 (hI 0 (by omega)) rfl rfl (by decide) rfl rfl (Nat.le_of_ble_eq_true rfl) dL_law_1225 (ppH (fun m1 q1 => ?_))
  refine gs_aload_n (q := 1) k rfl rfl dL_law_1228 ?_
  refine gs_aload_n (q := 3) k rfl rfl dL_law_1229 ?_
  refine gs_iload_n (q := 0) k rfl rfl dL_law_1230 ?_
  refine gs_iconst (v := nI 1) k (by decide) dL_law_1231 ?_
  refine gs_iadd k dL_law_1232 ?_
  refine gl_sld k hX (vin (by omega) hL) dL_law_1233 ?_
  refine gs_aload_n (q := 3) k rfl rfl dL_law_1234 ?_
  refine gs_iload_n (q := 0) k rfl rfl dL_law_1235 ?_
  refine gs_iconst (v := nI 2) k (by decide) dL_law_1236 ?_
  refine gs_iadd k dL_law_1237 ?_
  refine gl_sld k hX (vin (by omega) hL) dL_law_1238 ?_
  refine gs_aload_n (q := 3) k rfl rfl dL_law_1239 ?_
  refine gs_iload_n (q := 0) k rfl rfl dL_law_1240 ?_
  refine gs_iconst (v := nI 3) k (by decide) dL_law_1241 ?_
  refine gs_iadd k dL_law_1242 ?_
  refine gl_sld k hX (vin (by omega) hL) dL_law_1243 ?_
  refine gs_callV (As := [.int (xs (nI t + nI 1).toNatClampNeg), .int (xs (nI t + nI 2).toNatClampNeg), .int (xs (nI t + nI 3).toNatClampNeg)]) (k0 := 65) (ci := 7) (T := TX7) (N := 27) k (sR_height hI (h2.fr q1.2) hg) cf_X7_height im_X7_height sl_X7_height ml_L_139 (hI 65 (by omega)) rfl rfl (by decide) rfl rfl (Nat.le_of_ble_eq_true rfl) dL_law_1244 (ppH (fun m2 q2 => ?_))
  refine gs_lcmp k dL_law_1247 ?_
  exact gs_if_eq (tgt := 1690) k (by decide) dL_law_1248 (fun _ => cont m2 _ (q1.1.fc q2.2) q2.1 hg) (fun z => absurd (lcmp_self _) z)
/-- wall -/
theorem law_30 {l : Launch} {E : Ev} {K : Kt} {b L t : Nat} {xs : Nat → Int32} {M : Mm} {S : As} (hI : ∀ k, k < 108 → k ∈ E.2.1) (k : Ok l E K cL_law RL 9 4) (hX : Sx K b L xs) (ht : t + 5 ≤ L) (hL : L ≤ 2560) (h1 : CA M S) (h2 : RA M S) (hg : GA S) (cont : ∀ M' S', CA M' S' → RA M' S' → GA S' → G l E K 1690 [(3, .int (nI t)), (2, .ref (E.2.2.1 65)), (1, .ref (E.2.2.1 0)), (0, .ref b)] [] M') : G l E K 1253 [(3, .int (nI t)), (2, .ref (E.2.2.1 65)), (1, .ref (E.2.2.1 0)), (0, .ref b)] [] M := by
  refine gs_aload_n (q := 2) k rfl rfl dL_law_1253 ?_
  refine gs_aload_n (q := 3) k rfl rfl dL_law_1254 ?_
  refine gs_iload_n (q := 0) k rfl rfl dL_law_1255 ?_
  refine gs_iconst (v := nI 1) k (by decide) dL_law_1256 ?_
  refine gs_iadd k dL_law_1257 ?_
  refine gl_sld k hX (vin (by omega) hL) dL_law_1258 ?_
  refine gs_aload_n (q := 3) k rfl rfl dL_law_1259 ?_
  refine gs_iload_n (q := 0) k rfl rfl dL_law_1260 ?_
  refine gs_iconst (v := nI 2) k (by decide) dL_law_1261 ?_
  refine gs_iadd k dL_law_1262 ?_
  refine gl_sld k hX (vin (by omega) hL) dL_law_1263 ?_
  refine gs_aload_n (q := 3) k rfl rfl dL_law_1264 ?_
  refine gs_iload_n (q := 0) k rfl rfl dL_law_1265 ?_
  refine gs_iconst (v := nI 3) k (by decide) dL_law_1266 ?_
  refine gs_iadd k dL_law_1267 ?_
  refine gl_sld k hX (vin (by omega) hL) dL_law_1268 ?_
  refine gs_callV (As := [.int (xs (nI t + nI 1).toNatClampNeg), .int (xs (nI t + nI 2).toNatClampNeg), .int (xs (nI t + nI 3).toNatClampNeg)]) (k0 := 0) (ci := 6) (T := TX6) (N := 10) k (sC_wall hI h1 hg) cf_X6_wall im_X6_wall sl_X6_wall ml_L_140 (hI 0 (by omega)) rfl rfl (by decide) rfl rfl (Nat.le_of_ble_eq_true rfl) dL_law_1269 (ppH (fun m1 q1 => ?_))
  refine gs_aload_n (q := 1) k rfl rfl dL_law_1272 ?_
  refine gs_aload_n (q := 3) k rfl rfl dL_law_1273 ?_
  refine gs_iload_n (q := 0) k rfl rfl dL_law_1274 ?_
  refine gs_iconst (v := nI 1) k (by decide) dL_law_1275 ?_
  refine gs_iadd k dL_law_1276 ?_
  refine gl_sld k hX (vin (by omega) hL) dL_law_1277 ?_
  refine gs_aload_n (q := 3) k rfl rfl dL_law_1278 ?_
  refine gs_iload_n (q := 0) k rfl rfl dL_law_1279 ?_
  refine gs_iconst (v := nI 2) k (by decide) dL_law_1280 ?_
  refine gs_iadd k dL_law_1281 ?_
  refine gl_sld k hX (vin (by omega) hL) dL_law_1282 ?_
  refine gs_aload_n (q := 3) k rfl rfl dL_law_1283 ?_
  refine gs_iload_n (q := 0) k rfl rfl dL_law_1284 ?_
  refine gs_iconst (v := nI 3) k (by decide) dL_law_1285 ?_
  refine gs_iadd k dL_law_1286 ?_
  refine gl_sld k hX (vin (by omega) hL) dL_law_1287 ?_
  refine gs_callV (As := [.int (xs (nI t + nI 1).toNatClampNeg), .int (xs (nI t + nI 2).toNatClampNeg), .int (xs (nI t + nI 3).toNatClampNeg)]) (k0 := 65) (ci := 7) (T := TX7) (N := 27) k (sR_wall hI (h2.fr q1.2) hg) cf_X7_wall im_X7_wall sl_X7_wall ml_L_143 (hI 65 (by omega)) rfl rfl (by decide) rfl rfl (Nat.le_of_ble_eq_true rfl) dL_law_1288 (ppH (fun m2 q2 => ?_))
  exact gs_icmp_eq (tgt := 1690) k (by decide) dL_law_1291 (fun _ => cont m2 _ (q1.1.fc q2.2) q2.1 hg) (fun z => absurd rfl z)
/-- wallValue -/
theorem law_31 {l : Launch} {E : Ev} {K : Kt} {b L t : Nat} {xs : Nat → Int32} {M : Mm} {S : As} (hI : ∀ k, k < 108 → k ∈ E.2.1) (k : Ok l E K cL_law RL 9 4) (hX : Sx K b L xs) (ht : t + 5 ≤ L) (hL : L ≤ 2560) (h1 : CA M S) (h2 : RA M S) (hg : GA S) (cont : ∀ M' S', CA M' S' → RA M' S' → GA S' → G l E K 1690 [(3, .int (nI t)), (2, .ref (E.2.2.1 65)), (1, .ref (E.2.2.1 0)), (0, .ref b)] [] M') : G l E K 1296 [(3, .int (nI t)), (2, .ref (E.2.2.1 65)), (1, .ref (E.2.2.1 0)), (0, .ref b)] [] M := by
  refine gs_aload_n (q := 2) k rfl rfl dL_law_1296 ?_
  refine gs_aload_n (q := 3) k rfl rfl dL_law_1297 ?_
  refine gs_iload_n (q := 0) k rfl rfl dL_law_1298 ?_
  refine gs_iconst (v := nI 1) k (by decide) dL_law_1299 ?_
  refine gs_iadd k dL_law_1300 ?_
  refine gl_sld k hX (vin (by omega) hL) dL_law_1301 ?_
  refine gs_aload_n (q := 3) k rfl rfl dL_law_1302 ?_
  refine gs_iload_n (q := 0) k rfl rfl dL_law_1303 ?_
  refine gs_iconst (v := nI 2) k (by decide) dL_law_1304 ?_
  refine gs_iadd k dL_law_1305 ?_
  refine gl_sld k hX (vin (by omega) hL) dL_law_1306 ?_
  refine gs_aload_n (q := 3) k rfl rfl dL_law_1307 ?_
  refine gs_iload_n (q := 0) k rfl rfl dL_law_1308 ?_
  refine gs_iconst (v := nI 3) k (by decide) dL_law_1309 ?_
  refine gs_iadd k dL_law_1310 ?_
  refine gl_sld k hX (vin (by omega) hL) dL_law_1311 ?_
  refine gs_callV (As := [.int (xs (nI t + nI 1).toNatClampNeg), .int (xs (nI t + nI 2).toNatClampNeg), .int (xs (nI t + nI 3).toNatClampNeg)]) (k0 := 0) (ci := 6) (T := TX6) (N := 10) k (sC_wallValue hI h1 hg) cf_X6_wallValue im_X6_wallValue sl_X6_wallValue ml_L_144 (hI 0 (by omega)) rfl rfl (by decide) rfl rfl (Nat.le_of_ble_eq_true rfl) dL_law_1312 (ppH (fun m1 q1 => ?_))
  refine gs_aload_n (q := 1) k rfl rfl dL_law_1315 ?_
  refine gs_aload_n (q := 3) k rfl rfl dL_law_1316 ?_
  refine gs_iload_n (q := 0) k rfl rfl dL_law_1317 ?_
  refine gs_iconst (v := nI 1) k (by decide) dL_law_1318 ?_
  refine gs_iadd k dL_law_1319 ?_
  refine gl_sld k hX (vin (by omega) hL) dL_law_1320 ?_
  refine gs_aload_n (q := 3) k rfl rfl dL_law_1321 ?_
  refine gs_iload_n (q := 0) k rfl rfl dL_law_1322 ?_
  refine gs_iconst (v := nI 2) k (by decide) dL_law_1323 ?_
  refine gs_iadd k dL_law_1324 ?_
  refine gl_sld k hX (vin (by omega) hL) dL_law_1325 ?_
  refine gs_aload_n (q := 3) k rfl rfl dL_law_1326 ?_
  refine gs_iload_n (q := 0) k rfl rfl dL_law_1327 ?_
  refine gs_iconst (v := nI 3) k (by decide) dL_law_1328 ?_
  refine gs_iadd k dL_law_1329 ?_
  refine gl_sld k hX (vin (by omega) hL) dL_law_1330 ?_
  refine gs_callV (As := [.int (xs (nI t + nI 1).toNatClampNeg), .int (xs (nI t + nI 2).toNatClampNeg), .int (xs (nI t + nI 3).toNatClampNeg)]) (k0 := 65) (ci := 7) (T := TX7) (N := 27) k (sR_wallValue hI (h2.fr q1.2) hg) cf_X7_wallValue im_X7_wallValue sl_X7_wallValue ml_L_147 (hI 65 (by omega)) rfl rfl (by decide) rfl rfl (Nat.le_of_ble_eq_true rfl) dL_law_1331 (ppH (fun m2 q2 => ?_))
  refine gs_lcmp k dL_law_1334 ?_
  exact gs_if_eq (tgt := 1690) k (by decide) dL_law_1335 (fun _ => cont m2 _ (q1.1.fc q2.2) q2.1 hg) (fun z => absurd (lcmp_self _) z)
/-- most -/
theorem law_32 {l : Launch} {E : Ev} {K : Kt} {b L t : Nat} {xs : Nat → Int32} {M : Mm} {S : As} (hI : ∀ k, k < 108 → k ∈ E.2.1) (k : Ok l E K cL_law RL 9 4) (hX : Sx K b L xs) (ht : t + 5 ≤ L) (hL : L ≤ 2560) (h1 : CA M S) (h2 : RA M S) (hg : GA S) (cont : ∀ M' S', CA M' S' → RA M' S' → GA S' → G l E K 1690 [(3, .int (nI t)), (2, .ref (E.2.2.1 65)), (1, .ref (E.2.2.1 0)), (0, .ref b)] [] M') : G l E K 1340 [(3, .int (nI t)), (2, .ref (E.2.2.1 65)), (1, .ref (E.2.2.1 0)), (0, .ref b)] [] M := by
  refine gs_aload_n (q := 2) k rfl rfl dL_law_1340 ?_
  refine gs_aload_n (q := 3) k rfl rfl dL_law_1341 ?_
  refine gs_iload_n (q := 0) k rfl rfl dL_law_1342 ?_
  refine gs_iconst (v := nI 1) k (by decide) dL_law_1343 ?_
  refine gs_iadd k dL_law_1344 ?_
  refine gl_sld k hX (vin (by omega) hL) dL_law_1345 ?_
  refine gs_aload_n (q := 3) k rfl rfl dL_law_1346 ?_
  refine gs_iload_n (q := 0) k rfl rfl dL_law_1347 ?_
  refine gs_iconst (v := nI 2) k (by decide) dL_law_1348 ?_
  refine gs_iadd k dL_law_1349 ?_
  refine gl_sld k hX (vin (by omega) hL) dL_law_1350 ?_
  refine gs_aload_n (q := 3) k rfl rfl dL_law_1351 ?_
  refine gs_iload_n (q := 0) k rfl rfl dL_law_1352 ?_
  refine gs_iconst (v := nI 3) k (by decide) dL_law_1353 ?_
  refine gs_iadd k dL_law_1354 ?_
  refine gl_sld k hX (vin (by omega) hL) dL_law_1355 ?_
  refine gs_callV (As := [.int (xs (nI t + nI 1).toNatClampNeg), .int (xs (nI t + nI 2).toNatClampNeg), .int (xs (nI t + nI 3).toNatClampNeg)]) (k0 := 0) (ci := 6) (T := TX6) (N := 10) k (sC_most hI h1 hg) cf_X6_most im_X6_most sl_X6_most ml_L_148 (hI 0 (by omega)) rfl rfl (by decide) rfl rfl (Nat.le_of_ble_eq_true rfl) dL_law_1356 (ppH (fun m1 q1 => ?_))
  refine gs_aload_n (q := 1) k rfl rfl dL_law_1359 ?_
  refine gs_aload_n (q := 3) k rfl rfl dL_law_1360 ?_
  refine gs_iload_n (q := 0) k rfl rfl dL_law_1361 ?_
  refine gs_iconst (v := nI 1) k (by decide) dL_law_1362 ?_
  refine gs_iadd k dL_law_1363 ?_
  refine gl_sld k hX (vin (by omega) hL) dL_law_1364 ?_
  refine gs_aload_n (q := 3) k rfl rfl dL_law_1365 ?_
  refine gs_iload_n (q := 0) k rfl rfl dL_law_1366 ?_
  refine gs_iconst (v := nI 2) k (by decide) dL_law_1367 ?_
  refine gs_iadd k dL_law_1368 ?_
  refine gl_sld k hX (vin (by omega) hL) dL_law_1369 ?_
  refine gs_aload_n (q := 3) k rfl rfl dL_law_1370 ?_
  refine gs_iload_n (q := 0) k rfl rfl dL_law_1371 ?_
  refine gs_iconst (v := nI 3) k (by decide) dL_law_1372 ?_
  refine gs_iadd k dL_law_1373 ?_
  refine gl_sld k hX (vin (by omega) hL) dL_law_1374 ?_
  refine gs_callV (As := [.int (xs (nI t + nI 1).toNatClampNeg), .int (xs (nI t + nI 2).toNatClampNeg), .int (xs (nI t + nI 3).toNatClampNeg)]) (k0 := 65) (ci := 7) (T := TX7) (N := 27) k (sR_most hI (h2.fr q1.2) hg) cf_X7_most im_X7_most sl_X7_most ml_L_151 (hI 65 (by omega)) rfl rfl (by decide) rfl rfl (Nat.le_of_ble_eq_true rfl) dL_law_1375 (ppH (fun m2 q2 => ?_))
  exact gs_icmp_eq (tgt := 1690) k (by decide) dL_law_1378 (fun _ => cont m2 _ (q1.1.fc q2.2) q2.1 hg) (fun z => absurd rfl z)
/-- feed -/
theorem law_33 {l : Launch} {E : Ev} {K : Kt} {b L t : Nat} {xs : Nat → Int32} {M : Mm} {S : As} (hI : ∀ k, k < 108 → k ∈ E.2.1) (k : Ok l E K cL_law RL 9 4) (hX : Sx K b L xs) (ht : t + 5 ≤ L) (hL : L ≤ 2560) (h1 : CA M S) (h2 : RA M S) (hg : GA S) (cont : ∀ M' S', CA M' S' → RA M' S' → GA S' → G l E K 1690 [(3, .int (nI t)), (2, .ref (E.2.2.1 65)), (1, .ref (E.2.2.1 0)), (0, .ref b)] [] M') : G l E K 1383 [(3, .int (nI t)), (2, .ref (E.2.2.1 65)), (1, .ref (E.2.2.1 0)), (0, .ref b)] [] M := by
  refine gs_aload_n (q := 2) k rfl rfl dL_law_1383 ?_
  refine gs_aload_n (q := 3) k rfl rfl dL_law_1384 ?_
  refine gs_iload_n (q := 0) k rfl rfl dL_law_1385 ?_
  refine gs_iconst (v := nI 1) k (by decide) dL_law_1386 ?_
  refine gs_iadd k dL_law_1387 ?_
  refine gl_sld k hX (vin (by omega) hL) dL_law_1388 ?_
  refine gs_callV (As := [.int (xs (nI t + nI 1).toNatClampNeg)]) (k0 := 0) (ci := 6) (T := TX6) (N := 10) k (sC_feed hI h1 hg) cf_X6_feed im_X6_feed sl_X6_feed ml_L_152 (hI 0 (by omega)) rfl rfl (by decide) rfl rfl (Nat.le_of_ble_eq_true rfl) dL_law_1389 (ppH (fun m1 q1 => ?_))
  refine gs_aload_n (q := 1) k rfl rfl dL_law_1392 ?_
  refine gs_aload_n (q := 3) k rfl rfl dL_law_1393 ?_
  refine gs_iload_n (q := 0) k rfl rfl dL_law_1394 ?_
  refine gs_iconst (v := nI 1) k (by decide) dL_law_1395 ?_
  refine gs_iadd k dL_law_1396 ?_
  refine gl_sld k hX (vin (by omega) hL) dL_law_1397 ?_
  refine gs_callV (As := [.int (xs (nI t + nI 1).toNatClampNeg)]) (k0 := 65) (ci := 7) (T := TX7) (N := 27) k (sR_feed hI (h2.fr q1.2) hg) cf_X7_feed im_X7_feed sl_X7_feed ml_L_155 (hI 65 (by omega)) rfl rfl (by decide) rfl rfl (Nat.le_of_ble_eq_true rfl) dL_law_1398 (ppH (fun m2 q2 => ?_))
  exact gs_icmp_eq (tgt := 1690) k (by decide) dL_law_1401 (fun _ => cont m2 _ (q1.1.fc q2.2) q2.1 (gFeed hg)) (fun z => absurd rfl z)
/-- deeds -/
theorem law_34 {l : Launch} {E : Ev} {K : Kt} {b L t : Nat} {xs : Nat → Int32} {M : Mm} {S : As} (hI : ∀ k, k < 108 → k ∈ E.2.1) (k : Ok l E K cL_law RL 9 4) (hX : Sx K b L xs) (ht : t + 5 ≤ L) (hL : L ≤ 2560) (h1 : CA M S) (h2 : RA M S) (hg : GA S) (cont : ∀ M' S', CA M' S' → RA M' S' → GA S' → G l E K 1690 [(3, .int (nI t)), (2, .ref (E.2.2.1 65)), (1, .ref (E.2.2.1 0)), (0, .ref b)] [] M') : G l E K 1406 [(3, .int (nI t)), (2, .ref (E.2.2.1 65)), (1, .ref (E.2.2.1 0)), (0, .ref b)] [] M := by
  refine gs_aload_n (q := 2) k rfl rfl dL_law_1406 ?_
  refine gs_callV (As := []) (k0 := 0) (ci := 6) (T := TX6) (N := 10) k (c_X6_deeds hI h1 hg) cf_X6_deeds im_X6_deeds sl_X6_deeds ml_L_156 (hI 0 (by omega)) rfl rfl (by decide) rfl rfl (Nat.le_of_ble_eq_true rfl) dL_law_1407 (ppH (fun m1 q1 => ?_))
  refine gs_aload_n (q := 1) k rfl rfl dL_law_1410 ?_
  refine gs_callV (As := []) (k0 := 65) (ci := 7) (T := TX7) (N := 27) k (c_X7_deeds hI (h2.fr q1.2) hg) cf_X7_deeds im_X7_deeds sl_X7_deeds ml_L_160 (hI 65 (by omega)) rfl rfl (by decide) rfl rfl (Nat.le_of_ble_eq_true rfl) dL_law_1411 (ppH (fun m2 q2 => ?_))
  exact gs_icmp_eq (tgt := 1690) k (by decide) dL_law_1414 (fun _ => cont m2 _ (q1.1.fc q2.2) q2.1 (gDeeds hg)) (fun z => absurd rfl z)
/-- write -/
theorem law_35 {l : Launch} {E : Ev} {K : Kt} {b L t : Nat} {xs : Nat → Int32} {M : Mm} {S : As} (hI : ∀ k, k < 108 → k ∈ E.2.1) (k : Ok l E K cL_law RL 9 4) (hX : Sx K b L xs) (ht : t + 5 ≤ L) (hL : L ≤ 2560) (h1 : CA M S) (h2 : RA M S) (hg : GA S) (cont : ∀ M' S', CA M' S' → RA M' S' → GA S' → G l E K 1690 [(3, .int (nI t)), (2, .ref (E.2.2.1 65)), (1, .ref (E.2.2.1 0)), (0, .ref b)] [] M') : G l E K 1419 [(3, .int (nI t)), (2, .ref (E.2.2.1 65)), (1, .ref (E.2.2.1 0)), (0, .ref b)] [] M := by
  refine gs_aload_n (q := 2) k rfl rfl dL_law_1419 ?_
  refine gs_aload_n (q := 3) k rfl rfl dL_law_1420 ?_
  refine gs_iload_n (q := 0) k rfl rfl dL_law_1421 ?_
  refine gs_iconst (v := nI 1) k (by decide) dL_law_1422 ?_
  refine gs_iadd k dL_law_1423 ?_
  refine gl_sld k hX (vin (by omega) hL) dL_law_1424 ?_
  refine gs_callV (As := [.int (xs (nI t + nI 1).toNatClampNeg)]) (k0 := 0) (ci := 6) (T := TX6) (N := 10) k (sC_write hI h1 hg) cf_X6_write im_X6_write sl_X6_write ml_L_161 (hI 0 (by omega)) rfl rfl (by decide) rfl rfl (Nat.le_of_ble_eq_true rfl) dL_law_1425 (ppH (fun m1 q1 => ?_))
  refine gs_aload_n (q := 1) k rfl rfl dL_law_1428 ?_
  refine gs_aload_n (q := 3) k rfl rfl dL_law_1429 ?_
  refine gs_iload_n (q := 0) k rfl rfl dL_law_1430 ?_
  refine gs_iconst (v := nI 1) k (by decide) dL_law_1431 ?_
  refine gs_iadd k dL_law_1432 ?_
  refine gl_sld k hX (vin (by omega) hL) dL_law_1433 ?_
  refine gs_callV (As := [.int (xs (nI t + nI 1).toNatClampNeg)]) (k0 := 65) (ci := 7) (T := TX7) (N := 27) k (sR_write hI (h2.fr q1.2) hg) cf_X7_write im_X7_write sl_X7_write ml_L_164 (hI 65 (by omega)) rfl rfl (by decide) rfl rfl (Nat.le_of_ble_eq_true rfl) dL_law_1434 (ppH (fun m2 q2 => ?_))
  exact gs_icmp_eq (tgt := 1690) k (by decide) dL_law_1437 (fun _ => cont m2 _ (q1.1.fc q2.2) q2.1 (gWrite hg)) (fun z => absurd rfl z)
/-- paper -/
theorem law_36 {l : Launch} {E : Ev} {K : Kt} {b L t : Nat} {xs : Nat → Int32} {M : Mm} {S : As} (hI : ∀ k, k < 108 → k ∈ E.2.1) (k : Ok l E K cL_law RL 9 4) (hX : Sx K b L xs) (ht : t + 5 ≤ L) (hL : L ≤ 2560) (h1 : CA M S) (h2 : RA M S) (hg : GA S) (cont : ∀ M' S', CA M' S' → RA M' S' → GA S' → G l E K 1690 [(3, .int (nI t)), (2, .ref (E.2.2.1 65)), (1, .ref (E.2.2.1 0)), (0, .ref b)] [] M') : G l E K 1442 [(3, .int (nI t)), (2, .ref (E.2.2.1 65)), (1, .ref (E.2.2.1 0)), (0, .ref b)] [] M := by
  refine gs_aload_n (q := 2) k rfl rfl dL_law_1442 ?_
  refine gs_aload_n (q := 3) k rfl rfl dL_law_1443 ?_
  refine gs_iload_n (q := 0) k rfl rfl dL_law_1444 ?_
  refine gs_iconst (v := nI 1) k (by decide) dL_law_1445 ?_
  refine gs_iadd k dL_law_1446 ?_
  refine gl_sld k hX (vin (by omega) hL) dL_law_1447 ?_
  refine gs_callV (As := [.int (xs (nI t + nI 1).toNatClampNeg)]) (k0 := 0) (ci := 6) (T := TX6) (N := 10) k (sC_paper hI h1 hg) cf_X6_paper im_X6_paper sl_X6_paper ml_L_165 (hI 0 (by omega)) rfl rfl (by decide) rfl rfl (Nat.le_of_ble_eq_true rfl) dL_law_1448 (ppH (fun m1 q1 => ?_))
  refine gs_aload_n (q := 1) k rfl rfl dL_law_1451 ?_
  refine gs_aload_n (q := 3) k rfl rfl dL_law_1452 ?_
  refine gs_iload_n (q := 0) k rfl rfl dL_law_1453 ?_
  refine gs_iconst (v := nI 1) k (by decide) dL_law_1454 ?_
  refine gs_iadd k dL_law_1455 ?_
  refine gl_sld k hX (vin (by omega) hL) dL_law_1456 ?_
  refine gs_callV (As := [.int (xs (nI t + nI 1).toNatClampNeg)]) (k0 := 65) (ci := 7) (T := TX7) (N := 27) k (sR_paper hI (h2.fr q1.2) hg) cf_X7_paper im_X7_paper sl_X7_paper ml_L_168 (hI 65 (by omega)) rfl rfl (by decide) rfl rfl (Nat.le_of_ble_eq_true rfl) dL_law_1457 (ppH (fun m2 q2 => ?_))
  exact gs_icmp_eq (tgt := 1690) k (by decide) dL_law_1460 (fun _ => cont m2 _ (q1.1.fc q2.2) q2.1 hg) (fun z => absurd rfl z)
/-- list -/
theorem law_37 {l : Launch} {E : Ev} {K : Kt} {b L t : Nat} {xs : Nat → Int32} {M : Mm} {S : As} (hI : ∀ k, k < 108 → k ∈ E.2.1) (k : Ok l E K cL_law RL 9 4) (hX : Sx K b L xs) (ht : t + 5 ≤ L) (hL : L ≤ 2560) (h1 : CA M S) (h2 : RA M S) (hg : GA S) (cont : ∀ M' S', CA M' S' → RA M' S' → GA S' → G l E K 1690 [(3, .int (nI t)), (2, .ref (E.2.2.1 65)), (1, .ref (E.2.2.1 0)), (0, .ref b)] [] M') : G l E K 1465 [(3, .int (nI t)), (2, .ref (E.2.2.1 65)), (1, .ref (E.2.2.1 0)), (0, .ref b)] [] M := by
  refine gs_aload_n (q := 2) k rfl rfl dL_law_1465 ?_
  refine gs_aload_n (q := 3) k rfl rfl dL_law_1466 ?_
  refine gs_iload_n (q := 0) k rfl rfl dL_law_1467 ?_
  refine gs_iconst (v := nI 1) k (by decide) dL_law_1468 ?_
  refine gs_iadd k dL_law_1469 ?_
  refine gl_sld k hX (vin (by omega) hL) dL_law_1470 ?_
  refine gs_aload_n (q := 3) k rfl rfl dL_law_1471 ?_
  refine gs_iload_n (q := 0) k rfl rfl dL_law_1472 ?_
  refine gs_iconst (v := nI 2) k (by decide) dL_law_1473 ?_
  refine gs_iadd k dL_law_1474 ?_
  refine gl_sld k hX (vin (by omega) hL) dL_law_1475 ?_
  refine gs_callV (As := [.int (xs (nI t + nI 1).toNatClampNeg), .int (xs (nI t + nI 2).toNatClampNeg)]) (k0 := 0) (ci := 6) (T := TX6) (N := 10) k (sC_list hI h1) cf_X6_list im_X6_list sl_X6_list ml_L_169 (hI 0 (by omega)) rfl rfl (by decide) rfl rfl (Nat.le_of_ble_eq_true rfl) dL_law_1476 (ppH (fun m1 q1 => ?_))
  refine gs_aload_n (q := 1) k rfl rfl dL_law_1479 ?_
  refine gs_aload_n (q := 3) k rfl rfl dL_law_1480 ?_
  refine gs_iload_n (q := 0) k rfl rfl dL_law_1481 ?_
  refine gs_iconst (v := nI 1) k (by decide) dL_law_1482 ?_
  refine gs_iadd k dL_law_1483 ?_
  refine gl_sld k hX (vin (by omega) hL) dL_law_1484 ?_
  refine gs_aload_n (q := 3) k rfl rfl dL_law_1485 ?_
  refine gs_iload_n (q := 0) k rfl rfl dL_law_1486 ?_
  refine gs_iconst (v := nI 2) k (by decide) dL_law_1487 ?_
  refine gs_iadd k dL_law_1488 ?_
  refine gl_sld k hX (vin (by omega) hL) dL_law_1489 ?_
  refine gs_callV (As := [.int (xs (nI t + nI 1).toNatClampNeg), .int (xs (nI t + nI 2).toNatClampNeg)]) (k0 := 65) (ci := 7) (T := TX7) (N := 27) k (sR_list hI (h2.fr q1.2)) cf_X7_list im_X7_list sl_X7_list ml_L_172 (hI 65 (by omega)) rfl rfl (by decide) rfl rfl (Nat.le_of_ble_eq_true rfl) dL_law_1490 (ppH (fun m2 q2 => ?_))
  exact gs_icmp_eq (tgt := 1690) k (by decide) dL_law_1493 (fun _ => cont m2 _ (q1.1.fc q2.2) q2.1 hg) (fun z => absurd rfl z)
/-- put -/
theorem law_38 {l : Launch} {E : Ev} {K : Kt} {b L t : Nat} {xs : Nat → Int32} {M : Mm} {S : As} (hI : ∀ k, k < 108 → k ∈ E.2.1) (k : Ok l E K cL_law RL 9 4) (hX : Sx K b L xs) (ht : t + 5 ≤ L) (hL : L ≤ 2560) (h1 : CA M S) (h2 : RA M S) (hg : GA S) (cont : ∀ M' S', CA M' S' → RA M' S' → GA S' → G l E K 1690 [(3, .int (nI t)), (2, .ref (E.2.2.1 65)), (1, .ref (E.2.2.1 0)), (0, .ref b)] [] M') : G l E K 1498 [(3, .int (nI t)), (2, .ref (E.2.2.1 65)), (1, .ref (E.2.2.1 0)), (0, .ref b)] [] M := by
  refine gs_aload_n (q := 2) k rfl rfl dL_law_1498 ?_
  refine gs_aload_n (q := 3) k rfl rfl dL_law_1499 ?_
  refine gs_iload_n (q := 0) k rfl rfl dL_law_1500 ?_
  refine gs_iconst (v := nI 1) k (by decide) dL_law_1501 ?_
  refine gs_iadd k dL_law_1502 ?_
  refine gl_sld k hX (vin (by omega) hL) dL_law_1503 ?_
  refine gs_aload_n (q := 3) k rfl rfl dL_law_1504 ?_
  refine gs_iload_n (q := 0) k rfl rfl dL_law_1505 ?_
  refine gs_iconst (v := nI 2) k (by decide) dL_law_1506 ?_
  refine gs_iadd k dL_law_1507 ?_
  refine gl_sld k hX (vin (by omega) hL) dL_law_1508 ?_
  refine gs_aload_n (q := 3) k rfl rfl dL_law_1509 ?_
  refine gs_iload_n (q := 0) k rfl rfl dL_law_1510 ?_
  refine gs_iconst (v := nI 3) k (by decide) dL_law_1511 ?_
  refine gs_iadd k dL_law_1512 ?_
  refine gl_sld k hX (vin (by omega) hL) dL_law_1513 ?_
  refine gs_callV (As := [.int (xs (nI t + nI 1).toNatClampNeg), .int (xs (nI t + nI 2).toNatClampNeg), .int (xs (nI t + nI 3).toNatClampNeg)]) (k0 := 0) (ci := 6) (T := TX6) (N := 10) k (sC_put hI h1) cf_X6_put im_X6_put sl_X6_put ml_L_173 (hI 0 (by omega)) rfl rfl (by decide) rfl rfl (Nat.le_of_ble_eq_true rfl) dL_law_1514 (ppH (fun m1 q1 => ?_))
  refine gs_aload_n (q := 1) k rfl rfl dL_law_1517 ?_
  refine gs_aload_n (q := 3) k rfl rfl dL_law_1518 ?_
  refine gs_iload_n (q := 0) k rfl rfl dL_law_1519 ?_
  refine gs_iconst (v := nI 1) k (by decide) dL_law_1520 ?_
  refine gs_iadd k dL_law_1521 ?_
  refine gl_sld k hX (vin (by omega) hL) dL_law_1522 ?_
  refine gs_aload_n (q := 3) k rfl rfl dL_law_1523 ?_
  refine gs_iload_n (q := 0) k rfl rfl dL_law_1524 ?_
  refine gs_iconst (v := nI 2) k (by decide) dL_law_1525 ?_
  refine gs_iadd k dL_law_1526 ?_
  refine gl_sld k hX (vin (by omega) hL) dL_law_1527 ?_
  refine gs_aload_n (q := 3) k rfl rfl dL_law_1528 ?_
  refine gs_iload_n (q := 0) k rfl rfl dL_law_1529 ?_
  refine gs_iconst (v := nI 3) k (by decide) dL_law_1530 ?_
  refine gs_iadd k dL_law_1531 ?_
  refine gl_sld k hX (vin (by omega) hL) dL_law_1532 ?_
  refine gs_callV (As := [.int (xs (nI t + nI 1).toNatClampNeg), .int (xs (nI t + nI 2).toNatClampNeg), .int (xs (nI t + nI 3).toNatClampNeg)]) (k0 := 65) (ci := 7) (T := TX7) (N := 27) k (sR_put hI (h2.fr q1.2)) cf_X7_put im_X7_put sl_X7_put ml_L_176 (hI 65 (by omega)) rfl rfl (by decide) rfl rfl (Nat.le_of_ble_eq_true rfl) dL_law_1533 (ppH (fun m2 q2 => ?_))
  exact gs_icmp_eq (tgt := 1690) k (by decide) dL_law_1536 (fun _ => cont m2 _ (q1.1.fc q2.2) q2.1 hg) (fun z => absurd rfl z)
/-- get -/
theorem law_39 {l : Launch} {E : Ev} {K : Kt} {b L t : Nat} {xs : Nat → Int32} {M : Mm} {S : As} (hI : ∀ k, k < 108 → k ∈ E.2.1) (k : Ok l E K cL_law RL 9 4) (hX : Sx K b L xs) (ht : t + 5 ≤ L) (hL : L ≤ 2560) (h1 : CA M S) (h2 : RA M S) (hg : GA S) (cont : ∀ M' S', CA M' S' → RA M' S' → GA S' → G l E K 1690 [(3, .int (nI t)), (2, .ref (E.2.2.1 65)), (1, .ref (E.2.2.1 0)), (0, .ref b)] [] M') : G l E K 1541 [(3, .int (nI t)), (2, .ref (E.2.2.1 65)), (1, .ref (E.2.2.1 0)), (0, .ref b)] [] M := by
  refine gs_aload_n (q := 2) k rfl rfl dL_law_1541 ?_
  refine gs_aload_n (q := 3) k rfl rfl dL_law_1542 ?_
  refine gs_iload_n (q := 0) k rfl rfl dL_law_1543 ?_
  refine gs_iconst (v := nI 1) k (by decide) dL_law_1544 ?_
  refine gs_iadd k dL_law_1545 ?_
  refine gl_sld k hX (vin (by omega) hL) dL_law_1546 ?_
  refine gs_aload_n (q := 3) k rfl rfl dL_law_1547 ?_
  refine gs_iload_n (q := 0) k rfl rfl dL_law_1548 ?_
  refine gs_iconst (v := nI 2) k (by decide) dL_law_1549 ?_
  refine gs_iadd k dL_law_1550 ?_
  refine gl_sld k hX (vin (by omega) hL) dL_law_1551 ?_
  refine gs_callV (As := [.int (xs (nI t + nI 1).toNatClampNeg), .int (xs (nI t + nI 2).toNatClampNeg)]) (k0 := 0) (ci := 6) (T := TX6) (N := 10) k (sC_get hI h1 hg) cf_X6_get im_X6_get sl_X6_get ml_L_177 (hI 0 (by omega)) rfl rfl (by decide) rfl rfl (Nat.le_of_ble_eq_true rfl) dL_law_1552 (ppH (fun m1 q1 => ?_))
  refine gs_aload_n (q := 1) k rfl rfl dL_law_1555 ?_
  refine gs_aload_n (q := 3) k rfl rfl dL_law_1556 ?_
  refine gs_iload_n (q := 0) k rfl rfl dL_law_1557 ?_
  refine gs_iconst (v := nI 1) k (by decide) dL_law_1558 ?_
  refine gs_iadd k dL_law_1559 ?_
  refine gl_sld k hX (vin (by omega) hL) dL_law_1560 ?_
  refine gs_aload_n (q := 3) k rfl rfl dL_law_1561 ?_
  refine gs_iload_n (q := 0) k rfl rfl dL_law_1562 ?_
  refine gs_iconst (v := nI 2) k (by decide) dL_law_1563 ?_
  refine gs_iadd k dL_law_1564 ?_
  refine gl_sld k hX (vin (by omega) hL) dL_law_1565 ?_
  refine gs_callV (As := [.int (xs (nI t + nI 1).toNatClampNeg), .int (xs (nI t + nI 2).toNatClampNeg)]) (k0 := 65) (ci := 7) (T := TX7) (N := 27) k (sR_get hI (h2.fr q1.2) hg) cf_X7_get im_X7_get sl_X7_get ml_L_180 (hI 65 (by omega)) rfl rfl (by decide) rfl rfl (Nat.le_of_ble_eq_true rfl) dL_law_1566 (ppH (fun m2 q2 => ?_))
  refine gs_lcmp k dL_law_1569 ?_
  exact gs_if_eq (tgt := 1690) k (by decide) dL_law_1570 (fun _ => cont m2 _ (q1.1.fc q2.2) q2.1 hg) (fun z => absurd (lcmp_self _) z)
/-- lay -/
theorem law_40 {l : Launch} {E : Ev} {K : Kt} {b L t : Nat} {xs : Nat → Int32} {M : Mm} {S : As} (hI : ∀ k, k < 108 → k ∈ E.2.1) (k : Ok l E K cL_law RL 9 4) (hX : Sx K b L xs) (ht : t + 5 ≤ L) (hL : L ≤ 2560) (h1 : CA M S) (h2 : RA M S) (hg : GA S) (cont : ∀ M' S', CA M' S' → RA M' S' → GA S' → G l E K 1690 [(3, .int (nI t)), (2, .ref (E.2.2.1 65)), (1, .ref (E.2.2.1 0)), (0, .ref b)] [] M') : G l E K 1575 [(3, .int (nI t)), (2, .ref (E.2.2.1 65)), (1, .ref (E.2.2.1 0)), (0, .ref b)] [] M := by
  refine gs_aload_n (q := 2) k rfl rfl dL_law_1575 ?_
  refine gs_aload_n (q := 3) k rfl rfl dL_law_1576 ?_
  refine gs_iload_n (q := 0) k rfl rfl dL_law_1577 ?_
  refine gs_iconst (v := nI 1) k (by decide) dL_law_1578 ?_
  refine gs_iadd k dL_law_1579 ?_
  refine gl_sld k hX (vin (by omega) hL) dL_law_1580 ?_
  refine gs_aload_n (q := 3) k rfl rfl dL_law_1581 ?_
  refine gs_iload_n (q := 0) k rfl rfl dL_law_1582 ?_
  refine gs_iconst (v := nI 2) k (by decide) dL_law_1583 ?_
  refine gs_iadd k dL_law_1584 ?_
  refine gl_sld k hX (vin (by omega) hL) dL_law_1585 ?_
  refine gs_callV (As := [.int (xs (nI t + nI 1).toNatClampNeg), .int (xs (nI t + nI 2).toNatClampNeg)]) (k0 := 0) (ci := 6) (T := TX6) (N := 10) k (sC_lay hI h1) cf_X6_lay im_X6_lay sl_X6_lay ml_L_181 (hI 0 (by omega)) rfl rfl (by decide) rfl rfl (Nat.le_of_ble_eq_true rfl) dL_law_1586 (ppH (fun m1 q1 => ?_))
  refine gs_aload_n (q := 1) k rfl rfl dL_law_1589 ?_
  refine gs_aload_n (q := 3) k rfl rfl dL_law_1590 ?_
  refine gs_iload_n (q := 0) k rfl rfl dL_law_1591 ?_
  refine gs_iconst (v := nI 1) k (by decide) dL_law_1592 ?_
  refine gs_iadd k dL_law_1593 ?_
  refine gl_sld k hX (vin (by omega) hL) dL_law_1594 ?_
  refine gs_aload_n (q := 3) k rfl rfl dL_law_1595 ?_
  refine gs_iload_n (q := 0) k rfl rfl dL_law_1596 ?_
  refine gs_iconst (v := nI 2) k (by decide) dL_law_1597 ?_
  refine gs_iadd k dL_law_1598 ?_
  refine gl_sld k hX (vin (by omega) hL) dL_law_1599 ?_
  refine gs_callV (As := [.int (xs (nI t + nI 1).toNatClampNeg), .int (xs (nI t + nI 2).toNatClampNeg)]) (k0 := 65) (ci := 7) (T := TX7) (N := 27) k (sR_lay hI (h2.fr q1.2)) cf_X7_lay im_X7_lay sl_X7_lay ml_L_184 (hI 65 (by omega)) rfl rfl (by decide) rfl rfl (Nat.le_of_ble_eq_true rfl) dL_law_1600 (ppH (fun m2 q2 => ?_))
  exact gs_icmp_eq (tgt := 1690) k (by decide) dL_law_1603 (fun _ => cont m2 _ (q1.1.fc q2.2) q2.1 ⟨gLay hg.1, hg.2⟩) (fun z => absurd rfl z)
/-- judge -/
theorem law_41 {l : Launch} {E : Ev} {K : Kt} {b L t : Nat} {xs : Nat → Int32} {M : Mm} {S : As} (hI : ∀ k, k < 108 → k ∈ E.2.1) (k : Ok l E K cL_law RL 9 4) (hX : Sx K b L xs) (ht : t + 5 ≤ L) (hL : L ≤ 2560) (h1 : CA M S) (h2 : RA M S) (hg : GA S) (cont : ∀ M' S', CA M' S' → RA M' S' → GA S' → G l E K 1690 [(3, .int (nI t)), (2, .ref (E.2.2.1 65)), (1, .ref (E.2.2.1 0)), (0, .ref b)] [] M') : G l E K 1608 [(3, .int (nI t)), (2, .ref (E.2.2.1 65)), (1, .ref (E.2.2.1 0)), (0, .ref b)] [] M := by
  refine gs_aload_n (q := 2) k rfl rfl dL_law_1608 ?_
  refine gs_aload_n (q := 3) k rfl rfl dL_law_1609 ?_
  refine gs_iload_n (q := 0) k rfl rfl dL_law_1610 ?_
  refine gs_iconst (v := nI 1) k (by decide) dL_law_1611 ?_
  refine gs_iadd k dL_law_1612 ?_
  refine gl_sld k hX (vin (by omega) hL) dL_law_1613 ?_
  refine gs_aload_n (q := 3) k rfl rfl dL_law_1614 ?_
  refine gs_iload_n (q := 0) k rfl rfl dL_law_1615 ?_
  refine gs_iconst (v := nI 2) k (by decide) dL_law_1616 ?_
  refine gs_iadd k dL_law_1617 ?_
  refine gl_sld k hX (vin (by omega) hL) dL_law_1618 ?_
  refine gs_callV (As := [.int (xs (nI t + nI 1).toNatClampNeg), .int (xs (nI t + nI 2).toNatClampNeg)]) (k0 := 0) (ci := 6) (T := TX6) (N := 10) k (sC_judge hI h1 hg) cf_X6_judge im_X6_judge sl_X6_judge ml_L_185 (hI 0 (by omega)) rfl rfl (by decide) rfl rfl (Nat.le_of_ble_eq_true rfl) dL_law_1619 (ppH (fun m1 q1 => ?_))
  refine gs_aload_n (q := 1) k rfl rfl dL_law_1622 ?_
  refine gs_aload_n (q := 3) k rfl rfl dL_law_1623 ?_
  refine gs_iload_n (q := 0) k rfl rfl dL_law_1624 ?_
  refine gs_iconst (v := nI 1) k (by decide) dL_law_1625 ?_
  refine gs_iadd k dL_law_1626 ?_
  refine gl_sld k hX (vin (by omega) hL) dL_law_1627 ?_
  refine gs_aload_n (q := 3) k rfl rfl dL_law_1628 ?_
  refine gs_iload_n (q := 0) k rfl rfl dL_law_1629 ?_
  refine gs_iconst (v := nI 2) k (by decide) dL_law_1630 ?_
  refine gs_iadd k dL_law_1631 ?_
  refine gl_sld k hX (vin (by omega) hL) dL_law_1632 ?_
  refine gs_callV (As := [.int (xs (nI t + nI 1).toNatClampNeg), .int (xs (nI t + nI 2).toNatClampNeg)]) (k0 := 65) (ci := 7) (T := TX7) (N := 27) k (sR_judge hI (h2.fr q1.2) hg) cf_X7_judge im_X7_judge sl_X7_judge ml_L_188 (hI 65 (by omega)) rfl rfl (by decide) rfl rfl (Nat.le_of_ble_eq_true rfl) dL_law_1633 (ppH (fun m2 q2 => ?_))
  exact gs_icmp_eq (tgt := 1690) k (by decide) dL_law_1636 (fun _ => cont m2 _ (q1.1.fc q2.2) q2.1 hg) (fun z => absurd rfl z)
/-- image -/
theorem law_42 {l : Launch} {E : Ev} {K : Kt} {b L t : Nat} {xs : Nat → Int32} {M : Mm} {S : As} (hI : ∀ k, k < 108 → k ∈ E.2.1) (k : Ok l E K cL_law RL 9 4) (hX : Sx K b L xs) (ht : t + 5 ≤ L) (hL : L ≤ 2560) (h1 : CA M S) (h2 : RA M S) (hg : GA S) (cont : ∀ M' S', CA M' S' → RA M' S' → GA S' → G l E K 1690 [(3, .int (nI t)), (2, .ref (E.2.2.1 65)), (1, .ref (E.2.2.1 0)), (0, .ref b)] [] M') : G l E K 1641 [(3, .int (nI t)), (2, .ref (E.2.2.1 65)), (1, .ref (E.2.2.1 0)), (0, .ref b)] [] M := by
  refine gs_aload_n (q := 2) k rfl rfl dL_law_1641 ?_
  refine gs_callV (As := []) (k0 := 0) (ci := 6) (T := TX6) (N := 10) k (sC_image hI h1) cf_X6_image im_X6_image sl_X6_image ml_L_189 (hI 0 (by omega)) rfl rfl (by decide) rfl rfl (Nat.le_of_ble_eq_true rfl) dL_law_1642 (ppH (fun m1 q1 => ?_))
  refine gs_aload_n (q := 1) k rfl rfl dL_law_1645 ?_
  refine gs_callV (As := []) (k0 := 65) (ci := 7) (T := TX7) (N := 27) k (sR_image hI (h2.fr q1.2)) cf_X7_image im_X7_image sl_X7_image ml_L_192 (hI 65 (by omega)) rfl rfl (by decide) rfl rfl (Nat.le_of_ble_eq_true rfl) dL_law_1646 (ppH (fun m2 q2 => ?_))
  exact gs_icmp_eq (tgt := 1690) k (by decide) dL_law_1649 (fun _ => cont m2 _ (q1.1.fc q2.2) q2.1 (gImage hg)) (fun z => absurd rfl z)
/-- back -/
theorem law_43 {l : Launch} {E : Ev} {K : Kt} {b L t : Nat} {xs : Nat → Int32} {M : Mm} {S : As} (hI : ∀ k, k < 108 → k ∈ E.2.1) (k : Ok l E K cL_law RL 9 4) (hX : Sx K b L xs) (ht : t + 5 ≤ L) (hL : L ≤ 2560) (h1 : CA M S) (h2 : RA M S) (hg : GA S) (cont : ∀ M' S', CA M' S' → RA M' S' → GA S' → G l E K 1690 [(3, .int (nI t)), (2, .ref (E.2.2.1 65)), (1, .ref (E.2.2.1 0)), (0, .ref b)] [] M') : G l E K 1654 [(3, .int (nI t)), (2, .ref (E.2.2.1 65)), (1, .ref (E.2.2.1 0)), (0, .ref b)] [] M := by
  refine gs_aload_n (q := 2) k rfl rfl dL_law_1654 ?_
  refine gs_callV (As := []) (k0 := 0) (ci := 6) (T := TX6) (N := 10) k (sC_back hI h1) cf_X6_back im_X6_back sl_X6_back ml_L_193 (hI 0 (by omega)) rfl rfl (by decide) rfl rfl (Nat.le_of_ble_eq_true rfl) dL_law_1655 (ppH (fun m1 q1 => ?_))
  refine gs_aload_n (q := 1) k rfl rfl dL_law_1658 ?_
  refine gs_callV (As := []) (k0 := 65) (ci := 7) (T := TX7) (N := 27) k (sR_back hI (h2.fr q1.2)) cf_X7_back im_X7_back sl_X7_back ml_L_196 (hI 65 (by omega)) rfl rfl (by decide) rfl rfl (Nat.le_of_ble_eq_true rfl) dL_law_1659 (ppH (fun m2 q2 => ?_))
  exact gs_icmp_eq (tgt := 1690) k (by decide) dL_law_1662 (fun _ => cont m2 _ (q1.1.fc q2.2) q2.1 ⟨gBack hg, hg.2⟩) (fun z => absurd rfl z)
/-- count -/
theorem law_44 {l : Launch} {E : Ev} {K : Kt} {b L t : Nat} {xs : Nat → Int32} {M : Mm} {S : As} (hI : ∀ k, k < 108 → k ∈ E.2.1) (k : Ok l E K cL_law RL 9 4) (hX : Sx K b L xs) (ht : t + 5 ≤ L) (hL : L ≤ 2560) (h1 : CA M S) (h2 : RA M S) (hg : GA S) (cont : ∀ M' S', CA M' S' → RA M' S' → GA S' → G l E K 1690 [(3, .int (nI t)), (2, .ref (E.2.2.1 65)), (1, .ref (E.2.2.1 0)), (0, .ref b)] [] M') : G l E K 1667 [(3, .int (nI t)), (2, .ref (E.2.2.1 65)), (1, .ref (E.2.2.1 0)), (0, .ref b)] [] M := by
  refine gs_aload_n (q := 2) k rfl rfl dL_law_1667 ?_
  refine gs_aload_n (q := 3) k rfl rfl dL_law_1668 ?_
  refine gs_iload_n (q := 0) k rfl rfl dL_law_1669 ?_
  refine gs_iconst (v := nI 1) k (by decide) dL_law_1670 ?_
  refine gs_iadd k dL_law_1671 ?_
  refine gl_sld k hX (vin (by omega) hL) dL_law_1672 ?_
  refine gs_callV (As := [.int (xs (nI t + nI 1).toNatClampNeg)]) (k0 := 0) (ci := 6) (T := TX6) (N := 10) k (sC_count hI h1 hg) cf_X6_count im_X6_count sl_X6_count ml_L_197 (hI 0 (by omega)) rfl rfl (by decide) rfl rfl (Nat.le_of_ble_eq_true rfl) dL_law_1673 (ppH (fun m1 q1 => ?_))
  refine gs_aload_n (q := 1) k rfl rfl dL_law_1676 ?_
  refine gs_aload_n (q := 3) k rfl rfl dL_law_1677 ?_
  refine gs_iload_n (q := 0) k rfl rfl dL_law_1678 ?_
  refine gs_iconst (v := nI 1) k (by decide) dL_law_1679 ?_
  refine gs_iadd k dL_law_1680 ?_
  refine gl_sld k hX (vin (by omega) hL) dL_law_1681 ?_
  refine gs_callV (As := [.int (xs (nI t + nI 1).toNatClampNeg)]) (k0 := 65) (ci := 7) (T := TX7) (N := 27) k (sR_count hI (h2.fr q1.2) hg) cf_X7_count im_X7_count sl_X7_count ml_L_200 (hI 65 (by omega)) rfl rfl (by decide) rfl rfl (Nat.le_of_ble_eq_true rfl) dL_law_1682 (ppH (fun m2 q2 => ?_))
  exact gs_icmp_eq (tgt := 1690) k (by decide) dL_law_1685 (fun _ => cont m2 _ (q1.1.fc q2.2) q2.1 hg) (fun z => absurd rfl z)
theorem law_loop {l : Launch} {E : Ev} {K : Kt} {b L : Nat} {xs : Nat → Int32} (hI : ∀ k, k < 108 → k ∈ E.2.1) (k : Ok l E K cL_law RL 9 4) (hX : Sx K b L xs) (hR : Rl K b) (hL : L ≤ 2560) : ∀ (n t : Nat) (M : Mm) (S : As), L + 5 ≤ n + t → t ≤ L → CA M S → RA M S → GA S → G l E K 18 [(3, .int (nI t)), (2, .ref (E.2.2.1 65)), (1, .ref (E.2.2.1 0)), (0, .ref b)] [] M := by
  intro n
  induction n with
  | zero => intro t M S hn ht; omega
  | succ n ih =>
    intro t M S hn ht h1 h2 hg
    refine gs_iload_n (q := 0) k rfl rfl dL_law_18 ?_
    refine gs_aload_n (q := 3) k rfl rfl dL_law_19 ?_
    refine gl_slen k hX dL_law_20 ?_
    refine gs_iconst (v := nI 5) k (by decide) dL_law_21 ?_
    refine gs_isub k dL_law_22 ?_
    refine gs_icmp_gt (tgt := 1696) k (by decide) dL_law_23 (fun _ => ?_) (fun c => ?_)
    · refine gs_iconst (v := 1) k (by decide) dL_law_1696 ?_
      exact gl_lret k hR dL_law_1697
    · have h5 := sub5 hL ht c
      have cont : ∀ M' S', CA M' S' → RA M' S' → GA S' → G l E K 1690 [(3, .int (nI t)), (2, .ref (E.2.2.1 65)), (1, .ref (E.2.2.1 0)), (0, .ref b)] [] M' := fun M' S' a1 a2 a3 => by
        refine gs_iinc (q := 0) (v := nI (t + 5)) (lv' := [(3, .int (nI (t + 5))), (2, .ref (E.2.2.1 65)), (1, .ref (E.2.2.1 0)), (0, .ref b)]) k rfl (by rw [show Int32.ofInt 5 = nI 5 by decide]; exact nI_plus t 5) (Nat.le_of_ble_eq_true rfl) rfl dL_law_1690 ?_
        refine gs_goto (tgt := 18) k (by decide) dL_law_1693 ?_
        exact ih (t + 5) M' S' (by omega) (by omega) a1 a2 a3
      refine gs_aload_n (q := 3) k rfl rfl dL_law_26 ?_
      refine gs_iload_n (q := 0) k rfl rfl dL_law_27 ?_
      refine gl_sld k hX (vin0 (by omega) hL) dL_law_28 ?_
      refine gs_bipush (v := 63) k (by decide) dL_law_29 ?_
      refine gs_iand k dL_law_31 ?_
      show G l E K 32 [(3, .int (nI t)), (2, .ref (E.2.2.1 65)), (1, .ref (E.2.2.1 0)), (0, .ref b)] [.int (xs (nI t).toNatClampNeg &&& 63)] M
      generalize xs (nI t).toNatClampNeg &&& 63 = x
      by_cases hr : x.toInt < 0 ∨ 44 < x.toInt
      · exact gs_tableOut (tgt := 1690) k hr (by decide) dL_law_32 (cont M S h1 h2 hg)
      rcases (show x.toInt = 0 ∨ x.toInt = 1 ∨ x.toInt = 2 ∨ x.toInt = 3 ∨ x.toInt = 4 ∨ x.toInt = 5 ∨ x.toInt = 6 ∨ x.toInt = 7 ∨ x.toInt = 8 ∨ x.toInt = 9 ∨ x.toInt = 10 ∨ x.toInt = 11 ∨ x.toInt = 12 ∨ x.toInt = 13 ∨ x.toInt = 14 ∨ x.toInt = 15 ∨ x.toInt = 16 ∨ x.toInt = 17 ∨ x.toInt = 18 ∨ x.toInt = 19 ∨ x.toInt = 20 ∨ x.toInt = 21 ∨ x.toInt = 22 ∨ x.toInt = 23 ∨ x.toInt = 24 ∨ x.toInt = 25 ∨ x.toInt = 26 ∨ x.toInt = 27 ∨ x.toInt = 28 ∨ x.toInt = 29 ∨ x.toInt = 30 ∨ x.toInt = 31 ∨ x.toInt = 32 ∨ x.toInt = 33 ∨ x.toInt = 34 ∨ x.toInt = 35 ∨ x.toInt = 36 ∨ x.toInt = 37 ∨ x.toInt = 38 ∨ x.toInt = 39 ∨ x.toInt = 40 ∨ x.toInt = 41 ∨ x.toInt = 42 ∨ x.toInt = 43 ∨ x.toInt = 44 by omega) with e | e | e | e | e | e | e | e | e | e | e | e | e | e | e | e | e | e | e | e | e | e | e | e | e | e | e | e | e | e | e | e | e | e | e | e | e | e | e | e | e | e | e | e | e
      · exact gs_tableIn (off := 196) (tgt := 228) k (by omega) (by omega) (by rw [e]; rfl) (by decide) dL_law_32 (law_0 hI k hX h5 hL h1 h2 hg cont)
      · exact gs_tableIn (off := 219) (tgt := 251) k (by omega) (by omega) (by rw [e]; rfl) (by decide) dL_law_32 (law_1 hI k hX h5 hL h1 h2 hg cont)
      · exact gs_tableIn (off := 262) (tgt := 294) k (by omega) (by omega) (by rw [e]; rfl) (by decide) dL_law_32 (law_2 hI k hX h5 hL h1 h2 hg cont)
      · exact gs_tableIn (off := 305) (tgt := 337) k (by omega) (by omega) (by rw [e]; rfl) (by decide) dL_law_32 (law_3 hI k hX h5 hL h1 h2 hg cont)
      · exact gs_tableIn (off := 338) (tgt := 370) k (by omega) (by omega) (by rw [e]; rfl) (by decide) dL_law_32 (law_4 hI k hX h5 hL h1 h2 hg cont)
      · exact gs_tableIn (off := 371) (tgt := 403) k (by omega) (by omega) (by rw [e]; rfl) (by decide) dL_law_32 (law_5 hI k hX h5 hL h1 h2 hg cont)
      · exact gs_tableIn (off := 404) (tgt := 436) k (by omega) (by omega) (by rw [e]; rfl) (by decide) dL_law_32 (law_6 hI k hX h5 hL h1 h2 hg cont)
      · exact gs_tableIn (off := 447) (tgt := 479) k (by omega) (by omega) (by rw [e]; rfl) (by decide) dL_law_32 (law_7 hI k hX h5 hL h1 h2 hg cont)
      · exact gs_tableIn (off := 470) (tgt := 502) k (by omega) (by omega) (by rw [e]; rfl) (by decide) dL_law_32 (law_8 hI k hX h5 hL h1 h2 hg cont)
      · exact gs_tableIn (off := 493) (tgt := 525) k (by omega) (by omega) (by rw [e]; rfl) (by decide) dL_law_32 (law_9 hI k hX h5 hL h1 h2 hg cont)
      · exact gs_tableIn (off := 516) (tgt := 548) k (by omega) (by omega) (by rw [e]; rfl) (by decide) dL_law_32 (law_10 hI k hX h5 hL h1 h2 hg cont)
      · exact gs_tableIn (off := 539) (tgt := 571) k (by omega) (by omega) (by rw [e]; rfl) (by decide) dL_law_32 (law_11 hI k hX h5 hL h1 h2 hg cont)
      · exact gs_tableIn (off := 582) (tgt := 614) k (by omega) (by omega) (by rw [e]; rfl) (by decide) dL_law_32 (law_12 hI k hX h5 hL h1 h2 hg cont)
      · exact gs_tableIn (off := 615) (tgt := 647) k (by omega) (by omega) (by rw [e]; rfl) (by decide) dL_law_32 (law_13 hI k hX h5 hL h1 h2 hg cont)
      · exact gs_tableIn (off := 648) (tgt := 680) k (by omega) (by omega) (by rw [e]; rfl) (by decide) dL_law_32 (law_14 hI k hX h5 hL h1 h2 hg cont)
      · exact gs_tableIn (off := 701) (tgt := 733) k (by omega) (by omega) (by rw [e]; rfl) (by decide) dL_law_32 (law_15 hI k hX h5 hL h1 h2 hg cont)
      · exact gs_tableIn (off := 744) (tgt := 776) k (by omega) (by omega) (by rw [e]; rfl) (by decide) dL_law_32 (law_16 hI k hX h5 hL h1 h2 hg cont)
      · exact gs_tableIn (off := 767) (tgt := 799) k (by omega) (by omega) (by rw [e]; rfl) (by decide) dL_law_32 (law_17 hI k hX h5 hL h1 h2 hg cont)
      · exact gs_tableIn (off := 800) (tgt := 832) k (by omega) (by omega) (by rw [e]; rfl) (by decide) dL_law_32 (law_18 hI k hX h5 hL h1 h2 hg cont)
      · exact gs_tableIn (off := 833) (tgt := 865) k (by omega) (by omega) (by rw [e]; rfl) (by decide) dL_law_32 (law_19 hI k hX h5 hL h1 h2 hg cont)
      · exact gs_tableIn (off := 866) (tgt := 898) k (by omega) (by omega) (by rw [e]; rfl) (by decide) dL_law_32 (law_20 hI k hX h5 hL h1 h2 hg cont)
      · exact gs_tableIn (off := 910) (tgt := 942) k (by omega) (by omega) (by rw [e]; rfl) (by decide) dL_law_32 (law_21 hI k hX h5 hL h1 h2 hg cont)
      · exact gs_tableIn (off := 943) (tgt := 975) k (by omega) (by omega) (by rw [e]; rfl) (by decide) dL_law_32 (law_22 hI k hX h5 hL h1 h2 hg cont)
      · exact gs_tableIn (off := 987) (tgt := 1019) k (by omega) (by omega) (by rw [e]; rfl) (by decide) dL_law_32 (law_23 hI k hX h5 hL h1 h2 hg cont)
      · exact gs_tableIn (off := 1021) (tgt := 1053) k (by omega) (by omega) (by rw [e]; rfl) (by decide) dL_law_32 (law_24 hI k hX h5 hL h1 h2 hg cont)
      · exact gs_tableIn (off := 1054) (tgt := 1086) k (by omega) (by omega) (by rw [e]; rfl) (by decide) dL_law_32 (law_25 hI k hX h5 hL h1 h2 hg cont)
      · exact gs_tableIn (off := 1078) (tgt := 1110) k (by omega) (by omega) (by rw [e]; rfl) (by decide) dL_law_32 (law_26 hI k hX h5 hL h1 h2 hg cont)
      · exact gs_tableIn (off := 1111) (tgt := 1143) k (by omega) (by omega) (by rw [e]; rfl) (by decide) dL_law_32 (law_27 hI k hX h5 hL h1 h2 hg cont)
      · exact gs_tableIn (off := 1144) (tgt := 1176) k (by omega) (by omega) (by rw [e]; rfl) (by decide) dL_law_32 (law_28 hI k hX h5 hL h1 h2 hg cont)
      · exact gs_tableIn (off := 1177) (tgt := 1209) k (by omega) (by omega) (by rw [e]; rfl) (by decide) dL_law_32 (law_29 hI k hX h5 hL h1 h2 hg cont)
      · exact gs_tableIn (off := 1221) (tgt := 1253) k (by omega) (by omega) (by rw [e]; rfl) (by decide) dL_law_32 (law_30 hI k hX h5 hL h1 h2 hg cont)
      · exact gs_tableIn (off := 1264) (tgt := 1296) k (by omega) (by omega) (by rw [e]; rfl) (by decide) dL_law_32 (law_31 hI k hX h5 hL h1 h2 hg cont)
      · exact gs_tableIn (off := 1308) (tgt := 1340) k (by omega) (by omega) (by rw [e]; rfl) (by decide) dL_law_32 (law_32 hI k hX h5 hL h1 h2 hg cont)
      · exact gs_tableIn (off := 1351) (tgt := 1383) k (by omega) (by omega) (by rw [e]; rfl) (by decide) dL_law_32 (law_33 hI k hX h5 hL h1 h2 hg cont)
      · exact gs_tableIn (off := 1374) (tgt := 1406) k (by omega) (by omega) (by rw [e]; rfl) (by decide) dL_law_32 (law_34 hI k hX h5 hL h1 h2 hg cont)
      · exact gs_tableIn (off := 1387) (tgt := 1419) k (by omega) (by omega) (by rw [e]; rfl) (by decide) dL_law_32 (law_35 hI k hX h5 hL h1 h2 hg cont)
      · exact gs_tableIn (off := 1410) (tgt := 1442) k (by omega) (by omega) (by rw [e]; rfl) (by decide) dL_law_32 (law_36 hI k hX h5 hL h1 h2 hg cont)
      · exact gs_tableIn (off := 1433) (tgt := 1465) k (by omega) (by omega) (by rw [e]; rfl) (by decide) dL_law_32 (law_37 hI k hX h5 hL h1 h2 hg cont)
      · exact gs_tableIn (off := 1466) (tgt := 1498) k (by omega) (by omega) (by rw [e]; rfl) (by decide) dL_law_32 (law_38 hI k hX h5 hL h1 h2 hg cont)
      · exact gs_tableIn (off := 1509) (tgt := 1541) k (by omega) (by omega) (by rw [e]; rfl) (by decide) dL_law_32 (law_39 hI k hX h5 hL h1 h2 hg cont)
      · exact gs_tableIn (off := 1543) (tgt := 1575) k (by omega) (by omega) (by rw [e]; rfl) (by decide) dL_law_32 (law_40 hI k hX h5 hL h1 h2 hg cont)
      · exact gs_tableIn (off := 1576) (tgt := 1608) k (by omega) (by omega) (by rw [e]; rfl) (by decide) dL_law_32 (law_41 hI k hX h5 hL h1 h2 hg cont)
      · exact gs_tableIn (off := 1609) (tgt := 1641) k (by omega) (by omega) (by rw [e]; rfl) (by decide) dL_law_32 (law_42 hI k hX h5 hL h1 h2 hg cont)
      · exact gs_tableIn (off := 1622) (tgt := 1654) k (by omega) (by omega) (by rw [e]; rfl) (by decide) dL_law_32 (law_43 hI k hX h5 hL h1 h2 hg cont)
      · exact gs_tableIn (off := 1635) (tgt := 1667) k (by omega) (by omega) (by rw [e]; rfl) (by decide) dL_law_32 (law_44 hI k hX h5 hL h1 h2 hg cont)
