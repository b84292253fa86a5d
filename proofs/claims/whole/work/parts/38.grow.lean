theorem kl_X7_37 : Cond.classLink RX7 37 "[[I" ∈ wsT := wsT_in (tin4 (List.mem_of_getElem? (i := 41) (by decide +kernel))) (by decide +kernel)
theorem aoa_spec {args : Array Value} {first s : State} {o : Option Outcome} {idx : List Nat} {t : FieldType} (h : (Cond.arrayOver (.array t)).holds args first o s idx = true) :
    ∃ comp c k, s.vm.findClass (FieldType.array t).toString = some comp ∧ (s.vm.classes.findIdx? fun (x : Class) => match x.kind with | .array component _ => component == comp | _ => false) = some c ∧ s.vm.classes[c]? = some k ∧ k.kind = .array comp (.array t) ∧ s.vm.findClass ("[" ++ (FieldType.array t).toString) = some c := by
  simp only [Cond.holds, Cond.value, beq_iff_eq] at h
  cases hc : s.vm.findClass (FieldType.array t).toString with
  | none => simp [hc] at h
  | some comp =>
    simp only [hc, Option.bind_some, Option.bind_eq_some_iff, Option.map_eq_some_iff] at h
    obtain ⟨c, hi, k, hk, hb⟩ := h
    obtain ⟨hlt, hp, -⟩ := Array.findIdx?_eq_some_iff_getElem.mp hi
    have hkk : s.vm.classes[c] = k := (Array.getElem?_eq_some_iff.mp hk).2
    rw [hkk] at hp
    cases hkind : k.kind with
    | array component ty =>
      rw [hkind] at hb hp
      simp at hb hp
      exact ⟨comp, c, k, rfl, hi, hk, by rw [hkind, hp, hb.1], hb.2⟩
    | _ => rw [hkind] at hb; simp at hb
theorem va_AOA.moved {t : FieldType} {u U : State} (hvm : u.vm.Alike U.vm) (h : va_AOA t u) : va_AOA t U := by
  obtain ⟨comp, c, k, h1, h2, h3, h4, h5⟩ := aoa_spec h
  obtain ⟨k', hk', he⟩ := hvm.2.2 _ _ h3
  have hi : (U.vm.classes.findIdx? fun (x : Class) => match x.kind with | .array component _ => component == comp | _ => false) = some c := by
    refine (va_idx_bare U.vm comp).symm.trans (Eq.trans ?_ ((va_idx_bare u.vm comp).trans h2))
    first | rw [hvm.bare_eq] | rw [← hvm.bare_eq]
  have hkind : k'.kind = .array comp (.array t) := by rw [he]; exact h4
  have f1 : U.vm.findClass (FieldType.array t).toString = some comp := by rw [hvm.findClass]; exact h1
  have f2 : U.vm.findClass ("[" ++ (FieldType.array t).toString) = some c := by rw [hvm.findClass]; exact h5
  unfold va_AOA Cond.before Cond.holds
  simp only [Cond.value]
  rw [f1, Option.bind_some]
  refine (congrArg (fun o : Option Nat => (o.bind (fun c => (U.vm.classes[c]?).map fun (k : Class) => match k.kind with | .array _ ty => decide (ty = FieldType.array t) && decide (U.vm.findClass ("[" ++ (FieldType.array t).toString) = some c) | _ => false) == some true)) hi).trans ?_
  simp [hk', hkind, f2]
/-- the links to nest mates' constructors, and the classes of the arrays of references -/
def Nst (U : State) : Prop := (va_Nw (.methodLinkNest RX5 39 yX3_init RX6) U ∧ va_Nw (.methodLinkNest RX6 31 yX0_init RX6) U ∧ va_Nw (.methodLinkNest RX6 34 yX4_init RX6) U ∧ va_Nw (.methodLinkNest RX6 41 yX1_init RX6) U ∧ va_Nw (.methodLinkNest RX6 48 yX2_init RX6) U) ∧ va_AO RX3 U ∧ va_AO RX0 U ∧ va_AOA .int U
theorem Nst.same {u U : State} (h : Nst u) (hv : u.vm = U.vm) : Nst U := by
  obtain ⟨⟨n1, n2, n3, n4, n5⟩, a1, a2, a3⟩ := h
  have ha : u.vm.Alike U.vm := by rw [hv]; exact Vm.Alike.refl _
  exact ⟨⟨va_Nw.same rfl hv n1, va_Nw.same rfl hv n2, va_Nw.same rfl hv n3, va_Nw.same rfl hv n4, va_Nw.same rfl hv n5⟩, a1.moved ha, a2.moved ha, a3.moved ha⟩
theorem Nst.warm {s U : State} (h : Nst s) (hW : s.WarmedH U.vm) : Nst U := by
  obtain ⟨⟨n1, n2, n3, n4, n5⟩, a1, a2, a3⟩ := h
  exact ⟨⟨va_Nw.warmM hW n1, va_Nw.warmM hW n2, va_Nw.warmM hW n3, va_Nw.warmM hW n4, va_Nw.warmM hW n5⟩, a1.moved hW.alike, a2.moved hW.alike, a3.moved hW.alike⟩
/-- two contents that say the same of a cell -/
def Eqe (x y : va_E) : Prop := x = y ∨ ∃ (c : ClassId) (n : Nat) (f g : Nat → Option Nat), x = .inl (c, n, .inr (.inr (.inr (.inr f)))) ∧ y = .inl (c, n, .inr (.inr (.inr (.inr g)))) ∧ ∀ i, i < n → f i = g i
theorem Eqe.rf {x : va_E} : Eqe x x := Or.inl rfl
theorem eqe_q {c : ClassId} {n : Nat} {f g : Nat → Option Nat} (h : ∀ i, i < n → f i = g i) : Eqe (.inl (c, n, .inr (.inr (.inr (.inr f))))) (.inl (c, n, .inr (.inr (.inr (.inr g))))) := Or.inr ⟨c, n, f, g, rfl, rfl, h⟩
theorem arr_cg {c : ClassId} {n : Nat} {f g : Nat → Value} (h : ∀ i, i < n → f i = g i) : arrV c n f = arrV c n g := by
  unfold arrV
  congr 1
  apply Array.ext
  · simp
  · intro i h1 h2
    simp only [Array.getElem_ofFn]
    exact h i (by simpa using h1)
theorem Eqe.at {D : va_G} {cl : List vw_C} {a : Nat} {x y : va_E} {H : Heap} (h : Eqe x y) (hx : va_at D cl (a, x) H) : va_at D cl (a, y) H := by
  rcases h with rfl | ⟨c, n, f, g, rfl, rfl, h⟩
  · exact hx
  · have h1 : H[a]? = some (vp_cell c (n, .inr (.inr (.inr (.inr f))))) := hx
    show H[a]? = some (vp_cell c (n, .inr (.inr (.inr (.inr g)))))
    rw [h1, vp_cell_q, vp_cell_q, arr_cg (f := fun j => va_rf (f j)) (g := fun j => va_rf (g j)) (fun i hi => by show va_rf (f i) = va_rf (g i); rw [h i hi])]
def Wr : va_W → va_W → Prop
  | [], [] => True
  | p :: ps, q :: qs => (p.1 = q.1 ∧ Eqe p.2 q.2) ∧ Wr ps qs
  | _, _ => False
theorem Wr.nil : Wr [] [] := trivial
theorem Wr.cons {a : Nat} {x y : va_E} {p q : va_W} (e : Eqe x y) (h : Wr p q) : Wr ((a, x) :: p) ((a, y) :: q) := ⟨⟨rfl, e⟩, h⟩
theorem Wr.rf : ∀ w : va_W, Wr w w
  | [] => trivial
  | (_, _) :: w => ⟨⟨rfl, .rf⟩, Wr.rf w⟩
theorem Wr.app : ∀ {a b c d : va_W}, Wr a b → Wr c d → Wr (a ++ c) (b ++ d)
  | [], [], _, _, _, h2 => h2
  | _ :: _, _ :: _, _, _, h, h2 => ⟨h.1, Wr.app h.2 h2⟩
  | [], _ :: _, _, _, h, _ => h.elim
  | _ :: _, [], _, _, h, _ => h.elim
theorem Wr.get : ∀ {w w' : va_W}, Wr w w' → ∀ (k : Nat) (q : Nat × va_E), w'[k]? = some q → ∃ x, w[k]? = some (q.1, x) ∧ Eqe x q.2
  | [], [], _ => fun k q hk => by simp at hk
  | p :: ps, z :: zs, h => fun k q hk => by
    cases k with
    | zero =>
      have e : z = q := Option.some.inj hk
      subst e
      exact ⟨p.2, by rw [← h.1.1]; rfl, h.1.2⟩
    | succ k => exact Wr.get (w := ps) (w' := zs) h.2 k q hk
  | [], _ :: _, h => h.elim
  | _ :: _, [], h => h.elim
theorem Wr.P {D : va_G} {cl : List vw_C} {w w' : va_W} {H : Heap} (h : Wr w w') (hP : va_P D cl w H) : va_P D cl w' H := fun k q hk => by
  obtain ⟨x, h1, h2⟩ := h.get k q hk
  exact h2.at (hP k _ h1)
theorem Wr.D {A : Nat → Prop} {w w' : va_W} (h : Wr w w') (hD : va_D A w) : va_D A w' := by
  refine ⟨fun i j p q hp hq e => ?_, fun k q hk => ?_⟩
  · obtain ⟨x, h1, -⟩ := h.get i p hp
    obtain ⟨y, h2, -⟩ := h.get j q hq
    exact hD.1 i j _ _ h1 h2 e
  · obtain ⟨x, h1, -⟩ := h.get k q hk
    have h3 : A q.1 := hD.2 k (q.1, x) h1
    exact h3
abbrev eE (D : va_G) (cA : Nat → ClassId) (am : Am) : Ev := (D, [], (fun _ => 0), cA, am)
def Gi (l : Launch) (D : va_G) (K : Kt) (pc : Nat) (lv : List (Nat × Value)) (st : List Value) (ws : va_W) (n1 n2 : Nat) : Prop :=
  match K with
  | ((p, e, R, s, m, args), (below, meth, c, _, _), (Q, A, nL)) => ∀ (H : Heap) (locs : List Loc) (ls : Array Slot), lv_has ls nL lv → va_P D vwCl ws H → va_D A ws → va_S A s.heap H locs → W p l e R s m args below meth c H locs n1 n2 Q (F0 m pc ls st)
def Oi (D : va_G) (cA : Nat → ClassId) (am : Am) (K : Kt) (cc : ByteArray) (own : String) (d nL mc ms : Nat) : Prop :=
  match K with
  | ((p, _, R, s, m, args), (_, _, c, _, _), (_, A, nL')) => p.tables.exec = Jvm.exec ∧ c.code = cc ∧ c.maxLocals = nL ∧ nL' = nL ∧ s.vm.findClass own = some m.cls ∧ (∀ w ∈ wsT, w.before args s = true) ∧ va_K D vwCl (tysE (eE D cA am)) s ∧ Amb am A s s.heap ∧ Nst s ∧ (∀ q : Nat, s.heap.size ≤ q → A q) ∧ d ≤ R.frames ∧ 60 * d ≤ R.locals ∧ mc ≤ R.cells ∧ ms ≤ R.slots
def Ni (K : Kt) : Prop := K.2.1.2.1.name = "<init>"
def rmI (d mc ms : Nat) : Room := { frames := d, cells := mc, slots := ms, locals := 60 * d }
def CiP (D : va_G) (cA : Nat → ClassId) (am : Am) (q : Nat) (x : va_E) (sz : Nat) : State → Prop := fun U => U.heap.size = sz ∧ va_P D vwCl [(q, x)] U.heap ∧ va_K D vwCl (tysE (eE D cA am)) U ∧ va_D (fun _ => True) [(q, x)] ∧ Amb am (va_A [(q, x)] sz) U U.heap ∧ Nst U
def CiB (D : va_G) (q : Nat) (x : va_E) (sz : Nat) : va_W → State → Prop := fun ws t => va_P D vwCl ws t.heap ∧ va_D (va_A [(q, x)] sz) ws
def Ci (l : Launch) (D : va_G) (cA : Nat → ClassId) (am : Am) (y : MethodName) (cc : ByteArray) (maxL d mc ms : Nat) (q : Nat) (x : va_E) (post : va_W → Prop) : Prop :=
  ∀ sz : Nat, Met l y (Cond.code y cc maxL none :: wsT) (rmI d mc ms) (va_Pc [.ref q] (CiP D cA am q x sz)) (va_Qv post (CiB D q x sz) (va_A [(q, x)] sz)) mc ms (va_A [(q, x)] sz)
def Ri (D : va_G) (K : Kt) (mc ms q : Nat) (x : va_E) (post : va_W → Prop) : Prop :=
  match K with
  | ((_, _, _, s, _, args), (below, meth, _, _, _), (Q, A, _)) => Q = MQ below (va_Qv post (CiB D q x s.heap.size) (va_A [(q, x)] s.heap.size)) args s mc ms (va_A [(q, x)] s.heap.size) ∧ A = va_A [(q, x)] s.heap.size ∧ meth.sig.returnType = none ∧ meth.locks = false
theorem CiP.blind {D : va_G} {cA : Nat → ClassId} {am : Am} {q sz : Nat} {x : va_E} : FrameBlind (va_Pc [.ref q] (CiP D cA am q x sz)) := fun a U g mk h => by
  obtain ⟨h0, hz, hP, hK, hD, hA, hN⟩ := h
  exact ⟨h0, hz, hP, va_K.moved (u := U) (U := U.calling g mk a) (Vm.Alike.refl U.vm) hK, hD, hA.same (U := U.calling g mk a) rfl, hN.same (U := U.calling g mk a) rfl⟩
theorem Ci.of {l : Launch} {D : va_G} {cA : Nat → ClassId} {am : Am} {y : MethodName} {cc : ByteArray} {maxL d mc ms q : Nat} {x : va_E} {post : va_W → Prop} (hy : plainName y.cls = true) (hyn : y.name = "<init>") (hn : 1 ≤ maxL)
    (body : ∀ K : Kt, Oi D cA am K cc y.cls d maxL mc ms → Ni K → Ri D K mc ms q x post → Gi l D K 0 [(0, .ref q)] [] [(q, x)] 0 0) : Ci l D cA am y cc maxL d mc ms q x post := fun sz => by
  refine Met.ofW (cc := cc) (maxL := maxL) (ret := none) hy rfl ?_
  intro p e s m args below meth c s₁ B hml hv
  obtain ⟨rfl, rfl, hP, hK, hD, hA, hN⟩ := hv
  have hts := atoms_spec (ws := Cond.code y cc maxL none :: wsT) B.pre
  have hown : s.vm.findClass y.cls = some m.cls := findClass_of_methodNamed B.named
  have hin : meth.name = "<init>" := (name_of_methodNamed B.named B.method).1.trans hyn
  rw [lg_entry_eq]
  exact body ((p, e, rmI d mc ms, s, m, [Value.ref q].toArray), (below, meth, c, 0, 0), (MQ below (va_Qv post (CiB D q x s.heap.size) (va_A [(q, x)] s.heap.size)) [Value.ref q].toArray s mc ms (va_A [(q, x)] s.heap.size), va_A [(q, x)] s.heap.size, maxL))
    ⟨B.exec, B.bytes, hml, rfl, hown, fun w h => hts w (List.mem_cons_of_mem _ h), hK, hA, hN, fun q h => Or.inr h, Nat.le_refl _, Nat.le_refl _, Nat.le_refl _, Nat.le_refl _⟩ hin
    ⟨rfl, rfl, B.returns, B.notSynchronized⟩ s.heap [] _ (lv_entry [.ref q] hn) hP (hD.self) va_S.rf
theorem gi_aload_n {l : Launch} {D : va_G} {cA : Nat → ClassId} {am : Am} {K : Kt} {cc : ByteArray} {own : String} {d nL mc ms pc n1 n2 : Nat} {lv : List (Nat × Value)} {st : List Value} {ws : va_W} {k0 : Fin 4} {i q : Nat} {x : Nat} (k : Oi D cA am K cc own d nL mc ms) (hi : (k0 : Nat) = i) (hq : lv[q]? = some (i, .ref x)) (hd : decode cc pc = .ok (.aload_n k0, 1)) (h : Gi l D K (pc + 1) lv (.ref x :: st) ws n1 n2) : Gi l D K pc lv st ws n1 n2 := by
  obtain ⟨⟨p, e, R, s, m, args⟩, ⟨below, meth, c, cells, slots⟩, ⟨Q, A, nL'⟩⟩ := K
  obtain ⟨hx, hb, hml, hnl, hown, hts, hK, hA, hNs, hf, hfr, hlo, hce, hsl⟩ := id k
  subst hnl
  intro H locs ls hl hP hD hS
  exact lv_aload_n hx hb hd hi (lv_at hl q hq) (h H locs ls hl hP hD hS)
theorem gi_iload_n {l : Launch} {D : va_G} {cA : Nat → ClassId} {am : Am} {K : Kt} {cc : ByteArray} {own : String} {d nL mc ms pc n1 n2 : Nat} {lv : List (Nat × Value)} {st : List Value} {ws : va_W} {k0 : Fin 4} {i q : Nat} {x : Int32} (k : Oi D cA am K cc own d nL mc ms) (hi : (k0 : Nat) = i) (hq : lv[q]? = some (i, .int x)) (hd : decode cc pc = .ok (.iload_n k0, 1)) (h : Gi l D K (pc + 1) lv (.int x :: st) ws n1 n2) : Gi l D K pc lv st ws n1 n2 := by
  obtain ⟨⟨p, e, R, s, m, args⟩, ⟨below, meth, c, cells, slots⟩, ⟨Q, A, nL'⟩⟩ := K
  obtain ⟨hx, hb, hml, hnl, hown, hts, hK, hA, hNs, hf, hfr, hlo, hce, hsl⟩ := id k
  subst hnl
  intro H locs ls hl hP hD hS
  exact lv_iload_n hx hb hd hi (lv_at hl q hq) (h H locs ls hl hP hD hS)
theorem gi_iconst {l : Launch} {D : va_G} {cA : Nat → ClassId} {am : Am} {K : Kt} {cc : ByteArray} {own : String} {d nL mc ms pc n1 n2 : Nat} {lv : List (Nat × Value)} {st : List Value} {ws : va_W} {n : Int} {v : Int32} (k : Oi D cA am K cc own d nL mc ms) (hv : Int32.ofInt n = v) (hd : decode cc pc = .ok (.iconst n, 1)) (h : Gi l D K (pc + 1) lv (.int v :: st) ws n1 n2) : Gi l D K pc lv st ws n1 n2 := by
  obtain ⟨⟨p, e, R, s, m, args⟩, ⟨below, meth, c, cells, slots⟩, ⟨Q, A, nL'⟩⟩ := K
  obtain ⟨hx, hb, hml, hnl, hown, hts, hK, hA, hNs, hf, hfr, hlo, hce, hsl⟩ := id k
  subst hnl
  intro H locs ls hl hP hD hS
  exact lv_iconst hx hb hd hv (h H locs ls hl hP hD hS)
theorem gi_bipush {l : Launch} {D : va_G} {cA : Nat → ClassId} {am : Am} {K : Kt} {cc : ByteArray} {own : String} {d nL mc ms pc n1 n2 : Nat} {lv : List (Nat × Value)} {st : List Value} {ws : va_W} {n : Int} {v : Int32} (k : Oi D cA am K cc own d nL mc ms) (hv : (Int8.ofInt n).toInt32 = v) (hd : decode cc pc = .ok (.bipush n, 2)) (h : Gi l D K (pc + 2) lv (.int v :: st) ws n1 n2) : Gi l D K pc lv st ws n1 n2 := by
  obtain ⟨⟨p, e, R, s, m, args⟩, ⟨below, meth, c, cells, slots⟩, ⟨Q, A, nL'⟩⟩ := K
  obtain ⟨hx, hb, hml, hnl, hown, hts, hK, hA, hNs, hf, hfr, hlo, hce, hsl⟩ := id k
  subst hnl
  intro H locs ls hl hP hD hS
  exact lv_bipush hx hb hd hv (h H locs ls hl hP hD hS)
theorem gi_sipush {l : Launch} {D : va_G} {cA : Nat → ClassId} {am : Am} {K : Kt} {cc : ByteArray} {own : String} {d nL mc ms pc n1 n2 : Nat} {lv : List (Nat × Value)} {st : List Value} {ws : va_W} {n : Int} {v : Int32} (k : Oi D cA am K cc own d nL mc ms) (hv : (Int16.ofInt n).toInt32 = v) (hd : decode cc pc = .ok (.sipush n, 3)) (h : Gi l D K (pc + 3) lv (.int v :: st) ws n1 n2) : Gi l D K pc lv st ws n1 n2 := by
  obtain ⟨⟨p, e, R, s, m, args⟩, ⟨below, meth, c, cells, slots⟩, ⟨Q, A, nL'⟩⟩ := K
  obtain ⟨hx, hb, hml, hnl, hown, hts, hK, hA, hNs, hf, hfr, hlo, hce, hsl⟩ := id k
  subst hnl
  intro H locs ls hl hP hD hS
  exact lv_sipush hx hb hd hv (h H locs ls hl hP hD hS)
theorem gi_dup {l : Launch} {D : va_G} {cA : Nat → ClassId} {am : Am} {K : Kt} {cc : ByteArray} {own : String} {d nL mc ms pc n1 n2 : Nat} {lv : List (Nat × Value)} {st : List Value} {ws : va_W} {v : Value} (k : Oi D cA am K cc own d nL mc ms) (hc : v.category = 1) (hd : decode cc pc = .ok (.dup, 1)) (h : Gi l D K (pc + 1) lv (v :: v :: st) ws n1 n2) : Gi l D K pc lv (v :: st) ws n1 n2 := by
  obtain ⟨⟨p, e, R, s, m, args⟩, ⟨below, meth, c, cells, slots⟩, ⟨Q, A, nL'⟩⟩ := K
  obtain ⟨hx, hb, hml, hnl, hown, hts, hK, hA, hNs, hf, hfr, hlo, hce, hsl⟩ := id k
  subst hnl
  intro H locs ls hl hP hD hS
  exact lv_dup hx hb hd hc (h H locs ls hl hP hD hS)
theorem gi_istore_n {l : Launch} {D : va_G} {cA : Nat → ClassId} {am : Am} {K : Kt} {cc : ByteArray} {own : String} {d nL mc ms pc n1 n2 : Nat} {lv : List (Nat × Value)} {st : List Value} {ws : va_W} {k0 : Fin 4} {i : Nat} {x : Int32} {lv' : List (Nat × Value)} (k : Oi D cA am K cc own d nL mc ms) (hi : (k0 : Nat) = i) (hn : i < nL) (hl' : (i, Value.int x) :: lv.filter (fun q => !(q.1 == i) && !(q.1 + 1 == i && q.2.category == 2)) = lv') (hd : decode cc pc = .ok (.istore_n k0, 1)) (h : Gi l D K (pc + 1) lv' st ws n1 n2) : Gi l D K pc lv (.int x :: st) ws n1 n2 := by
  obtain ⟨⟨p, e, R, s, m, args⟩, ⟨below, meth, c, cells, slots⟩, ⟨Q, A, nL'⟩⟩ := K
  obtain ⟨hx, hb, hml, hnl, hown, hts, hK, hA, hNs, hf, hfr, hlo, hce, hsl⟩ := id k
  subst hnl
  intro H locs ls hl hP hD hS
  exact lv_istore_n hx hb hd hi hl hn hl' (fun ls hl => h H locs ls hl hP hD hS)
theorem gi_astore_n {l : Launch} {D : va_G} {cA : Nat → ClassId} {am : Am} {K : Kt} {cc : ByteArray} {own : String} {d nL mc ms pc n1 n2 : Nat} {lv : List (Nat × Value)} {st : List Value} {ws : va_W} {k0 : Fin 4} {i : Nat} {x : Nat} {lv' : List (Nat × Value)} (k : Oi D cA am K cc own d nL mc ms) (hi : (k0 : Nat) = i) (hn : i < nL) (hl' : (i, Value.ref x) :: lv.filter (fun q => !(q.1 == i) && !(q.1 + 1 == i && q.2.category == 2)) = lv') (hd : decode cc pc = .ok (.astore_n k0, 1)) (h : Gi l D K (pc + 1) lv' st ws n1 n2) : Gi l D K pc lv (.ref x :: st) ws n1 n2 := by
  obtain ⟨⟨p, e, R, s, m, args⟩, ⟨below, meth, c, cells, slots⟩, ⟨Q, A, nL'⟩⟩ := K
  obtain ⟨hx, hb, hml, hnl, hown, hts, hK, hA, hNs, hf, hfr, hlo, hce, hsl⟩ := id k
  subst hnl
  intro H locs ls hl hP hD hS
  exact lv_astore_n hx hb hd hi hl hn hl' (fun ls hl => h H locs ls hl hP hD hS)
theorem gi_iinc {l : Launch} {D : va_G} {cA : Nat → ClassId} {am : Am} {K : Kt} {cc : ByteArray} {own : String} {d nL mc ms pc n1 n2 : Nat} {lv : List (Nat × Value)} {st : List Value} {ws : va_W} {i q : Nat} {n : Int} {x v : Int32} {lv' : List (Nat × Value)} (k : Oi D cA am K cc own d nL mc ms) (hq : lv[q]? = some (i, .int x)) (hv : x + Int32.ofInt n = v) (hn : i < nL) (hl' : (i, Value.int v) :: lv.filter (fun q => !(q.1 == i) && !(q.1 + 1 == i && q.2.category == 2)) = lv') (hd : decode cc pc = .ok (.iinc i n, 3)) (h : Gi l D K (pc + 3) lv' st ws n1 n2) : Gi l D K pc lv st ws n1 n2 := by
  obtain ⟨⟨p, e, R, s, m, args⟩, ⟨below, meth, c, cells, slots⟩, ⟨Q, A, nL'⟩⟩ := K
  obtain ⟨hx, hb, hml, hnl, hown, hts, hK, hA, hNs, hf, hfr, hlo, hce, hsl⟩ := id k
  subst hnl
  intro H locs ls hl hP hD hS
  exact lv_iinc hx hb hd hl hq hv hn hl' (fun ls hl => h H locs ls hl hP hD hS)
theorem gi_goto {l : Launch} {D : va_G} {cA : Nat → ClassId} {am : Am} {K : Kt} {cc : ByteArray} {own : String} {d nL mc ms pc n1 n2 : Nat} {lv : List (Nat × Value)} {st : List Value} {ws : va_W} {off : Int} {tgt : Nat} (k : Oi D cA am K cc own d nL mc ms) (ht : (pc : Int) + off = (tgt : Int)) (hd : decode cc pc = .ok (.goto off, 3)) (h : Gi l D K tgt lv st ws n1 n2) : Gi l D K pc lv st ws n1 n2 := by
  obtain ⟨⟨p, e, R, s, m, args⟩, ⟨below, meth, c, cells, slots⟩, ⟨Q, A, nL'⟩⟩ := K
  obtain ⟨hx, hb, hml, hnl, hown, hts, hK, hA, hNs, hf, hfr, hlo, hce, hsl⟩ := id k
  subst hnl
  intro H locs ls hl hP hD hS
  exact lv_goto hx hb hd ht (h H locs ls hl hP hD hS)
theorem gi_icmp_ge {l : Launch} {D : va_G} {cA : Nat → ClassId} {am : Am} {K : Kt} {cc : ByteArray} {own : String} {d nL mc ms pc n1 n2 : Nat} {lv : List (Nat × Value)} {st : List Value} {ws : va_W} {x y : Int32} {off : Int} {tgt : Nat} (k : Oi D cA am K cc own d nL mc ms) (ht : (pc : Int) + off = (tgt : Int)) (hd : decode cc pc = .ok (.if_icmp .ge off, 3)) (kt : y ≤ x → Gi l D K tgt lv st ws n1 n2) (kf : ¬ y ≤ x → Gi l D K (pc + 3) lv st ws n1 n2) : Gi l D K pc lv (.int y :: .int x :: st) ws n1 n2 := by
  obtain ⟨⟨p, e, R, s, m, args⟩, ⟨below, meth, c, cells, slots⟩, ⟨Q, A, nL'⟩⟩ := K
  obtain ⟨hx, hb, hml, hnl, hown, hts, hK, hA, hNs, hf, hfr, hlo, hce, hsl⟩ := id k
  subst hnl
  intro H locs ls hl hP hD hS
  exact lv_icmp_ge hx hb hd ht (fun z => kt z H locs ls hl hP hD hS) (fun z => kf z H locs ls hl hP hD hS)
theorem gi_obj {l : Launch} {D : va_G} {cA : Nat → ClassId} {am : Am} {K : Kt} {cc : ByteArray} {own : String} {d nL mc ms pc n1 n2 : Nat} {lv : List (Nat × Value)} {st : List Value} {ws : va_W} {index a : Nat} (k : Oi D cA am K cc own d nL mc ms) (hlink : Cond.methodLink own index objectInit ∈ wsT) (hd1 : 1 ≤ d) (hroom : (st.map fun v => v.category).sum ≤ 8) (hd : decode cc pc = .ok (.invokespecial index, 3)) (h : Gi l D K (pc + 3) lv st ws n1 n2) : Gi l D K pc lv (.ref a :: st) ws n1 n2 := by
  obtain ⟨⟨p, e, R, s, m, args⟩, ⟨below, meth, c, cells, slots⟩, ⟨Q, A, nL'⟩⟩ := K
  obtain ⟨hx, hb, hml, hnl, hown, hts, hK, hA, hNs, hf, hfr, hlo, hce, hsl⟩ := id k
  subst hnl
  intro H locs ls hl hP hD hS
  exact W.objInit hx hb hown (hts _ hlink) (hts _ im_objectInit) (hts _ cd_objectInit) rfl (by rw [hml]; exact hl.1) rfl hd (by omega) (by have h9 : 2 * (F0 m pc ls (.ref a :: st)).monitorRoom + (st.map fun v => v.category).sum ≤ 8 := lv_room hroom; omega) (h H locs ls hl hP hD hS)
theorem gi_get {l : Launch} {D : va_G} {cA : Nat → ClassId} {am : Am} {K : Kt} {cc : ByteArray} {own : String} {d nL mc ms pc n1 n2 : Nat} {lv : List (Nat × Value)} {st : List Value} {ws : va_W} {C : String} {T : u_T} {N ci index q0 a j : Nat} {fs : List Value} {v : Value} (k : Oi D cA am K cc own d nL mc ms) (he : ws[q0]? = some (a, .inr (ci, fs))) (hc : vwCl[ci]? = some (C, T, N)) (hw : ∀ w ∈ u_ws C T N, w ∈ wsT) (hj : j < N) (hlink : Cond.fieldLink own index C (T j).2.1 (T j).2.2.1 ∈ wsT) (hT : (T j).1 = C) (hv : fs[j]? = some v) (hd : decode cc pc = .ok (.getfield index, 3)) (h : Gi l D K (pc + 3) lv (v :: st) ws n1 n2) : Gi l D K pc lv (.ref a :: st) ws n1 n2 := by
  obtain ⟨⟨p, e, R, s, m, args⟩, ⟨below, meth, c, cells, slots⟩, ⟨Q, A, nL'⟩⟩ := K
  obtain ⟨hx, hb, hml, hnl, hown, hts, hK, hA, hNs, hf, hfr, hlo, hce, hsl⟩ := id k
  subst hnl
  intro H locs ls hl hP hD hS
  exact va_get hx hb hts hw hown hK hP q0 he hc j hj (hts _ hlink) (fun x h9 => by rw [hT] at h9; exact h9) hv hd (h H locs ls hl hP hD hS)
theorem gi_put {l : Launch} {D : va_G} {cA : Nat → ClassId} {am : Am} {K : Kt} {cc : ByteArray} {own : String} {d nL mc ms pc n1 n2 : Nat} {lv : List (Nat × Value)} {st : List Value} {ws : va_W} {C : String} {T : u_T} {N ci index q0 a j : Nat} {fs : List Value} {ty : FieldType} {v : Value} {ws' : va_W} (k : Oi D cA am K cc own d nL mc ms) (he : ws[q0]? = some (a, .inr (ci, fs))) (hc : vwCl[ci]? = some (C, T, N)) (hw : ∀ w ∈ u_ws C T N, w ∈ wsT) (ty0 : Nat → FieldType) (hty : ∀ k, k < N → parseFieldDescriptor (T k).2.2.1 = some (ty0 k)) (hnm : ∀ a, a < N → ∀ b, b < N → a ≠ b → (T a).2.1 ≠ (T b).2.1) (hj : j < N) (hlink : Cond.fieldLink own index C (T j).2.1 (T j).2.2.1 ∈ wsT) (hT : (T j).1 = C) (hfin : (T j).2.2.2 = false) (hd2 : parseFieldDescriptor (T j).2.2.1 = some ty) (hn : narrow ty v = v) (hfit : fits ty v = true) (hlen : j < fs.length) (hd : decode cc pc = .ok (.putfield index, 3)) (hws : ws.set q0 (a, .inr (ci, fs.set j v)) = ws') (h : Gi l D K (pc + 3) lv st ws' n1 n2) : Gi l D K pc lv (v :: .ref a :: st) ws n1 n2 := by
  obtain ⟨⟨p, e, R, s, m, args⟩, ⟨below, meth, c, cells, slots⟩, ⟨Q, A, nL'⟩⟩ := K
  obtain ⟨hx, hb, hml, hnl, hown, hts, hK, hA, hNs, hf, hfr, hlo, hce, hsl⟩ := id k
  subst hnl
  intro H locs ls hl hP hD hS
  subst hws
  exact va_put hx hb hts hw ty0 hty hnm hown hK hP hD hS q0 he hc j hj (hts _ hlink) (fun x h9 => by rw [hT] at h9; exact h9) hfin hd2 hn hfit hlen hd (fun H1 locs1 hP1 hD1 hS1 => h H1 locs1 ls hl hP1 hD1 hS1)
theorem gi_putF {l : Launch} {D : va_G} {cA : Nat → ClassId} {am : Am} {K : Kt} {cc : ByteArray} {own : String} {d nL mc ms pc n1 n2 : Nat} {lv : List (Nat × Value)} {st : List Value} {ws : va_W} {C : String} {T : u_T} {N ci index q0 a j : Nat} {fs : List Value} {ty : FieldType} {v : Value} {ws' : va_W} (k : Oi D cA am K cc own d nL mc ms) (hni : Ni K) (hdecl : (T j).1 = own) (he : ws[q0]? = some (a, .inr (ci, fs))) (hc : vwCl[ci]? = some (C, T, N)) (hw : ∀ w ∈ u_ws C T N, w ∈ wsT) (ty0 : Nat → FieldType) (hty : ∀ k, k < N → parseFieldDescriptor (T k).2.2.1 = some (ty0 k)) (hnm : ∀ a, a < N → ∀ b, b < N → a ≠ b → (T a).2.1 ≠ (T b).2.1) (hj : j < N) (hlink : Cond.fieldLink own index C (T j).2.1 (T j).2.2.1 ∈ wsT) (hT : (T j).1 = C) (hfin : (T j).2.2.2 = true) (hd2 : parseFieldDescriptor (T j).2.2.1 = some ty) (hn : narrow ty v = v) (hfit : fits ty v = true) (hlen : j < fs.length) (hd : decode cc pc = .ok (.putfield index, 3)) (hws : ws.set q0 (a, .inr (ci, fs.set j v)) = ws') (h : Gi l D K (pc + 3) lv st ws' n1 n2) : Gi l D K pc lv (v :: .ref a :: st) ws n1 n2 := by
  obtain ⟨⟨p, e, R, s, m, args⟩, ⟨below, meth, c, cells, slots⟩, ⟨Q, A, nL'⟩⟩ := K
  obtain ⟨hx, hb, hml, hnl, hown, hts, hK, hA, hNs, hf, hfr, hlo, hce, hsl⟩ := id k
  subst hnl
  intro H locs ls hl hP hD hS
  subst hws
  exact va_putF hx hb hts hw ty0 hty hnm hown hK hP hD hS q0 he hc j hj (hts _ hlink) (fun x h9 => by rw [hT] at h9; exact h9) hfin hni hdecl hd2 hn hfit hlen hd (fun H1 locs1 hP1 hD1 hS1 => h H1 locs1 ls hl hP1 hD1 hS1)
theorem gi_new {l : Launch} {D : va_G} {cA : Nat → ClassId} {am : Am} {K : Kt} {cc : ByteArray} {own : String} {d nL mc ms pc n1 n2 : Nat} {lv : List (Nat × Value)} {st : List Value} {ws : va_W} {C : String} {T : u_T} {N ci index : Nat} {fs : List Value} (k : Oi D cA am K cc own d nL mc ms) (hw : ∀ w ∈ u_ws C T N, w ∈ wsT) (ty0 : Nat → FieldType) (hty : ∀ k, k < N → parseFieldDescriptor (T k).2.2.1 = some (ty0 k)) (hcl : Cond.classLink own index C ∈ wsT) (hi : Cond.instantiable C N ∈ wsT) (hz : Cond.initialized C ∈ wsT) (hc : vwCl[ci]? = some (C, T, N)) (hfs : ∀ j, j < N → defaultValue (ty0 j) = vp_V fs j) (h1 : n1 + 1 ≤ mc) (h2 : n2 + N ≤ ms) (hd : decode cc pc = .ok (.new index, 3)) (h : ∀ q : Nat, Gi l D K (pc + 3) lv (.ref q :: st) (ws ++ [(q, .inr (ci, fs))]) (n1 + 1) (n2 + N)) : Gi l D K pc lv st ws n1 n2 := by
  obtain ⟨⟨p, e, R, s, m, args⟩, ⟨below, meth, c, cells, slots⟩, ⟨Q, A, nL'⟩⟩ := K
  obtain ⟨hx, hb, hml, hnl, hown, hts, hK, hA, hNs, hf, hfr, hlo, hce, hsl⟩ := id k
  subst hnl
  intro H locs ls hl hP hD hS
  exact va_new hx hb hts hw ty0 hty hown (hts _ hcl) (hts _ hi) (hts _ hz) hK hP hD hS hf hc hfs (Nat.le_trans h1 hce) (Nat.le_trans h2 hsl) hd (fun q H1 hP1 hD1 hS1 => h q H1 locs ls hl hP1 hD1 hS1)
theorem gi_newI {l : Launch} {D : va_G} {cA : Nat → ClassId} {am : Am} {K : Kt} {cc : ByteArray} {own : String} {d nL mc ms pc n1 n2 : Nat} {lv : List (Nat × Value)} {st : List Value} {ws : va_W} {n : Int32} {N : Nat} (k : Oi D cA am K cc own d nL mc ms) (hn : ¬ n < 0) (hN : n.toNatClampNeg = N) (hbt : N * componentBytes .int ≤ 536870912) (h1 : n1 + 1 ≤ mc) (h2 : n2 + N ≤ ms) (hd : decode cc pc = .ok (.newarray .int, 2)) (h : ∀ q : Nat, Gi l D K (pc + 2) lv (.ref q :: st) (ws ++ [(q, ai cA N (fun _ => 0))]) (n1 + 1) (n2 + N)) : Gi l D K pc lv (.int n :: st) ws n1 n2 := by
  obtain ⟨⟨p, e, R, s, m, args⟩, ⟨below, meth, c, cells, slots⟩, ⟨Q, A, nL'⟩⟩ := K
  obtain ⟨hx, hb, hml, hnl, hown, hts, hK, hA, hNs, hf, hfr, hlo, hce, hsl⟩ := id k
  subst hnl
  intro H locs ls hl hP hD hS
  refine va_newa (atype := .int) (ty := .int) (a0 := (N, .inl (fun _ => 0))) hx hb (hts _ ac__int) rfl hK hP hD hS hf (fun _ => rfl) hn hN hbt (Nat.le_trans h1 hce) (Nat.le_trans h2 hsl) hd (fun q c2 H1 hK1 hP1 hD1 hS1 => ?_)
  have e1 : va_RA s c2 .int := (hK1.2 5 (c2, .int) rfl).2
  have e2 : va_RA s (cA 0) .int := (hK.2 0 (cA 0, .int) rfl).2
  have e : c2 = cA 0 := Option.some.inj (Eq.trans (Eq.symm e1) e2)
  subst e
  exact h q H1 locs ls hl hP1 hD1 hS1
theorem gi_newB {l : Launch} {D : va_G} {cA : Nat → ClassId} {am : Am} {K : Kt} {cc : ByteArray} {own : String} {d nL mc ms pc n1 n2 : Nat} {lv : List (Nat × Value)} {st : List Value} {ws : va_W} {n : Int32} {N : Nat} (k : Oi D cA am K cc own d nL mc ms) (hn : ¬ n < 0) (hN : n.toNatClampNeg = N) (hbt : N * componentBytes .byte ≤ 536870912) (h1 : n1 + 1 ≤ mc) (h2 : n2 + N ≤ ms) (hd : decode cc pc = .ok (.newarray .byte, 2)) (h : ∀ q : Nat, Gi l D K (pc + 2) lv (.ref q :: st) (ws ++ [(q, ab cA N (fun _ => 0))]) (n1 + 1) (n2 + N)) : Gi l D K pc lv (.int n :: st) ws n1 n2 := by
  obtain ⟨⟨p, e, R, s, m, args⟩, ⟨below, meth, c, cells, slots⟩, ⟨Q, A, nL'⟩⟩ := K
  obtain ⟨hx, hb, hml, hnl, hown, hts, hK, hA, hNs, hf, hfr, hlo, hce, hsl⟩ := id k
  subst hnl
  intro H locs ls hl hP hD hS
  refine va_newa (atype := .byte) (ty := .byte) (a0 := (N, .inl (fun _ => 0))) hx hb (hts _ ac__byte) rfl hK hP hD hS hf (fun _ => rfl) hn hN hbt (Nat.le_trans h1 hce) (Nat.le_trans h2 hsl) hd (fun q c2 H1 hK1 hP1 hD1 hS1 => ?_)
  have e1 : va_RA s c2 .byte := (hK1.2 5 (c2, .byte) rfl).2
  have e2 : va_RA s (cA 1) .byte := (hK.2 1 (cA 1, .byte) rfl).2
  have e : c2 = cA 1 := Option.some.inj (Eq.trans (Eq.symm e1) e2)
  subst e
  exact h q H1 locs ls hl hP1 hD1 hS1
theorem gi_newq3 {l : Launch} {D : va_G} {cA : Nat → ClassId} {am : Am} {K : Kt} {cc : ByteArray} {own : String} {d nL mc ms pc n1 n2 : Nat} {lv : List (Nat × Value)} {st : List Value} {ws : va_W} {n : Int32} {N index : Nat} (k : Oi D cA am K cc own d nL mc ms) (hcl : Cond.classLink own index RX3 ∈ wsT) (hn : ¬ n < 0) (hN' : n.toNatClampNeg = N) (hbt : N * 4 ≤ 536870912) (h1 : n1 + 1 ≤ mc) (h2 : n2 + N ≤ ms) (hd : decode cc pc = .ok (.anewarray index, 3)) (h : ∀ q : Nat, Gi l D K (pc + 3) lv (.ref q :: st) (ws ++ [(q, ag (cA 2) N (fun _ => none))]) (n1 + 1) (n2 + N)) : Gi l D K pc lv (.int n :: st) ws n1 n2 := by
  obtain ⟨⟨p, e, R, s, m, args⟩, ⟨below, meth, c, cells, slots⟩, ⟨Q, A, nL'⟩⟩ := K
  obtain ⟨hx, hb, hml, hnl, hown, hts, hK, hA, hNs, hf, hfr, hlo, hce, hsl⟩ := id k
  subst hnl
  intro H locs ls hl hP hD hS
  refine va_newq hx hb hown (hts _ hcl) (hNs.2.1) hK hP hD hS hf hn hN' hbt (Nat.le_trans h1 hce) (Nat.le_trans h2 hsl) hd (fun q c2 H1 hK1 hP1 hD1 hS1 => ?_)
  obtain ⟨_, _, _, _, _, e1⟩ := (hK1.2 5 (c2, .object RX3) rfl).2
  obtain ⟨_, _, _, _, _, e2⟩ := (hK.2 2 (cA 2, .object RX3) rfl).2
  have e : c2 = cA 2 := Option.some.inj (Eq.trans (Eq.symm e1) e2)
  subst e
  exact h q H1 locs ls hl hP1 hD1 hS1
theorem gi_newq0 {l : Launch} {D : va_G} {cA : Nat → ClassId} {am : Am} {K : Kt} {cc : ByteArray} {own : String} {d nL mc ms pc n1 n2 : Nat} {lv : List (Nat × Value)} {st : List Value} {ws : va_W} {n : Int32} {N index : Nat} (k : Oi D cA am K cc own d nL mc ms) (hcl : Cond.classLink own index RX0 ∈ wsT) (hn : ¬ n < 0) (hN' : n.toNatClampNeg = N) (hbt : N * 4 ≤ 536870912) (h1 : n1 + 1 ≤ mc) (h2 : n2 + N ≤ ms) (hd : decode cc pc = .ok (.anewarray index, 3)) (h : ∀ q : Nat, Gi l D K (pc + 3) lv (.ref q :: st) (ws ++ [(q, ag (cA 3) N (fun _ => none))]) (n1 + 1) (n2 + N)) : Gi l D K pc lv (.int n :: st) ws n1 n2 := by
  obtain ⟨⟨p, e, R, s, m, args⟩, ⟨below, meth, c, cells, slots⟩, ⟨Q, A, nL'⟩⟩ := K
  obtain ⟨hx, hb, hml, hnl, hown, hts, hK, hA, hNs, hf, hfr, hlo, hce, hsl⟩ := id k
  subst hnl
  intro H locs ls hl hP hD hS
  refine va_newq hx hb hown (hts _ hcl) (hNs.2.2.1) hK hP hD hS hf hn hN' hbt (Nat.le_trans h1 hce) (Nat.le_trans h2 hsl) hd (fun q c2 H1 hK1 hP1 hD1 hS1 => ?_)
  obtain ⟨_, _, _, _, _, e1⟩ := (hK1.2 5 (c2, .object RX0) rfl).2
  obtain ⟨_, _, _, _, _, e2⟩ := (hK.2 3 (cA 3, .object RX0) rfl).2
  have e : c2 = cA 3 := Option.some.inj (Eq.trans (Eq.symm e1) e2)
  subst e
  exact h q H1 locs ls hl hP1 hD1 hS1
theorem gi_astq {l : Launch} {D : va_G} {cA : Nat → ClassId} {am : Am} {K : Kt} {cc : ByteArray} {own : String} {d nL mc ms pc n1 n2 : Nat} {lv : List (Nat × Value)} {st : List Value} {ws : va_W} {r : vw_C} {n v a q0 t0 qk ci : Nat} {cq : ClassId} {vs : List Value} {f : Nat → Option Nat} {i : Int32} {i' : Nat} {ws' : va_W} (k : Oi D cA am K cc own d nL mc ms) (ha : ws[q0]? = some (a, ag cq n f)) (ht : (tysE (eE D cA am))[t0]? = some (cq, .object r.1)) (hv : ws[qk]? = some (v, .inr (ci, vs))) (hc : vwCl[ci]? = some r) (hin : vp_in i n) (hi' : i.toNatClampNeg = i') (hd : decode cc pc = .ok (.aastore, 1)) (hws : ws.set q0 (a, ag cq n (va_up f i' (some v))) = ws') (h : Gi l D K (pc + 1) lv st ws' n1 n2) : Gi l D K pc lv (.ref v :: .int i :: .ref a :: st) ws n1 n2 := by
  obtain ⟨⟨p, e, R, s, m, args⟩, ⟨below, meth, c, cells, slots⟩, ⟨Q, A, nL'⟩⟩ := K
  obtain ⟨hx, hb, hml, hnl, hown, hts, hK, hA, hNs, hf, hfr, hlo, hce, hsl⟩ := id k
  subst hnl
  intro H locs ls hl hP hD hS
  subst hws
  subst hi'
  exact va_astq hx hb hK hP hD hS q0 t0 qk ci ha ht hv hc hin hd (fun H1 locs1 hP1 hD1 hS1 => h H1 locs1 ls hl hP1 hD1 hS1)
theorem gi_iast {l : Launch} {D : va_G} {cA : Nat → ClassId} {am : Am} {K : Kt} {cc : ByteArray} {own : String} {d nL mc ms pc n1 n2 : Nat} {lv : List (Nat × Value)} {st : List Value} {ws : va_W} {n a q0 : Nat} {f : Nat → Int32} {i x : Int32} {ws' : va_W} (k : Oi D cA am K cc own d nL mc ms) (ha : ws[q0]? = some (a, ai cA n f)) (hin : vp_in i n) (hd : decode cc pc = .ok (.iastore, 1)) (hws : ws.set q0 (a, ai cA n (upd f i.toNatClampNeg x)) = ws') (h : Gi l D K (pc + 1) lv st ws' n1 n2) : Gi l D K pc lv (.int x :: .int i :: .ref a :: st) ws n1 n2 := by
  obtain ⟨⟨p, e, R, s, m, args⟩, ⟨below, meth, c, cells, slots⟩, ⟨Q, A, nL'⟩⟩ := K
  obtain ⟨hx, hb, hml, hnl, hown, hts, hK, hA, hNs, hf, hfr, hlo, hce, hsl⟩ := id k
  subst hnl
  intro H locs ls hl hP hD hS
  subst hws
  exact va_iast hx hb hK hP hD hS q0 0 ha rfl hin hd (fun H1 locs1 hP1 hD1 hS1 => h H1 locs1 ls hl hP1 hD1 hS1)
theorem gi_mna {l : Launch} {D : va_G} {cA : Nat → ClassId} {am : Am} {K : Kt} {cc : ByteArray} {own : String} {d nL mc ms pc n1 n2 : Nat} {lv : List (Nat × Value)} {st : List Value} {ws : va_W} {index N' K' : Nat} {n k9 : Int32} (k : Oi D cA am K cc own d nL mc ms) (hcl : Cond.classLink own index "[[I" ∈ wsT) (hn : ¬ n < 0) (hk : ¬ k9 < 0) (hN' : n.toNatClampNeg = N') (hM : k9.toNatClampNeg = K') (hb1 : N' * 4 ≤ 536870912) (hb2 : K' * componentBytes .int ≤ 536870912) (hb3 : K' ≤ 536870912) (h1 : n1 + (1 + N') ≤ mc) (h2 : n2 + (N' + N' * K') ≤ ms) (hd : decode cc pc = .ok (.multianewarray index 2, 4)) (h : ∀ (q : Nat) (r : Nat → Nat), Gi l D K (pc + 4) lv (.ref q :: st) (ws ++ ((q, ag (cA 4) N' (fun i => if i < N' then some (r i) else none)) :: (List.range N').map (fun i => (r i, ai cA K' (fun _ => 0))))) (n1 + 1 + N') (n2 + N' + N' * K')) : Gi l D K pc lv (.int k9 :: .int n :: st) ws n1 n2 := by
  obtain ⟨⟨p, e, R, s, m, args⟩, ⟨below, meth, c, cells, slots⟩, ⟨Q, A, nL'⟩⟩ := K
  obtain ⟨hx, hb, hml, hnl, hown, hts, hK, hA, hNs, hf, hfr, hlo, hce, hsl⟩ := id k
  subst hnl
  intro H locs ls hl hP hD hS
  have hcy : s.vm.findClass (FieldType.array FieldType.int).toString = some (cA 0) := (hK.2 0 (cA 0, .int) rfl).2
  refine va_mna (X := ws) (L := []) (f := fun _ => .inr (0, [])) (z := (K', .inl (fun _ => 0))) hx hb hown (hts _ hcl) hNs.2.2.2 (hts _ ac__int) hcy hK (by show va_P D vwCl (ws ++ []) H; rw [List.append_nil]; exact hP) (by show va_D A (ws ++ []); rw [List.append_nil]; exact hD) hS hf hn hk hN' hM hb1 hb2 hb3 rfl rfl (Nat.le_trans h1 hce) (Nat.le_trans h2 hsl) (fun c => ?_) hd (fun q r c2 H1 hr hrL hK1 hP1 hD1 hS1 => ?_)
  · show ({ cls := c, slots := Array.replicate K' (.int 0), vm := .none } : Cell) = _
    rw [arrV_new]
    rfl
  · have e1 : va_RA s c2 (.array .int) := (hK1.2 5 (c2, .array .int) rfl).2
    have e2 : va_RA s (cA 4) (.array .int) := (hK.2 4 (cA 4, .array .int) rfl).2
    have e : c2 = cA 4 := Option.some.inj (Eq.trans (Eq.symm e1) e2)
    subst e
    have ep : va_pl ([] ++ (List.range N').map r) (vr_up (fun _ => .inr (0, [])) ((List.range N').map r) (.inl (cA 0, (K', .inl (fun _ => 0))))) = (List.range N').map (fun i => (r i, ai cA K' (fun _ => 0))) := by
      unfold va_pl
      rw [List.nil_append, List.map_map]
      apply List.map_congr_left
      intro i hi
      show (r i, vr_up _ _ _ (r i)) = _
      rw [vr_up_in (List.mem_map.mpr ⟨i, hi, rfl⟩)]
      rfl
    rw [ep, List.append_assoc] at hP1 hD1
    exact h q r H1 locs ls hl hP1 hD1 hS1
theorem gi_ws {l : Launch} {D : va_G} {K : Kt} {pc n1 n2 : Nat} {lv : List (Nat × Value)} {st : List Value} {ws ws' : va_W} {k1 k2 : Nat} (e : ws = ws') (e1 : n1 = k1) (e2 : n2 = k2) (h : Gi l D K pc lv st ws' k1 k2) : Gi l D K pc lv st ws n1 n2 := by
  subst e; subst e1; subst e2; exact h
theorem gi_wr {l : Launch} {D : va_G} {K : Kt} {pc n1 n2 : Nat} {lv : List (Nat × Value)} {st : List Value} {ws ws' : va_W} (e : Wr ws ws') (h : Gi l D K pc lv st ws' n1 n2) : Gi l D K pc lv st ws n1 n2 := by
  obtain ⟨⟨p, e, R, s, m, args⟩, ⟨below, meth, c, cells, slots⟩, ⟨Q, A, nL'⟩⟩ := K
  intro H locs ls hl hP hD hS
  exact h H locs ls hl (Wr.P ‹_› hP) (Wr.D ‹_› hD) hS
/-- a call of a method that makes nothing: by the judgement of the whole world -/
def KG (K : Kt) (n1 n2 : Nat) : Kt := (K.1, (K.2.1.1, K.2.1.2.1, K.2.1.2.2.1, n1, n2), K.2.2)
theorem gi_G {l : Launch} {D : va_G} {cA : Nat → ClassId} {am : Am} {K : Kt} {cc : ByteArray} {own : String} {d nL mc ms pc n1 n2 : Nat} {lv : List (Nat × Value)} {st : List Value} {ws : va_W} {L : List Nat} {ad : Nat → Nat} {M : Mm} (k : Oi D cA am K cc own d nL mc ms) (h1 : n1 ≤ mc) (h2 : n2 ≤ ms) (hw : ws = wlist (D, L, ad, cA, am) M) (h : Ok l (D, L, ad, cA, am) (KG K n1 n2) cc own d nL → G l (D, L, ad, cA, am) (KG K n1 n2) pc lv st M) : Gi l D K pc lv st ws n1 n2 := by
  obtain ⟨⟨p, e, R, s, m, args⟩, ⟨below, meth, c, cells, slots⟩, ⟨Q, A, nL'⟩⟩ := K
  obtain ⟨hx, hb, hml, hnl, hown, hts, hK, hA, hNs, hf, hfr, hlo, hce, hsl⟩ := id k
  subst hnl
  intro H locs ls hl hP hD hS
  subst hw
  have hin : ∀ q, inW (D, L, ad, cA, am) q → A q := fun q hq => by
    obtain ⟨k0, hk0, e⟩ := hq
    obtain ⟨i, -, hi⟩ := wlist_get (E := (D, L, ad, cA, am)) (M := M) hk0
    rw [e]
    exact hD.2 i _ hi
  exact h ⟨hx, hb, hml, rfl, hown, hts, hK, hA, hin, hfr, hlo, Nat.le_trans h1 hce, Nat.le_trans h2 hsl⟩ H locs ls hl hP hD hS
theorem gi_unG {l : Launch} {D : va_G} {cA : Nat → ClassId} {am : Am} {K : Kt} {pc n1 n2 : Nat} {lv : List (Nat × Value)} {st : List Value} {L : List Nat} {ad : Nat → Nat} {M : Mm} (h : Gi l D K pc lv st (wlist (D, L, ad, cA, am) M) n1 n2) : G l (D, L, ad, cA, am) (KG K n1 n2) pc lv st M := by
  obtain ⟨⟨p, e, R, s, m, args⟩, ⟨below, meth, c, cells, slots⟩, ⟨Q, A, nL'⟩⟩ := K
  exact h
theorem gi_ret {l : Launch} {D : va_G} {cA : Nat → ClassId} {am : Am} {K : Kt} {cc : ByteArray} {own : String} {d nL mc ms pc n1 n2 : Nat} {lv : List (Nat × Value)} {st : List Value} {ws : va_W} {q : Nat} {x : va_E} {post : va_W → Prop} (k : Oi D cA am K cc own d nL mc ms) (t : Ri D K mc ms q x post) (h1 : n1 ≤ mc) (h2 : n2 ≤ ms) (hd : decode cc pc = .ok (.return_, 1)) (hp : post ws) : Gi l D K pc lv [] ws n1 n2 := by
  obtain ⟨⟨p, e, R, s, m, args⟩, ⟨below, meth, c, cells, slots⟩, ⟨Q, A, nL'⟩⟩ := K
  obtain ⟨hx, hb, hml, hnl, hown, hts, hK, hA, hNs, hf, hfr, hlo, hce, hsl⟩ := id k
  subst hnl
  intro H locs ls hl hP hD hS
  obtain ⟨rfl, rfl, hr, hlocks⟩ := id t
  refine W.widen (k := mc) (n := ms) h1 h2 ?_
  exact W.vret hx hb hr (fun t ht hW => ⟨⟨ws, rfl, hp, by rw [ht]; exact hP, hD⟩, hS.F ht⟩) hS.2.2 hd hlocks
theorem init_join {D : va_G} {A : Nat → Prop} {pre u : va_W} {q : Nat} {x : va_E} {H H1 : Heap} (hP : va_P D vwCl (pre ++ [(q, x)]) H) (hD : va_D A (pre ++ [(q, x)])) (hk : ∀ z : Nat, z < H.size → ¬ va_A [(q, x)] H.size z → H1[z]? = H[z]?) (hF : ∀ z, va_A [(q, x)] H.size z → A z) (hP1 : va_P D vwCl u H1) (hD1 : va_D (va_A [(q, x)] H.size) u) : va_P D vwCl (pre ++ u) H1 ∧ va_D A (pre ++ u) := by
  have hg : ∀ (k : Nat) (z : Nat × va_E), pre[k]? = some z → (pre ++ [(q, x)])[k]? = some z := fun k z hz => by
    rw [List.getElem?_append_left (List.getElem?_eq_some_iff.mp hz).1]; exact hz
  have hlast : (pre ++ [(q, x)])[pre.length]? = some (q, x) := by
    rw [List.getElem?_append_right (Nat.le_refl _), Nat.sub_self]; rfl
  have apart : ∀ (k : Nat) (z : Nat × va_E), pre[k]? = some z → z.1 < H.size ∧ ¬ va_A [(q, x)] H.size z.1 := fun k z hz => by
    have hl := (hP k z (hg k z hz)).lt
    refine ⟨hl, fun h => ?_⟩
    rcases h with ⟨k2, e2, h⟩ | h
    · have h0 : k2 < 1 := (List.getElem?_eq_some_iff.mp h).1
      rw [show k2 = 0 by omega] at h
      have e : z.1 = q := by cases h; rfl
      have := hD.1 k pre.length z (q, x) (hg k z hz) hlast e
      have := (List.getElem?_eq_some_iff.mp hz).1
      omega
    · omega
  refine ⟨va_P.app (fun k z hz => (hP k z (hg k z hz)).kept (hk z.1 (apart k z hz).1 (apart k z hz).2)) hP1, va_D.app ⟨fun i j a b ha hb e => hD.1 i j a b (hg i a ha) (hg j b hb) e, fun k z hz => hD.2 k z (hg k z hz)⟩ (hD1.weaken (fun k z _ h => hF z.1 h)) (fun i j a b ha hb e => (apart i a ha).2 (by rw [e]; exact hD1.2 j b hb))⟩
theorem gi_init {l : Launch} {D : va_G} {cA : Nat → ClassId} {am : Am} {K : Kt} {cc : ByteArray} {own : String} {d nL mc ms pc n1 n2 : Nat} {lv : List (Nat × Value)} {st : List Value} {ws : va_W} {y : MethodName} {bytes : ByteArray} {maxL d' mc' ms' index q : Nat} {x : va_E} {pre : va_W} {post : va_W → Prop} (k : Oi D cA am K cc own d nL mc ms) (hC : Ci l D cA am y bytes maxL d' mc' ms' q x post) (cf : CF y bytes maxL none 0) (him : Cond.instanceMethod y ∈ wsT) (hlink : Cond.methodLink own index y ∈ wsT) (hyn : y.name = "<init>") (hdd : d' < d) (hws : ws = pre ++ [(q, x)]) (hroom : (st.map fun v => v.category).sum ≤ 8) (h1 : n1 + mc' ≤ mc) (h2 : n2 + ms' ≤ ms) (hd : decode cc pc = .ok (.invokespecial index, 3)) (h : ∀ u : va_W, post u → Gi l D K (pc + 3) lv st (pre ++ u) (n1 + mc') (n2 + ms')) : Gi l D K pc lv (.ref q :: st) ws n1 n2 := by
  obtain ⟨⟨p, e, R, s, m, args⟩, ⟨below, meth, c, cells, slots⟩, ⟨Q, A, nL'⟩⟩ := K
  obtain ⟨hx, hb, hml, hnl, hown, hts, hK, hA, hNs, hf, hfr, hlo, hce, hsl⟩ := id k
  subst hnl
  intro H locs ls hl hP hD hS
  subst hws
  obtain ⟨c1, c2, c3, c4, c5, c6⟩ := cf
  have hlast : (pre ++ [(q, x)])[pre.length]? = some (q, x) := by
    rw [List.getElem?_append_right (Nat.le_refl _), Nat.sub_self]; rfl
  have hF : ∀ z, va_A [(q, x)] H.size z → A z := fun z h => by
    rcases h with ⟨k2, e2, h⟩ | h
    · have h0 : k2 < 1 := (List.getElem?_eq_some_iff.mp h).1
      rw [show k2 = 0 by omega] at h
      cases h
      exact hD.2 _ _ hlast
    · exact hf z (Nat.le_trans hS.1 h)
  have hP0 : va_P D vwCl [(q, x)] H := fun k z hz => by
    have h0 : k < 1 := (List.getElem?_eq_some_iff.mp hz).1
    rw [show k = 0 by omega] at hz
    cases hz
    exact hP _ _ hlast
  have hD0 : va_D (fun _ => True) [(q, x)] := ⟨fun i j a b ha hb _ => by
    have := (List.getElem?_eq_some_iff.mp ha).1
    have := (List.getElem?_eq_some_iff.mp hb).1
    simp only [List.length_singleton] at *
    omega, fun _ _ _ => trivial⟩
  refine va_callv (va_runI (p := p) (e := e) (R := R) (below := below) (meth := meth) (locs := locs) (cells := n1) (slots := n2) (As := []) (rest := st) (g := F0 m pc ls (.ref q :: st)) (bytes := bytes) (maxL := maxL) (n := 0) (index := index) ⟨hx, hb, hml, hown, hts⟩ (hC H.size) ⟨⟨rfl, rfl, Nat.le_trans hdd hfr, (by show 8 + (maxL + 11) + 60 * d' ≤ R.locals; have := c3; omega), pay_in hts (ws_goodC c1), List.mem_cons_self, hts _ c1, hts _ c2, ⟨c4, c5⟩, cf_len c6, hts _ hlink⟩, hyn, hts _ him⟩ ⟨CiP.blind, fun U hU hW => ⟨rfl, by rw [hU], by rw [hU]; exact hP0, va_K.moved hW.alike hK, hD0, by rw [hU]; exact ((hA.kept (fun a h1 h2 => hS.2.1 a h1 h2)).warm hW).narrow hF, hNs.warm hW⟩⟩ rfl rfl hl.1 rfl (lv_room hroom) hd ⟨Nat.le_trans h1 hce, Nat.le_trans h2 hsl⟩) hS (fun z _ h => hF z h) hF (fun u t H1 locs1 ht hvm hp hB hz1 hk1 hS1 => ?_)
  obtain ⟨hP1, hD1⟩ := hB
  rw [ht] at hP1
  obtain ⟨hP2, hD2⟩ := init_join hP hD hk1 hF hP1 hD1
  exact h u hp H1 locs1 ls hl hP2 hD2 hS1
theorem gi_initN {l : Launch} {D : va_G} {cA : Nat → ClassId} {am : Am} {K : Kt} {cc : ByteArray} {own : String} {d nL mc ms pc n1 n2 : Nat} {lv : List (Nat × Value)} {st : List Value} {ws : va_W} {y : MethodName} {bytes : ByteArray} {maxL d' mc' ms' index q : Nat} {x : va_E} {pre : va_W} {post : va_W → Prop} (k : Oi D cA am K cc own d nL mc ms) (hC : Ci l D cA am y bytes maxL d' mc' ms' q x post) (cf : CF y bytes maxL none 0) (him : Cond.instanceMethod y ∈ wsT) {host : String} (hlink : Nst K.1.2.2.2.1 → va_Nw (.methodLinkNest own index y host) K.1.2.2.2.1) (hyn : y.name = "<init>") (hdd : d' < d) (hws : ws = pre ++ [(q, x)]) (hroom : (st.map fun v => v.category).sum ≤ 8) (h1 : n1 + mc' ≤ mc) (h2 : n2 + ms' ≤ ms) (hd : decode cc pc = .ok (.invokespecial index, 3)) (h : ∀ u : va_W, post u → Gi l D K (pc + 3) lv st (pre ++ u) (n1 + mc') (n2 + ms')) : Gi l D K pc lv (.ref q :: st) ws n1 n2 := by
  obtain ⟨⟨p, e, R, s, m, args⟩, ⟨below, meth, c, cells, slots⟩, ⟨Q, A, nL'⟩⟩ := K
  obtain ⟨hx, hb, hml, hnl, hown, hts, hK, hA, hNs, hf, hfr, hlo, hce, hsl⟩ := id k
  subst hnl
  intro H locs ls hl hP hD hS
  subst hws
  obtain ⟨c1, c2, c3, c4, c5, c6⟩ := cf
  have hlast : (pre ++ [(q, x)])[pre.length]? = some (q, x) := by
    rw [List.getElem?_append_right (Nat.le_refl _), Nat.sub_self]; rfl
  have hF : ∀ z, va_A [(q, x)] H.size z → A z := fun z h => by
    rcases h with ⟨k2, e2, h⟩ | h
    · have h0 : k2 < 1 := (List.getElem?_eq_some_iff.mp h).1
      rw [show k2 = 0 by omega] at h
      cases h
      exact hD.2 _ _ hlast
    · exact hf z (Nat.le_trans hS.1 h)
  have hP0 : va_P D vwCl [(q, x)] H := fun k z hz => by
    have h0 : k < 1 := (List.getElem?_eq_some_iff.mp hz).1
    rw [show k = 0 by omega] at hz
    cases hz
    exact hP _ _ hlast
  have hD0 : va_D (fun _ => True) [(q, x)] := ⟨fun i j a b ha hb _ => by
    have := (List.getElem?_eq_some_iff.mp ha).1
    have := (List.getElem?_eq_some_iff.mp hb).1
    simp only [List.length_singleton] at *
    omega, fun _ _ _ => trivial⟩
  refine va_callv (va_runIN (p := p) (e := e) (R := R) (below := below) (meth := meth) (locs := locs) (cells := n1) (slots := n2) (As := []) (rest := st) (g := F0 m pc ls (.ref q :: st)) (bytes := bytes) (maxL := maxL) (n := 0) (index := index) ⟨hx, hb, hml, hown, hts⟩ (hC H.size) ⟨⟨⟨rfl, rfl, Nat.le_trans hdd hfr, (by show 8 + (maxL + 11) + 60 * d' ≤ R.locals; have := c3; omega), pay_in hts (ws_goodC c1), List.mem_cons_self⟩, hts _ c1, hts _ c2, ⟨c4, c5⟩, cf_len c6, va_Nw.use rfl (hlink hNs)⟩, hyn, hts _ him⟩ ⟨CiP.blind, fun U hU hW => ⟨rfl, by rw [hU], by rw [hU]; exact hP0, va_K.moved hW.alike hK, hD0, by rw [hU]; exact ((hA.kept (fun a h1 h2 => hS.2.1 a h1 h2)).warm hW).narrow hF, hNs.warm hW⟩⟩ rfl rfl hl.1 rfl (lv_room hroom) hd ⟨Nat.le_trans h1 hce, Nat.le_trans h2 hsl⟩) hS (fun z _ h => hF z h) hF (fun u t H1 locs1 ht hvm hp hB hz1 hk1 hS1 => ?_)
  obtain ⟨hP1, hD1⟩ := hB
  rw [ht] at hP1
  obtain ⟨hP2, hD2⟩ := init_join hP hD hk1 hF hP1 hD1
  exact h u hp H1 locs1 ls hl hP2 hD2 hS1
