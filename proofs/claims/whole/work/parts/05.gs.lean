/-! THE UNIFORM WORLD: all cells of the class (0..64) and of the reference (65..107); their ints are a flat memory M : cell -> slot -> int; their references are fixed by 'ent' -/
abbrev Mm : Type := Nat → Nat → Int32
def rset (M : Mm) (k : Nat) (r : Nat → Int32) : Mm := fun k' => if k' = k then r else M k'
def mw (M : Mm) (k j : Nat) (x : Int32) : Mm := rset M k (upd (M k) j x)
theorem rset_eq (M : Mm) (k : Nat) (r : Nat → Int32) : rset M k r k = r := if_pos rfl
theorem rset_ne (M : Mm) {k k' : Nat} (r : Nat → Int32) (h : k' ≠ k) : rset M k r k' = M k' := if_neg h
theorem rset_rset (M : Mm) (k : Nat) (r r' : Nat → Int32) : rset (rset M k r) k r' = rset M k r' := by
  funext k'
  by_cases h : k' = k
  · subst h; rw [rset_eq, rset_eq]
  · rw [rset_ne _ _ h, rset_ne _ _ h, rset_ne _ _ h]
theorem rset_same (M : Mm) (k : Nat) : rset M k (M k) = M := by
  funext k'
  by_cases h : k' = k
  · subst h; rw [rset_eq]
  · rw [rset_ne _ _ h]
theorem rset_comm (M : Mm) {k k' : Nat} (r r' : Nat → Int32) (h : k ≠ k') : rset (rset M k r) k' r' = rset (rset M k' r') k r := by
  funext i
  by_cases h1 : i = k'
  · subst h1; rw [rset_eq, rset_ne _ _ (Ne.symm h), rset_eq]
  · rw [rset_ne _ _ h1]
    by_cases h2 : i = k
    · subst h2; rw [rset_eq, rset_eq]
    · rw [rset_ne _ _ h2, rset_ne _ _ h2, rset_ne _ _ h1]
theorem mw_eq (M : Mm) (k j : Nat) (x : Int32) : mw M k j x k j = x := by
  unfold mw; rw [rset_eq]; exact pk_us
theorem mw_nj (M : Mm) (k : Nat) {j j' : Nat} (x : Int32) (h : j' ≠ j) : mw M k j x k j' = M k j' := by
  unfold mw; rw [rset_eq]; exact pk_un h
theorem mw_nk (M : Mm) {k k' : Nat} (j : Nat) (x : Int32) (h : k' ≠ k) : mw M k j x k' = M k' := rset_ne _ _ h
theorem mw_row (M : Mm) (k j : Nat) (x : Int32) : mw M k j x k = upd (M k) j x := rset_eq _ _ _
def ai (cA : Nat → ClassId) (n : Nat) (r : Nat → Int32) : va_E := .inl (cA 0, n, .inl r)
def ab (cA : Nat → ClassId) (n : Nat) (r : Nat → Int32) : va_E := .inl (cA 1, n, .inl r)
def ag (c : ClassId) (n : Nat) (g : Nat → Option Nat) : va_E := .inl (c, n, .inr (.inr (.inr (.inr g))))

def ent (ad : Nat → Nat) (cA : Nat → ClassId) (k : Nat) (r : Nat → Int32) : va_E := match k with
  | 0 => .inr (6, [.ref (ad 1), .ref (ad 22), .int (r 2), .ref (ad 43), .ref (ad 52), .ref (ad 56), .ref (ad 58), .ref (ad 62), .ref (ad 63), .ref (ad 64)])
  | 1 => .inr (5, [.int (r 0), .ref (ad 2), .ref (ad 3), .ref (ad 4), .ref (ad 5), .ref (ad 6), .ref (ad 7), .ref (ad 8), .ref (ad 9)])
  | 2 => ai cA 36 r
  | 3 => ai cA 8 r
  | 4 => ai cA 8 r
  | 5 => ai cA 6 r
  | 6 => ai cA 6 r
  | 7 => ai cA 6 r
  | 8 => ag (cA 2) 6 (fun f => some (ad (10 + 2 * f)))
  | 9 => ai cA 6 r
  | 10 => .inr (3, [.int (r 0), .ref (ad 11)])
  | 11 => ai cA 64 r
  | 12 => .inr (3, [.int (r 0), .ref (ad 13)])
  | 13 => ai cA 64 r
  | 14 => .inr (3, [.int (r 0), .ref (ad 15)])
  | 15 => ai cA 64 r
  | 16 => .inr (3, [.int (r 0), .ref (ad 17)])
  | 17 => ai cA 64 r
  | 18 => .inr (3, [.int (r 0), .ref (ad 19)])
  | 19 => ai cA 64 r
  | 20 => .inr (3, [.int (r 0), .ref (ad 21)])
  | 21 => ai cA 64 r
  | 22 => .inr (5, [.int (r 0), .ref (ad 23), .ref (ad 24), .ref (ad 25), .ref (ad 26), .ref (ad 27), .ref (ad 28), .ref (ad 29), .ref (ad 30)])
  | 23 => ai cA 36 r
  | 24 => ai cA 8 r
  | 25 => ai cA 8 r
  | 26 => ai cA 6 r
  | 27 => ai cA 6 r
  | 28 => ai cA 6 r
  | 29 => ag (cA 2) 6 (fun f => some (ad (31 + 2 * f)))
  | 30 => ai cA 6 r
  | 31 => .inr (3, [.int (r 0), .ref (ad 32)])
  | 32 => ai cA 64 r
  | 33 => .inr (3, [.int (r 0), .ref (ad 34)])
  | 34 => ai cA 64 r
  | 35 => .inr (3, [.int (r 0), .ref (ad 36)])
  | 36 => ai cA 64 r
  | 37 => .inr (3, [.int (r 0), .ref (ad 38)])
  | 38 => ai cA 64 r
  | 39 => .inr (3, [.int (r 0), .ref (ad 40)])
  | 40 => ai cA 64 r
  | 41 => .inr (3, [.int (r 0), .ref (ad 42)])
  | 42 => ai cA 64 r
  | 43 => ag (cA 3) 4 (fun i => some (ad (44 + 2 * i)))
  | 44 => .inr (0, [.int (r 0), .ref (ad 45)])
  | 45 => ai cA 64 r
  | 46 => .inr (0, [.int (r 0), .ref (ad 47)])
  | 47 => ai cA 64 r
  | 48 => .inr (0, [.int (r 0), .ref (ad 49)])
  | 49 => ai cA 64 r
  | 50 => .inr (0, [.int (r 0), .ref (ad 51)])
  | 51 => ai cA 64 r
  | 52 => .inr (4, [.int (r 0), .int (r 1), .ref (ad 53), .ref (ad 54), .ref (ad 55), .int (r 5)])
  | 53 => ai cA 20 r
  | 54 => ai cA 60 r
  | 55 => ab cA 100 r
  | 56 => .inr (1, [.int (r 0), .ref (ad 57)])
  | 57 => ab cA 511 r
  | 58 => .inr (2, [.int (r 0), .ref (ad 59), .ref (ad 60), .ref (ad 61)])
  | 59 => ai cA 6 r
  | 60 => ai cA 6 r
  | 61 => ai cA 6 r
  | 62 => ai cA 64 r
  | 63 => ai cA 64 r
  | 64 => ai cA 6 r
  | 65 => .inr (7, [.int (r 0), .ref (ad 66), .ref (ad 67), .ref (ad 68), .ref (ad 69), .ref (ad 70), .ref (ad 71), .ref (ad 72), .ref (ad 73), .ref (ad 80), .ref (ad 81), .ref (ad 82), .int (r 12), .ref (ad 83), .int (r 14), .int (r 15), .int (r 16), .ref (ad 84), .ref (ad 85), .ref (ad 86), .int (r 20), .ref (ad 87), .ref (ad 88), .int (r 23), .int (r 24), .ref (ad 93), .ref (ad 101)])
  | 66 => ai cA 36 r
  | 67 => ai cA 8 r
  | 68 => ai cA 8 r
  | 69 => ai cA 6 r
  | 70 => ai cA 6 r
  | 71 => ai cA 6 r
  | 72 => ai cA 6 r
  | 73 => ag (cA 4) 6 (fun f => some (ad (74 + f)))
  | 74 => ai cA 64 r
  | 75 => ai cA 64 r
  | 76 => ai cA 64 r
  | 77 => ai cA 64 r
  | 78 => ai cA 64 r
  | 79 => ai cA 64 r
  | 80 => ai cA 64 r
  | 81 => ai cA 6 r
  | 82 => ai cA 7 r
  | 83 => ab cA 100 r
  | 84 => ai cA 100 r
  | 85 => ai cA 300 r
  | 86 => ab cA 512 r
  | 87 => ai cA 4 r
  | 88 => ag (cA 4) 4 (fun f => some (ad (89 + f)))
  | 89 => ai cA 64 r
  | 90 => ai cA 64 r
  | 91 => ai cA 64 r
  | 92 => ai cA 64 r
  | 93 => ag (cA 4) 7 (fun f => some (ad (94 + f)))
  | 94 => ai cA 36 r
  | 95 => ai cA 36 r
  | 96 => ai cA 36 r
  | 97 => ai cA 36 r
  | 98 => ai cA 36 r
  | 99 => ai cA 36 r
  | 100 => ai cA 36 r
  | 101 => ag (cA 4) 6 (fun f => some (ad (102 + f)))
  | 102 => ai cA 64 r
  | 103 => ai cA 64 r
  | 104 => ai cA 64 r
  | 105 => ai cA 64 r
  | 106 => ai cA 64 r
  | _ => ai cA 64 r
abbrev Am : Type := (Nat × Nat) × (Nat → Nat) × (Nat → Nat)
/-- the tables of the objects, the cells' numbers, their addresses, the array classes, the statics' addresses -/
abbrev Ev : Type := va_G × List Nat × (Nat → Nat) × (Nat → ClassId) × Am
abbrev adE (E : Ev) : Nat → Nat := E.2.2.1
def wlist (E : Ev) (M : Mm) : va_W := E.2.1.map (fun k => (E.2.2.1 k, ent E.2.2.1 E.2.2.2.1 k (M k)))
def inW (E : Ev) : Nat → Prop := fun q => ∃ k, k ∈ E.2.1 ∧ q = E.2.2.1 k
def tysE (E : Ev) : List (ClassId × FieldType) := [(E.2.2.2.1 0, .int), (E.2.2.2.1 1, .byte), (E.2.2.2.1 2, .object "LesseningGains$SetFunction"), (E.2.2.2.1 3, .object "LesseningGains$NumberList"), (E.2.2.2.1 4, .array .int)]
theorem wlist_get {E : Ev} {M : Mm} {k : Nat} (h : k ∈ E.2.1) : ∃ q : Nat, E.2.1[q]? = some k ∧ (wlist E M)[q]? = some (E.2.2.1 k, ent E.2.2.1 E.2.2.2.1 k (M k)) := by
  obtain ⟨q, hq⟩ := List.getElem?_of_mem h
  exact ⟨q, hq, by unfold wlist; rw [List.getElem?_map, hq]; rfl⟩
theorem wlist_set {E : Ev} {M : Mm} {A : Nat → Prop} {k q : Nat} {r : Nat → Int32} {x : va_E} (hD : va_D A (wlist E M)) (hq : E.2.1[q]? = some k) (he : ent E.2.2.1 E.2.2.2.1 k r = x) : (wlist E M).set q (E.2.2.1 k, x) = wlist E (rset M k r) := by
  have hlt : q < E.2.1.length := (List.getElem?_eq_some_iff.mp hq).1
  have hw : ∀ i, (wlist E M)[i]? = (E.2.1[i]?).map (fun k => (E.2.2.1 k, ent E.2.2.1 E.2.2.2.1 k (M k))) := fun i => by unfold wlist; rw [List.getElem?_map]
  apply List.ext_getElem?
  intro i
  have hr : (wlist E (rset M k r))[i]? = (E.2.1[i]?).map (fun k' => (E.2.2.1 k', ent E.2.2.1 E.2.2.2.1 k' (rset M k r k'))) := by unfold wlist; rw [List.getElem?_map]
  rw [hr]
  by_cases hi : i = q
  · subst hi
    rw [List.getElem?_set_self (by unfold wlist; rw [List.length_map]; exact hlt), hq]
    have e2 : ent E.2.2.1 E.2.2.2.1 k (rset M k r k) = x := by rw [rset_eq, he]
    show some (E.2.2.1 k, x) = some (E.2.2.1 k, ent E.2.2.1 E.2.2.2.1 k (rset M k r k))
    rw [e2]
  · rw [List.getElem?_set_ne (Ne.symm hi), hw]
    cases hc : E.2.1[i]? with
    | none => rfl
    | some k' =>
      have hne : k' ≠ k := fun e => by
        subst e
        exact hi (hD.1 i q _ _ (by rw [hw, hc]; rfl) (by rw [hw, hq]; rfl) rfl)
      show some (E.2.2.1 k', ent E.2.2.1 E.2.2.2.1 k' (M k')) = some (E.2.2.1 k', ent E.2.2.1 E.2.2.2.1 k' (rset M k r k'))
      rw [rset_ne _ _ hne]
theorem inW_A {E : Ev} {M : Mm} : va_D (fun _ => True) (wlist E M) → va_D (inW E) (wlist E M) := fun h => ⟨h.1, fun k q hk => by
  unfold wlist at hk
  rw [List.getElem?_map] at hk
  cases hc : E.2.1[k]? with
  | none => rw [hc] at hk; cases hk
  | some k' => rw [hc] at hk; cases hk; exact ⟨k', List.mem_of_getElem? hc, rfl⟩⟩
/-! what stands around the world and is only read: links to a nest mate, two static tables, the String constants -/
def aboveL : List Int32 := [-1, 0, 0, 0, 3, 1]
def numbersL : List Int32 := [3, 3, 2, 2, 2, 1, 1, 1, 1, 3, 2]
def bytL : List (List Int32) := [[97, 114, 99], [105, 116, 101, 109], [98, 108, 111, 99, 107], [99, 97, 112], [119, 101, 105, 103, 104, 116], [99, 117, 116], [99, 111, 118, 101, 114], [99, 97, 112, 112, 101, 100], [119, 101, 105, 103, 104, 101, 100], [115, 117, 109], [116, 117, 114, 110]]
def lenL : List Nat := [3, 4, 5, 3, 6, 3, 5, 6, 7, 3, 4]
def strL : List (String × Nat × String × Nat) := [(RX4, 76, "arc", 0), (RX4, 78, "item", 1), (RX4, 80, "block", 2), (RX4, 82, "cap", 3), (RX4, 84, "weight", 4), (RX4, 86, "cut", 5), (RX4, 88, "cover", 6), (RX4, 90, "capped", 7), (RX4, 92, "weighed", 8), (RX4, 94, "sum", 9), (RX4, 96, "turn", 10),
  (RX7, 264, "arc", 0), (RX7, 266, "item", 1), (RX7, 268, "sum", 9), (RX7, 270, "block", 2), (RX7, 272, "cap", 3), (RX7, 274, "weight", 4), (RX7, 276, "turn", 10), (RX7, 278, "cut", 5), (RX7, 280, "cover", 6), (RX7, 282, "capped", 7), (RX7, 284, "weighed", 8)]
def Amb (am : Am) (A : Nat → Prop) (U : State) (H : Heap) : Prop :=
  (va_Nw (.methodLinkNest RX3 35 yX6_holds RX6) U ∧ va_Nw (.methodLinkNest RX5 88 yX6_holds RX6) U) ∧
  (va_Z RX6 "ABOVE" "[I" (.ref am.1.1) A U H ∧ va_T .int am.1.1 6 (fun j => .int (aboveL.getD j 0)) A U H) ∧
  (va_Z RX4 "NUMBERS" "[I" (.ref am.1.2) A U H ∧ va_T .int am.1.2 11 (fun j => .int (numbersL.getD j 0)) A U H) ∧
  (va_Z "java/lang/String" "COMPACT_STRINGS" "Z" (.int 1) A U H ∧ va_Zq "jdk/internal/util/Preconditions" "SIOOBE_FORMATTER" "Ljava/util/function/BiFunction;" A U H) ∧
  vk_S 11 lenL bytL am.2.1 am.2.2 A U H ∧ (∀ q ∈ strL, vk_R q.1 q.2.1 q.2.2.1 (am.2.1 q.2.2.2) U)
theorem Amb.same {am : Am} {A : Nat → Prop} {u U : State} {H : Heap} (h : Amb am A u H) (hv : u.vm = U.vm) : Amb am A U H := by
  obtain ⟨⟨n1, n2⟩, ⟨z1, t1⟩, ⟨z2, t2⟩, z3, s1, s2⟩ := h
  have ha : u.vm.Alike U.vm := by rw [hv]; exact Vm.Alike.refl _
  exact ⟨⟨va_Nw.same rfl hv n1, va_Nw.same rfl hv n2⟩, ⟨z1.moved ha, t1.moved ha⟩, ⟨z2.moved ha, t2.moved ha⟩, ⟨z3.1.moved ha, z3.2.moved ha⟩, s1.moved ha, fun q hq => vk_R.same hv.symm (s2 q hq)⟩
theorem Amb.warm {am : Am} {A : Nat → Prop} {s U : State} {H : Heap} (h : Amb am A s H) (hW : s.WarmedH U.vm) : Amb am A U H := by
  obtain ⟨⟨n1, n2⟩, ⟨z1, t1⟩, ⟨z2, t2⟩, z3, s1, s2⟩ := h
  have ha : s.vm.Alike U.vm := hW.alike
  exact ⟨⟨va_Nw.warmM hW n1, va_Nw.warmM hW n2⟩, ⟨z1.moved ha, t1.moved ha⟩, ⟨z2.moved ha, t2.moved ha⟩, ⟨z3.1.moved ha, z3.2.moved ha⟩, s1.moved ha, fun q hq => vk_R.warm hW (s2 q hq)⟩
theorem Amb.kept {am : Am} {A : Nat → Prop} {U : State} {H H1 : Heap} (h : Amb am A U H) (hq : ∀ a : Nat, a < H.size → ¬ A a → H1[a]? = H[a]?) : Amb am A U H1 := by
  obtain ⟨n, ⟨z1, t1⟩, ⟨z2, t2⟩, z3, s1, s2⟩ := h
  exact ⟨n, ⟨z1.kept hq, t1.kept hq⟩, ⟨z2.kept hq, t2.kept hq⟩, ⟨z3.1.kept hq, z3.2.kept hq⟩, s1.kept hq, s2⟩
theorem Amb.narrow {am : Am} {A B : Nat → Prop} {U : State} {H : Heap} (h : Amb am A U H) (hAB : ∀ q, B q → A q) : Amb am B U H := by
  obtain ⟨n, ⟨z1, t1⟩, ⟨z2, t2⟩, z3, s1, s2⟩ := h
  exact ⟨n, ⟨z1.narrow hAB, t1.narrow hAB⟩, ⟨z2.narrow hAB, t2.narrow hAB⟩, ⟨z3.1.narrow hAB, z3.2.narrow hAB⟩, s1.narrow hAB, s2⟩
/-! the world in a state, a contract, the judgement -/
def StW (E : Ev) (M : Mm) (U : State) : Prop := va_P E.1 vwCl (wlist E M) U.heap ∧ va_K E.1 vwCl (tysE E) U ∧ va_D (fun _ => True) (wlist E M) ∧ Amb E.2.2.2.2 (inW E) U U.heap
def rmD (d : Nat) : Room := { frames := d, cells := 0, slots := 0, locals := 60 * d }
def CmQ (E : Ev) (post : Option Value → Mm → Prop) : Array Value → State → Outcome → State → Prop := fun _ st oc t => (∃ (r : Option Value) (M' : Mm), oc = .returned r ∧ post r M' ∧ StW E M' t) ∧ va_F (inW E) st t
def Cm (l : Launch) (E : Ev) (y : MethodName) (cc : ByteArray) (maxL : Nat) (ret : Option FieldType) (d : Nat) (as : List Value) (M : Mm) (post : Option Value → Mm → Prop) : Prop :=
  Met l y (Cond.code y cc maxL ret :: wsT) (rmD d) (va_Pc as (StW E M)) (CmQ E post) 0 0 (inW E)
abbrev Kt : Type := (Program × Env × Room × State × MethodId × Array Value) × (List Frame × Method × Code × Nat × Nat) × ((State → Prop) × (Nat → Prop) × Nat)
def G (l : Launch) (E : Ev) (K : Kt) (pc : Nat) (lv : List (Nat × Value)) (st : List Value) (M : Mm) : Prop :=
  match K with
  | ((p, e, R, s, m, args), (below, meth, c, cells, slots), (Q, A, nL)) => ∀ (H : Heap) (locs : List Loc) (ls : Array Slot), lv_has ls nL lv → va_P E.1 vwCl (wlist E M) H → va_D A (wlist E M) → va_S A s.heap H locs → W p l e R s m args below meth c H locs cells slots Q (F0 m pc ls st)
def Ok (l : Launch) (E : Ev) (K : Kt) (cc : ByteArray) (own : String) (d nL : Nat) : Prop :=
  match K with
  | ((p, _, R, s, m, args), (_, _, c, cells, slots), (_, A, nL')) => p.tables.exec = Jvm.exec ∧ c.code = cc ∧ c.maxLocals = nL ∧ nL' = nL ∧ s.vm.findClass own = some m.cls ∧ (∀ w ∈ wsT, w.before args s = true) ∧ va_K E.1 vwCl (tysE E) s ∧ Amb E.2.2.2.2 A s s.heap ∧ (∀ q, inW E q → A q) ∧ d ≤ R.frames ∧ 60 * d ≤ R.locals ∧ cells ≤ R.cells ∧ slots ≤ R.slots
def Rt (E : Ev) (K : Kt) (ret : Option FieldType) (post : Option Value → Mm → Prop) : Prop :=
  match K with
  | ((_, _, _, s, _, args), (below, meth, _, cells, slots), (Q, A, _)) => Q = MQ below (CmQ E post) args s 0 0 (inW E) ∧ cells = 0 ∧ slots = 0 ∧ A = inW E ∧ meth.sig.returnType = ret ∧ meth.locks = false
theorem ws_goodIn : ∀ w ∈ wsT, w ∈ wsT ∧ ((w.onTables && w.keeps) = true ∨ ∃ ty, w = .arrayClass ty) := fun w h => ⟨h, good_of_word (List.mem_filter.mp h).2⟩
theorem ws_goodC {c : Cond} (h : c ∈ wsT) : GoodIn wsT (c :: wsT) := fun w hw => (List.mem_cons.mp hw).elim (fun e => by rw [e]; exact ws_goodIn c h) (fun h => ws_goodIn w h)
theorem StW.blind {E : Ev} {M : Mm} {as : List Value} : FrameBlind (va_Pc as (StW E M)) := fun a U g mk h => by
  obtain ⟨h0, hP, hK, hD, hA⟩ := h
  exact ⟨h0, hP, va_K.moved (u := U) (U := U.calling g mk a) (Vm.Alike.refl U.vm) hK, hD, hA.same (U := U.calling g mk a) rfl⟩
/-- a contract out of a walk in the judgement -/
theorem Cm.of {l : Launch} {E : Ev} {y : MethodName} {cc : ByteArray} {maxL : Nat} {ret : Option FieldType} {d : Nat} {as : List Value} {M : Mm} {post : Option Value → Mm → Prop} (hy : plainName y.cls = true) (hn : (lg_sl as).length ≤ maxL)
    (body : ∀ K : Kt, Ok l E K cc y.cls d maxL → Rt E K ret post → G l E K 0 (lv_args 0 as) [] M) : Cm l E y cc maxL ret d as M post := by
  refine Met.ofW (cc := cc) (maxL := maxL) (ret := ret) hy rfl ?_
  intro p e s m args below meth c s₁ B hml hv
  obtain ⟨rfl, hP, hK, hD, hA⟩ := hv
  have hts := atoms_spec (ws := Cond.code y cc maxL ret :: wsT) B.pre
  have hown : s.vm.findClass y.cls = some m.cls := findClass_of_methodNamed B.named
  rw [lg_entry_eq]
  exact body ((p, e, rmD d, s, m, as.toArray), (below, meth, c, 0, 0), (MQ below (CmQ E post) as.toArray s 0 0 (inW E), inW E, maxL))
    ⟨B.exec, B.bytes, hml, rfl, hown, fun w h => hts w (List.mem_cons_of_mem _ h), hK, hA, fun _ h => h, Nat.le_refl _, Nat.le_refl _, Nat.le_refl _, Nat.le_refl _⟩
    ⟨rfl, rfl, rfl, rfl, B.returns, B.notSynchronized⟩ s.heap [] _ (lv_entry as hn) hP (inW_A hD) va_S.rf
theorem stw_end {E : Ev} {M : Mm} {s t : State} {H : Heap} {A : Nat → Prop} {locs : List Loc} (hP : va_P E.1 vwCl (wlist E M) H) (hK : va_K E.1 vwCl (tysE E) s) (hD : va_D A (wlist E M)) (hA : Amb E.2.2.2.2 A s s.heap) (hS : va_S A s.heap H locs) (hin : ∀ q, inW E q → A q) (ht : t.heap = H) (hW : s.WarmedH t.vm) : StW E M t :=
  ⟨by rw [ht]; exact hP, va_K.moved hW.alike hK, hD.weaken (fun _ _ _ _ => trivial), by rw [ht]; exact ((hA.kept (fun a h1 h2 => hS.2.1 a h1 h2)).warm hW).narrow hin⟩

theorem gs_iadd {l : Launch} {E : Ev} {K : Kt} {cc : ByteArray} {own : String} {d nL pc : Nat} {lv : List (Nat × Value)} {st : List Value} {M : Mm} {x y : Int32} (k : Ok l E K cc own d nL)  (hd : decode cc pc = .ok (.iadd, 1)) (h : G l E K (pc + 1) lv (.int (x + y) :: st) M) : G l E K pc lv (.int y :: .int x :: st) M := by
  obtain ⟨⟨p, e, R, s, m, args⟩, ⟨below, meth, c, cells, slots⟩, ⟨Q, A, nL'⟩⟩ := K
  obtain ⟨hx, hb, hml, hnl, hown, hts, hK, hA, hin, hfr, hlo, hce, hsl⟩ := id k
  subst hnl
  intro H locs ls hl hP hD hS
  exact lv_iadd hx hb hd (h H locs ls hl hP hD hS)
theorem gs_isub {l : Launch} {E : Ev} {K : Kt} {cc : ByteArray} {own : String} {d nL pc : Nat} {lv : List (Nat × Value)} {st : List Value} {M : Mm} {x y : Int32} (k : Ok l E K cc own d nL)  (hd : decode cc pc = .ok (.isub, 1)) (h : G l E K (pc + 1) lv (.int (x - y) :: st) M) : G l E K pc lv (.int y :: .int x :: st) M := by
  obtain ⟨⟨p, e, R, s, m, args⟩, ⟨below, meth, c, cells, slots⟩, ⟨Q, A, nL'⟩⟩ := K
  obtain ⟨hx, hb, hml, hnl, hown, hts, hK, hA, hin, hfr, hlo, hce, hsl⟩ := id k
  subst hnl
  intro H locs ls hl hP hD hS
  exact lv_isub hx hb hd (h H locs ls hl hP hD hS)
theorem gs_imul {l : Launch} {E : Ev} {K : Kt} {cc : ByteArray} {own : String} {d nL pc : Nat} {lv : List (Nat × Value)} {st : List Value} {M : Mm} {x y : Int32} (k : Ok l E K cc own d nL)  (hd : decode cc pc = .ok (.imul, 1)) (h : G l E K (pc + 1) lv (.int (x * y) :: st) M) : G l E K pc lv (.int y :: .int x :: st) M := by
  obtain ⟨⟨p, e, R, s, m, args⟩, ⟨below, meth, c, cells, slots⟩, ⟨Q, A, nL'⟩⟩ := K
  obtain ⟨hx, hb, hml, hnl, hown, hts, hK, hA, hin, hfr, hlo, hce, hsl⟩ := id k
  subst hnl
  intro H locs ls hl hP hD hS
  exact lv_imul hx hb hd (h H locs ls hl hP hD hS)
theorem gs_iand {l : Launch} {E : Ev} {K : Kt} {cc : ByteArray} {own : String} {d nL pc : Nat} {lv : List (Nat × Value)} {st : List Value} {M : Mm} {x y : Int32} (k : Ok l E K cc own d nL)  (hd : decode cc pc = .ok (.iand, 1)) (h : G l E K (pc + 1) lv (.int (x &&& y) :: st) M) : G l E K pc lv (.int y :: .int x :: st) M := by
  obtain ⟨⟨p, e, R, s, m, args⟩, ⟨below, meth, c, cells, slots⟩, ⟨Q, A, nL'⟩⟩ := K
  obtain ⟨hx, hb, hml, hnl, hown, hts, hK, hA, hin, hfr, hlo, hce, hsl⟩ := id k
  subst hnl
  intro H locs ls hl hP hD hS
  exact lv_iand hx hb hd (h H locs ls hl hP hD hS)
theorem gs_ior {l : Launch} {E : Ev} {K : Kt} {cc : ByteArray} {own : String} {d nL pc : Nat} {lv : List (Nat × Value)} {st : List Value} {M : Mm} {x y : Int32} (k : Ok l E K cc own d nL)  (hd : decode cc pc = .ok (.ior, 1)) (h : G l E K (pc + 1) lv (.int (x ||| y) :: st) M) : G l E K pc lv (.int y :: .int x :: st) M := by
  obtain ⟨⟨p, e, R, s, m, args⟩, ⟨below, meth, c, cells, slots⟩, ⟨Q, A, nL'⟩⟩ := K
  obtain ⟨hx, hb, hml, hnl, hown, hts, hK, hA, hin, hfr, hlo, hce, hsl⟩ := id k
  subst hnl
  intro H locs ls hl hP hD hS
  exact lv_ior hx hb hd (h H locs ls hl hP hD hS)
theorem gs_ixor {l : Launch} {E : Ev} {K : Kt} {cc : ByteArray} {own : String} {d nL pc : Nat} {lv : List (Nat × Value)} {st : List Value} {M : Mm} {x y : Int32} (k : Ok l E K cc own d nL)  (hd : decode cc pc = .ok (.ixor, 1)) (h : G l E K (pc + 1) lv (.int (x ^^^ y) :: st) M) : G l E K pc lv (.int y :: .int x :: st) M := by
  obtain ⟨⟨p, e, R, s, m, args⟩, ⟨below, meth, c, cells, slots⟩, ⟨Q, A, nL'⟩⟩ := K
  obtain ⟨hx, hb, hml, hnl, hown, hts, hK, hA, hin, hfr, hlo, hce, hsl⟩ := id k
  subst hnl
  intro H locs ls hl hP hD hS
  exact lv_ixor hx hb hd (h H locs ls hl hP hD hS)
theorem gs_ishl {l : Launch} {E : Ev} {K : Kt} {cc : ByteArray} {own : String} {d nL pc : Nat} {lv : List (Nat × Value)} {st : List Value} {M : Mm} {x y : Int32} (k : Ok l E K cc own d nL)  (hd : decode cc pc = .ok (.ishl, 1)) (h : G l E K (pc + 1) lv (.int (x <<< (y &&& 31)) :: st) M) : G l E K pc lv (.int y :: .int x :: st) M := by
  obtain ⟨⟨p, e, R, s, m, args⟩, ⟨below, meth, c, cells, slots⟩, ⟨Q, A, nL'⟩⟩ := K
  obtain ⟨hx, hb, hml, hnl, hown, hts, hK, hA, hin, hfr, hlo, hce, hsl⟩ := id k
  subst hnl
  intro H locs ls hl hP hD hS
  exact lv_ishl hx hb hd (h H locs ls hl hP hD hS)
theorem gs_ishr {l : Launch} {E : Ev} {K : Kt} {cc : ByteArray} {own : String} {d nL pc : Nat} {lv : List (Nat × Value)} {st : List Value} {M : Mm} {x y : Int32} (k : Ok l E K cc own d nL)  (hd : decode cc pc = .ok (.ishr, 1)) (h : G l E K (pc + 1) lv (.int (x >>> (y &&& 31)) :: st) M) : G l E K pc lv (.int y :: .int x :: st) M := by
  obtain ⟨⟨p, e, R, s, m, args⟩, ⟨below, meth, c, cells, slots⟩, ⟨Q, A, nL'⟩⟩ := K
  obtain ⟨hx, hb, hml, hnl, hown, hts, hK, hA, hin, hfr, hlo, hce, hsl⟩ := id k
  subst hnl
  intro H locs ls hl hP hD hS
  exact lv_ishr hx hb hd (h H locs ls hl hP hD hS)
theorem gs_iushr {l : Launch} {E : Ev} {K : Kt} {cc : ByteArray} {own : String} {d nL pc : Nat} {lv : List (Nat × Value)} {st : List Value} {M : Mm} {x y v : Int32} (k : Ok l E K cc own d nL) (hv : (x.toUInt32 >>> (y.toUInt32 &&& Int32.toUInt32 31)).toInt32 = v) (hd : decode cc pc = .ok (.iushr, 1)) (h : G l E K (pc + 1) lv (.int v :: st) M) : G l E K pc lv (.int y :: .int x :: st) M := by
  obtain ⟨⟨p, e, R, s, m, args⟩, ⟨below, meth, c, cells, slots⟩, ⟨Q, A, nL'⟩⟩ := K
  obtain ⟨hx, hb, hml, hnl, hown, hts, hK, hA, hin, hfr, hlo, hce, hsl⟩ := id k
  subst hnl
  intro H locs ls hl hP hD hS
  exact lv_iushr hx hb hd hv (h H locs ls hl hP hD hS)
theorem gs_idiv {l : Launch} {E : Ev} {K : Kt} {cc : ByteArray} {own : String} {d nL pc : Nat} {lv : List (Nat × Value)} {st : List Value} {M : Mm} {x y : Int32} (k : Ok l E K cc own d nL) (hne : ¬ y = 0) (hd : decode cc pc = .ok (.idiv, 1)) (h : G l E K (pc + 1) lv (.int (x / y) :: st) M) : G l E K pc lv (.int y :: .int x :: st) M := by
  obtain ⟨⟨p, e, R, s, m, args⟩, ⟨below, meth, c, cells, slots⟩, ⟨Q, A, nL'⟩⟩ := K
  obtain ⟨hx, hb, hml, hnl, hown, hts, hK, hA, hin, hfr, hlo, hce, hsl⟩ := id k
  subst hnl
  intro H locs ls hl hP hD hS
  exact lv_idiv hx hb hd hne (h H locs ls hl hP hD hS)
theorem gs_irem {l : Launch} {E : Ev} {K : Kt} {cc : ByteArray} {own : String} {d nL pc : Nat} {lv : List (Nat × Value)} {st : List Value} {M : Mm} {x y : Int32} (k : Ok l E K cc own d nL) (hne : ¬ y = 0) (hd : decode cc pc = .ok (.irem, 1)) (h : G l E K (pc + 1) lv (.int (x - x / y * y) :: st) M) : G l E K pc lv (.int y :: .int x :: st) M := by
  obtain ⟨⟨p, e, R, s, m, args⟩, ⟨below, meth, c, cells, slots⟩, ⟨Q, A, nL'⟩⟩ := K
  obtain ⟨hx, hb, hml, hnl, hown, hts, hK, hA, hin, hfr, hlo, hce, hsl⟩ := id k
  subst hnl
  intro H locs ls hl hP hD hS
  exact lv_irem hx hb hd hne (h H locs ls hl hP hD hS)
theorem gs_ineg {l : Launch} {E : Ev} {K : Kt} {cc : ByteArray} {own : String} {d nL pc : Nat} {lv : List (Nat × Value)} {st : List Value} {M : Mm} {x : Int32} (k : Ok l E K cc own d nL)  (hd : decode cc pc = .ok (.ineg, 1)) (h : G l E K (pc + 1) lv (.int (-x) :: st) M) : G l E K pc lv (.int x :: st) M := by
  obtain ⟨⟨p, e, R, s, m, args⟩, ⟨below, meth, c, cells, slots⟩, ⟨Q, A, nL'⟩⟩ := K
  obtain ⟨hx, hb, hml, hnl, hown, hts, hK, hA, hin, hfr, hlo, hce, hsl⟩ := id k
  subst hnl
  intro H locs ls hl hP hD hS
  exact lv_ineg hx hb hd (h H locs ls hl hP hD hS)
theorem gs_i2l {l : Launch} {E : Ev} {K : Kt} {cc : ByteArray} {own : String} {d nL pc : Nat} {lv : List (Nat × Value)} {st : List Value} {M : Mm} {x : Int32} (k : Ok l E K cc own d nL)  (hd : decode cc pc = .ok (.i2l, 1)) (h : G l E K (pc + 1) lv (.long x.toInt64 :: st) M) : G l E K pc lv (.int x :: st) M := by
  obtain ⟨⟨p, e, R, s, m, args⟩, ⟨below, meth, c, cells, slots⟩, ⟨Q, A, nL'⟩⟩ := K
  obtain ⟨hx, hb, hml, hnl, hown, hts, hK, hA, hin, hfr, hlo, hce, hsl⟩ := id k
  subst hnl
  intro H locs ls hl hP hD hS
  exact lv_i2l hx hb hd rfl (h H locs ls hl hP hD hS)
theorem gs_i2b {l : Launch} {E : Ev} {K : Kt} {cc : ByteArray} {own : String} {d nL pc : Nat} {lv : List (Nat × Value)} {st : List Value} {M : Mm} {x v : Int32} (k : Ok l E K cc own d nL) (hv : x.toInt8.toInt32 = v) (hd : decode cc pc = .ok (.i2b, 1)) (h : G l E K (pc + 1) lv (.int v :: st) M) : G l E K pc lv (.int x :: st) M := by
  obtain ⟨⟨p, e, R, s, m, args⟩, ⟨below, meth, c, cells, slots⟩, ⟨Q, A, nL'⟩⟩ := K
  obtain ⟨hx, hb, hml, hnl, hown, hts, hK, hA, hin, hfr, hlo, hce, hsl⟩ := id k
  subst hnl
  intro H locs ls hl hP hD hS
  exact lv_i2b hx hb hd hv (h H locs ls hl hP hD hS)
theorem gs_i2c {l : Launch} {E : Ev} {K : Kt} {cc : ByteArray} {own : String} {d nL pc : Nat} {lv : List (Nat × Value)} {st : List Value} {M : Mm} {x v : Int32} (k : Ok l E K cc own d nL) (hv : (x.toUInt32 % 65536).toInt32 = v) (hd : decode cc pc = .ok (.i2c, 1)) (h : G l E K (pc + 1) lv (.int v :: st) M) : G l E K pc lv (.int x :: st) M := by
  obtain ⟨⟨p, e, R, s, m, args⟩, ⟨below, meth, c, cells, slots⟩, ⟨Q, A, nL'⟩⟩ := K
  obtain ⟨hx, hb, hml, hnl, hown, hts, hK, hA, hin, hfr, hlo, hce, hsl⟩ := id k
  subst hnl
  intro H locs ls hl hP hD hS
  exact lv_i2c hx hb hd hv (h H locs ls hl hP hD hS)
theorem gs_lmul {l : Launch} {E : Ev} {K : Kt} {cc : ByteArray} {own : String} {d nL pc : Nat} {lv : List (Nat × Value)} {st : List Value} {M : Mm} {x y : Int64} (k : Ok l E K cc own d nL)  (hd : decode cc pc = .ok (.lmul, 1)) (h : G l E K (pc + 1) lv (.long (x * y) :: st) M) : G l E K pc lv (.long y :: .long x :: st) M := by
  obtain ⟨⟨p, e, R, s, m, args⟩, ⟨below, meth, c, cells, slots⟩, ⟨Q, A, nL'⟩⟩ := K
  obtain ⟨hx, hb, hml, hnl, hown, hts, hK, hA, hin, hfr, hlo, hce, hsl⟩ := id k
  subst hnl
  intro H locs ls hl hP hD hS
  exact lv_lmul hx hb hd (h H locs ls hl hP hD hS)
theorem gs_ladd {l : Launch} {E : Ev} {K : Kt} {cc : ByteArray} {own : String} {d nL pc : Nat} {lv : List (Nat × Value)} {st : List Value} {M : Mm} {x y : Int64} (k : Ok l E K cc own d nL)  (hd : decode cc pc = .ok (.ladd, 1)) (h : G l E K (pc + 1) lv (.long (x + y) :: st) M) : G l E K pc lv (.long y :: .long x :: st) M := by
  obtain ⟨⟨p, e, R, s, m, args⟩, ⟨below, meth, c, cells, slots⟩, ⟨Q, A, nL'⟩⟩ := K
  obtain ⟨hx, hb, hml, hnl, hown, hts, hK, hA, hin, hfr, hlo, hce, hsl⟩ := id k
  subst hnl
  intro H locs ls hl hP hD hS
  exact lv_ladd hx hb hd (h H locs ls hl hP hD hS)
theorem gs_lcmp {l : Launch} {E : Ev} {K : Kt} {cc : ByteArray} {own : String} {d nL pc : Nat} {lv : List (Nat × Value)} {st : List Value} {M : Mm} {x y : Int64} (k : Ok l E K cc own d nL)  (hd : decode cc pc = .ok (.lcmp, 1)) (h : G l E K (pc + 1) lv (.int (lg_cmp x y) :: st) M) : G l E K pc lv (.long y :: .long x :: st) M := by
  obtain ⟨⟨p, e, R, s, m, args⟩, ⟨below, meth, c, cells, slots⟩, ⟨Q, A, nL'⟩⟩ := K
  obtain ⟨hx, hb, hml, hnl, hown, hts, hK, hA, hin, hfr, hlo, hce, hsl⟩ := id k
  subst hnl
  intro H locs ls hl hP hD hS
  exact W.lcmp hx hb hd (h H locs ls hl hP hD hS)
theorem gs_dup {l : Launch} {E : Ev} {K : Kt} {cc : ByteArray} {own : String} {d nL pc : Nat} {lv : List (Nat × Value)} {st : List Value} {M : Mm} {v : Value} (k : Ok l E K cc own d nL) (hc : v.category = 1) (hd : decode cc pc = .ok (.dup, 1)) (h : G l E K (pc + 1) lv (v :: v :: st) M) : G l E K pc lv (v :: st) M := by
  obtain ⟨⟨p, e, R, s, m, args⟩, ⟨below, meth, c, cells, slots⟩, ⟨Q, A, nL'⟩⟩ := K
  obtain ⟨hx, hb, hml, hnl, hown, hts, hK, hA, hin, hfr, hlo, hce, hsl⟩ := id k
  subst hnl
  intro H locs ls hl hP hD hS
  exact lv_dup hx hb hd hc (h H locs ls hl hP hD hS)
theorem gs_pop {l : Launch} {E : Ev} {K : Kt} {cc : ByteArray} {own : String} {d nL pc : Nat} {lv : List (Nat × Value)} {st : List Value} {M : Mm} {v : Value} (k : Ok l E K cc own d nL) (hc : v.category = 1) (hd : decode cc pc = .ok (.pop, 1)) (h : G l E K (pc + 1) lv st M) : G l E K pc lv (v :: st) M := by
  obtain ⟨⟨p, e, R, s, m, args⟩, ⟨below, meth, c, cells, slots⟩, ⟨Q, A, nL'⟩⟩ := K
  obtain ⟨hx, hb, hml, hnl, hown, hts, hK, hA, hin, hfr, hlo, hce, hsl⟩ := id k
  subst hnl
  intro H locs ls hl hP hD hS
  exact lv_pop hx hb hd hc (h H locs ls hl hP hD hS)
theorem gs_dup2 {l : Launch} {E : Ev} {K : Kt} {cc : ByteArray} {own : String} {d nL pc : Nat} {lv : List (Nat × Value)} {st : List Value} {M : Mm} {v u : Value} (k : Ok l E K cc own d nL) (hc : v.category = 1) (hc2 : u.category = 1) (hd : decode cc pc = .ok (.dup2, 1)) (h : G l E K (pc + 1) lv (v :: u :: v :: u :: st) M) : G l E K pc lv (v :: u :: st) M := by
  obtain ⟨⟨p, e, R, s, m, args⟩, ⟨below, meth, c, cells, slots⟩, ⟨Q, A, nL'⟩⟩ := K
  obtain ⟨hx, hb, hml, hnl, hown, hts, hK, hA, hin, hfr, hlo, hce, hsl⟩ := id k
  subst hnl
  intro H locs ls hl hP hD hS
  exact lv_dup2_11 hx hb hd hc hc2 (h H locs ls hl hP hD hS)
theorem gs_iconst {l : Launch} {E : Ev} {K : Kt} {cc : ByteArray} {own : String} {d nL pc : Nat} {lv : List (Nat × Value)} {st : List Value} {M : Mm} {n : Int} {v : Int32} (k : Ok l E K cc own d nL) (hv : Int32.ofInt n = v) (hd : decode cc pc = .ok (.iconst n, 1)) (h : G l E K (pc + 1) lv (.int v :: st) M) : G l E K pc lv st M := by
  obtain ⟨⟨p, e, R, s, m, args⟩, ⟨below, meth, c, cells, slots⟩, ⟨Q, A, nL'⟩⟩ := K
  obtain ⟨hx, hb, hml, hnl, hown, hts, hK, hA, hin, hfr, hlo, hce, hsl⟩ := id k
  subst hnl
  intro H locs ls hl hP hD hS
  exact lv_iconst hx hb hd hv (h H locs ls hl hP hD hS)
theorem gs_bipush {l : Launch} {E : Ev} {K : Kt} {cc : ByteArray} {own : String} {d nL pc : Nat} {lv : List (Nat × Value)} {st : List Value} {M : Mm} {n : Int} {v : Int32} (k : Ok l E K cc own d nL) (hv : (Int8.ofInt n).toInt32 = v) (hd : decode cc pc = .ok (.bipush n, 2)) (h : G l E K (pc + 2) lv (.int v :: st) M) : G l E K pc lv st M := by
  obtain ⟨⟨p, e, R, s, m, args⟩, ⟨below, meth, c, cells, slots⟩, ⟨Q, A, nL'⟩⟩ := K
  obtain ⟨hx, hb, hml, hnl, hown, hts, hK, hA, hin, hfr, hlo, hce, hsl⟩ := id k
  subst hnl
  intro H locs ls hl hP hD hS
  exact lv_bipush hx hb hd hv (h H locs ls hl hP hD hS)
theorem gs_sipush {l : Launch} {E : Ev} {K : Kt} {cc : ByteArray} {own : String} {d nL pc : Nat} {lv : List (Nat × Value)} {st : List Value} {M : Mm} {n : Int} {v : Int32} (k : Ok l E K cc own d nL) (hv : (Int16.ofInt n).toInt32 = v) (hd : decode cc pc = .ok (.sipush n, 3)) (h : G l E K (pc + 3) lv (.int v :: st) M) : G l E K pc lv st M := by
  obtain ⟨⟨p, e, R, s, m, args⟩, ⟨below, meth, c, cells, slots⟩, ⟨Q, A, nL'⟩⟩ := K
  obtain ⟨hx, hb, hml, hnl, hown, hts, hK, hA, hin, hfr, hlo, hce, hsl⟩ := id k
  subst hnl
  intro H locs ls hl hP hD hS
  exact lv_sipush hx hb hd hv (h H locs ls hl hP hD hS)
theorem gs_lconst {l : Launch} {E : Ev} {K : Kt} {cc : ByteArray} {own : String} {d nL pc : Nat} {lv : List (Nat × Value)} {st : List Value} {M : Mm} {n : Fin 2} {v : Int64} (k : Ok l E K cc own d nL) (hv : Int64.ofNat (n : Nat) = v) (hd : decode cc pc = .ok (.lconst n, 1)) (h : G l E K (pc + 1) lv (.long v :: st) M) : G l E K pc lv st M := by
  obtain ⟨⟨p, e, R, s, m, args⟩, ⟨below, meth, c, cells, slots⟩, ⟨Q, A, nL'⟩⟩ := K
  obtain ⟨hx, hb, hml, hnl, hown, hts, hK, hA, hin, hfr, hlo, hce, hsl⟩ := id k
  subst hnl
  intro H locs ls hl hP hD hS
  exact lv_lconst hx hb hd hv (h H locs ls hl hP hD hS)
theorem gs_iload_n {l : Launch} {E : Ev} {K : Kt} {cc : ByteArray} {own : String} {d nL pc : Nat} {lv : List (Nat × Value)} {st : List Value} {M : Mm} {k0 : Fin 4} {i q : Nat} {x : Int32} (k : Ok l E K cc own d nL) (hi : (k0 : Nat) = i) (hq : lv[q]? = some (i, .int x)) (hd : decode cc pc = .ok (.iload_n k0, 1)) (h : G l E K (pc + 1) lv (.int x :: st) M) : G l E K pc lv st M := by
  obtain ⟨⟨p, e, R, s, m, args⟩, ⟨below, meth, c, cells, slots⟩, ⟨Q, A, nL'⟩⟩ := K
  obtain ⟨hx, hb, hml, hnl, hown, hts, hK, hA, hin, hfr, hlo, hce, hsl⟩ := id k
  subst hnl
  intro H locs ls hl hP hD hS
  exact lv_iload_n hx hb hd hi (lv_at hl q hq) (h H locs ls hl hP hD hS)
theorem gs_iload {l : Launch} {E : Ev} {K : Kt} {cc : ByteArray} {own : String} {d nL pc : Nat} {lv : List (Nat × Value)} {st : List Value} {M : Mm} {i q : Nat} {x : Int32} (k : Ok l E K cc own d nL) (hq : lv[q]? = some (i, .int x)) (hd : decode cc pc = .ok (.iload i, 2)) (h : G l E K (pc + 2) lv (.int x :: st) M) : G l E K pc lv st M := by
  obtain ⟨⟨p, e, R, s, m, args⟩, ⟨below, meth, c, cells, slots⟩, ⟨Q, A, nL'⟩⟩ := K
  obtain ⟨hx, hb, hml, hnl, hown, hts, hK, hA, hin, hfr, hlo, hce, hsl⟩ := id k
  subst hnl
  intro H locs ls hl hP hD hS
  exact lv_iload hx hb hd (lv_at hl q hq) (h H locs ls hl hP hD hS)
theorem gs_istore_n {l : Launch} {E : Ev} {K : Kt} {cc : ByteArray} {own : String} {d nL pc : Nat} {lv : List (Nat × Value)} {st : List Value} {M : Mm} {k0 : Fin 4} {i : Nat} {x : Int32} {lv' : List (Nat × Value)} (k : Ok l E K cc own d nL) (hi : (k0 : Nat) = i) (hn : i < nL) (hl' : (i, Value.int x) :: lv.filter (fun q => !(q.1 == i) && !(q.1 + 1 == i && q.2.category == 2)) = lv') (hd : decode cc pc = .ok (.istore_n k0, 1)) (h : G l E K (pc + 1) lv' st M) : G l E K pc lv (.int x :: st) M := by
  obtain ⟨⟨p, e, R, s, m, args⟩, ⟨below, meth, c, cells, slots⟩, ⟨Q, A, nL'⟩⟩ := K
  obtain ⟨hx, hb, hml, hnl, hown, hts, hK, hA, hin, hfr, hlo, hce, hsl⟩ := id k
  subst hnl
  intro H locs ls hl hP hD hS
  exact lv_istore_n hx hb hd hi hl hn hl' (fun ls hl => h H locs ls hl hP hD hS)
theorem gs_istore {l : Launch} {E : Ev} {K : Kt} {cc : ByteArray} {own : String} {d nL pc : Nat} {lv : List (Nat × Value)} {st : List Value} {M : Mm}  {i : Nat} {x : Int32} {lv' : List (Nat × Value)} (k : Ok l E K cc own d nL)  (hn : i < nL) (hl' : (i, Value.int x) :: lv.filter (fun q => !(q.1 == i) && !(q.1 + 1 == i && q.2.category == 2)) = lv') (hd : decode cc pc = .ok (.istore i, 2)) (h : G l E K (pc + 2) lv' st M) : G l E K pc lv (.int x :: st) M := by
  obtain ⟨⟨p, e, R, s, m, args⟩, ⟨below, meth, c, cells, slots⟩, ⟨Q, A, nL'⟩⟩ := K
  obtain ⟨hx, hb, hml, hnl, hown, hts, hK, hA, hin, hfr, hlo, hce, hsl⟩ := id k
  subst hnl
  intro H locs ls hl hP hD hS
  exact lv_istore hx hb hd  hl hn hl' (fun ls hl => h H locs ls hl hP hD hS)
theorem gs_lload_n {l : Launch} {E : Ev} {K : Kt} {cc : ByteArray} {own : String} {d nL pc : Nat} {lv : List (Nat × Value)} {st : List Value} {M : Mm} {k0 : Fin 4} {i q : Nat} {x : Int64} (k : Ok l E K cc own d nL) (hi : (k0 : Nat) = i) (hq : lv[q]? = some (i, .long x)) (hd : decode cc pc = .ok (.lload_n k0, 1)) (h : G l E K (pc + 1) lv (.long x :: st) M) : G l E K pc lv st M := by
  obtain ⟨⟨p, e, R, s, m, args⟩, ⟨below, meth, c, cells, slots⟩, ⟨Q, A, nL'⟩⟩ := K
  obtain ⟨hx, hb, hml, hnl, hown, hts, hK, hA, hin, hfr, hlo, hce, hsl⟩ := id k
  subst hnl
  intro H locs ls hl hP hD hS
  exact lv_lload_n hx hb hd hi (lv_at hl q hq) (h H locs ls hl hP hD hS)
theorem gs_lload {l : Launch} {E : Ev} {K : Kt} {cc : ByteArray} {own : String} {d nL pc : Nat} {lv : List (Nat × Value)} {st : List Value} {M : Mm} {i q : Nat} {x : Int64} (k : Ok l E K cc own d nL) (hq : lv[q]? = some (i, .long x)) (hd : decode cc pc = .ok (.lload i, 2)) (h : G l E K (pc + 2) lv (.long x :: st) M) : G l E K pc lv st M := by
  obtain ⟨⟨p, e, R, s, m, args⟩, ⟨below, meth, c, cells, slots⟩, ⟨Q, A, nL'⟩⟩ := K
  obtain ⟨hx, hb, hml, hnl, hown, hts, hK, hA, hin, hfr, hlo, hce, hsl⟩ := id k
  subst hnl
  intro H locs ls hl hP hD hS
  exact lv_lload hx hb hd (lv_at hl q hq) (h H locs ls hl hP hD hS)
theorem gs_lstore_n {l : Launch} {E : Ev} {K : Kt} {cc : ByteArray} {own : String} {d nL pc : Nat} {lv : List (Nat × Value)} {st : List Value} {M : Mm} {k0 : Fin 4} {i : Nat} {x : Int64} {lv' : List (Nat × Value)} (k : Ok l E K cc own d nL) (hi : (k0 : Nat) = i) (hn : i + 1 < nL) (hl' : (i, Value.long x) :: lv.filter (fun q => !(q.1 == i) && (!(q.1 == i + 1) && !(q.1 + 1 == i && q.2.category == 2))) = lv') (hd : decode cc pc = .ok (.lstore_n k0, 1)) (h : G l E K (pc + 1) lv' st M) : G l E K pc lv (.long x :: st) M := by
  obtain ⟨⟨p, e, R, s, m, args⟩, ⟨below, meth, c, cells, slots⟩, ⟨Q, A, nL'⟩⟩ := K
  obtain ⟨hx, hb, hml, hnl, hown, hts, hK, hA, hin, hfr, hlo, hce, hsl⟩ := id k
  subst hnl
  intro H locs ls hl hP hD hS
  exact lv_lstore_n hx hb hd hi hl hn hl' (fun ls hl => h H locs ls hl hP hD hS)
theorem gs_lstore {l : Launch} {E : Ev} {K : Kt} {cc : ByteArray} {own : String} {d nL pc : Nat} {lv : List (Nat × Value)} {st : List Value} {M : Mm}  {i : Nat} {x : Int64} {lv' : List (Nat × Value)} (k : Ok l E K cc own d nL)  (hn : i + 1 < nL) (hl' : (i, Value.long x) :: lv.filter (fun q => !(q.1 == i) && (!(q.1 == i + 1) && !(q.1 + 1 == i && q.2.category == 2))) = lv') (hd : decode cc pc = .ok (.lstore i, 2)) (h : G l E K (pc + 2) lv' st M) : G l E K pc lv (.long x :: st) M := by
  obtain ⟨⟨p, e, R, s, m, args⟩, ⟨below, meth, c, cells, slots⟩, ⟨Q, A, nL'⟩⟩ := K
  obtain ⟨hx, hb, hml, hnl, hown, hts, hK, hA, hin, hfr, hlo, hce, hsl⟩ := id k
  subst hnl
  intro H locs ls hl hP hD hS
  exact lv_lstore hx hb hd  hl hn hl' (fun ls hl => h H locs ls hl hP hD hS)
theorem gs_aload_n {l : Launch} {E : Ev} {K : Kt} {cc : ByteArray} {own : String} {d nL pc : Nat} {lv : List (Nat × Value)} {st : List Value} {M : Mm} {k0 : Fin 4} {i q : Nat} {x : Nat} (k : Ok l E K cc own d nL) (hi : (k0 : Nat) = i) (hq : lv[q]? = some (i, .ref x)) (hd : decode cc pc = .ok (.aload_n k0, 1)) (h : G l E K (pc + 1) lv (.ref x :: st) M) : G l E K pc lv st M := by
  obtain ⟨⟨p, e, R, s, m, args⟩, ⟨below, meth, c, cells, slots⟩, ⟨Q, A, nL'⟩⟩ := K
  obtain ⟨hx, hb, hml, hnl, hown, hts, hK, hA, hin, hfr, hlo, hce, hsl⟩ := id k
  subst hnl
  intro H locs ls hl hP hD hS
  exact lv_aload_n hx hb hd hi (lv_at hl q hq) (h H locs ls hl hP hD hS)
theorem gs_aload {l : Launch} {E : Ev} {K : Kt} {cc : ByteArray} {own : String} {d nL pc : Nat} {lv : List (Nat × Value)} {st : List Value} {M : Mm} {i q : Nat} {x : Nat} (k : Ok l E K cc own d nL) (hq : lv[q]? = some (i, .ref x)) (hd : decode cc pc = .ok (.aload i, 2)) (h : G l E K (pc + 2) lv (.ref x :: st) M) : G l E K pc lv st M := by
  obtain ⟨⟨p, e, R, s, m, args⟩, ⟨below, meth, c, cells, slots⟩, ⟨Q, A, nL'⟩⟩ := K
  obtain ⟨hx, hb, hml, hnl, hown, hts, hK, hA, hin, hfr, hlo, hce, hsl⟩ := id k
  subst hnl
  intro H locs ls hl hP hD hS
  exact lv_aload hx hb hd (lv_at hl q hq) (h H locs ls hl hP hD hS)
theorem gs_astore_n {l : Launch} {E : Ev} {K : Kt} {cc : ByteArray} {own : String} {d nL pc : Nat} {lv : List (Nat × Value)} {st : List Value} {M : Mm} {k0 : Fin 4} {i : Nat} {x : Nat} {lv' : List (Nat × Value)} (k : Ok l E K cc own d nL) (hi : (k0 : Nat) = i) (hn : i < nL) (hl' : (i, Value.ref x) :: lv.filter (fun q => !(q.1 == i) && !(q.1 + 1 == i && q.2.category == 2)) = lv') (hd : decode cc pc = .ok (.astore_n k0, 1)) (h : G l E K (pc + 1) lv' st M) : G l E K pc lv (.ref x :: st) M := by
  obtain ⟨⟨p, e, R, s, m, args⟩, ⟨below, meth, c, cells, slots⟩, ⟨Q, A, nL'⟩⟩ := K
  obtain ⟨hx, hb, hml, hnl, hown, hts, hK, hA, hin, hfr, hlo, hce, hsl⟩ := id k
  subst hnl
  intro H locs ls hl hP hD hS
  exact lv_astore_n hx hb hd hi hl hn hl' (fun ls hl => h H locs ls hl hP hD hS)
theorem gs_astore {l : Launch} {E : Ev} {K : Kt} {cc : ByteArray} {own : String} {d nL pc : Nat} {lv : List (Nat × Value)} {st : List Value} {M : Mm}  {i : Nat} {x : Nat} {lv' : List (Nat × Value)} (k : Ok l E K cc own d nL)  (hn : i < nL) (hl' : (i, Value.ref x) :: lv.filter (fun q => !(q.1 == i) && !(q.1 + 1 == i && q.2.category == 2)) = lv') (hd : decode cc pc = .ok (.astore i, 2)) (h : G l E K (pc + 2) lv' st M) : G l E K pc lv (.ref x :: st) M := by
  obtain ⟨⟨p, e, R, s, m, args⟩, ⟨below, meth, c, cells, slots⟩, ⟨Q, A, nL'⟩⟩ := K
  obtain ⟨hx, hb, hml, hnl, hown, hts, hK, hA, hin, hfr, hlo, hce, hsl⟩ := id k
  subst hnl
  intro H locs ls hl hP hD hS
  exact lv_astore hx hb hd  hl hn hl' (fun ls hl => h H locs ls hl hP hD hS)
theorem gs_iinc {l : Launch} {E : Ev} {K : Kt} {cc : ByteArray} {own : String} {d nL pc : Nat} {lv : List (Nat × Value)} {st : List Value} {M : Mm} {i q : Nat} {n : Int} {x v : Int32} {lv' : List (Nat × Value)} (k : Ok l E K cc own d nL) (hq : lv[q]? = some (i, .int x)) (hv : x + Int32.ofInt n = v) (hn : i < nL) (hl' : (i, Value.int v) :: lv.filter (fun q => !(q.1 == i) && !(q.1 + 1 == i && q.2.category == 2)) = lv') (hd : decode cc pc = .ok (.iinc i n, 3)) (h : G l E K (pc + 3) lv' st M) : G l E K pc lv st M := by
  obtain ⟨⟨p, e, R, s, m, args⟩, ⟨below, meth, c, cells, slots⟩, ⟨Q, A, nL'⟩⟩ := K
  obtain ⟨hx, hb, hml, hnl, hown, hts, hK, hA, hin, hfr, hlo, hce, hsl⟩ := id k
  subst hnl
  intro H locs ls hl hP hD hS
  exact lv_iinc hx hb hd hl hq hv hn hl' (fun ls hl => h H locs ls hl hP hD hS)
theorem gs_goto {l : Launch} {E : Ev} {K : Kt} {cc : ByteArray} {own : String} {d nL pc : Nat} {lv : List (Nat × Value)} {st : List Value} {M : Mm} {off : Int} {tgt : Nat} (k : Ok l E K cc own d nL) (ht : (pc : Int) + off = (tgt : Int)) (hd : decode cc pc = .ok (.goto off, 3)) (h : G l E K tgt lv st M) : G l E K pc lv st M := by
  obtain ⟨⟨p, e, R, s, m, args⟩, ⟨below, meth, c, cells, slots⟩, ⟨Q, A, nL'⟩⟩ := K
  obtain ⟨hx, hb, hml, hnl, hown, hts, hK, hA, hin, hfr, hlo, hce, hsl⟩ := id k
  subst hnl
  intro H locs ls hl hP hD hS
  exact lv_goto hx hb hd ht (h H locs ls hl hP hD hS)
-- branches
theorem gs_if_eq {l : Launch} {E : Ev} {K : Kt} {cc : ByteArray} {own : String} {d nL pc : Nat} {lv : List (Nat × Value)} {st : List Value} {M : Mm} {x : Int32} {off : Int} {tgt : Nat} (k : Ok l E K cc own d nL) (ht : (pc : Int) + off = (tgt : Int)) (hd : decode cc pc = .ok (.ifCond .eq off, 3)) (kt : x = 0 → G l E K tgt lv st M) (kf : ¬ x = 0 → G l E K (pc + 3) lv st M) : G l E K pc lv (.int x :: st) M := by
  obtain ⟨⟨p, e, R, s, m, args⟩, ⟨below, meth, c, cells, slots⟩, ⟨Q, A, nL'⟩⟩ := K
  obtain ⟨hx, hb, hml, hnl, hown, hts, hK, hA, hin, hfr, hlo, hce, hsl⟩ := id k
  subst hnl
  intro H locs ls hl hP hD hS
  exact lv_if_eq hx hb hd ht (fun z => kt z H locs ls hl hP hD hS) (fun z => kf z H locs ls hl hP hD hS)
theorem gs_icmp_eq {l : Launch} {E : Ev} {K : Kt} {cc : ByteArray} {own : String} {d nL pc : Nat} {lv : List (Nat × Value)} {st : List Value} {M : Mm} {x y : Int32} {off : Int} {tgt : Nat} (k : Ok l E K cc own d nL) (ht : (pc : Int) + off = (tgt : Int)) (hd : decode cc pc = .ok (.if_icmp .eq off, 3)) (kt : x = y → G l E K tgt lv st M) (kf : ¬ x = y → G l E K (pc + 3) lv st M) : G l E K pc lv (.int y :: .int x :: st) M := by
  obtain ⟨⟨p, e, R, s, m, args⟩, ⟨below, meth, c, cells, slots⟩, ⟨Q, A, nL'⟩⟩ := K
  obtain ⟨hx, hb, hml, hnl, hown, hts, hK, hA, hin, hfr, hlo, hce, hsl⟩ := id k
  subst hnl
  intro H locs ls hl hP hD hS
  exact lv_icmp_eq hx hb hd ht (fun z => kt z H locs ls hl hP hD hS) (fun z => kf z H locs ls hl hP hD hS)
theorem gs_if_ne {l : Launch} {E : Ev} {K : Kt} {cc : ByteArray} {own : String} {d nL pc : Nat} {lv : List (Nat × Value)} {st : List Value} {M : Mm} {x : Int32} {off : Int} {tgt : Nat} (k : Ok l E K cc own d nL) (ht : (pc : Int) + off = (tgt : Int)) (hd : decode cc pc = .ok (.ifCond .ne off, 3)) (kt : ¬ x = 0 → G l E K tgt lv st M) (kf : x = 0 → G l E K (pc + 3) lv st M) : G l E K pc lv (.int x :: st) M := by
  obtain ⟨⟨p, e, R, s, m, args⟩, ⟨below, meth, c, cells, slots⟩, ⟨Q, A, nL'⟩⟩ := K
  obtain ⟨hx, hb, hml, hnl, hown, hts, hK, hA, hin, hfr, hlo, hce, hsl⟩ := id k
  subst hnl
  intro H locs ls hl hP hD hS
  exact lv_if_ne hx hb hd ht (fun z => kt z H locs ls hl hP hD hS) (fun z => kf z H locs ls hl hP hD hS)
theorem gs_icmp_ne {l : Launch} {E : Ev} {K : Kt} {cc : ByteArray} {own : String} {d nL pc : Nat} {lv : List (Nat × Value)} {st : List Value} {M : Mm} {x y : Int32} {off : Int} {tgt : Nat} (k : Ok l E K cc own d nL) (ht : (pc : Int) + off = (tgt : Int)) (hd : decode cc pc = .ok (.if_icmp .ne off, 3)) (kt : ¬ x = y → G l E K tgt lv st M) (kf : x = y → G l E K (pc + 3) lv st M) : G l E K pc lv (.int y :: .int x :: st) M := by
  obtain ⟨⟨p, e, R, s, m, args⟩, ⟨below, meth, c, cells, slots⟩, ⟨Q, A, nL'⟩⟩ := K
  obtain ⟨hx, hb, hml, hnl, hown, hts, hK, hA, hin, hfr, hlo, hce, hsl⟩ := id k
  subst hnl
  intro H locs ls hl hP hD hS
  exact lv_icmp_ne hx hb hd ht (fun z => kt z H locs ls hl hP hD hS) (fun z => kf z H locs ls hl hP hD hS)
theorem gs_if_lt {l : Launch} {E : Ev} {K : Kt} {cc : ByteArray} {own : String} {d nL pc : Nat} {lv : List (Nat × Value)} {st : List Value} {M : Mm} {x : Int32} {off : Int} {tgt : Nat} (k : Ok l E K cc own d nL) (ht : (pc : Int) + off = (tgt : Int)) (hd : decode cc pc = .ok (.ifCond .lt off, 3)) (kt : x < 0 → G l E K tgt lv st M) (kf : ¬ x < 0 → G l E K (pc + 3) lv st M) : G l E K pc lv (.int x :: st) M := by
  obtain ⟨⟨p, e, R, s, m, args⟩, ⟨below, meth, c, cells, slots⟩, ⟨Q, A, nL'⟩⟩ := K
  obtain ⟨hx, hb, hml, hnl, hown, hts, hK, hA, hin, hfr, hlo, hce, hsl⟩ := id k
  subst hnl
  intro H locs ls hl hP hD hS
  exact lv_if_lt hx hb hd ht (fun z => kt z H locs ls hl hP hD hS) (fun z => kf z H locs ls hl hP hD hS)
theorem gs_icmp_lt {l : Launch} {E : Ev} {K : Kt} {cc : ByteArray} {own : String} {d nL pc : Nat} {lv : List (Nat × Value)} {st : List Value} {M : Mm} {x y : Int32} {off : Int} {tgt : Nat} (k : Ok l E K cc own d nL) (ht : (pc : Int) + off = (tgt : Int)) (hd : decode cc pc = .ok (.if_icmp .lt off, 3)) (kt : x < y → G l E K tgt lv st M) (kf : ¬ x < y → G l E K (pc + 3) lv st M) : G l E K pc lv (.int y :: .int x :: st) M := by
  obtain ⟨⟨p, e, R, s, m, args⟩, ⟨below, meth, c, cells, slots⟩, ⟨Q, A, nL'⟩⟩ := K
  obtain ⟨hx, hb, hml, hnl, hown, hts, hK, hA, hin, hfr, hlo, hce, hsl⟩ := id k
  subst hnl
  intro H locs ls hl hP hD hS
  exact lv_icmp_lt hx hb hd ht (fun z => kt z H locs ls hl hP hD hS) (fun z => kf z H locs ls hl hP hD hS)
theorem gs_if_ge {l : Launch} {E : Ev} {K : Kt} {cc : ByteArray} {own : String} {d nL pc : Nat} {lv : List (Nat × Value)} {st : List Value} {M : Mm} {x : Int32} {off : Int} {tgt : Nat} (k : Ok l E K cc own d nL) (ht : (pc : Int) + off = (tgt : Int)) (hd : decode cc pc = .ok (.ifCond .ge off, 3)) (kt : 0 ≤ x → G l E K tgt lv st M) (kf : ¬ 0 ≤ x → G l E K (pc + 3) lv st M) : G l E K pc lv (.int x :: st) M := by
  obtain ⟨⟨p, e, R, s, m, args⟩, ⟨below, meth, c, cells, slots⟩, ⟨Q, A, nL'⟩⟩ := K
  obtain ⟨hx, hb, hml, hnl, hown, hts, hK, hA, hin, hfr, hlo, hce, hsl⟩ := id k
  subst hnl
  intro H locs ls hl hP hD hS
  exact lv_if_ge hx hb hd ht (fun z => kt z H locs ls hl hP hD hS) (fun z => kf z H locs ls hl hP hD hS)
theorem gs_icmp_ge {l : Launch} {E : Ev} {K : Kt} {cc : ByteArray} {own : String} {d nL pc : Nat} {lv : List (Nat × Value)} {st : List Value} {M : Mm} {x y : Int32} {off : Int} {tgt : Nat} (k : Ok l E K cc own d nL) (ht : (pc : Int) + off = (tgt : Int)) (hd : decode cc pc = .ok (.if_icmp .ge off, 3)) (kt : y ≤ x → G l E K tgt lv st M) (kf : ¬ y ≤ x → G l E K (pc + 3) lv st M) : G l E K pc lv (.int y :: .int x :: st) M := by
  obtain ⟨⟨p, e, R, s, m, args⟩, ⟨below, meth, c, cells, slots⟩, ⟨Q, A, nL'⟩⟩ := K
  obtain ⟨hx, hb, hml, hnl, hown, hts, hK, hA, hin, hfr, hlo, hce, hsl⟩ := id k
  subst hnl
  intro H locs ls hl hP hD hS
  exact lv_icmp_ge hx hb hd ht (fun z => kt z H locs ls hl hP hD hS) (fun z => kf z H locs ls hl hP hD hS)
theorem gs_if_gt {l : Launch} {E : Ev} {K : Kt} {cc : ByteArray} {own : String} {d nL pc : Nat} {lv : List (Nat × Value)} {st : List Value} {M : Mm} {x : Int32} {off : Int} {tgt : Nat} (k : Ok l E K cc own d nL) (ht : (pc : Int) + off = (tgt : Int)) (hd : decode cc pc = .ok (.ifCond .gt off, 3)) (kt : 0 < x → G l E K tgt lv st M) (kf : ¬ 0 < x → G l E K (pc + 3) lv st M) : G l E K pc lv (.int x :: st) M := by
  obtain ⟨⟨p, e, R, s, m, args⟩, ⟨below, meth, c, cells, slots⟩, ⟨Q, A, nL'⟩⟩ := K
  obtain ⟨hx, hb, hml, hnl, hown, hts, hK, hA, hin, hfr, hlo, hce, hsl⟩ := id k
  subst hnl
  intro H locs ls hl hP hD hS
  exact lv_if_gt hx hb hd ht (fun z => kt z H locs ls hl hP hD hS) (fun z => kf z H locs ls hl hP hD hS)
theorem gs_icmp_gt {l : Launch} {E : Ev} {K : Kt} {cc : ByteArray} {own : String} {d nL pc : Nat} {lv : List (Nat × Value)} {st : List Value} {M : Mm} {x y : Int32} {off : Int} {tgt : Nat} (k : Ok l E K cc own d nL) (ht : (pc : Int) + off = (tgt : Int)) (hd : decode cc pc = .ok (.if_icmp .gt off, 3)) (kt : y < x → G l E K tgt lv st M) (kf : ¬ y < x → G l E K (pc + 3) lv st M) : G l E K pc lv (.int y :: .int x :: st) M := by
  obtain ⟨⟨p, e, R, s, m, args⟩, ⟨below, meth, c, cells, slots⟩, ⟨Q, A, nL'⟩⟩ := K
  obtain ⟨hx, hb, hml, hnl, hown, hts, hK, hA, hin, hfr, hlo, hce, hsl⟩ := id k
  subst hnl
  intro H locs ls hl hP hD hS
  exact lv_icmp_gt hx hb hd ht (fun z => kt z H locs ls hl hP hD hS) (fun z => kf z H locs ls hl hP hD hS)
theorem gs_if_le {l : Launch} {E : Ev} {K : Kt} {cc : ByteArray} {own : String} {d nL pc : Nat} {lv : List (Nat × Value)} {st : List Value} {M : Mm} {x : Int32} {off : Int} {tgt : Nat} (k : Ok l E K cc own d nL) (ht : (pc : Int) + off = (tgt : Int)) (hd : decode cc pc = .ok (.ifCond .le off, 3)) (kt : x ≤ 0 → G l E K tgt lv st M) (kf : ¬ x ≤ 0 → G l E K (pc + 3) lv st M) : G l E K pc lv (.int x :: st) M := by
  obtain ⟨⟨p, e, R, s, m, args⟩, ⟨below, meth, c, cells, slots⟩, ⟨Q, A, nL'⟩⟩ := K
  obtain ⟨hx, hb, hml, hnl, hown, hts, hK, hA, hin, hfr, hlo, hce, hsl⟩ := id k
  subst hnl
  intro H locs ls hl hP hD hS
  exact lv_if_le hx hb hd ht (fun z => kt z H locs ls hl hP hD hS) (fun z => kf z H locs ls hl hP hD hS)
theorem gs_icmp_le {l : Launch} {E : Ev} {K : Kt} {cc : ByteArray} {own : String} {d nL pc : Nat} {lv : List (Nat × Value)} {st : List Value} {M : Mm} {x y : Int32} {off : Int} {tgt : Nat} (k : Ok l E K cc own d nL) (ht : (pc : Int) + off = (tgt : Int)) (hd : decode cc pc = .ok (.if_icmp .le off, 3)) (kt : x ≤ y → G l E K tgt lv st M) (kf : ¬ x ≤ y → G l E K (pc + 3) lv st M) : G l E K pc lv (.int y :: .int x :: st) M := by
  obtain ⟨⟨p, e, R, s, m, args⟩, ⟨below, meth, c, cells, slots⟩, ⟨Q, A, nL'⟩⟩ := K
  obtain ⟨hx, hb, hml, hnl, hown, hts, hK, hA, hin, hfr, hlo, hce, hsl⟩ := id k
  subst hnl
  intro H locs ls hl hP hD hS
  exact lv_icmp_le hx hb hd ht (fun z => kt z H locs ls hl hP hD hS) (fun z => kf z H locs ls hl hP hD hS)
theorem gs_tableOut {l : Launch} {E : Ev} {K : Kt} {cc : ByteArray} {own : String} {d nL pc : Nat} {lv : List (Nat × Value)} {st : List Value} {M : Mm} {dflt lo hi : Int} {offs : Array Int} {len : Nat} {x : Int32} {tgt : Nat} (k : Ok l E K cc own d nL) (ho : x.toInt < lo ∨ hi < x.toInt) (ht : (pc : Int) + dflt = (tgt : Int)) (hd : decode cc pc = .ok (.tableswitch dflt lo hi offs, len)) (h : G l E K tgt lv st M) : G l E K pc lv (.int x :: st) M := by
  obtain ⟨⟨p, e, R, s, m, args⟩, ⟨below, meth, c, cells, slots⟩, ⟨Q, A, nL'⟩⟩ := K
  obtain ⟨hx, hb, hml, hnl, hown, hts, hK, hA, hin, hfr, hlo, hce, hsl⟩ := id k
  subst hnl
  intro H locs ls hl hP hD hS
  exact lv_tableOut hx hb hd ho ht (h H locs ls hl hP hD hS)
theorem gs_tableIn {l : Launch} {E : Ev} {K : Kt} {cc : ByteArray} {own : String} {d nL pc : Nat} {lv : List (Nat × Value)} {st : List Value} {M : Mm} {dflt lo hi : Int} {offs : Array Int} {len : Nat} {x : Int32} {off : Int} {tgt : Nat} (k : Ok l E K cc own d nL) (h1 : ¬ x.toInt < lo) (h2 : ¬ hi < x.toInt) (ho : offs[(x.toInt - lo).toNat]? = some off) (ht : (pc : Int) + off = (tgt : Int)) (hd : decode cc pc = .ok (.tableswitch dflt lo hi offs, len)) (h : G l E K tgt lv st M) : G l E K pc lv (.int x :: st) M := by
  obtain ⟨⟨p, e, R, s, m, args⟩, ⟨below, meth, c, cells, slots⟩, ⟨Q, A, nL'⟩⟩ := K
  obtain ⟨hx, hb, hml, hnl, hown, hts, hK, hA, hin, hfr, hlo, hce, hsl⟩ := id k
  subst hnl
  intro H locs ls hl hP hD hS
  exact lv_tableIn hx hb hd h1 h2 ho ht (h H locs ls hl hP hD hS)
theorem gs_lookup {l : Launch} {E : Ev} {K : Kt} {cc : ByteArray} {own : String} {d nL pc : Nat} {lv : List (Nat × Value)} {st : List Value} {M : Mm} {dflt : Int} {ps : Array (Int × Int)} {len : Nat} {x : Int32} {off : Int} {tgt : Nat} (k : Ok l E K cc own d nL) (hp : (ps.toList.zip (ps.toList.drop 1)).all (fun (a, next) => a.1 < next.1) = true) (ho : Op.lookupswitch.offset ps.toList dflt x.toInt = off) (ht : (pc : Int) + off = (tgt : Int)) (hd : decode cc pc = .ok (.lookupswitch dflt ps, len)) (h : G l E K tgt lv st M) : G l E K pc lv (.int x :: st) M := by
  obtain ⟨⟨p, e, R, s, m, args⟩, ⟨below, meth, c, cells, slots⟩, ⟨Q, A, nL'⟩⟩ := K
  obtain ⟨hx, hb, hml, hnl, hown, hts, hK, hA, hin, hfr, hlo, hce, hsl⟩ := id k
  subst hnl
  intro H locs ls hl hP hD hS
  exact lv_lookup hx hb hd hp ho ht (h H locs ls hl hP hD hS)
theorem gs_ldc {l : Launch} {E : Ev} {K : Kt} {cc : ByteArray} {own : String} {d nL pc : Nat} {lv : List (Nat × Value)} {st : List Value} {M : Mm} {index : Nat} {v : Int32} (k : Ok l E K cc own d nL) (hc : Cond.constant own index v ∈ wsT) (hd : decode cc pc = .ok (.ldc index, 2)) (h : G l E K (pc + 2) lv (.int v :: st) M) : G l E K pc lv st M := by
  obtain ⟨⟨p, e, R, s, m, args⟩, ⟨below, meth, c, cells, slots⟩, ⟨Q, A, nL'⟩⟩ := K
  obtain ⟨hx, hb, hml, hnl, hown, hts, hK, hA, hin, hfr, hlo, hce, hsl⟩ := id k
  subst hnl
  intro H locs ls hl hP hD hS
  exact lv_ldc hx hb hown (hts _ hc) hd (h H locs ls hl hP hD hS)
theorem gs_ldcw {l : Launch} {E : Ev} {K : Kt} {cc : ByteArray} {own : String} {d nL pc : Nat} {lv : List (Nat × Value)} {st : List Value} {M : Mm} {index : Nat} {v : Int32} (k : Ok l E K cc own d nL) (hc : Cond.constant own index v ∈ wsT) (hd : decode cc pc = .ok (.ldc_w index, 3)) (h : G l E K (pc + 3) lv (.int v :: st) M) : G l E K pc lv st M := by
  obtain ⟨⟨p, e, R, s, m, args⟩, ⟨below, meth, c, cells, slots⟩, ⟨Q, A, nL'⟩⟩ := K
  obtain ⟨hx, hb, hml, hnl, hown, hts, hK, hA, hin, hfr, hlo, hce, hsl⟩ := id k
  subst hnl
  intro H locs ls hl hP hD hS
  exact lv_ldcw hx hb hown (hts _ hc) hd (h H locs ls hl hP hD hS)
theorem gs_ldc2 {l : Launch} {E : Ev} {K : Kt} {cc : ByteArray} {own : String} {d nL pc : Nat} {lv : List (Nat × Value)} {st : List Value} {M : Mm} {index : Nat} {v : Int64} (k : Ok l E K cc own d nL) (hc : Cond.constantLong own index v ∈ wsT) (hd : decode cc pc = .ok (.ldc2_w index, 3)) (h : G l E K (pc + 3) lv (.long v :: st) M) : G l E K pc lv st M := by
  obtain ⟨⟨p, e, R, s, m, args⟩, ⟨below, meth, c, cells, slots⟩, ⟨Q, A, nL'⟩⟩ := K
  obtain ⟨hx, hb, hml, hnl, hown, hts, hK, hA, hin, hfr, hlo, hce, hsl⟩ := id k
  subst hnl
  intro H locs ls hl hP hD hS
  exact lv_ldc2 hx hb hown (hts _ hc) hd (h H locs ls hl hP hD hS)
theorem gs_ldcS {l : Launch} {E : Ev} {K : Kt} {cc : ByteArray} {own : String} {d nL pc : Nat} {lv : List (Nat × Value)} {st : List Value} {M : Mm} {index i : Nat} {tx : String} (k : Ok l E K cc own d nL) (hq : (own, index, tx, i) ∈ strL) (hd : decode cc pc = .ok (.ldc index, 2)) (h : G l E K (pc + 2) lv (.ref (E.2.2.2.2.2.1 i) :: st) M) : G l E K pc lv st M := by
  obtain ⟨⟨p, e, R, s, m, args⟩, ⟨below, meth, c, cells, slots⟩, ⟨Q, A, nL'⟩⟩ := K
  obtain ⟨hx, hb, hml, hnl, hown, hts, hK, hA, hin, hfr, hlo, hce, hsl⟩ := id k
  subst hnl
  intro H locs ls hl hP hD hS
  exact va_ldcS hx hb hown (hA.2.2.2.2.2 _ hq) hd (h H locs ls hl hP hD hS)
theorem gs_get {l : Launch} {E : Ev} {K : Kt} {cc : ByteArray} {own : String} {d nL pc : Nat} {lv : List (Nat × Value)} {st : List Value} {M : Mm} {C : String} {T : u_T} {N ci index k0 j : Nat} {fs : List Value} {v : Value} (k : Ok l E K cc own d nL) (hk : k0 ∈ E.2.1) (he : ent E.2.2.1 E.2.2.2.1 k0 (M k0) = .inr (ci, fs)) (hc : vwCl[ci]? = some (C, T, N)) (hw : ∀ w ∈ u_ws C T N, w ∈ wsT) (hj : j < N) (hlink : Cond.fieldLink own index C (T j).2.1 (T j).2.2.1 ∈ wsT) (hT : (T j).1 = C) (hv : fs[j]? = some v) (hd : decode cc pc = .ok (.getfield index, 3)) (h : G l E K (pc + 3) lv (v :: st) M) : G l E K pc lv (.ref (E.2.2.1 k0) :: st) M := by
  obtain ⟨⟨p, e, R, s, m, args⟩, ⟨below, meth, c, cells, slots⟩, ⟨Q, A, nL'⟩⟩ := K
  obtain ⟨hx, hb, hml, hnl, hown, hts, hK, hA, hin, hfr, hlo, hce, hsl⟩ := id k
  subst hnl
  intro H locs ls hl hP hD hS
  obtain ⟨q, -, hq⟩ := wlist_get (M := M) hk
  rw [he] at hq
  exact va_get hx hb hts hw hown hK hP q hq hc j hj (hts _ hlink) (fun x h9 => by rw [hT] at h9; exact h9) hv hd (h H locs ls hl hP hD hS)
theorem gs_put {l : Launch} {E : Ev} {K : Kt} {cc : ByteArray} {own : String} {d nL pc : Nat} {lv : List (Nat × Value)} {st : List Value} {M : Mm} {C : String} {T : u_T} {N ci index k0 j : Nat} {fs : List Value} {ty : FieldType} {x : Int32} (k : Ok l E K cc own d nL) (hk : k0 ∈ E.2.1) (he : ent E.2.2.1 E.2.2.2.1 k0 (M k0) = .inr (ci, fs)) (he' : ent E.2.2.1 E.2.2.2.1 k0 (upd (M k0) j x) = .inr (ci, fs.set j (.int x))) (hc : vwCl[ci]? = some (C, T, N)) (hw : ∀ w ∈ u_ws C T N, w ∈ wsT) (ty0 : Nat → FieldType) (hty : ∀ k, k < N → parseFieldDescriptor (T k).2.2.1 = some (ty0 k)) (hnm : ∀ a, a < N → ∀ b, b < N → a ≠ b → (T a).2.1 ≠ (T b).2.1) (hj : j < N) (hlink : Cond.fieldLink own index C (T j).2.1 (T j).2.2.1 ∈ wsT) (hT : (T j).1 = C) (hfin : (T j).2.2.2 = false) (hd2 : parseFieldDescriptor (T j).2.2.1 = some ty) (hn : narrow ty (.int x) = .int x) (hfit : fits ty (.int x) = true) (hlen : j < fs.length) (hd : decode cc pc = .ok (.putfield index, 3)) (h : G l E K (pc + 3) lv st (mw M k0 j x)) : G l E K pc lv (.int x :: .ref (E.2.2.1 k0) :: st) M := by
  obtain ⟨⟨p, e, R, s, m, args⟩, ⟨below, meth, c, cells, slots⟩, ⟨Q, A, nL'⟩⟩ := K
  obtain ⟨hx, hb, hml, hnl, hown, hts, hK, hA, hin, hfr, hlo, hce, hsl⟩ := id k
  subst hnl
  intro H locs ls hl hP hD hS
  obtain ⟨q, hq0, hq⟩ := wlist_get (M := M) hk
  rw [he] at hq
  have e := wlist_set (M := M) hD hq0 he'
  refine va_put hx hb hts hw ty0 hty hnm hown hK hP hD hS q hq hc j hj (hts _ hlink) (fun x h9 => by rw [hT] at h9; exact h9) hfin hd2 hn hfit hlen hd (fun H1 locs1 hP1 hD1 hS1 => ?_)
  rw [e] at hP1 hD1
  exact h H1 locs1 ls hl hP1 hD1 hS1
theorem gs_iald {l : Launch} {E : Ev} {K : Kt} {cc : ByteArray} {own : String} {d nL pc : Nat} {lv : List (Nat × Value)} {st : List Value} {M : Mm} {k0 n : Nat} {i : Int32} (k : Ok l E K cc own d nL) (hk : k0 ∈ E.2.1) (he : ∀ r, ent E.2.2.1 E.2.2.2.1 k0 r = ai E.2.2.2.1 n r) (hi : vp_in i n) (hd : decode cc pc = .ok (.iaload, 1)) (h : G l E K (pc + 1) lv (.int (M k0 i.toNatClampNeg) :: st) M) : G l E K pc lv (.int i :: .ref (E.2.2.1 k0) :: st) M := by
  obtain ⟨⟨p, e, R, s, m, args⟩, ⟨below, meth, c, cells, slots⟩, ⟨Q, A, nL'⟩⟩ := K
  obtain ⟨hx, hb, hml, hnl, hown, hts, hK, hA, hin, hfr, hlo, hce, hsl⟩ := id k
  subst hnl
  intro H locs ls hl hP hD hS
  obtain ⟨q, -, hq⟩ := wlist_get (M := M) hk
  rw [he] at hq
  exact va_iald hx hb hK hP q 0 hq rfl hi hd (h H locs ls hl hP hD hS)
theorem gs_bald {l : Launch} {E : Ev} {K : Kt} {cc : ByteArray} {own : String} {d nL pc : Nat} {lv : List (Nat × Value)} {st : List Value} {M : Mm} {k0 n : Nat} {i : Int32} (k : Ok l E K cc own d nL) (hk : k0 ∈ E.2.1) (he : ∀ r, ent E.2.2.1 E.2.2.2.1 k0 r = ab E.2.2.2.1 n r) (hi : vp_in i n) (hd : decode cc pc = .ok (.baload, 1)) (h : G l E K (pc + 1) lv (.int (M k0 i.toNatClampNeg) :: st) M) : G l E K pc lv (.int i :: .ref (E.2.2.1 k0) :: st) M := by
  obtain ⟨⟨p, e, R, s, m, args⟩, ⟨below, meth, c, cells, slots⟩, ⟨Q, A, nL'⟩⟩ := K
  obtain ⟨hx, hb, hml, hnl, hown, hts, hK, hA, hin, hfr, hlo, hce, hsl⟩ := id k
  subst hnl
  intro H locs ls hl hP hD hS
  obtain ⟨q, -, hq⟩ := wlist_get (M := M) hk
  rw [he] at hq
  exact va_bald hx hb hK hP q 1 hq rfl hi hd (h H locs ls hl hP hD hS)
theorem gs_iast {l : Launch} {E : Ev} {K : Kt} {cc : ByteArray} {own : String} {d nL pc : Nat} {lv : List (Nat × Value)} {st : List Value} {M : Mm} {k0 n : Nat} {i x : Int32} (k : Ok l E K cc own d nL) (hk : k0 ∈ E.2.1) (he : ∀ r, ent E.2.2.1 E.2.2.2.1 k0 r = ai E.2.2.2.1 n r) (hi : vp_in i n) (hd : decode cc pc = .ok (.iastore, 1)) (h : G l E K (pc + 1) lv st (mw M k0 i.toNatClampNeg x)) : G l E K pc lv (.int x :: .int i :: .ref (E.2.2.1 k0) :: st) M := by
  obtain ⟨⟨p, e, R, s, m, args⟩, ⟨below, meth, c, cells, slots⟩, ⟨Q, A, nL'⟩⟩ := K
  obtain ⟨hx, hb, hml, hnl, hown, hts, hK, hA, hin, hfr, hlo, hce, hsl⟩ := id k
  subst hnl
  intro H locs ls hl hP hD hS
  obtain ⟨q, hq0, hq⟩ := wlist_get (M := M) hk
  rw [he] at hq
  have e := wlist_set (M := M) hD hq0 (he (upd (M k0) i.toNatClampNeg x))
  refine va_iast hx hb hK hP hD hS q 0 hq rfl hi hd (fun H1 locs1 hP1 hD1 hS1 => ?_)
  exact h H1 locs1 ls hl (by unfold mw; rw [← e]; exact hP1) (by unfold mw; rw [← e]; exact hD1) hS1
theorem gs_bast {l : Launch} {E : Ev} {K : Kt} {cc : ByteArray} {own : String} {d nL pc : Nat} {lv : List (Nat × Value)} {st : List Value} {M : Mm} {k0 n : Nat} {i x x' : Int32} (k : Ok l E K cc own d nL) (hk : k0 ∈ E.2.1) (he : ∀ r, ent E.2.2.1 E.2.2.2.1 k0 r = ab E.2.2.2.1 n r) (hi : vp_in i n) (hx' : vp_nar .byte x = x') (hd : decode cc pc = .ok (.bastore, 1)) (h : G l E K (pc + 1) lv st (mw M k0 i.toNatClampNeg x')) : G l E K pc lv (.int x :: .int i :: .ref (E.2.2.1 k0) :: st) M := by
  obtain ⟨⟨p, e, R, s, m, args⟩, ⟨below, meth, c, cells, slots⟩, ⟨Q, A, nL'⟩⟩ := K
  obtain ⟨hx, hb, hml, hnl, hown, hts, hK, hA, hin, hfr, hlo, hce, hsl⟩ := id k
  subst hnl
  intro H locs ls hl hP hD hS
  subst hx'
  obtain ⟨q, hq0, hq⟩ := wlist_get (M := M) hk
  rw [he] at hq
  have e := wlist_set (M := M) hD hq0 (he (upd (M k0) i.toNatClampNeg (vp_nar .byte x)))
  refine va_bast hx hb hK hP hD hS q 1 hq rfl hi hd (fun H1 locs1 hP1 hD1 hS1 => ?_)
  exact h H1 locs1 ls hl (by unfold mw; rw [← e]; exact hP1) (by unfold mw; rw [← e]; exact hD1) hS1
theorem gs_alen {l : Launch} {E : Ev} {K : Kt} {cc : ByteArray} {own : String} {d nL pc : Nat} {lv : List (Nat × Value)} {st : List Value} {M : Mm} {k0 n : Nat} {v : Int32} (k : Ok l E K cc own d nL) (hk : k0 ∈ E.2.1) (he : ∀ r, ent E.2.2.1 E.2.2.2.1 k0 r = ai E.2.2.2.1 n r) (hv : nI n = v) (hd : decode cc pc = .ok (.arraylength, 1)) (h : G l E K (pc + 1) lv (.int v :: st) M) : G l E K pc lv (.ref (E.2.2.1 k0) :: st) M := by
  obtain ⟨⟨p, e, R, s, m, args⟩, ⟨below, meth, c, cells, slots⟩, ⟨Q, A, nL'⟩⟩ := K
  obtain ⟨hx, hb, hml, hnl, hown, hts, hK, hA, hin, hfr, hlo, hce, hsl⟩ := id k
  subst hnl
  intro H locs ls hl hP hD hS
  obtain ⟨q, -, hq⟩ := wlist_get (M := M) hk
  rw [he] at hq
  exact va_alen hx hb hK hP q 0 hq rfl hv hd (h H locs ls hl hP hD hS)
theorem gs_aaldS {l : Launch} {E : Ev} {K : Kt} {cc : ByteArray} {own : String} {d nL pc : Nat} {lv : List (Nat × Value)} {st : List Value} {M : Mm} {k0 n a : Nat} {g : Nat → Option Nat} {i : Int32} (k : Ok l E K cc own d nL) (hk : k0 ∈ E.2.1) (he : ∀ r, ent E.2.2.1 E.2.2.2.1 k0 r = ag (E.2.2.2.1 2) n g) (hi : vp_in i n) (hg : g i.toNatClampNeg = some a) (hd : decode cc pc = .ok (.aaload, 1)) (h : G l E K (pc + 1) lv (.ref a :: st) M) : G l E K pc lv (.int i :: .ref (E.2.2.1 k0) :: st) M := by
  obtain ⟨⟨p, e, R, s, m, args⟩, ⟨below, meth, c, cells, slots⟩, ⟨Q, A, nL'⟩⟩ := K
  obtain ⟨hx, hb, hml, hnl, hown, hts, hK, hA, hin, hfr, hlo, hce, hsl⟩ := id k
  subst hnl
  intro H locs ls hl hP hD hS
  obtain ⟨q, -, hq⟩ := wlist_get (M := M) hk
  rw [he] at hq
  refine va_aldq hx hb hK hP q 2 hq rfl hi hd ?_
  rw [hg]
  exact h H locs ls hl hP hD hS
theorem gs_aaldN {l : Launch} {E : Ev} {K : Kt} {cc : ByteArray} {own : String} {d nL pc : Nat} {lv : List (Nat × Value)} {st : List Value} {M : Mm} {k0 n a : Nat} {g : Nat → Option Nat} {i : Int32} (k : Ok l E K cc own d nL) (hk : k0 ∈ E.2.1) (he : ∀ r, ent E.2.2.1 E.2.2.2.1 k0 r = ag (E.2.2.2.1 3) n g) (hi : vp_in i n) (hg : g i.toNatClampNeg = some a) (hd : decode cc pc = .ok (.aaload, 1)) (h : G l E K (pc + 1) lv (.ref a :: st) M) : G l E K pc lv (.int i :: .ref (E.2.2.1 k0) :: st) M := by
  obtain ⟨⟨p, e, R, s, m, args⟩, ⟨below, meth, c, cells, slots⟩, ⟨Q, A, nL'⟩⟩ := K
  obtain ⟨hx, hb, hml, hnl, hown, hts, hK, hA, hin, hfr, hlo, hce, hsl⟩ := id k
  subst hnl
  intro H locs ls hl hP hD hS
  obtain ⟨q, -, hq⟩ := wlist_get (M := M) hk
  rw [he] at hq
  refine va_aldq hx hb hK hP q 3 hq rfl hi hd ?_
  rw [hg]
  exact h H locs ls hl hP hD hS
theorem gs_aaldI {l : Launch} {E : Ev} {K : Kt} {cc : ByteArray} {own : String} {d nL pc : Nat} {lv : List (Nat × Value)} {st : List Value} {M : Mm} {k0 n a : Nat} {g : Nat → Option Nat} {i : Int32} (k : Ok l E K cc own d nL) (hk : k0 ∈ E.2.1) (he : ∀ r, ent E.2.2.1 E.2.2.2.1 k0 r = ag (E.2.2.2.1 4) n g) (hi : vp_in i n) (hg : g i.toNatClampNeg = some a) (hd : decode cc pc = .ok (.aaload, 1)) (h : G l E K (pc + 1) lv (.ref a :: st) M) : G l E K pc lv (.int i :: .ref (E.2.2.1 k0) :: st) M := by
  obtain ⟨⟨p, e, R, s, m, args⟩, ⟨below, meth, c, cells, slots⟩, ⟨Q, A, nL'⟩⟩ := K
  obtain ⟨hx, hb, hml, hnl, hown, hts, hK, hA, hin, hfr, hlo, hce, hsl⟩ := id k
  subst hnl
  intro H locs ls hl hP hD hS
  obtain ⟨q, -, hq⟩ := wlist_get (M := M) hk
  rw [he] at hq
  have hlt : i.toNatClampNeg < n := Nat.not_le.mp fun q => hi (Or.inr q)
  exact W.aald (v := va_rf (some a)) (ty := .array .int) hx hb (hP q _ hq) ((hK.2 4 _ rfl).1 n (fun j => va_rf (g j))) rfl (fun q => by cases q) (by show ¬ (i < 0 ∨ (arrV _ _ _).slots.size ≤ _); rw [arrV_size]; exact hi) (by show (arrV _ _ _).slots[_]? = _; rw [arrV_read _ _ hlt, hg]) rfl rfl hd (h H locs ls hl hP hD hS)
theorem gs_top {l : Launch} {E : Ev} {K : Kt} {pc : Nat} {lv : List (Nat × Value)} {st : List Value} {M : Mm} {x y : Int32} (e : x = y) (h : G l E K pc lv (.int y :: st) M) : G l E K pc lv (.int x :: st) M := by rw [e]; exact h
theorem gs_topl {l : Launch} {E : Ev} {K : Kt} {pc : Nat} {lv : List (Nat × Value)} {st : List Value} {M : Mm} {x y : Int64} (e : x = y) (h : G l E K pc lv (.long y :: st) M) : G l E K pc lv (.long x :: st) M := by rw [e]; exact h
theorem gs_M {l : Launch} {E : Ev} {K : Kt} {pc : Nat} {lv : List (Nat × Value)} {st : List Value} {M : Mm} {M' : Mm} (e : M = M') (h : G l E K pc lv st M') : G l E K pc lv st M := by rw [e]; exact h
theorem gs_lv {l : Launch} {E : Ev} {K : Kt} {pc : Nat} {lv : List (Nat × Value)} {st : List Value} {M : Mm} {lv' : List (Nat × Value)} (ks : List Nat) (e : lv_pick lv ks = lv') (h : G l E K pc lv' st M) : G l E K pc lv st M := by
  obtain ⟨⟨p, e9, R, s, m, args⟩, ⟨below, meth, c, cells, slots⟩, ⟨Q, A, nL'⟩⟩ := K
  intro H locs ls hl hP hD hS
  exact h H locs ls (lv_sub hl ks e) hP hD hS
theorem gs_iret {l : Launch} {E : Ev} {K : Kt} {cc : ByteArray} {own : String} {d nL pc : Nat} {lv : List (Nat × Value)} {M : Mm} {post : Option Value → Mm → Prop} {v : Int32} (k : Ok l E K cc own d nL) (t : Rt E K (some .int) post) (hd : decode cc pc = .ok (.ireturn, 1)) (h : post (some (.int v)) M) : G l E K pc lv [.int v] M := by
  obtain ⟨⟨p, e, R, s, m, args⟩, ⟨below, meth, c, cells, slots⟩, ⟨Q, A, nL'⟩⟩ := K
  obtain ⟨hx, hb, hml, hnl, hown, hts, hK, hA, hin, hfr, hlo, hce, hsl⟩ := id k
  obtain ⟨rfl, rfl, rfl, rfl, hr, hlocks⟩ := id t
  intro H locs ls hl hP hD hS
  exact W.iret hx hb hr (fun t ht hW => ⟨⟨(some (.int v)), M, rfl, h, stw_end hP hK hD hA hS hin ht hW⟩, hS.F ht⟩) hS.2.2 hd hlocks
theorem gs_zret {l : Launch} {E : Ev} {K : Kt} {cc : ByteArray} {own : String} {d nL pc : Nat} {lv : List (Nat × Value)} {M : Mm} {post : Option Value → Mm → Prop} {v : Int32} (k : Ok l E K cc own d nL) (t : Rt E K (some .boolean) post) (hn : narrow .boolean (.int v) = .int v) (hd : decode cc pc = .ok (.ireturn, 1)) (h : post (some (.int v)) M) : G l E K pc lv [.int v] M := by
  obtain ⟨⟨p, e, R, s, m, args⟩, ⟨below, meth, c, cells, slots⟩, ⟨Q, A, nL'⟩⟩ := K
  obtain ⟨hx, hb, hml, hnl, hown, hts, hK, hA, hin, hfr, hlo, hce, hsl⟩ := id k
  obtain ⟨rfl, rfl, rfl, rfl, hr, hlocks⟩ := id t
  intro H locs ls hl hP hD hS
  exact W.zret hx hb hr hn (fun t ht hW => ⟨⟨(some (.int v)), M, rfl, h, stw_end hP hK hD hA hS hin ht hW⟩, hS.F ht⟩) hS.2.2 hd hlocks
theorem gs_nret {l : Launch} {E : Ev} {K : Kt} {cc : ByteArray} {own : String} {d nL pc : Nat} {lv : List (Nat × Value)} {M : Mm} {post : Option Value → Mm → Prop} {ty : FieldType} {v : Int32} (k : Ok l E K cc own d nL) (t : Rt E K (some ty) post) (hn : narrow ty (.int v) = .int v) (hd : decode cc pc = .ok (.ireturn, 1)) (h : post (some (.int v)) M) : G l E K pc lv [.int v] M := by
  obtain ⟨⟨p, e, R, s, m, args⟩, ⟨below, meth, c, cells, slots⟩, ⟨Q, A, nL'⟩⟩ := K
  obtain ⟨hx, hb, hml, hnl, hown, hts, hK, hA, hin, hfr, hlo, hce, hsl⟩ := id k
  obtain ⟨rfl, rfl, rfl, rfl, hr, hlocks⟩ := id t
  intro H locs ls hl hP hD hS
  exact W.zret hx hb hr hn (fun t ht hW => ⟨⟨(some (.int v)), M, rfl, h, stw_end hP hK hD hA hS hin ht hW⟩, hS.F ht⟩) hS.2.2 hd hlocks
theorem gs_lret {l : Launch} {E : Ev} {K : Kt} {cc : ByteArray} {own : String} {d nL pc : Nat} {lv : List (Nat × Value)} {M : Mm} {post : Option Value → Mm → Prop} {v : Int64} (k : Ok l E K cc own d nL) (t : Rt E K (some .long) post) (hd : decode cc pc = .ok (.lreturn, 1)) (h : post (some (.long v)) M) : G l E K pc lv [.long v] M := by
  obtain ⟨⟨p, e, R, s, m, args⟩, ⟨below, meth, c, cells, slots⟩, ⟨Q, A, nL'⟩⟩ := K
  obtain ⟨hx, hb, hml, hnl, hown, hts, hK, hA, hin, hfr, hlo, hce, hsl⟩ := id k
  obtain ⟨rfl, rfl, rfl, rfl, hr, hlocks⟩ := id t
  intro H locs ls hl hP hD hS
  exact W.lret hx hb hr (fun t ht hW => ⟨⟨(some (.long v)), M, rfl, h, stw_end hP hK hD hA hS hin ht hW⟩, hS.F ht⟩) hS.2.2 hd hlocks
theorem gs_vret {l : Launch} {E : Ev} {K : Kt} {cc : ByteArray} {own : String} {d nL pc : Nat} {lv : List (Nat × Value)} {M : Mm} {post : Option Value → Mm → Prop}  (k : Ok l E K cc own d nL) (t : Rt E K none post) (hd : decode cc pc = .ok (.return_, 1)) (h : post none M) : G l E K pc lv [] M := by
  obtain ⟨⟨p, e, R, s, m, args⟩, ⟨below, meth, c, cells, slots⟩, ⟨Q, A, nL'⟩⟩ := K
  obtain ⟨hx, hb, hml, hnl, hown, hts, hK, hA, hin, hfr, hlo, hce, hsl⟩ := id k
  obtain ⟨rfl, rfl, rfl, rfl, hr, hlocks⟩ := id t
  intro H locs ls hl hP hD hS
  exact W.vret hx hb hr (fun t ht hW => ⟨⟨none, M, rfl, h, stw_end hP hK hD hA hS hin ht hW⟩, hS.F ht⟩) hS.2.2 hd hlocks
theorem gs_aret {l : Launch} {E : Ev} {K : Kt} {cc : ByteArray} {own : String} {d nL pc : Nat} {lv : List (Nat × Value)} {M : Mm} {post : Option Value → Mm → Prop} {a : Nat} {rt : FieldType} (k : Ok l E K cc own d nL) (t : Rt E K (some rt) post) (hrt : (∃ n, rt = .object n) ∨ ∃ t, rt = .array t) (hd : decode cc pc = .ok (.areturn, 1)) (h : post (some (.ref a)) M) : G l E K pc lv [.ref a] M := by
  obtain ⟨⟨p, e, R, s, m, args⟩, ⟨below, meth, c, cells, slots⟩, ⟨Q, A, nL'⟩⟩ := K
  obtain ⟨hx, hb, hml, hnl, hown, hts, hK, hA, hin, hfr, hlo, hce, hsl⟩ := id k
  obtain ⟨rfl, rfl, rfl, rfl, hr, hlocks⟩ := id t
  intro H locs ls hl hP hD hS
  exact W.aret hx hb hr hrt (Or.inr ⟨a, rfl⟩) (fun t ht hW => ⟨⟨some (.ref a), M, rfl, h, stw_end hP hK hD hA hS hin ht hW⟩, hS.F ht⟩) hS.2.2 hd hlocks
