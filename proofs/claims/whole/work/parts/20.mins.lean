def clsP (v : Nat → Int32) (n : Nat) : Prop := ∀ s, s < 2 ^ n → ∀ b, b < s → v s = lst v n → v b = lst v n → (v (s &&& b) = lst v n ∧ v (s ||| b) = lst v n)
def lsS (v : Nat → Int32) (n : Nat) : Int32 × Int32 × Int32 := lp (fun s z => if v s = lst v n then (z.1 + 1, z.2.1 &&& nI s, z.2.2 ||| nI s) else z) (2 ^ n) 0 (0, nI (2 ^ n - 1), 0)
noncomputable def A_leastSets (n : Nat) (kd : Nat → Int32) (V : Nat → Nat → Int32) (f w : Int32) : Int32 := ifc (inR w 4 ∧ inR f 6) (ifc (¬ kd (tn f) < 0) (ifc (w = 3) (b2i (clsP (V (tn f)) n)) (ifc (w = 0) (lsS (V (tn f)) n).1 (ifc (w = 1) (lsS (V (tn f)) n).2.1 (lsS (V (tn f)) n).2.2))) (-11)) (-1)
def ringC (v : Nat → Int32) (n p : Nat) : Int32 × Int32 := lp (fun s z => if s.testBit p = true ∧ v s = lst v n then (z.1 &&& nI s, 1) else z) (2 ^ n) 0 (nI (2 ^ n - 1), 0)
def ringR (v : Nat → Int32) (n p : Nat) : Int32 := lp (fun s z => if s.testBit p = true ∧ v s = lst v n then (if z < 0 then nI s else z &&& nI s) else z) (2 ^ n) 0 (-5)
noncomputable def A_ring (x : Int32) (n : Nat) (kd : Nat → Int32) (f p : Int32) : Int32 := ifc (inR f 6 ∧ inR p n) (ifc (¬ kd (tn f) < 0) x (-11)) (-1)
def spv (v w : Nat → Int32) (n s : Nat) : Int32 := v s - v 0 - wsum w n s
def basC (b : Int32) (v w : Nat → Int32) (n : Nat) : Int32 × Int32 × Int32 × Int32 := lp (fun s z => (if spv v w n s < 0 then 0 else z.1, if spv v w n s = 0 then (z.2.1 + 1, (if s = 0 then z.2.2.1 else z.2.2.1 &&& nI s), z.2.2.2 ||| nI s) else z.2)) (2 ^ n) 0 (b, 0, nI (2 ^ n - 1), 0)
def basR (v w : Nat → Int32) (n : Nat) : Int32 × Int32 × Int32 := lp (fun s z => if spv v w n s = 0 then (z.1 + 1, (if s = 0 then z.2.1 else z.2.1 &&& nI s), z.2.2 ||| nI s) else z) (2 ^ n) 0 (0, nI (2 ^ n - 1), 0)
def isBs (v w : Nat → Int32) (n : Nat) : Prop := (∀ s, s < 2 ^ n → ¬ spv v w n s < 0) ∧ spv v w n (2 ^ n - 1) = 0
noncomputable def A_based (b k c t : Int32) (n : Nat) (kd : Nat → Int32) (f w : Int32) : Int32 := ifc (inR w 4 ∧ inR f 6) (ifc (¬ kd (tn f) < 0) (ifc (w = 0) b (ifc (w = 1) k (ifc (w = 2) c t))) (-11)) (-1)
theorem i0_4 : inR 0 4 := by unfold inR; decide
theorem i1_4 : inR 1 4 := by unfold inR; decide
theorem i2_4 : inR 2 4 := by unfold inR; decide
theorem i3_4 : inR 3 4 := by unfold inR; decide
theorem and_self32 (x : Int32) : x &&& x = x := by
  apply Int32.toBitVec_inj.1
  show x.toBitVec &&& x.toBitVec = x.toBitVec
  simp
/-- s without t -/
def dif (s t : Nat) : Nat := s - (s &&& t)
theorem ni_dif : ∀ s, s < 64 → ∀ t, t < 64 → nI s &&& (nI t ^^^ -1) = nI (dif s t) := by decide +kernel
theorem dif_le (s t : Nat) : dif s t ≤ s := Nat.sub_le _ _
theorem dif_0 : ∀ s, s < 64 → ∀ t, t < 64 → (dif t s = 0 ↔ t &&& s = t) := by decide +kernel
def cbk (v w : Nat → Int32) (n s : Nat) : Int32 := lp (fun t x => if t &&& s = t then imin x (v t + wsum w n (dif s t)) else x) s 0 (v s)
theorem cf_X3_minimisersAreClosed : CF yX3_minimisersAreClosed cX3_minimisersAreClosed 5 (some .boolean) 1 := ⟨cd_X3_minimisersAreClosed, iz_X3, by decide, by decide +kernel, by decide +kernel, by decide +kernel⟩
set_option maxRecDepth 100000 in
set_option maxHeartbeats 4000000 in
theorem c_X3_minimisersAreClosed {l : Launch} {E : Ev} {M : Mm} {n : Nat} {kd : Nat → Int32} {V : Nat → Nat → Int32} (hI : ∀ k, k < 108 → k ∈ E.2.1) (hF : CFn M n kd V) {f : Nat} (hf : f < 6) (hn1 : 1 ≤ n) (hn6 : n ≤ 6) {y : Int32} (hy : y = nI n) : Cm l E yX3_minimisersAreClosed cX3_minimisersAreClosed 5 (some .boolean) 2 [.ref (E.2.2.1 (10 + 2 * f)), .int y] M (pB (clsP (V f) n) M) := by
  refine Cm.of (by decide) (Nat.le_of_ble_eq_true rfl) (fun K k kt => ?_)
  show G l E K 0 [(0, .ref (E.2.2.1 (10 + 2 * f))), (1, .int y)] [] M
  have hp := p2_le6 hn6
  have hp2 := p2_ge2 hn1
  refine gs_aload_n (q := 0) k rfl rfl dX3_minimisersAreClosed_0 ?_
  refine gs_iload_n (q := 1) k rfl rfl dX3_minimisersAreClosed_1 ?_
  refine gs_callV (As := [.int y]) (k0 := (10 + 2 * f)) (ci := 3) (T := TX3) (N := 2) k (c_X3_leastValue hI hF hf hn1 hn6 hy) cf_X3_leastValue im_X3_leastValue sl_X3_leastValue ml_X3_48 (hI (10 + 2 * f) (by omega)) (ent_F1 hf _) rfl (by decide) rfl rfl (Nat.le_of_ble_eq_true rfl) dX3_minimisersAreClosed_2 (ppI ?_)
  refine gs_istore_n (lv' := [(2, .int (lst (V f) n)), (0, .ref (E.2.2.1 (10 + 2 * f))), (1, .int y)]) k rfl (by decide) rfl dX3_minimisersAreClosed_5 ?_
  refine gs_iconst (v := 0) k (by decide) dX3_minimisersAreClosed_6 ?_
  refine gs_istore_n (lv' := [(3, .int 0), (2, .int (lst (V f) n)), (0, .ref (E.2.2.1 (10 + 2 * f))), (1, .int y)]) k rfl (by decide) rfl dX3_minimisersAreClosed_7 ?_
  refine gs_lv (lv' := [(0, .ref (E.2.2.1 (10 + 2 * f))), (1, .int y), (2, .int (lst (V f) n)), (3, .int 0)]) [2, 3, 1, 0] rfl ?_
  refine for_al (fun s => G l E K 8 [(0, .ref (E.2.2.1 (10 + 2 * f))), (1, .int y), (2, .int (lst (V f) n)), (3, .int (nI s))] [] M) (fun s => ∀ b, 0 ≤ b → b < s → V f s = lst (V f) n → V f b = lst (V f) n → (V f (s &&& b) = lst (V f) n ∧ V f (s ||| b) = lst (V f) n)) (2 ^ n) 0 (fun s hss hs hBs hGs => ?_) (fun hEs => ?_) (2 ^ n) 0 (by omega) (Nat.le_refl _) (fun j h1 h2 => absurd h2 (by omega))
  · show G l E K 8 [(0, .ref (E.2.2.1 (10 + 2 * f))), (1, .int y), (2, .int (lst (V f) n)), (3, .int (nI s))] [] M
    refine gs_iload_n (q := 3) k rfl rfl dX3_minimisersAreClosed_8 ?_
    refine gs_iconst (v := 1) k (by decide) dX3_minimisersAreClosed_9 ?_
    refine gs_iload_n (q := 1) k rfl rfl dX3_minimisersAreClosed_10 ?_
    refine gs_ishlN (b := n) k rfl hy (by omega) dX3_minimisersAreClosed_11 ?_
    refine gs_icmpN_ge (a := s) (b := 2 ^ n) (tgt := 85) k rfl rfl (by omega) (by omega) (by decide) dX3_minimisersAreClosed_12 (fun c1 => absurd c1 (by omega)) (fun c1 => ?_)
    refine gs_iconst (v := 0) k (by decide) dX3_minimisersAreClosed_15 ?_
    refine gs_istore (lv' := [(4, .int 0), (0, .ref (E.2.2.1 (10 + 2 * f))), (1, .int y), (2, .int (lst (V f) n)), (3, .int (nI s))]) k (by decide) rfl dX3_minimisersAreClosed_16 ?_
    refine gs_lv (lv' := [(0, .ref (E.2.2.1 (10 + 2 * f))), (1, .int y), (2, .int (lst (V f) n)), (3, .int (nI s)), (4, .int 0)]) [1, 2, 3, 4, 0] rfl ?_
    refine for_al (fun b => G l E K 18 [(0, .ref (E.2.2.1 (10 + 2 * f))), (1, .int y), (2, .int (lst (V f) n)), (3, .int (nI s)), (4, .int (nI b))] [] M) (fun b => V f s = lst (V f) n → V f b = lst (V f) n → (V f (s &&& b) = lst (V f) n ∧ V f (s ||| b) = lst (V f) n)) s 0 (fun b hbs hb hBb hGb => ?_) (fun hEb => ?_) s 0 (by omega) (Nat.le_refl _) (fun j h1 h2 => absurd h2 (by omega))
    · show G l E K 18 [(0, .ref (E.2.2.1 (10 + 2 * f))), (1, .int y), (2, .int (lst (V f) n)), (3, .int (nI s)), (4, .int (nI b))] [] M
      have h1 : s &&& b < 2 ^ n := andlt hs
      have h2 : s ||| b < 2 ^ n := orlt2 hs (by omega)
      refine gs_iload (q := 4) k rfl dX3_minimisersAreClosed_18 ?_
      refine gs_iload_n (q := 3) k rfl rfl dX3_minimisersAreClosed_20 ?_
      refine gs_icmpN_ge (a := b) (b := s) (tgt := 79) k rfl rfl (by omega) (by omega) (by decide) dX3_minimisersAreClosed_21 (fun c2 => absurd c2 (by omega)) (fun c2 => ?_)
      refine gs_aload_n (q := 0) k rfl rfl dX3_minimisersAreClosed_24 ?_
      refine gs_get (C := RX3) (T := TX3) (N := 2) (ci := 3) (k0 := (10 + 2 * f)) (j := 1) k (hI (10 + 2 * f) (by omega)) (ent_F1 hf _) rfl inX3 (by decide) fl_X3_15 rfl rfl dX3_minimisersAreClosed_25 ?_
      refine gs_iload_n (q := 3) k rfl rfl dX3_minimisersAreClosed_28 ?_
      refine gs_ialdN (k0 := (11 + 2 * f)) (n := 64) (e := s) k (hI (11 + 2 * f) (by omega)) (ent_V1 hf) rfl (by omega) (by decide) dX3_minimisersAreClosed_29 ?_
      refine gs_top (y := V f s) ((hF f hf).2.2 s (by omega)) ?_
      refine gs_iload_n (q := 2) k rfl rfl dX3_minimisersAreClosed_30 ?_
      refine gs_icmp_ne (tgt := 79) k (by decide) dX3_minimisersAreClosed_31 (fun c3 => ?_) (fun c3 => ?_)
      · refine gs_iincN (q := 3) (a := s) (c := 1) (lv' := [(3, .int (nI (s + 1))), (0, .ref (E.2.2.1 (10 + 2 * f))), (1, .int y), (2, .int (lst (V f) n)), (4, .int (nI b))]) k rfl rfl (by decide) rfl dX3_minimisersAreClosed_79 ?_
        refine gs_goto (tgt := 8) k (by decide) dX3_minimisersAreClosed_82 ?_
        refine gs_lv (lv' := [(0, .ref (E.2.2.1 (10 + 2 * f))), (1, .int y), (2, .int (lst (V f) n)), (3, .int (nI (s + 1))), (4, .int (nI b))]) [1, 2, 3, 0, 4] rfl ?_
        refine gs_lv (lv' := [(0, .ref (E.2.2.1 (10 + 2 * f))), (1, .int y), (2, .int (lst (V f) n)), (3, .int (nI (s + 1)))]) [0, 1, 2, 3] rfl ?_
        exact hGs (fun b _ _ q => absurd q c3)
      · refine gs_aload_n (q := 0) k rfl rfl dX3_minimisersAreClosed_34 ?_
        refine gs_get (C := RX3) (T := TX3) (N := 2) (ci := 3) (k0 := (10 + 2 * f)) (j := 1) k (hI (10 + 2 * f) (by omega)) (ent_F1 hf _) rfl inX3 (by decide) fl_X3_15 rfl rfl dX3_minimisersAreClosed_35 ?_
        refine gs_iload (q := 4) k rfl dX3_minimisersAreClosed_38 ?_
        refine gs_ialdN (k0 := (11 + 2 * f)) (n := 64) (e := b) k (hI (11 + 2 * f) (by omega)) (ent_V1 hf) rfl (by omega) (by decide) dX3_minimisersAreClosed_40 ?_
        refine gs_top (y := V f b) ((hF f hf).2.2 b (by omega)) ?_
        refine gs_iload_n (q := 2) k rfl rfl dX3_minimisersAreClosed_41 ?_
        refine gs_icmp_ne (tgt := 73) k (by decide) dX3_minimisersAreClosed_42 (fun c4 => ?_) (fun c4 => ?_)
        · refine gs_iincN (q := 4) (a := b) (c := 1) (lv' := [(4, .int (nI (b + 1))), (0, .ref (E.2.2.1 (10 + 2 * f))), (1, .int y), (2, .int (lst (V f) n)), (3, .int (nI s))]) k rfl rfl (by decide) rfl dX3_minimisersAreClosed_73 ?_
          refine gs_goto (tgt := 18) k (by decide) dX3_minimisersAreClosed_76 ?_
          refine gs_lv (lv' := [(0, .ref (E.2.2.1 (10 + 2 * f))), (1, .int y), (2, .int (lst (V f) n)), (3, .int (nI s)), (4, .int (nI (b + 1)))]) [1, 2, 3, 4, 0] rfl ?_
          exact hGb (fun _ q => absurd q c4)
        · refine gs_aload_n (q := 0) k rfl rfl dX3_minimisersAreClosed_45 ?_
          refine gs_get (C := RX3) (T := TX3) (N := 2) (ci := 3) (k0 := (10 + 2 * f)) (j := 1) k (hI (10 + 2 * f) (by omega)) (ent_F1 hf _) rfl inX3 (by decide) fl_X3_15 rfl rfl dX3_minimisersAreClosed_46 ?_
          refine gs_iload_n (q := 3) k rfl rfl dX3_minimisersAreClosed_49 ?_
          refine gs_iload (q := 4) k rfl dX3_minimisersAreClosed_50 ?_
          refine gs_iandN (a := s) (b := b) k rfl rfl dX3_minimisersAreClosed_52 ?_
          refine gs_ialdN (k0 := (11 + 2 * f)) (n := 64) (e := s &&& b) k (hI (11 + 2 * f) (by omega)) (ent_V1 hf) rfl (by omega) (by decide) dX3_minimisersAreClosed_53 ?_
          refine gs_top (y := V f (s &&& b)) ((hF f hf).2.2 (s &&& b) (by omega)) ?_
          refine gs_iload_n (q := 2) k rfl rfl dX3_minimisersAreClosed_54 ?_
          refine gs_icmp_ne (tgt := 71) k (by decide) dX3_minimisersAreClosed_55 (fun c5 => ?_) (fun c5 => ?_)
          · refine gs_iconst (v := 0) k (by decide) dX3_minimisersAreClosed_71 ?_
            exact gs_zret k kt (by decide) dX3_minimisersAreClosed_72 (pB0 (fun q => c5 (q s hs b hb c3 c4).1))
          · refine gs_aload_n (q := 0) k rfl rfl dX3_minimisersAreClosed_58 ?_
            refine gs_get (C := RX3) (T := TX3) (N := 2) (ci := 3) (k0 := (10 + 2 * f)) (j := 1) k (hI (10 + 2 * f) (by omega)) (ent_F1 hf _) rfl inX3 (by decide) fl_X3_15 rfl rfl dX3_minimisersAreClosed_59 ?_
            refine gs_iload_n (q := 3) k rfl rfl dX3_minimisersAreClosed_62 ?_
            refine gs_iload (q := 4) k rfl dX3_minimisersAreClosed_63 ?_
            refine gs_iorN (a := s) (b := b) k rfl rfl dX3_minimisersAreClosed_65 ?_
            refine gs_ialdN (k0 := (11 + 2 * f)) (n := 64) (e := s ||| b) k (hI (11 + 2 * f) (by omega)) (ent_V1 hf) rfl (by omega) (by decide) dX3_minimisersAreClosed_66 ?_
            refine gs_top (y := V f (s ||| b)) ((hF f hf).2.2 (s ||| b) (by omega)) ?_
            refine gs_iload_n (q := 2) k rfl rfl dX3_minimisersAreClosed_67 ?_
            refine gs_icmp_eq (tgt := 73) k (by decide) dX3_minimisersAreClosed_68 (fun c6 => ?_) (fun c6 => ?_)
            · refine gs_iincN (q := 4) (a := b) (c := 1) (lv' := [(4, .int (nI (b + 1))), (0, .ref (E.2.2.1 (10 + 2 * f))), (1, .int y), (2, .int (lst (V f) n)), (3, .int (nI s))]) k rfl rfl (by decide) rfl dX3_minimisersAreClosed_73 ?_
              refine gs_goto (tgt := 18) k (by decide) dX3_minimisersAreClosed_76 ?_
              refine gs_lv (lv' := [(0, .ref (E.2.2.1 (10 + 2 * f))), (1, .int y), (2, .int (lst (V f) n)), (3, .int (nI s)), (4, .int (nI (b + 1)))]) [1, 2, 3, 4, 0] rfl ?_
              exact hGb (fun _ _ => ⟨c5, c6⟩)
            · refine gs_iconst (v := 0) k (by decide) dX3_minimisersAreClosed_71 ?_
              exact gs_zret k kt (by decide) dX3_minimisersAreClosed_72 (pB0 (fun q => c6 (q s hs b hb c3 c4).2))
    · show G l E K 18 [(0, .ref (E.2.2.1 (10 + 2 * f))), (1, .int y), (2, .int (lst (V f) n)), (3, .int (nI s)), (4, .int (nI s))] [] M
      refine gs_iload (q := 4) k rfl dX3_minimisersAreClosed_18 ?_
      refine gs_iload_n (q := 3) k rfl rfl dX3_minimisersAreClosed_20 ?_
      refine gs_icmpN_ge (a := s) (b := s) (tgt := 79) k rfl rfl (by omega) (by omega) (by decide) dX3_minimisersAreClosed_21 (fun c2 => ?_) (fun c2 => absurd c2 (by omega))
      refine gs_iincN (q := 3) (a := s) (c := 1) (lv' := [(3, .int (nI (s + 1))), (0, .ref (E.2.2.1 (10 + 2 * f))), (1, .int y), (2, .int (lst (V f) n)), (4, .int (nI s))]) k rfl rfl (by decide) rfl dX3_minimisersAreClosed_79 ?_
      refine gs_goto (tgt := 8) k (by decide) dX3_minimisersAreClosed_82 ?_
      refine gs_lv (lv' := [(0, .ref (E.2.2.1 (10 + 2 * f))), (1, .int y), (2, .int (lst (V f) n)), (3, .int (nI (s + 1))), (4, .int (nI s))]) [1, 2, 3, 0, 4] rfl ?_
      refine gs_lv (lv' := [(0, .ref (E.2.2.1 (10 + 2 * f))), (1, .int y), (2, .int (lst (V f) n)), (3, .int (nI (s + 1)))]) [0, 1, 2, 3] rfl ?_
      exact hGs hEb
  · show G l E K 8 [(0, .ref (E.2.2.1 (10 + 2 * f))), (1, .int y), (2, .int (lst (V f) n)), (3, .int (nI (2 ^ n)))] [] M
    refine gs_iload_n (q := 3) k rfl rfl dX3_minimisersAreClosed_8 ?_
    refine gs_iconst (v := 1) k (by decide) dX3_minimisersAreClosed_9 ?_
    refine gs_iload_n (q := 1) k rfl rfl dX3_minimisersAreClosed_10 ?_
    refine gs_ishlN (b := n) k rfl hy (by omega) dX3_minimisersAreClosed_11 ?_
    refine gs_icmpN_ge (a := 2 ^ n) (b := 2 ^ n) (tgt := 85) k rfl rfl (by omega) (by omega) (by decide) dX3_minimisersAreClosed_12 (fun c1 => ?_) (fun c1 => absurd c1 (by omega))
    refine gs_iconst (v := 1) k (by decide) dX3_minimisersAreClosed_85 ?_
    exact gs_zret k kt (by decide) dX3_minimisersAreClosed_86 (pB1 (fun s hs b hb => hEs s (Nat.zero_le _) hs b (Nat.zero_le _) hb))

theorem cf_X7_areClosed : CF yX7_areClosed cX7_areClosed 5 (some .boolean) 2 := ⟨cd_X7_areClosed, iz_X7, by decide, by decide +kernel, by decide +kernel, by decide +kernel⟩
set_option maxRecDepth 100000 in
set_option maxHeartbeats 4000000 in
theorem c_X7_areClosed {l : Launch} {E : Ev} {M : Mm} {n : Nat} {kd : Nat → Int32} {V : Nat → Nat → Int32} (hI : ∀ k, k < 108 → k ∈ E.2.1) (hn : Rn M n) (hF : RFn M n kd V) {z : Int32} {f : Nat} (hz : z = nI f) (hf : f < 6) (ht : ¬ kd f < 0) {y : Int32} (hy : y = lst (V f) n) : Cm l E yX7_areClosed cX7_areClosed 5 (some .boolean) 1 [.ref (E.2.2.1 65), .int z, .int y] M (pB (clsP (V f) n) M) := by
  refine Cm.of (by decide) (Nat.le_of_ble_eq_true rfl) (fun K k kt => ?_)
  show G l E K 0 [(0, .ref (E.2.2.1 65)), (1, .int z), (2, .int y)] [] M
  obtain ⟨hn0, hn1, hn6⟩ := id hn
  have hp := p2_le6 hn6
  have hp2 := p2_ge2 hn1
  subst hy
  refine gs_iconst (v := 0) k (by decide) dX7_areClosed_0 ?_
  refine gs_istore_n (lv' := [(3, .int 0), (0, .ref (E.2.2.1 65)), (1, .int z), (2, .int (lst (V f) n))]) k rfl (by decide) rfl dX7_areClosed_1 ?_
  refine gs_lv (lv' := [(0, .ref (E.2.2.1 65)), (1, .int z), (2, .int (lst (V f) n)), (3, .int 0)]) [1, 2, 3, 0] rfl ?_
  refine for_al (fun s => G l E K 2 [(0, .ref (E.2.2.1 65)), (1, .int z), (2, .int (lst (V f) n)), (3, .int (nI s))] [] M) (fun s => ∀ b, 0 ≤ b → b < s → V f s = lst (V f) n → V f b = lst (V f) n → (V f (s &&& b) = lst (V f) n ∧ V f (s ||| b) = lst (V f) n)) (2 ^ n) 0 (fun s hss hs hBs hGs => ?_) (fun hEs => ?_) (2 ^ n) 0 (by omega) (Nat.le_refl _) (fun j h1 h2 => absurd h2 (by omega))
  · show G l E K 2 [(0, .ref (E.2.2.1 65)), (1, .int z), (2, .int (lst (V f) n)), (3, .int (nI s))] [] M
    refine gs_iload_n (q := 3) k rfl rfl dX7_areClosed_2 ?_
    refine gs_aload_n (q := 0) k rfl rfl dX7_areClosed_3 ?_
    refine gs_callV (As := []) (k0 := 65) (ci := 7) (T := TX7) (N := 27) k (c_X7_sets hI hn) cf_X7_sets im_X7_sets sl_X7_sets ml_X7_83 (hI 65 (by omega)) rfl rfl (by decide) rfl rfl (Nat.le_of_ble_eq_true rfl) dX7_areClosed_4 (ppI ?_)
    refine gs_icmpN_ge (a := s) (b := 2 ^ n) (tgt := 88) k rfl rfl (by omega) (by omega) (by decide) dX7_areClosed_7 (fun c1 => absurd c1 (by omega)) (fun c1 => ?_)
    refine gs_iconst (v := 0) k (by decide) dX7_areClosed_10 ?_
    refine gs_istore (lv' := [(4, .int 0), (0, .ref (E.2.2.1 65)), (1, .int z), (2, .int (lst (V f) n)), (3, .int (nI s))]) k (by decide) rfl dX7_areClosed_11 ?_
    refine gs_lv (lv' := [(0, .ref (E.2.2.1 65)), (1, .int z), (2, .int (lst (V f) n)), (3, .int (nI s)), (4, .int 0)]) [1, 2, 3, 4, 0] rfl ?_
    refine for_al (fun b => G l E K 13 [(0, .ref (E.2.2.1 65)), (1, .int z), (2, .int (lst (V f) n)), (3, .int (nI s)), (4, .int (nI b))] [] M) (fun b => V f s = lst (V f) n → V f b = lst (V f) n → (V f (s &&& b) = lst (V f) n ∧ V f (s ||| b) = lst (V f) n)) s 0 (fun b hbs hb hBb hGb => ?_) (fun hEb => ?_) s 0 (by omega) (Nat.le_refl _) (fun j h1 h2 => absurd h2 (by omega))
    · show G l E K 13 [(0, .ref (E.2.2.1 65)), (1, .int z), (2, .int (lst (V f) n)), (3, .int (nI s)), (4, .int (nI b))] [] M
      have h1 : s &&& b < 2 ^ n := andlt hs
      have h2 : s ||| b < 2 ^ n := orlt2 hs (by omega)
      refine gs_iload (q := 4) k rfl dX7_areClosed_13 ?_
      refine gs_iload_n (q := 3) k rfl rfl dX7_areClosed_15 ?_
      refine gs_icmpN_ge (a := b) (b := s) (tgt := 82) k rfl rfl (by omega) (by omega) (by decide) dX7_areClosed_16 (fun c2 => absurd c2 (by omega)) (fun c2 => ?_)
      refine gs_aload_n (q := 0) k rfl rfl dX7_areClosed_19 ?_
      refine gs_get (C := RX7) (T := TX7) (N := 27) (ci := 7) (k0 := 65) (j := 8) k (hI 65 (by omega)) rfl rfl inX7 (by decide) fl_X7_39 rfl rfl dX7_areClosed_20 ?_
      refine gs_iload_n (q := 1) k rfl rfl dX7_areClosed_23 ?_
      refine gs_aaldIN (k0 := 73) (n := 6) (e := f) (a := E.2.2.1 (74 + f)) k (hI 73 (by omega)) (fun _ => rfl) hz (by omega) (by decide) rfl dX7_areClosed_24 ?_
      refine gs_iload_n (q := 3) k rfl rfl dX7_areClosed_25 ?_
      refine gs_ialdN (k0 := (74 + f)) (n := 64) (e := s) k (hI (74 + f) (by omega)) (ent_RV (by omega)) rfl (by omega) (by decide) dX7_areClosed_26 ?_
      refine gs_top (y := V f s) ((hF f hf).2.2 ht s (by omega)) ?_
      refine gs_iload_n (q := 2) k rfl rfl dX7_areClosed_27 ?_
      refine gs_icmp_ne (tgt := 76) k (by decide) dX7_areClosed_28 (fun c3 => ?_) (fun c3 => ?_)
      · refine gs_iincN (q := 4) (a := b) (c := 1) (lv' := [(4, .int (nI (b + 1))), (0, .ref (E.2.2.1 65)), (1, .int z), (2, .int (lst (V f) n)), (3, .int (nI s))]) k rfl rfl (by decide) rfl dX7_areClosed_76 ?_
        refine gs_goto (tgt := 13) k (by decide) dX7_areClosed_79 ?_
        refine gs_lv (lv' := [(0, .ref (E.2.2.1 65)), (1, .int z), (2, .int (lst (V f) n)), (3, .int (nI s)), (4, .int (nI (b + 1)))]) [1, 2, 3, 4, 0] rfl ?_
        exact hGb (fun q => absurd q c3)
      · refine gs_aload_n (q := 0) k rfl rfl dX7_areClosed_31 ?_
        refine gs_get (C := RX7) (T := TX7) (N := 27) (ci := 7) (k0 := 65) (j := 8) k (hI 65 (by omega)) rfl rfl inX7 (by decide) fl_X7_39 rfl rfl dX7_areClosed_32 ?_
        refine gs_iload_n (q := 1) k rfl rfl dX7_areClosed_35 ?_
        refine gs_aaldIN (k0 := 73) (n := 6) (e := f) (a := E.2.2.1 (74 + f)) k (hI 73 (by omega)) (fun _ => rfl) hz (by omega) (by decide) rfl dX7_areClosed_36 ?_
        refine gs_iload (q := 4) k rfl dX7_areClosed_37 ?_
        refine gs_ialdN (k0 := (74 + f)) (n := 64) (e := b) k (hI (74 + f) (by omega)) (ent_RV (by omega)) rfl (by omega) (by decide) dX7_areClosed_39 ?_
        refine gs_top (y := V f b) ((hF f hf).2.2 ht b (by omega)) ?_
        refine gs_iload_n (q := 2) k rfl rfl dX7_areClosed_40 ?_
        refine gs_icmp_ne (tgt := 76) k (by decide) dX7_areClosed_41 (fun c4 => ?_) (fun c4 => ?_)
        · refine gs_iincN (q := 4) (a := b) (c := 1) (lv' := [(4, .int (nI (b + 1))), (0, .ref (E.2.2.1 65)), (1, .int z), (2, .int (lst (V f) n)), (3, .int (nI s))]) k rfl rfl (by decide) rfl dX7_areClosed_76 ?_
          refine gs_goto (tgt := 13) k (by decide) dX7_areClosed_79 ?_
          refine gs_lv (lv' := [(0, .ref (E.2.2.1 65)), (1, .int z), (2, .int (lst (V f) n)), (3, .int (nI s)), (4, .int (nI (b + 1)))]) [1, 2, 3, 4, 0] rfl ?_
          exact hGb (fun _ q => absurd q c4)
        · refine gs_aload_n (q := 0) k rfl rfl dX7_areClosed_44 ?_
          refine gs_get (C := RX7) (T := TX7) (N := 27) (ci := 7) (k0 := 65) (j := 8) k (hI 65 (by omega)) rfl rfl inX7 (by decide) fl_X7_39 rfl rfl dX7_areClosed_45 ?_
          refine gs_iload_n (q := 1) k rfl rfl dX7_areClosed_48 ?_
          refine gs_aaldIN (k0 := 73) (n := 6) (e := f) (a := E.2.2.1 (74 + f)) k (hI 73 (by omega)) (fun _ => rfl) hz (by omega) (by decide) rfl dX7_areClosed_49 ?_
          refine gs_iload_n (q := 3) k rfl rfl dX7_areClosed_50 ?_
          refine gs_iload (q := 4) k rfl dX7_areClosed_51 ?_
          refine gs_iandN (a := s) (b := b) k rfl rfl dX7_areClosed_53 ?_
          refine gs_ialdN (k0 := (74 + f)) (n := 64) (e := s &&& b) k (hI (74 + f) (by omega)) (ent_RV (by omega)) rfl (by omega) (by decide) dX7_areClosed_54 ?_
          refine gs_top (y := V f (s &&& b)) ((hF f hf).2.2 ht (s &&& b) (by omega)) ?_
          refine gs_iload_n (q := 2) k rfl rfl dX7_areClosed_55 ?_
          refine gs_icmp_ne (tgt := 74) k (by decide) dX7_areClosed_56 (fun c5 => ?_) (fun c5 => ?_)
          · refine gs_iconst (v := 0) k (by decide) dX7_areClosed_74 ?_
            exact gs_zret k kt (by decide) dX7_areClosed_75 (pB0 (fun q => c5 (q s hs b hb c3 c4).1))
          · refine gs_aload_n (q := 0) k rfl rfl dX7_areClosed_59 ?_
            refine gs_get (C := RX7) (T := TX7) (N := 27) (ci := 7) (k0 := 65) (j := 8) k (hI 65 (by omega)) rfl rfl inX7 (by decide) fl_X7_39 rfl rfl dX7_areClosed_60 ?_
            refine gs_iload_n (q := 1) k rfl rfl dX7_areClosed_63 ?_
            refine gs_aaldIN (k0 := 73) (n := 6) (e := f) (a := E.2.2.1 (74 + f)) k (hI 73 (by omega)) (fun _ => rfl) hz (by omega) (by decide) rfl dX7_areClosed_64 ?_
            refine gs_iload_n (q := 3) k rfl rfl dX7_areClosed_65 ?_
            refine gs_iload (q := 4) k rfl dX7_areClosed_66 ?_
            refine gs_iorN (a := s) (b := b) k rfl rfl dX7_areClosed_68 ?_
            refine gs_ialdN (k0 := (74 + f)) (n := 64) (e := s ||| b) k (hI (74 + f) (by omega)) (ent_RV (by omega)) rfl (by omega) (by decide) dX7_areClosed_69 ?_
            refine gs_top (y := V f (s ||| b)) ((hF f hf).2.2 ht (s ||| b) (by omega)) ?_
            refine gs_iload_n (q := 2) k rfl rfl dX7_areClosed_70 ?_
            refine gs_icmp_eq (tgt := 76) k (by decide) dX7_areClosed_71 (fun c6 => ?_) (fun c6 => ?_)
            · refine gs_iincN (q := 4) (a := b) (c := 1) (lv' := [(4, .int (nI (b + 1))), (0, .ref (E.2.2.1 65)), (1, .int z), (2, .int (lst (V f) n)), (3, .int (nI s))]) k rfl rfl (by decide) rfl dX7_areClosed_76 ?_
              refine gs_goto (tgt := 13) k (by decide) dX7_areClosed_79 ?_
              refine gs_lv (lv' := [(0, .ref (E.2.2.1 65)), (1, .int z), (2, .int (lst (V f) n)), (3, .int (nI s)), (4, .int (nI (b + 1)))]) [1, 2, 3, 4, 0] rfl ?_
              exact hGb (fun _ _ => ⟨c5, c6⟩)
            · refine gs_iconst (v := 0) k (by decide) dX7_areClosed_74 ?_
              exact gs_zret k kt (by decide) dX7_areClosed_75 (pB0 (fun q => c6 (q s hs b hb c3 c4).2))
    · show G l E K 13 [(0, .ref (E.2.2.1 65)), (1, .int z), (2, .int (lst (V f) n)), (3, .int (nI s)), (4, .int (nI s))] [] M
      refine gs_iload (q := 4) k rfl dX7_areClosed_13 ?_
      refine gs_iload_n (q := 3) k rfl rfl dX7_areClosed_15 ?_
      refine gs_icmpN_ge (a := s) (b := s) (tgt := 82) k rfl rfl (by omega) (by omega) (by decide) dX7_areClosed_16 (fun c2 => ?_) (fun c2 => absurd c2 (by omega))
      refine gs_iincN (q := 3) (a := s) (c := 1) (lv' := [(3, .int (nI (s + 1))), (0, .ref (E.2.2.1 65)), (1, .int z), (2, .int (lst (V f) n)), (4, .int (nI s))]) k rfl rfl (by decide) rfl dX7_areClosed_82 ?_
      refine gs_goto (tgt := 2) k (by decide) dX7_areClosed_85 ?_
      refine gs_lv (lv' := [(0, .ref (E.2.2.1 65)), (1, .int z), (2, .int (lst (V f) n)), (3, .int (nI (s + 1))), (4, .int (nI s))]) [1, 2, 3, 0, 4] rfl ?_
      refine gs_lv (lv' := [(0, .ref (E.2.2.1 65)), (1, .int z), (2, .int (lst (V f) n)), (3, .int (nI (s + 1)))]) [0, 1, 2, 3] rfl ?_
      exact hGs hEb
  · show G l E K 2 [(0, .ref (E.2.2.1 65)), (1, .int z), (2, .int (lst (V f) n)), (3, .int (nI (2 ^ n)))] [] M
    refine gs_iload_n (q := 3) k rfl rfl dX7_areClosed_2 ?_
    refine gs_aload_n (q := 0) k rfl rfl dX7_areClosed_3 ?_
    refine gs_callV (As := []) (k0 := 65) (ci := 7) (T := TX7) (N := 27) k (c_X7_sets hI hn) cf_X7_sets im_X7_sets sl_X7_sets ml_X7_83 (hI 65 (by omega)) rfl rfl (by decide) rfl rfl (Nat.le_of_ble_eq_true rfl) dX7_areClosed_4 (ppI ?_)
    refine gs_icmpN_ge (a := 2 ^ n) (b := 2 ^ n) (tgt := 88) k rfl rfl (by omega) (by omega) (by decide) dX7_areClosed_7 (fun c1 => ?_) (fun c1 => absurd c1 (by omega))
    refine gs_iconst (v := 1) k (by decide) dX7_areClosed_88 ?_
    exact gs_zret k kt (by decide) dX7_areClosed_89 (pB1 (fun s hs b hb => hEs s (Nat.zero_le _) hs b (Nat.zero_le _) hb))

theorem cf_X6_leastSets : CF yX6_leastSets cX6_leastSets 10 (some .int) 2 := ⟨cd_X6_leastSets, iz_X6, by decide, by decide +kernel, by decide +kernel, by decide +kernel⟩
set_option maxRecDepth 100000 in
set_option maxHeartbeats 4000000 in
theorem c_X6_leastSets {l : Launch} {E : Ev} {M : Mm} {n : Nat} {kd : Nat → Int32} {V : Nat → Nat → Int32} (hI : ∀ k, k < 108 → k ∈ E.2.1) (hn : Cn M n) (hF : CFn M n kd V) {f w : Int32} : Cm l E yX6_leastSets cX6_leastSets 10 (some .int) 3 [.ref (E.2.2.1 0), .int f, .int w] M (pI (A_leastSets n kd V f w) M) := by
  refine Cm.of (by decide) (Nat.le_of_ble_eq_true rfl) (fun K k kt => ?_)
  show G l E K 0 [(0, .ref (E.2.2.1 0)), (1, .int f), (2, .int w)] [] M
  obtain ⟨hn0, hn1, hn6⟩ := id hn
  have hp := p2_le6 hn6
  have hp2 := p2_ge2 hn1
  refine gs_aload_n (q := 0) k rfl rfl dX6_leastSets_0 ?_
  refine gs_iload_n (q := 1) k rfl rfl dX6_leastSets_1 ?_
  refine gs_iload_n (q := 2) k rfl rfl dX6_leastSets_2 ?_
  refine gs_callV (As := [.int f, .int w]) (k0 := 0) (ci := 6) (T := TX6) (N := 10) k (c_X6_errorOfChoice hI hF) cf_X6_errorOfChoice im_X6_errorOfChoice sl_X6_errorOfChoice ml_X6_204 (hI 0 (by omega)) rfl rfl (by decide) rfl rfl (Nat.le_of_ble_eq_true rfl) dX6_leastSets_3 (ppE (fun c1 => ?_) (fun c1 c2 => ?_) (fun c1 c2 => ?_))
  · refine gs_istore_n (lv' := [(3, .int (-1)), (0, .ref (E.2.2.1 0)), (1, .int f), (2, .int w)]) k rfl (by decide) rfl dX6_leastSets_6 ?_
    refine gs_iload_n (q := 0) k rfl rfl dX6_leastSets_7 ?_
    refine gs_if_eq (tgt := 13) k (by decide) dX6_leastSets_8 (fun h => absurd h (by decide)) (fun _ => ?_)
    refine gs_iload_n (q := 0) k rfl rfl dX6_leastSets_11 ?_
    exact gs_iret k kt dX6_leastSets_12 ⟨(by simp [-Int32.not_lt, A_leastSets, b2i, ifc_T, ifc_F, c1, i0_4, i1_4, i2_4, i3_4]), (by simp [-Int32.not_lt, A_leastSets, b2i, ifc_T, ifc_F, c1, i0_4, i1_4, i2_4, i3_4])⟩
  · have bc1 := inR_lt c1.2
    have dc1 := inR_lt c1.1
    refine gs_istore_n (lv' := [(3, .int (-11)), (0, .ref (E.2.2.1 0)), (1, .int f), (2, .int w)]) k rfl (by decide) rfl dX6_leastSets_6 ?_
    refine gs_iload_n (q := 0) k rfl rfl dX6_leastSets_7 ?_
    refine gs_if_eq (tgt := 13) k (by decide) dX6_leastSets_8 (fun h => absurd h (by decide)) (fun _ => ?_)
    refine gs_iload_n (q := 0) k rfl rfl dX6_leastSets_11 ?_
    exact gs_iret k kt dX6_leastSets_12 ⟨(by simp [-Int32.not_lt, A_leastSets, b2i, ifc_T, ifc_F, c1, c2, i0_4, i1_4, i2_4, i3_4]), (by simp [-Int32.not_lt, A_leastSets, b2i, ifc_T, ifc_F, c1, c2, i0_4, i1_4, i2_4, i3_4])⟩
  · have bc1 := inR_lt c1.2
    have dc1 := inR_lt c1.1
    refine gs_istore_n (lv' := [(3, .int 0), (0, .ref (E.2.2.1 0)), (1, .int f), (2, .int w)]) k rfl (by decide) rfl dX6_leastSets_6 ?_
    refine gs_iload_n (q := 0) k rfl rfl dX6_leastSets_7 ?_
    refine gs_if_eq (tgt := 13) k (by decide) dX6_leastSets_8 (fun _ => ?_) (fun h => absurd h (by decide))
    refine gs_aload_n (q := 1) k rfl rfl dX6_leastSets_13 ?_
    refine gs_get (C := RX6) (T := TX6) (N := 10) (ci := 6) (k0 := 0) (j := 0) k (hI 0 (by omega)) rfl rfl inX6 (by decide) fl_X6_12 rfl rfl dX6_leastSets_14 ?_
    refine gs_get (C := RX5) (T := TX5) (N := 9) (ci := 5) (k0 := 1) (j := 7) k (hI 1 (by omega)) rfl rfl inX5 (by decide) fl_X6_107 rfl rfl dX6_leastSets_17 ?_
    refine gs_iload_n (q := 2) k rfl rfl dX6_leastSets_20 ?_
    refine gs_aaldSN (k0 := 8) (n := 6) (e := tn f) (a := E.2.2.1 (10 + 2 * (tn f))) k (hI 8 (by omega)) (fun _ => rfl) (inR_eq c1.2) (by omega) (by decide) rfl dX6_leastSets_21 ?_
    refine gs_astore (lv' := [(4, .ref (E.2.2.1 (10 + 2 * (tn f)))), (3, .int 0), (0, .ref (E.2.2.1 0)), (1, .int f), (2, .int w)]) k (by decide) rfl dX6_leastSets_22 ?_
    refine gs_iload_n (q := 4) k rfl rfl dX6_leastSets_24 ?_
    refine gs_iconst (v := 3) k (by decide) dX6_leastSets_25 ?_
    refine gs_icmp_ne (tgt := 45) k (by decide) dX6_leastSets_26 (fun c3 => ?_) (fun c3 => ?_)
    · refine gs_aload (q := 0) k rfl dX6_leastSets_45 ?_
      refine gs_aload_n (q := 2) k rfl rfl dX6_leastSets_47 ?_
      refine gs_get (C := RX6) (T := TX6) (N := 10) (ci := 6) (k0 := 0) (j := 0) k (hI 0 (by omega)) rfl rfl inX6 (by decide) fl_X6_12 rfl rfl dX6_leastSets_48 ?_
      refine gs_get (C := RX5) (T := TX5) (N := 9) (ci := 5) (k0 := 1) (j := 0) k (hI 1 (by omega)) rfl rfl inX5 (by decide) fl_X6_63 rfl rfl dX6_leastSets_51 ?_
      refine gs_callV (As := [.int (M 1 0)]) (k0 := (10 + 2 * (tn f))) (ci := 3) (T := TX3) (N := 2) k (c_X3_leastValue hI hF (by omega) hn1 hn6 hn0) cf_X3_leastValue im_X3_leastValue sl_X3_leastValue ml_X6_207 (hI (10 + 2 * (tn f)) (by omega)) (ent_F1 (by omega) _) rfl (by decide) rfl rfl (Nat.le_of_ble_eq_true rfl) dX6_leastSets_54 (ppI ?_)
      refine gs_istore (lv' := [(5, .int (lst (V (tn f)) n)), (4, .ref (E.2.2.1 (10 + 2 * (tn f)))), (3, .int 0), (0, .ref (E.2.2.1 0)), (1, .int f), (2, .int w)]) k (by decide) rfl dX6_leastSets_57 ?_
      refine gs_iconst (v := 0) k (by decide) dX6_leastSets_59 ?_
      refine gs_istore (lv' := [(6, .int 0), (5, .int (lst (V (tn f)) n)), (4, .ref (E.2.2.1 (10 + 2 * (tn f)))), (3, .int 0), (0, .ref (E.2.2.1 0)), (1, .int f), (2, .int w)]) k (by decide) rfl dX6_leastSets_60 ?_
      refine gs_aload_n (q := 4) k rfl rfl dX6_leastSets_62 ?_
      refine gs_get (C := RX6) (T := TX6) (N := 10) (ci := 6) (k0 := 0) (j := 0) k (hI 0 (by omega)) rfl rfl inX6 (by decide) fl_X6_12 rfl rfl dX6_leastSets_63 ?_
      refine gs_callV (As := []) (k0 := 1) (ci := 5) (T := TX5) (N := 9) k (c_X5_all hI hn) cf_X5_all im_X5_all sl_X5_all ml_X6_119 (hI 1 (by omega)) rfl rfl (by decide) rfl rfl (Nat.le_of_ble_eq_true rfl) dX6_leastSets_66 (ppI ?_)
      refine gs_istore (lv' := [(7, .int (nI (2 ^ n - 1))), (6, .int 0), (5, .int (lst (V (tn f)) n)), (4, .ref (E.2.2.1 (10 + 2 * (tn f)))), (3, .int 0), (0, .ref (E.2.2.1 0)), (1, .int f), (2, .int w)]) k (by decide) rfl dX6_leastSets_69 ?_
      refine gs_iconst (v := 0) k (by decide) dX6_leastSets_71 ?_
      refine gs_istore (lv' := [(8, .int 0), (7, .int (nI (2 ^ n - 1))), (6, .int 0), (5, .int (lst (V (tn f)) n)), (4, .ref (E.2.2.1 (10 + 2 * (tn f)))), (3, .int 0), (0, .ref (E.2.2.1 0)), (1, .int f), (2, .int w)]) k (by decide) rfl dX6_leastSets_72 ?_
      refine gs_iconst (v := 0) k (by decide) dX6_leastSets_74 ?_
      refine gs_istore (lv' := [(9, .int 0), (8, .int 0), (7, .int (nI (2 ^ n - 1))), (6, .int 0), (5, .int (lst (V (tn f)) n)), (4, .ref (E.2.2.1 (10 + 2 * (tn f)))), (3, .int 0), (0, .ref (E.2.2.1 0)), (1, .int f), (2, .int w)]) k (by decide) rfl dX6_leastSets_75 ?_
      refine gs_lv (lv' := [(0, .ref (E.2.2.1 0)), (1, .int f), (2, .int w), (3, .int 0), (4, .ref (E.2.2.1 (10 + 2 * (tn f)))), (5, .int (lst (V (tn f)) n)), (6, .int 0), (7, .int (nI (2 ^ n - 1))), (8, .int 0), (9, .int 0)]) [7, 8, 9, 6, 5, 4, 3, 2, 1, 0] rfl ?_
      refine for_up (σ := Int32 × Int32 × Int32) (fun s zs => G l E K 77 [(0, .ref (E.2.2.1 0)), (1, .int f), (2, .int w), (3, .int 0), (4, .ref (E.2.2.1 (10 + 2 * (tn f)))), (5, .int (lst (V (tn f)) n)), (6, .int zs.1), (7, .int zs.2.1), (8, .int zs.2.2), (9, .int (nI s))] [] M) (fun s zs => if V (tn f) s = lst (V (tn f)) n then (zs.1 + 1, zs.2.1 &&& nI s, zs.2.2 ||| nI s) else (zs.1, zs.2.1, zs.2.2)) (2 ^ n) (fun s zs hs hGs => ?_) (2 ^ n) 0 (0, nI (2 ^ n - 1), 0) (by omega) ?_
      · show G l E K 77 [(0, .ref (E.2.2.1 0)), (1, .int f), (2, .int w), (3, .int 0), (4, .ref (E.2.2.1 (10 + 2 * (tn f)))), (5, .int (lst (V (tn f)) n)), (6, .int zs.1), (7, .int zs.2.1), (8, .int zs.2.2), (9, .int (nI s))] [] M
        refine gs_iload (q := 9) k rfl dX6_leastSets_77 ?_
        refine gs_aload_n (q := 0) k rfl rfl dX6_leastSets_79 ?_
        refine gs_get (C := RX6) (T := TX6) (N := 10) (ci := 6) (k0 := 0) (j := 0) k (hI 0 (by omega)) rfl rfl inX6 (by decide) fl_X6_12 rfl rfl dX6_leastSets_80 ?_
        refine gs_callV (As := []) (k0 := 1) (ci := 5) (T := TX5) (N := 9) k (c_X5_sets hI hn) cf_X5_sets im_X5_sets sl_X5_sets ml_X6_131 (hI 1 (by omega)) rfl rfl (by decide) rfl rfl (Nat.le_of_ble_eq_true rfl) dX6_leastSets_83 (ppI ?_)
        refine gs_icmpN_ge (a := s) (b := 2 ^ n) (tgt := 125) k rfl rfl (by omega) (by omega) (by decide) dX6_leastSets_86 (fun c4 => absurd c4 (by omega)) (fun c4 => ?_)
        refine gs_aload (q := 4) k rfl dX6_leastSets_89 ?_
        refine gs_get (C := RX3) (T := TX3) (N := 2) (ci := 3) (k0 := (10 + 2 * (tn f))) (j := 1) k (hI (10 + 2 * (tn f)) (by omega)) (ent_F1 (by omega) _) rfl inX3 (by decide) fl_X6_111 rfl rfl dX6_leastSets_91 ?_
        refine gs_iload (q := 9) k rfl dX6_leastSets_94 ?_
        refine gs_ialdN (k0 := (11 + 2 * (tn f))) (n := 64) (e := s) k (hI (11 + 2 * (tn f)) (by omega)) (ent_V1 (by omega)) rfl (by omega) (by decide) dX6_leastSets_96 ?_
        refine gs_top (y := V (tn f) s) ((hF (tn f) (by omega)).2.2 s (by omega)) ?_
        refine gs_iload (q := 5) k rfl dX6_leastSets_97 ?_
        refine gs_icmp_ne (tgt := 119) k (by decide) dX6_leastSets_99 (fun c5 => ?_) (fun c5 => ?_)
        · refine gs_iincN (q := 9) (a := s) (c := 1) (lv' := [(9, .int (nI (s + 1))), (0, .ref (E.2.2.1 0)), (1, .int f), (2, .int w), (3, .int 0), (4, .ref (E.2.2.1 (10 + 2 * (tn f)))), (5, .int (lst (V (tn f)) n)), (6, .int zs.1), (7, .int zs.2.1), (8, .int zs.2.2)]) k rfl rfl (by decide) rfl dX6_leastSets_119 ?_
          refine gs_goto (tgt := 77) k (by decide) dX6_leastSets_122 ?_
          refine gs_lv (lv' := [(0, .ref (E.2.2.1 0)), (1, .int f), (2, .int w), (3, .int 0), (4, .ref (E.2.2.1 (10 + 2 * (tn f)))), (5, .int (lst (V (tn f)) n)), (6, .int zs.1), (7, .int zs.2.1), (8, .int zs.2.2), (9, .int (nI (s + 1)))]) [1, 2, 3, 4, 5, 6, 7, 8, 9, 0] rfl ?_
          exact hGs _ (by rw [if_neg c5])
        · refine gs_iinc (q := 6) (v := zs.1 + 1) (lv' := [(6, .int (zs.1 + 1)), (0, .ref (E.2.2.1 0)), (1, .int f), (2, .int w), (3, .int 0), (4, .ref (E.2.2.1 (10 + 2 * (tn f)))), (5, .int (lst (V (tn f)) n)), (7, .int zs.2.1), (8, .int zs.2.2), (9, .int (nI s))]) k rfl rfl (by decide) rfl dX6_leastSets_102 ?_
          refine gs_iload (q := 7) k rfl dX6_leastSets_105 ?_
          refine gs_iload (q := 9) k rfl dX6_leastSets_107 ?_
          refine gs_iand k dX6_leastSets_109 ?_
          refine gs_istore (lv' := [(7, .int (zs.2.1 &&& (nI s))), (6, .int (zs.1 + 1)), (0, .ref (E.2.2.1 0)), (1, .int f), (2, .int w), (3, .int 0), (4, .ref (E.2.2.1 (10 + 2 * (tn f)))), (5, .int (lst (V (tn f)) n)), (8, .int zs.2.2), (9, .int (nI s))]) k (by decide) rfl dX6_leastSets_110 ?_
          refine gs_iload (q := 8) k rfl dX6_leastSets_112 ?_
          refine gs_iload (q := 9) k rfl dX6_leastSets_114 ?_
          refine gs_ior k dX6_leastSets_116 ?_
          refine gs_istore (lv' := [(8, .int (zs.2.2 ||| (nI s))), (7, .int (zs.2.1 &&& (nI s))), (6, .int (zs.1 + 1)), (0, .ref (E.2.2.1 0)), (1, .int f), (2, .int w), (3, .int 0), (4, .ref (E.2.2.1 (10 + 2 * (tn f)))), (5, .int (lst (V (tn f)) n)), (9, .int (nI s))]) k (by decide) rfl dX6_leastSets_117 ?_
          refine gs_iincN (q := 9) (a := s) (c := 1) (lv' := [(9, .int (nI (s + 1))), (8, .int (zs.2.2 ||| (nI s))), (7, .int (zs.2.1 &&& (nI s))), (6, .int (zs.1 + 1)), (0, .ref (E.2.2.1 0)), (1, .int f), (2, .int w), (3, .int 0), (4, .ref (E.2.2.1 (10 + 2 * (tn f)))), (5, .int (lst (V (tn f)) n))]) k rfl rfl (by decide) rfl dX6_leastSets_119 ?_
          refine gs_goto (tgt := 77) k (by decide) dX6_leastSets_122 ?_
          refine gs_lv (lv' := [(0, .ref (E.2.2.1 0)), (1, .int f), (2, .int w), (3, .int 0), (4, .ref (E.2.2.1 (10 + 2 * (tn f)))), (5, .int (lst (V (tn f)) n)), (6, .int (zs.1 + 1)), (7, .int (zs.2.1 &&& (nI s))), (8, .int (zs.2.2 ||| (nI s))), (9, .int (nI (s + 1)))]) [4, 5, 6, 7, 8, 9, 3, 2, 1, 0] rfl ?_
          exact hGs _ (by rw [if_pos c5])
      · show G l E K 77 [(0, .ref (E.2.2.1 0)), (1, .int f), (2, .int w), (3, .int 0), (4, .ref (E.2.2.1 (10 + 2 * (tn f)))), (5, .int (lst (V (tn f)) n)), (6, .int ((lsS (V (tn f)) n).1)), (7, .int ((lsS (V (tn f)) n).2.1)), (8, .int ((lsS (V (tn f)) n).2.2)), (9, .int (nI (2 ^ n)))] [] M
        refine gs_iload (q := 9) k rfl dX6_leastSets_77 ?_
        refine gs_aload_n (q := 0) k rfl rfl dX6_leastSets_79 ?_
        refine gs_get (C := RX6) (T := TX6) (N := 10) (ci := 6) (k0 := 0) (j := 0) k (hI 0 (by omega)) rfl rfl inX6 (by decide) fl_X6_12 rfl rfl dX6_leastSets_80 ?_
        refine gs_callV (As := []) (k0 := 1) (ci := 5) (T := TX5) (N := 9) k (c_X5_sets hI hn) cf_X5_sets im_X5_sets sl_X5_sets ml_X6_131 (hI 1 (by omega)) rfl rfl (by decide) rfl rfl (Nat.le_of_ble_eq_true rfl) dX6_leastSets_83 (ppI ?_)
        refine gs_icmpN_ge (a := 2 ^ n) (b := 2 ^ n) (tgt := 125) k rfl rfl (by omega) (by omega) (by decide) dX6_leastSets_86 (fun c4 => ?_) (fun c4 => absurd c4 (by omega))
        refine gs_iload_n (q := 2) k rfl rfl dX6_leastSets_125 ?_
        rcases inR4 c1.1 with rfl | rfl | rfl | rfl
        · refine gs_lookup (off := 26) (tgt := 152) k (by decide) (by decide) (by decide) dX6_leastSets_126 ?_
          refine gs_iload (q := 6) k rfl dX6_leastSets_152 ?_
          exact gs_iret k kt dX6_leastSets_154 ⟨(by simp [-Int32.not_lt, A_leastSets, b2i, ifc_T, ifc_F, c1, c2, c3, i0_4, i1_4, i2_4, i3_4]), (by simp [-Int32.not_lt, A_leastSets, b2i, ifc_T, ifc_F, c1, c2, c3, i0_4, i1_4, i2_4, i3_4])⟩
        · refine gs_lookup (off := 29) (tgt := 155) k (by decide) (by decide) (by decide) dX6_leastSets_126 ?_
          refine gs_iload (q := 7) k rfl dX6_leastSets_155 ?_
          exact gs_iret k kt dX6_leastSets_157 ⟨(by simp [-Int32.not_lt, A_leastSets, b2i, ifc_T, ifc_F, c1, c2, c3, i0_4, i1_4, i2_4, i3_4]), (by simp [-Int32.not_lt, A_leastSets, b2i, ifc_T, ifc_F, c1, c2, c3, i0_4, i1_4, i2_4, i3_4])⟩
        · refine gs_lookup (off := 32) (tgt := 158) k (by decide) (by decide) (by decide) dX6_leastSets_126 ?_
          refine gs_iload (q := 8) k rfl dX6_leastSets_158 ?_
          exact gs_iret k kt dX6_leastSets_160 ⟨(by simp [-Int32.not_lt, A_leastSets, b2i, ifc_T, ifc_F, c1, c2, c3, i0_4, i1_4, i2_4, i3_4]), (by simp [-Int32.not_lt, A_leastSets, b2i, ifc_T, ifc_F, c1, c2, c3, i0_4, i1_4, i2_4, i3_4])⟩
        · refine gs_lookup (off := 32) (tgt := 158) k (by decide) (by decide) (by decide) dX6_leastSets_126 ?_
          refine gs_iload (q := 8) k rfl dX6_leastSets_158 ?_
          exact gs_iret k kt dX6_leastSets_160 (absurd rfl c3)
    · refine gs_aload (q := 0) k rfl dX6_leastSets_29 ?_
      refine gs_aload_n (q := 2) k rfl rfl dX6_leastSets_31 ?_
      refine gs_get (C := RX6) (T := TX6) (N := 10) (ci := 6) (k0 := 0) (j := 0) k (hI 0 (by omega)) rfl rfl inX6 (by decide) fl_X6_12 rfl rfl dX6_leastSets_32 ?_
      refine gs_get (C := RX5) (T := TX5) (N := 9) (ci := 5) (k0 := 1) (j := 0) k (hI 1 (by omega)) rfl rfl inX5 (by decide) fl_X6_63 rfl rfl dX6_leastSets_35 ?_
      refine gs_callV (As := [.int (M 1 0)]) (k0 := (10 + 2 * (tn f))) (ci := 3) (T := TX3) (N := 2) k (c_X3_minimisersAreClosed hI hF (by omega) hn1 hn6 hn0) cf_X3_minimisersAreClosed im_X3_minimisersAreClosed sl_X3_minimisersAreClosed ml_X6_210 (hI (10 + 2 * (tn f)) (by omega)) (ent_F1 (by omega) _) rfl (by decide) rfl rfl (Nat.le_of_ble_eq_true rfl) dX6_leastSets_38 (ppB (fun c4 => ?_) (fun c4 => ?_))
      · refine gs_callS (As := [.int 1]) k c_X6_oneIf_1 cf_X6_oneIf sm_X6_oneIf ml_X6_163 (by decide) rfl rfl (Nat.le_of_ble_eq_true rfl) dX6_leastSets_41 (ppI ?_)
        exact gs_iret k kt dX6_leastSets_44 ⟨(by simp [-Int32.not_lt, A_leastSets, b2i, ifc_T, ifc_F, c1, c2, c3, c4, i0_4, i1_4, i2_4, i3_4]), (by simp [-Int32.not_lt, A_leastSets, b2i, ifc_T, ifc_F, c1, c2, c3, c4, i0_4, i1_4, i2_4, i3_4])⟩
      · refine gs_callS (As := [.int 0]) k c_X6_oneIf_0 cf_X6_oneIf sm_X6_oneIf ml_X6_163 (by decide) rfl rfl (Nat.le_of_ble_eq_true rfl) dX6_leastSets_41 (ppI ?_)
        exact gs_iret k kt dX6_leastSets_44 ⟨(by simp [-Int32.not_lt, A_leastSets, b2i, ifc_T, ifc_F, c1, c2, c3, c4, i0_4, i1_4, i2_4, i3_4]), (by simp [-Int32.not_lt, A_leastSets, b2i, ifc_T, ifc_F, c1, c2, c3, c4, i0_4, i1_4, i2_4, i3_4])⟩

theorem cf_X7_leastSets : CF yX7_leastSets cX7_leastSets 8 (some .int) 2 := ⟨cd_X7_leastSets, iz_X7, by decide, by decide +kernel, by decide +kernel, by decide +kernel⟩
set_option maxRecDepth 100000 in
set_option maxHeartbeats 4000000 in
theorem c_X7_leastSets {l : Launch} {E : Ev} {M : Mm} {n : Nat} {kd : Nat → Int32} {V : Nat → Nat → Int32} (hI : ∀ k, k < 108 → k ∈ E.2.1) (hn : Rn M n) (hF : RFn M n kd V) {f w : Int32} : Cm l E yX7_leastSets cX7_leastSets 8 (some .int) 3 [.ref (E.2.2.1 65), .int f, .int w] M (pI (A_leastSets n kd V f w) M) := by
  refine Cm.of (by decide) (Nat.le_of_ble_eq_true rfl) (fun K k kt => ?_)
  show G l E K 0 [(0, .ref (E.2.2.1 65)), (1, .int f), (2, .int w)] [] M
  obtain ⟨hn0, hn1, hn6⟩ := id hn
  have hp := p2_le6 hn6
  have hp2 := p2_ge2 hn1
  refine gs_iload_n (q := 1) k rfl rfl dX7_leastSets_0 ?_
  refine gs_callS (As := [.int f]) k c_X7_isFunction cf_X7_isFunction sm_X7_isFunction ml_X7_128 (by decide) rfl rfl (Nat.le_of_ble_eq_true rfl) dX7_leastSets_1 (ppB (fun c1 => ?_) (fun c1 => ?_))
  · have bc1 := inR_lt c1
    refine gs_if_eq (tgt := 19) k (by decide) dX7_leastSets_4 (fun h => absurd h (by decide)) (fun _ => ?_)
    refine gs_iload_n (q := 2) k rfl rfl dX7_leastSets_7 ?_
    refine gs_i2l k dX7_leastSets_8 ?_
    refine gs_lconst (v := 0) k (by decide) dX7_leastSets_9 ?_
    refine gs_ldc2 (v := 3) k cl_X7_218 dX7_leastSets_10 ?_
    refine gs_callS (As := [.long (w.toInt64), .long (0), .long (3)]) k (Cm.iff (inL (n := 4) (by decide) (by decide)) c_X7_in) cf_X7_in sm_X7_in ml_X7_79 (by decide) rfl rfl (Nat.le_of_ble_eq_true rfl) dX7_leastSets_13 (ppB (fun c2 => ?_) (fun c2 => ?_))
    · have bc2 := inR_lt c2
      refine gs_if_ne (tgt := 21) k (by decide) dX7_leastSets_16 (fun _ => ?_) (fun h => absurd h (by decide))
      refine gs_aload_n (q := 0) k rfl rfl dX7_leastSets_21 ?_
      refine gs_iload_n (q := 1) k rfl rfl dX7_leastSets_22 ?_
      refine gs_callV (As := [.int f]) (k0 := 65) (ci := 7) (T := TX7) (N := 27) k (c_X7_isThere hI hF) cf_X7_isThere im_X7_isThere sl_X7_isThere ml_X7_163 (hI 65 (by omega)) rfl rfl (by decide) rfl rfl (Nat.le_of_ble_eq_true rfl) dX7_leastSets_23 (ppB (fun c3 => ?_) (fun c3 => ?_))
      · have bc3 := inR_lt c3.1
        have tc3 := c3.2
        refine gs_if_ne (tgt := 32) k (by decide) dX7_leastSets_26 (fun _ => ?_) (fun h => absurd h (by decide))
        refine gs_aload_n (q := 0) k rfl rfl dX7_leastSets_32 ?_
        refine gs_iload_n (q := 1) k rfl rfl dX7_leastSets_33 ?_
        refine gs_callV (As := [.int f]) (k0 := 65) (ci := 7) (T := TX7) (N := 27) k (c_X7_leastOf (f := tn f) hI hn hF (inR_eq c1) (by omega) (by assumption)) cf_X7_leastOf im_X7_leastOf sl_X7_leastOf ml_X7_223 (hI 65 (by omega)) rfl rfl (by decide) rfl rfl (Nat.le_of_ble_eq_true rfl) dX7_leastSets_34 (ppI ?_)
        refine gs_istore_n (lv' := [(3, .int (lst (V (tn f)) n)), (0, .ref (E.2.2.1 65)), (1, .int f), (2, .int w)]) k rfl (by decide) rfl dX7_leastSets_37 ?_
        refine gs_iload_n (q := 3) k rfl rfl dX7_leastSets_38 ?_
        refine gs_iconst (v := 3) k (by decide) dX7_leastSets_39 ?_
        refine gs_icmp_ne (tgt := 53) k (by decide) dX7_leastSets_40 (fun c4 => ?_) (fun c4 => ?_)
        · refine gs_iconst (v := 0) k (by decide) dX7_leastSets_53 ?_
          refine gs_istore (lv' := [(4, .int 0), (3, .int (lst (V (tn f)) n)), (0, .ref (E.2.2.1 65)), (1, .int f), (2, .int w)]) k (by decide) rfl dX7_leastSets_54 ?_
          refine gs_aload_n (q := 2) k rfl rfl dX7_leastSets_56 ?_
          refine gs_callV (As := []) (k0 := 65) (ci := 7) (T := TX7) (N := 27) k (c_X7_all hI hn) cf_X7_all im_X7_all sl_X7_all ml_X7_87 (hI 65 (by omega)) rfl rfl (by decide) rfl rfl (Nat.le_of_ble_eq_true rfl) dX7_leastSets_57 (ppI ?_)
          refine gs_istore (lv' := [(5, .int (nI (2 ^ n - 1))), (4, .int 0), (3, .int (lst (V (tn f)) n)), (0, .ref (E.2.2.1 65)), (1, .int f), (2, .int w)]) k (by decide) rfl dX7_leastSets_60 ?_
          refine gs_iconst (v := 0) k (by decide) dX7_leastSets_62 ?_
          refine gs_istore (lv' := [(6, .int 0), (5, .int (nI (2 ^ n - 1))), (4, .int 0), (3, .int (lst (V (tn f)) n)), (0, .ref (E.2.2.1 65)), (1, .int f), (2, .int w)]) k (by decide) rfl dX7_leastSets_63 ?_
          refine gs_iconst (v := 0) k (by decide) dX7_leastSets_65 ?_
          refine gs_istore (lv' := [(7, .int 0), (6, .int 0), (5, .int (nI (2 ^ n - 1))), (4, .int 0), (3, .int (lst (V (tn f)) n)), (0, .ref (E.2.2.1 65)), (1, .int f), (2, .int w)]) k (by decide) rfl dX7_leastSets_66 ?_
          refine gs_lv (lv' := [(0, .ref (E.2.2.1 65)), (1, .int f), (2, .int w), (3, .int (lst (V (tn f)) n)), (4, .int 0), (5, .int (nI (2 ^ n - 1))), (6, .int 0), (7, .int 0)]) [5, 6, 7, 4, 3, 2, 1, 0] rfl ?_
          refine for_up (σ := Int32 × Int32 × Int32) (fun s zs => G l E K 68 [(0, .ref (E.2.2.1 65)), (1, .int f), (2, .int w), (3, .int (lst (V (tn f)) n)), (4, .int zs.1), (5, .int zs.2.1), (6, .int zs.2.2), (7, .int (nI s))] [] M) (fun s zs => if V (tn f) s = lst (V (tn f)) n then (zs.1 + 1, zs.2.1 &&& nI s, zs.2.2 ||| nI s) else (zs.1, zs.2.1, zs.2.2)) (2 ^ n) (fun s zs hs hGs => ?_) (2 ^ n) 0 (0, nI (2 ^ n - 1), 0) (by omega) ?_
          · show G l E K 68 [(0, .ref (E.2.2.1 65)), (1, .int f), (2, .int w), (3, .int (lst (V (tn f)) n)), (4, .int zs.1), (5, .int zs.2.1), (6, .int zs.2.2), (7, .int (nI s))] [] M
            refine gs_iload (q := 7) k rfl dX7_leastSets_68 ?_
            refine gs_aload_n (q := 0) k rfl rfl dX7_leastSets_70 ?_
            refine gs_callV (As := []) (k0 := 65) (ci := 7) (T := TX7) (N := 27) k (c_X7_sets hI hn) cf_X7_sets im_X7_sets sl_X7_sets ml_X7_83 (hI 65 (by omega)) rfl rfl (by decide) rfl rfl (Nat.le_of_ble_eq_true rfl) dX7_leastSets_71 (ppI ?_)
            refine gs_icmpN_ge (a := s) (b := 2 ^ n) (tgt := 116) k rfl rfl (by omega) (by omega) (by decide) dX7_leastSets_74 (fun c5 => absurd c5 (by omega)) (fun c5 => ?_)
            refine gs_aload_n (q := 0) k rfl rfl dX7_leastSets_77 ?_
            refine gs_get (C := RX7) (T := TX7) (N := 27) (ci := 7) (k0 := 65) (j := 8) k (hI 65 (by omega)) rfl rfl inX7 (by decide) fl_X7_39 rfl rfl dX7_leastSets_78 ?_
            refine gs_iload_n (q := 1) k rfl rfl dX7_leastSets_81 ?_
            refine gs_aaldIN (k0 := 73) (n := 6) (e := tn f) (a := E.2.2.1 (74 + (tn f))) k (hI 73 (by omega)) (fun _ => rfl) (inR_eq c1) (by omega) (by decide) rfl dX7_leastSets_82 ?_
            refine gs_iload (q := 7) k rfl dX7_leastSets_83 ?_
            refine gs_ialdN (k0 := (74 + (tn f))) (n := 64) (e := s) k (hI (74 + (tn f)) (by omega)) (ent_RV (by omega)) rfl (by omega) (by decide) dX7_leastSets_85 ?_
            refine gs_top (y := V (tn f) s) ((hF (tn f) (by omega)).2.2 (by assumption) s (by omega)) ?_
            refine gs_iload_n (q := 3) k rfl rfl dX7_leastSets_86 ?_
            refine gs_icmp_eq (tgt := 93) k (by decide) dX7_leastSets_87 (fun c6 => ?_) (fun c6 => ?_)
            · refine gs_iinc (q := 4) (v := zs.1 + 1) (lv' := [(4, .int (zs.1 + 1)), (0, .ref (E.2.2.1 65)), (1, .int f), (2, .int w), (3, .int (lst (V (tn f)) n)), (5, .int zs.2.1), (6, .int zs.2.2), (7, .int (nI s))]) k rfl rfl (by decide) rfl dX7_leastSets_93 ?_
              refine gs_iload (q := 5) k rfl dX7_leastSets_96 ?_
              refine gs_iload (q := 7) k rfl dX7_leastSets_98 ?_
              refine gs_iand k dX7_leastSets_100 ?_
              refine gs_istore (lv' := [(5, .int (zs.2.1 &&& (nI s))), (4, .int (zs.1 + 1)), (0, .ref (E.2.2.1 65)), (1, .int f), (2, .int w), (3, .int (lst (V (tn f)) n)), (6, .int zs.2.2), (7, .int (nI s))]) k (by decide) rfl dX7_leastSets_101 ?_
              refine gs_iload (q := 6) k rfl dX7_leastSets_103 ?_
              refine gs_iload (q := 7) k rfl dX7_leastSets_105 ?_
              refine gs_ior k dX7_leastSets_107 ?_
              refine gs_istore (lv' := [(6, .int (zs.2.2 ||| (nI s))), (5, .int (zs.2.1 &&& (nI s))), (4, .int (zs.1 + 1)), (0, .ref (E.2.2.1 65)), (1, .int f), (2, .int w), (3, .int (lst (V (tn f)) n)), (7, .int (nI s))]) k (by decide) rfl dX7_leastSets_108 ?_
              refine gs_iincN (q := 7) (a := s) (c := 1) (lv' := [(7, .int (nI (s + 1))), (6, .int (zs.2.2 ||| (nI s))), (5, .int (zs.2.1 &&& (nI s))), (4, .int (zs.1 + 1)), (0, .ref (E.2.2.1 65)), (1, .int f), (2, .int w), (3, .int (lst (V (tn f)) n))]) k rfl rfl (by decide) rfl dX7_leastSets_110 ?_
              refine gs_goto (tgt := 68) k (by decide) dX7_leastSets_113 ?_
              refine gs_lv (lv' := [(0, .ref (E.2.2.1 65)), (1, .int f), (2, .int w), (3, .int (lst (V (tn f)) n)), (4, .int (zs.1 + 1)), (5, .int (zs.2.1 &&& (nI s))), (6, .int (zs.2.2 ||| (nI s))), (7, .int (nI (s + 1)))]) [4, 5, 6, 7, 3, 2, 1, 0] rfl ?_
              exact hGs _ (by rw [if_pos c6])
            · refine gs_goto (tgt := 110) k (by decide) dX7_leastSets_90 ?_
              refine gs_iincN (q := 7) (a := s) (c := 1) (lv' := [(7, .int (nI (s + 1))), (0, .ref (E.2.2.1 65)), (1, .int f), (2, .int w), (3, .int (lst (V (tn f)) n)), (4, .int zs.1), (5, .int zs.2.1), (6, .int zs.2.2)]) k rfl rfl (by decide) rfl dX7_leastSets_110 ?_
              refine gs_goto (tgt := 68) k (by decide) dX7_leastSets_113 ?_
              refine gs_lv (lv' := [(0, .ref (E.2.2.1 65)), (1, .int f), (2, .int w), (3, .int (lst (V (tn f)) n)), (4, .int zs.1), (5, .int zs.2.1), (6, .int zs.2.2), (7, .int (nI (s + 1)))]) [1, 2, 3, 4, 5, 6, 7, 0] rfl ?_
              exact hGs _ (by rw [if_neg c6])
          · show G l E K 68 [(0, .ref (E.2.2.1 65)), (1, .int f), (2, .int w), (3, .int (lst (V (tn f)) n)), (4, .int ((lsS (V (tn f)) n).1)), (5, .int ((lsS (V (tn f)) n).2.1)), (6, .int ((lsS (V (tn f)) n).2.2)), (7, .int (nI (2 ^ n)))] [] M
            refine gs_iload (q := 7) k rfl dX7_leastSets_68 ?_
            refine gs_aload_n (q := 0) k rfl rfl dX7_leastSets_70 ?_
            refine gs_callV (As := []) (k0 := 65) (ci := 7) (T := TX7) (N := 27) k (c_X7_sets hI hn) cf_X7_sets im_X7_sets sl_X7_sets ml_X7_83 (hI 65 (by omega)) rfl rfl (by decide) rfl rfl (Nat.le_of_ble_eq_true rfl) dX7_leastSets_71 (ppI ?_)
            refine gs_icmpN_ge (a := 2 ^ n) (b := 2 ^ n) (tgt := 116) k rfl rfl (by omega) (by omega) (by decide) dX7_leastSets_74 (fun c5 => ?_) (fun c5 => absurd c5 (by omega))
            refine gs_iload_n (q := 2) k rfl rfl dX7_leastSets_116 ?_
            refine gs_if_ne (tgt := 125) k (by decide) dX7_leastSets_117 (fun c6 => ?_) (fun c6 => ?_)
            · refine gs_iload_n (q := 2) k rfl rfl dX7_leastSets_125 ?_
              refine gs_iconst (v := 1) k (by decide) dX7_leastSets_126 ?_
              refine gs_icmp_ne (tgt := 135) k (by decide) dX7_leastSets_127 (fun c7 => ?_) (fun c7 => ?_)
              · refine gs_iload (q := 6) k rfl dX7_leastSets_135 ?_
                exact gs_iret k kt dX7_leastSets_137 ⟨(by simp [-Int32.not_lt, A_leastSets, b2i, ifc_T, ifc_F, c1, c2, c3, tc3, c4, c6, c7, i0_4, i1_4, i2_4, i3_4]), (by simp [-Int32.not_lt, A_leastSets, b2i, ifc_T, ifc_F, c1, c2, c3, tc3, c4, c6, c7, i0_4, i1_4, i2_4, i3_4])⟩
              · refine gs_iload (q := 5) k rfl dX7_leastSets_130 ?_
                refine gs_goto (tgt := 137) k (by decide) dX7_leastSets_132 ?_
                exact gs_iret k kt dX7_leastSets_137 ⟨(by simp [-Int32.not_lt, A_leastSets, b2i, ifc_T, ifc_F, c1, c2, c3, tc3, c4, c6, c7, i0_4, i1_4, i2_4, i3_4]), (by simp [-Int32.not_lt, A_leastSets, b2i, ifc_T, ifc_F, c1, c2, c3, tc3, c4, c6, c7, i0_4, i1_4, i2_4, i3_4])⟩
            · refine gs_iload (q := 4) k rfl dX7_leastSets_120 ?_
              refine gs_goto (tgt := 137) k (by decide) dX7_leastSets_122 ?_
              exact gs_iret k kt dX7_leastSets_137 ⟨(by simp [-Int32.not_lt, A_leastSets, b2i, ifc_T, ifc_F, c1, c2, c3, tc3, c4, c6, i0_4, i1_4, i2_4, i3_4]), (by simp [-Int32.not_lt, A_leastSets, b2i, ifc_T, ifc_F, c1, c2, c3, tc3, c4, c6, i0_4, i1_4, i2_4, i3_4])⟩
        · refine gs_aload_n (q := 1) k rfl rfl dX7_leastSets_43 ?_
          refine gs_iload_n (q := 2) k rfl rfl dX7_leastSets_44 ?_
          refine gs_iload_n (q := 0) k rfl rfl dX7_leastSets_45 ?_
          refine gs_callV (As := [.int f, .int (lst (V (tn f)) n)]) (k0 := 65) (ci := 7) (T := TX7) (N := 27) k (c_X7_areClosed (f := tn f) hI hn hF (inR_eq c1) (by omega) (by assumption) rfl) cf_X7_areClosed im_X7_areClosed sl_X7_areClosed ml_X7_226 (hI 65 (by omega)) rfl rfl (by decide) rfl rfl (Nat.le_of_ble_eq_true rfl) dX7_leastSets_46 (ppB (fun c5 => ?_) (fun c5 => ?_))
          · refine gs_callS (As := [.int 1]) k c_X7_bit_1 cf_X7_bit sm_X7_bit ml_X7_181 (by decide) rfl rfl (Nat.le_of_ble_eq_true rfl) dX7_leastSets_49 (ppI ?_)
            exact gs_iret k kt dX7_leastSets_52 ⟨(by simp [-Int32.not_lt, A_leastSets, b2i, ifc_T, ifc_F, c1, c2, c3, tc3, c4, c5, i0_4, i1_4, i2_4, i3_4]), (by simp [-Int32.not_lt, A_leastSets, b2i, ifc_T, ifc_F, c1, c2, c3, tc3, c4, c5, i0_4, i1_4, i2_4, i3_4])⟩
          · refine gs_callS (As := [.int 0]) k c_X7_bit_0 cf_X7_bit sm_X7_bit ml_X7_181 (by decide) rfl rfl (Nat.le_of_ble_eq_true rfl) dX7_leastSets_49 (ppI ?_)
            exact gs_iret k kt dX7_leastSets_52 ⟨(by simp [-Int32.not_lt, A_leastSets, b2i, ifc_T, ifc_F, c1, c2, c3, tc3, c4, c5, i0_4, i1_4, i2_4, i3_4]), (by simp [-Int32.not_lt, A_leastSets, b2i, ifc_T, ifc_F, c1, c2, c3, tc3, c4, c5, i0_4, i1_4, i2_4, i3_4])⟩
      · have qc3 : kd (tn f) < 0 := Classical.byContradiction (fun k => c3 ⟨by assumption, k⟩)
        refine gs_if_ne (tgt := 32) k (by decide) dX7_leastSets_26 (fun h => absurd h (by decide)) (fun _ => ?_)
        refine gs_bipush (v := -11) k (by decide) dX7_leastSets_29 ?_
        exact gs_iret k kt dX7_leastSets_31 ⟨(by simp [-Int32.not_lt, A_leastSets, b2i, ifc_T, ifc_F, c1, c2, c3, qc3, i0_4, i1_4, i2_4, i3_4]), (by simp [-Int32.not_lt, A_leastSets, b2i, ifc_T, ifc_F, c1, c2, c3, qc3, i0_4, i1_4, i2_4, i3_4])⟩
    · refine gs_if_ne (tgt := 21) k (by decide) dX7_leastSets_16 (fun h => absurd h (by decide)) (fun _ => ?_)
      refine gs_iconst (v := -1) k (by decide) dX7_leastSets_19 ?_
      exact gs_iret k kt dX7_leastSets_20 ⟨(by simp [-Int32.not_lt, A_leastSets, b2i, ifc_T, ifc_F, c1, c2, i0_4, i1_4, i2_4, i3_4]), (by simp [-Int32.not_lt, A_leastSets, b2i, ifc_T, ifc_F, c1, c2, i0_4, i1_4, i2_4, i3_4])⟩
  · refine gs_if_eq (tgt := 19) k (by decide) dX7_leastSets_4 (fun _ => ?_) (fun h => absurd h (by decide))
    refine gs_iconst (v := -1) k (by decide) dX7_leastSets_19 ?_
    exact gs_iret k kt dX7_leastSets_20 ⟨(by simp [-Int32.not_lt, A_leastSets, b2i, ifc_T, ifc_F, c1, i0_4, i1_4, i2_4, i3_4]), (by simp [-Int32.not_lt, A_leastSets, b2i, ifc_T, ifc_F, c1, i0_4, i1_4, i2_4, i3_4])⟩

theorem cf_X6_ring : CF yX6_ring cX6_ring 8 (some .int) 2 := ⟨cd_X6_ring, iz_X6, by decide, by decide +kernel, by decide +kernel, by decide +kernel⟩
set_option maxRecDepth 100000 in
set_option maxHeartbeats 4000000 in
theorem c_X6_ring {l : Launch} {E : Ev} {M : Mm} {n : Nat} {kd : Nat → Int32} {V : Nat → Nat → Int32} (hI : ∀ k, k < 108 → k ∈ E.2.1) (hn : Cn M n) (hF : CFn M n kd V) {f p : Int32} : Cm l E yX6_ring cX6_ring 8 (some .int) 3 [.ref (E.2.2.1 0), .int f, .int p] M (pI (A_ring (ifc ((ringC (V (tn f)) n (tn p)).2 = 0) (-5) (ringC (V (tn f)) n (tn p)).1) n kd f p) M) := by
  refine Cm.of (by decide) (Nat.le_of_ble_eq_true rfl) (fun K k kt => ?_)
  show G l E K 0 [(0, .ref (E.2.2.1 0)), (1, .int f), (2, .int p)] [] M
  obtain ⟨hn0, hn1, hn6⟩ := id hn
  have hp := p2_le6 hn6
  have hp2 := p2_ge2 hn1
  refine gs_iload_n (q := 1) k rfl rfl dX6_ring_0 ?_
  refine gs_callS (As := [.int f]) k c_X6_isFunction cf_X6_isFunction sm_X6_isFunction ml_X6_101 (by decide) rfl rfl (Nat.le_of_ble_eq_true rfl) dX6_ring_1 (ppB (fun c1 => ?_) (fun c1 => ?_))
  · have bc1 := inR_lt c1
    refine gs_if_eq (tgt := 18) k (by decide) dX6_ring_4 (fun h => absurd h (by decide)) (fun _ => ?_)
    refine gs_aload_n (q := 0) k rfl rfl dX6_ring_7 ?_
    refine gs_get (C := RX6) (T := TX6) (N := 10) (ci := 6) (k0 := 0) (j := 0) k (hI 0 (by omega)) rfl rfl inX6 (by decide) fl_X6_12 rfl rfl dX6_ring_8 ?_
    refine gs_iload_n (q := 2) k rfl rfl dX6_ring_11 ?_
    refine gs_callV (As := [.int p]) (k0 := 1) (ci := 5) (T := TX5) (N := 9) k (c_X5_hasPoint hI hn) cf_X5_hasPoint im_X5_hasPoint sl_X5_hasPoint ml_X6_71 (hI 1 (by omega)) rfl rfl (by decide) rfl rfl (Nat.le_of_ble_eq_true rfl) dX6_ring_12 (ppB (fun c2 => ?_) (fun c2 => ?_))
    · have bc2 := inR_lt c2
      refine gs_if_ne (tgt := 20) k (by decide) dX6_ring_15 (fun _ => ?_) (fun h => absurd h (by decide))
      refine gs_aload_n (q := 0) k rfl rfl dX6_ring_20 ?_
      refine gs_get (C := RX6) (T := TX6) (N := 10) (ci := 6) (k0 := 0) (j := 0) k (hI 0 (by omega)) rfl rfl inX6 (by decide) fl_X6_12 rfl rfl dX6_ring_21 ?_
      refine gs_get (C := RX5) (T := TX5) (N := 9) (ci := 5) (k0 := 1) (j := 7) k (hI 1 (by omega)) rfl rfl inX5 (by decide) fl_X6_107 rfl rfl dX6_ring_24 ?_
      refine gs_iload_n (q := 1) k rfl rfl dX6_ring_27 ?_
      refine gs_aaldSN (k0 := 8) (n := 6) (e := tn f) (a := E.2.2.1 (10 + 2 * (tn f))) k (hI 8 (by omega)) (fun _ => rfl) (inR_eq c1) (by omega) (by decide) rfl dX6_ring_28 ?_
      refine gs_astore_n (lv' := [(3, .ref (E.2.2.1 (10 + 2 * (tn f)))), (0, .ref (E.2.2.1 0)), (1, .int f), (2, .int p)]) k rfl (by decide) rfl dX6_ring_29 ?_
      refine gs_aload_n (q := 0) k rfl rfl dX6_ring_30 ?_
      refine gs_callV (As := []) (k0 := (10 + 2 * (tn f))) (ci := 3) (T := TX3) (N := 2) k (c_X3_isMissing hI hF (by omega)) cf_X3_isMissing im_X3_isMissing sl_X3_isMissing ml_X6_127 (hI (10 + 2 * (tn f)) (by omega)) (ent_F1 (by omega) _) rfl (by decide) rfl rfl (Nat.le_of_ble_eq_true rfl) dX6_ring_31 (ppB (fun c3 => ?_) (fun c3 => ?_))
      · refine gs_if_eq (tgt := 40) k (by decide) dX6_ring_34 (fun h => absurd h (by decide)) (fun _ => ?_)
        refine gs_bipush (v := -11) k (by decide) dX6_ring_37 ?_
        exact gs_iret k kt dX6_ring_39 ⟨(by simp [-Int32.not_lt, A_ring, ifc_T, ifc_F, c1, c2, c3]), (by simp [-Int32.not_lt, A_ring, ifc_T, ifc_F, c1, c2, c3])⟩
      · refine gs_if_eq (tgt := 40) k (by decide) dX6_ring_34 (fun _ => ?_) (fun h => absurd h (by decide))
        refine gs_aload_n (q := 0) k rfl rfl dX6_ring_40 ?_
        refine gs_aload_n (q := 1) k rfl rfl dX6_ring_41 ?_
        refine gs_get (C := RX6) (T := TX6) (N := 10) (ci := 6) (k0 := 0) (j := 0) k (hI 0 (by omega)) rfl rfl inX6 (by decide) fl_X6_12 rfl rfl dX6_ring_42 ?_
        refine gs_get (C := RX5) (T := TX5) (N := 9) (ci := 5) (k0 := 1) (j := 0) k (hI 1 (by omega)) rfl rfl inX5 (by decide) fl_X6_63 rfl rfl dX6_ring_45 ?_
        refine gs_callV (As := [.int (M 1 0)]) (k0 := (10 + 2 * (tn f))) (ci := 3) (T := TX3) (N := 2) k (c_X3_leastValue hI hF (by omega) hn1 hn6 hn0) cf_X3_leastValue im_X3_leastValue sl_X3_leastValue ml_X6_207 (hI (10 + 2 * (tn f)) (by omega)) (ent_F1 (by omega) _) rfl (by decide) rfl rfl (Nat.le_of_ble_eq_true rfl) dX6_ring_48 (ppI ?_)
        refine gs_istore (lv' := [(4, .int (lst (V (tn f)) n)), (3, .ref (E.2.2.1 (10 + 2 * (tn f)))), (0, .ref (E.2.2.1 0)), (1, .int f), (2, .int p)]) k (by decide) rfl dX6_ring_51 ?_
        refine gs_aload_n (q := 2) k rfl rfl dX6_ring_53 ?_
        refine gs_get (C := RX6) (T := TX6) (N := 10) (ci := 6) (k0 := 0) (j := 0) k (hI 0 (by omega)) rfl rfl inX6 (by decide) fl_X6_12 rfl rfl dX6_ring_54 ?_
        refine gs_callV (As := []) (k0 := 1) (ci := 5) (T := TX5) (N := 9) k (c_X5_all hI hn) cf_X5_all im_X5_all sl_X5_all ml_X6_119 (hI 1 (by omega)) rfl rfl (by decide) rfl rfl (Nat.le_of_ble_eq_true rfl) dX6_ring_57 (ppI ?_)
        refine gs_istore (lv' := [(5, .int (nI (2 ^ n - 1))), (4, .int (lst (V (tn f)) n)), (3, .ref (E.2.2.1 (10 + 2 * (tn f)))), (0, .ref (E.2.2.1 0)), (1, .int f), (2, .int p)]) k (by decide) rfl dX6_ring_60 ?_
        refine gs_iconst (v := 0) k (by decide) dX6_ring_62 ?_
        refine gs_istore (lv' := [(6, .int 0), (5, .int (nI (2 ^ n - 1))), (4, .int (lst (V (tn f)) n)), (3, .ref (E.2.2.1 (10 + 2 * (tn f)))), (0, .ref (E.2.2.1 0)), (1, .int f), (2, .int p)]) k (by decide) rfl dX6_ring_63 ?_
        refine gs_iconst (v := 0) k (by decide) dX6_ring_65 ?_
        refine gs_istore (lv' := [(7, .int 0), (6, .int 0), (5, .int (nI (2 ^ n - 1))), (4, .int (lst (V (tn f)) n)), (3, .ref (E.2.2.1 (10 + 2 * (tn f)))), (0, .ref (E.2.2.1 0)), (1, .int f), (2, .int p)]) k (by decide) rfl dX6_ring_66 ?_
        refine gs_lv (lv' := [(0, .ref (E.2.2.1 0)), (1, .int f), (2, .int p), (3, .ref (E.2.2.1 (10 + 2 * (tn f)))), (4, .int (lst (V (tn f)) n)), (5, .int (nI (2 ^ n - 1))), (6, .int 0), (7, .int 0)]) [5, 6, 7, 4, 3, 2, 1, 0] rfl ?_
        refine for_up (σ := Int32 × Int32) (fun s zs => G l E K 68 [(0, .ref (E.2.2.1 0)), (1, .int f), (2, .int p), (3, .ref (E.2.2.1 (10 + 2 * (tn f)))), (4, .int (lst (V (tn f)) n)), (5, .int zs.1), (6, .int zs.2), (7, .int (nI s))] [] M) (fun s zs => if s.testBit (tn p) = true ∧ V (tn f) s = lst (V (tn f)) n then (zs.1 &&& nI s, 1) else (zs.1, zs.2)) (2 ^ n) (fun s zs hs hGs => ?_) (2 ^ n) 0 (nI (2 ^ n - 1), 0) (by omega) ?_
        · show G l E K 68 [(0, .ref (E.2.2.1 0)), (1, .int f), (2, .int p), (3, .ref (E.2.2.1 (10 + 2 * (tn f)))), (4, .int (lst (V (tn f)) n)), (5, .int zs.1), (6, .int zs.2), (7, .int (nI s))] [] M
          refine gs_iload (q := 7) k rfl dX6_ring_68 ?_
          refine gs_aload_n (q := 0) k rfl rfl dX6_ring_70 ?_
          refine gs_get (C := RX6) (T := TX6) (N := 10) (ci := 6) (k0 := 0) (j := 0) k (hI 0 (by omega)) rfl rfl inX6 (by decide) fl_X6_12 rfl rfl dX6_ring_71 ?_
          refine gs_callV (As := []) (k0 := 1) (ci := 5) (T := TX5) (N := 9) k (c_X5_sets hI hn) cf_X5_sets im_X5_sets sl_X5_sets ml_X6_131 (hI 1 (by omega)) rfl rfl (by decide) rfl rfl (Nat.le_of_ble_eq_true rfl) dX6_ring_74 (ppI ?_)
          refine gs_icmpN_ge (a := s) (b := 2 ^ n) (tgt := 117) k rfl rfl (by omega) (by omega) (by decide) dX6_ring_77 (fun c4 => absurd c4 (by omega)) (fun c4 => ?_)
          refine gs_iload (q := 7) k rfl dX6_ring_80 ?_
          refine gs_iload_n (q := 2) k rfl rfl dX6_ring_82 ?_
          refine gs_callS (As := [.int (nI s), .int p]) k (c_X6_holds (S := s) (P := tn p) rfl (inR_eq c2) (by omega) (by omega)) cf_X6_holds sm_X6_holds ml_X6_181 (by decide) rfl rfl (Nat.le_of_ble_eq_true rfl) dX6_ring_83 (ppB (fun c5 => ?_) (fun c5 => ?_))
          · refine gs_if_eq (tgt := 111) k (by decide) dX6_ring_86 (fun h => absurd h (by decide)) (fun _ => ?_)
            refine gs_aload_n (q := 3) k rfl rfl dX6_ring_89 ?_
            refine gs_get (C := RX3) (T := TX3) (N := 2) (ci := 3) (k0 := (10 + 2 * (tn f))) (j := 1) k (hI (10 + 2 * (tn f)) (by omega)) (ent_F1 (by omega) _) rfl inX3 (by decide) fl_X6_111 rfl rfl dX6_ring_90 ?_
            refine gs_iload (q := 7) k rfl dX6_ring_93 ?_
            refine gs_ialdN (k0 := (11 + 2 * (tn f))) (n := 64) (e := s) k (hI (11 + 2 * (tn f)) (by omega)) (ent_V1 (by omega)) rfl (by omega) (by decide) dX6_ring_95 ?_
            refine gs_top (y := V (tn f) s) ((hF (tn f) (by omega)).2.2 s (by omega)) ?_
            refine gs_iload (q := 4) k rfl dX6_ring_96 ?_
            refine gs_icmp_ne (tgt := 111) k (by decide) dX6_ring_98 (fun c6 => ?_) (fun c6 => ?_)
            · refine gs_iincN (q := 7) (a := s) (c := 1) (lv' := [(7, .int (nI (s + 1))), (0, .ref (E.2.2.1 0)), (1, .int f), (2, .int p), (3, .ref (E.2.2.1 (10 + 2 * (tn f)))), (4, .int (lst (V (tn f)) n)), (5, .int zs.1), (6, .int zs.2)]) k rfl rfl (by decide) rfl dX6_ring_111 ?_
              refine gs_goto (tgt := 68) k (by decide) dX6_ring_114 ?_
              refine gs_lv (lv' := [(0, .ref (E.2.2.1 0)), (1, .int f), (2, .int p), (3, .ref (E.2.2.1 (10 + 2 * (tn f)))), (4, .int (lst (V (tn f)) n)), (5, .int zs.1), (6, .int zs.2), (7, .int (nI (s + 1)))]) [1, 2, 3, 4, 5, 6, 7, 0] rfl ?_
              exact hGs _ (by rw [if_neg (fun q => c6 q.2)])
            · refine gs_iconst (v := 1) k (by decide) dX6_ring_101 ?_
              refine gs_istore (lv' := [(6, .int 1), (0, .ref (E.2.2.1 0)), (1, .int f), (2, .int p), (3, .ref (E.2.2.1 (10 + 2 * (tn f)))), (4, .int (lst (V (tn f)) n)), (5, .int zs.1), (7, .int (nI s))]) k (by decide) rfl dX6_ring_102 ?_
              refine gs_iload (q := 6) k rfl dX6_ring_104 ?_
              refine gs_iload (q := 7) k rfl dX6_ring_106 ?_
              refine gs_iand k dX6_ring_108 ?_
              refine gs_istore (lv' := [(5, .int (zs.1 &&& (nI s))), (6, .int 1), (0, .ref (E.2.2.1 0)), (1, .int f), (2, .int p), (3, .ref (E.2.2.1 (10 + 2 * (tn f)))), (4, .int (lst (V (tn f)) n)), (7, .int (nI s))]) k (by decide) rfl dX6_ring_109 ?_
              refine gs_iincN (q := 7) (a := s) (c := 1) (lv' := [(7, .int (nI (s + 1))), (5, .int (zs.1 &&& (nI s))), (6, .int 1), (0, .ref (E.2.2.1 0)), (1, .int f), (2, .int p), (3, .ref (E.2.2.1 (10 + 2 * (tn f)))), (4, .int (lst (V (tn f)) n))]) k rfl rfl (by decide) rfl dX6_ring_111 ?_
              refine gs_goto (tgt := 68) k (by decide) dX6_ring_114 ?_
              refine gs_lv (lv' := [(0, .ref (E.2.2.1 0)), (1, .int f), (2, .int p), (3, .ref (E.2.2.1 (10 + 2 * (tn f)))), (4, .int (lst (V (tn f)) n)), (5, .int (zs.1 &&& (nI s))), (6, .int 1), (7, .int (nI (s + 1)))]) [3, 4, 5, 6, 7, 1, 2, 0] rfl ?_
              exact hGs _ (by rw [if_pos ⟨c5, c6⟩])
          · refine gs_if_eq (tgt := 111) k (by decide) dX6_ring_86 (fun _ => ?_) (fun h => absurd h (by decide))
            refine gs_iincN (q := 7) (a := s) (c := 1) (lv' := [(7, .int (nI (s + 1))), (0, .ref (E.2.2.1 0)), (1, .int f), (2, .int p), (3, .ref (E.2.2.1 (10 + 2 * (tn f)))), (4, .int (lst (V (tn f)) n)), (5, .int zs.1), (6, .int zs.2)]) k rfl rfl (by decide) rfl dX6_ring_111 ?_
            refine gs_goto (tgt := 68) k (by decide) dX6_ring_114 ?_
            refine gs_lv (lv' := [(0, .ref (E.2.2.1 0)), (1, .int f), (2, .int p), (3, .ref (E.2.2.1 (10 + 2 * (tn f)))), (4, .int (lst (V (tn f)) n)), (5, .int zs.1), (6, .int zs.2), (7, .int (nI (s + 1)))]) [1, 2, 3, 4, 5, 6, 7, 0] rfl ?_
            exact hGs _ (by rw [if_neg (fun q => c5 q.1)])
        · show G l E K 68 [(0, .ref (E.2.2.1 0)), (1, .int f), (2, .int p), (3, .ref (E.2.2.1 (10 + 2 * (tn f)))), (4, .int (lst (V (tn f)) n)), (5, .int ((ringC (V (tn f)) n (tn p)).1)), (6, .int ((ringC (V (tn f)) n (tn p)).2)), (7, .int (nI (2 ^ n)))] [] M
          refine gs_iload (q := 7) k rfl dX6_ring_68 ?_
          refine gs_aload_n (q := 0) k rfl rfl dX6_ring_70 ?_
          refine gs_get (C := RX6) (T := TX6) (N := 10) (ci := 6) (k0 := 0) (j := 0) k (hI 0 (by omega)) rfl rfl inX6 (by decide) fl_X6_12 rfl rfl dX6_ring_71 ?_
          refine gs_callV (As := []) (k0 := 1) (ci := 5) (T := TX5) (N := 9) k (c_X5_sets hI hn) cf_X5_sets im_X5_sets sl_X5_sets ml_X6_131 (hI 1 (by omega)) rfl rfl (by decide) rfl rfl (Nat.le_of_ble_eq_true rfl) dX6_ring_74 (ppI ?_)
          refine gs_icmpN_ge (a := 2 ^ n) (b := 2 ^ n) (tgt := 117) k rfl rfl (by omega) (by omega) (by decide) dX6_ring_77 (fun c4 => ?_) (fun c4 => absurd c4 (by omega))
          refine gs_iload (q := 6) k rfl dX6_ring_117 ?_
          refine gs_if_eq (tgt := 127) k (by decide) dX6_ring_119 (fun c5 => ?_) (fun c5 => ?_)
          · refine gs_bipush (v := -5) k (by decide) dX6_ring_127 ?_
            exact gs_iret k kt dX6_ring_129 ⟨(by simp [-Int32.not_lt, A_ring, ifc_T, ifc_F, c1, c2, c3, c5]), (by simp [-Int32.not_lt, A_ring, ifc_T, ifc_F, c1, c2, c3, c5])⟩
          · refine gs_iload (q := 5) k rfl dX6_ring_122 ?_
            refine gs_goto (tgt := 129) k (by decide) dX6_ring_124 ?_
            exact gs_iret k kt dX6_ring_129 ⟨(by simp [-Int32.not_lt, A_ring, ifc_T, ifc_F, c1, c2, c3, c5]), (by simp [-Int32.not_lt, A_ring, ifc_T, ifc_F, c1, c2, c3, c5])⟩
    · refine gs_if_ne (tgt := 20) k (by decide) dX6_ring_15 (fun h => absurd h (by decide)) (fun _ => ?_)
      refine gs_iconst (v := -1) k (by decide) dX6_ring_18 ?_
      exact gs_iret k kt dX6_ring_19 ⟨(by simp [-Int32.not_lt, A_ring, ifc_T, ifc_F, c1, c2]), (by simp [-Int32.not_lt, A_ring, ifc_T, ifc_F, c1, c2])⟩
  · refine gs_if_eq (tgt := 18) k (by decide) dX6_ring_4 (fun _ => ?_) (fun h => absurd h (by decide))
    refine gs_iconst (v := -1) k (by decide) dX6_ring_18 ?_
    exact gs_iret k kt dX6_ring_19 ⟨(by simp [-Int32.not_lt, A_ring, ifc_T, ifc_F, c1]), (by simp [-Int32.not_lt, A_ring, ifc_T, ifc_F, c1])⟩

theorem cf_X7_ring : CF yX7_ring cX7_ring 6 (some .int) 2 := ⟨cd_X7_ring, iz_X7, by decide, by decide +kernel, by decide +kernel, by decide +kernel⟩
set_option maxRecDepth 100000 in
set_option maxHeartbeats 4000000 in
theorem c_X7_ring {l : Launch} {E : Ev} {M : Mm} {n : Nat} {kd : Nat → Int32} {V : Nat → Nat → Int32} (hI : ∀ k, k < 108 → k ∈ E.2.1) (hn : Rn M n) (hF : RFn M n kd V) {f p : Int32} : Cm l E yX7_ring cX7_ring 6 (some .int) 3 [.ref (E.2.2.1 65), .int f, .int p] M (pI (A_ring (ringR (V (tn f)) n (tn p)) n kd f p) M) := by
  refine Cm.of (by decide) (Nat.le_of_ble_eq_true rfl) (fun K k kt => ?_)
  show G l E K 0 [(0, .ref (E.2.2.1 65)), (1, .int f), (2, .int p)] [] M
  obtain ⟨hn0, hn1, hn6⟩ := id hn
  have hp := p2_le6 hn6
  have hp2 := p2_ge2 hn1
  refine gs_iload_n (q := 1) k rfl rfl dX7_ring_0 ?_
  refine gs_callS (As := [.int f]) k c_X7_isFunction cf_X7_isFunction sm_X7_isFunction ml_X7_128 (by decide) rfl rfl (Nat.le_of_ble_eq_true rfl) dX7_ring_1 (ppB (fun c1 => ?_) (fun c1 => ?_))
  · have bc1 := inR_lt c1
    refine gs_if_eq (tgt := 15) k (by decide) dX7_ring_4 (fun h => absurd h (by decide)) (fun _ => ?_)
    refine gs_aload_n (q := 0) k rfl rfl dX7_ring_7 ?_
    refine gs_iload_n (q := 2) k rfl rfl dX7_ring_8 ?_
    refine gs_callV (As := [.int p]) (k0 := 65) (ci := 7) (T := TX7) (N := 27) k (c_X7_isPoint hI hn) cf_X7_isPoint im_X7_isPoint sl_X7_isPoint ml_X7_98 (hI 65 (by omega)) rfl rfl (by decide) rfl rfl (Nat.le_of_ble_eq_true rfl) dX7_ring_9 (ppB (fun c2 => ?_) (fun c2 => ?_))
    · have bc2 := inR_lt c2
      refine gs_if_ne (tgt := 17) k (by decide) dX7_ring_12 (fun _ => ?_) (fun h => absurd h (by decide))
      refine gs_aload_n (q := 0) k rfl rfl dX7_ring_17 ?_
      refine gs_iload_n (q := 1) k rfl rfl dX7_ring_18 ?_
      refine gs_callV (As := [.int f]) (k0 := 65) (ci := 7) (T := TX7) (N := 27) k (c_X7_isThere hI hF) cf_X7_isThere im_X7_isThere sl_X7_isThere ml_X7_163 (hI 65 (by omega)) rfl rfl (by decide) rfl rfl (Nat.le_of_ble_eq_true rfl) dX7_ring_19 (ppB (fun c3 => ?_) (fun c3 => ?_))
      · have bc3 := inR_lt c3.1
        have tc3 := c3.2
        refine gs_if_ne (tgt := 28) k (by decide) dX7_ring_22 (fun _ => ?_) (fun h => absurd h (by decide))
        refine gs_aload_n (q := 0) k rfl rfl dX7_ring_28 ?_
        refine gs_iload_n (q := 1) k rfl rfl dX7_ring_29 ?_
        refine gs_callV (As := [.int f]) (k0 := 65) (ci := 7) (T := TX7) (N := 27) k (c_X7_leastOf (f := tn f) hI hn hF (inR_eq c1) (by omega) (by assumption)) cf_X7_leastOf im_X7_leastOf sl_X7_leastOf ml_X7_223 (hI 65 (by omega)) rfl rfl (by decide) rfl rfl (Nat.le_of_ble_eq_true rfl) dX7_ring_30 (ppI ?_)
        refine gs_istore_n (lv' := [(3, .int (lst (V (tn f)) n)), (0, .ref (E.2.2.1 65)), (1, .int f), (2, .int p)]) k rfl (by decide) rfl dX7_ring_33 ?_
        refine gs_bipush (v := -5) k (by decide) dX7_ring_34 ?_
        refine gs_istore (lv' := [(4, .int (-5)), (3, .int (lst (V (tn f)) n)), (0, .ref (E.2.2.1 65)), (1, .int f), (2, .int p)]) k (by decide) rfl dX7_ring_36 ?_
        refine gs_iconst (v := 0) k (by decide) dX7_ring_38 ?_
        refine gs_istore (lv' := [(5, .int 0), (4, .int (-5)), (3, .int (lst (V (tn f)) n)), (0, .ref (E.2.2.1 65)), (1, .int f), (2, .int p)]) k (by decide) rfl dX7_ring_39 ?_
        refine gs_lv (lv' := [(0, .ref (E.2.2.1 65)), (1, .int f), (2, .int p), (3, .int (lst (V (tn f)) n)), (4, .int (-5)), (5, .int 0)]) [3, 4, 5, 2, 1, 0] rfl ?_
        refine for_up (σ := Int32) (fun s c => G l E K 41 [(0, .ref (E.2.2.1 65)), (1, .int f), (2, .int p), (3, .int (lst (V (tn f)) n)), (4, .int c), (5, .int (nI s))] [] M) (fun s c => if s.testBit (tn p) = true ∧ V (tn f) s = lst (V (tn f)) n then (if c < 0 then nI s else c &&& nI s) else c) (2 ^ n) (fun s c hs hGs => ?_) (2 ^ n) 0 (-5) (by omega) ?_
        · show G l E K 41 [(0, .ref (E.2.2.1 65)), (1, .int f), (2, .int p), (3, .int (lst (V (tn f)) n)), (4, .int c), (5, .int (nI s))] [] M
          refine gs_iload (q := 5) k rfl dX7_ring_41 ?_
          refine gs_aload_n (q := 0) k rfl rfl dX7_ring_43 ?_
          refine gs_callV (As := []) (k0 := 65) (ci := 7) (T := TX7) (N := 27) k (c_X7_sets hI hn) cf_X7_sets im_X7_sets sl_X7_sets ml_X7_83 (hI 65 (by omega)) rfl rfl (by decide) rfl rfl (Nat.le_of_ble_eq_true rfl) dX7_ring_44 (ppI ?_)
          refine gs_icmpN_ge (a := s) (b := 2 ^ n) (tgt := 95) k rfl rfl (by omega) (by omega) (by decide) dX7_ring_47 (fun c4 => absurd c4 (by omega)) (fun c4 => ?_)
          refine gs_aload_n (q := 0) k rfl rfl dX7_ring_50 ?_
          refine gs_get (C := RX7) (T := TX7) (N := 27) (ci := 7) (k0 := 65) (j := 8) k (hI 65 (by omega)) rfl rfl inX7 (by decide) fl_X7_39 rfl rfl dX7_ring_51 ?_
          refine gs_iload_n (q := 1) k rfl rfl dX7_ring_54 ?_
          refine gs_aaldIN (k0 := 73) (n := 6) (e := tn f) (a := E.2.2.1 (74 + (tn f))) k (hI 73 (by omega)) (fun _ => rfl) (inR_eq c1) (by omega) (by decide) rfl dX7_ring_55 ?_
          refine gs_iload (q := 5) k rfl dX7_ring_56 ?_
          refine gs_ialdN (k0 := (74 + (tn f))) (n := 64) (e := s) k (hI (74 + (tn f)) (by omega)) (ent_RV (by omega)) rfl (by omega) (by decide) dX7_ring_58 ?_
          refine gs_top (y := V (tn f) s) ((hF (tn f) (by omega)).2.2 (by assumption) s (by omega)) ?_
          refine gs_iload_n (q := 3) k rfl rfl dX7_ring_59 ?_
          refine gs_icmp_ne (tgt := 89) k (by decide) dX7_ring_60 (fun c5 => ?_) (fun c5 => ?_)
          · refine gs_iincN (q := 5) (a := s) (c := 1) (lv' := [(5, .int (nI (s + 1))), (0, .ref (E.2.2.1 65)), (1, .int f), (2, .int p), (3, .int (lst (V (tn f)) n)), (4, .int c)]) k rfl rfl (by decide) rfl dX7_ring_89 ?_
            refine gs_goto (tgt := 41) k (by decide) dX7_ring_92 ?_
            refine gs_lv (lv' := [(0, .ref (E.2.2.1 65)), (1, .int f), (2, .int p), (3, .int (lst (V (tn f)) n)), (4, .int c), (5, .int (nI (s + 1)))]) [1, 2, 3, 4, 5, 0] rfl ?_
            exact hGs _ (by rw [if_neg (fun q => c5 q.2)])
          · refine gs_iload (q := 5) k rfl dX7_ring_63 ?_
            refine gs_iload_n (q := 2) k rfl rfl dX7_ring_65 ?_
            refine gs_callS (As := [.int (nI s), .int p]) k (c_X7_has (S := s) (P := tn p) rfl (inR_eq c2) (by omega) (by omega)) cf_X7_has sm_X7_has ml_X7_118 (by decide) rfl rfl (Nat.le_of_ble_eq_true rfl) dX7_ring_66 (ppB (fun c6 => ?_) (fun c6 => ?_))
            · refine gs_if_eq (tgt := 89) k (by decide) dX7_ring_69 (fun h => absurd h (by decide)) (fun _ => ?_)
              refine gs_iload (q := 4) k rfl dX7_ring_72 ?_
              refine gs_if_ge (tgt := 82) k (by decide) dX7_ring_74 (fun c7 => ?_) (fun c7 => ?_)
              · refine gs_iload (q := 4) k rfl dX7_ring_82 ?_
                refine gs_iload (q := 5) k rfl dX7_ring_84 ?_
                refine gs_iand k dX7_ring_86 ?_
                refine gs_istore (lv' := [(4, .int (c &&& (nI s))), (0, .ref (E.2.2.1 65)), (1, .int f), (2, .int p), (3, .int (lst (V (tn f)) n)), (5, .int (nI s))]) k (by decide) rfl dX7_ring_87 ?_
                refine gs_iincN (q := 5) (a := s) (c := 1) (lv' := [(5, .int (nI (s + 1))), (4, .int (c &&& (nI s))), (0, .ref (E.2.2.1 65)), (1, .int f), (2, .int p), (3, .int (lst (V (tn f)) n))]) k rfl rfl (by decide) rfl dX7_ring_89 ?_
                refine gs_goto (tgt := 41) k (by decide) dX7_ring_92 ?_
                refine gs_lv (lv' := [(0, .ref (E.2.2.1 65)), (1, .int f), (2, .int p), (3, .int (lst (V (tn f)) n)), (4, .int (c &&& (nI s))), (5, .int (nI (s + 1)))]) [2, 3, 4, 5, 1, 0] rfl ?_
                exact hGs _ (by rw [if_pos ⟨c6, c5⟩, if_neg (Int32.not_lt.mpr c7)])
              · refine gs_iload (q := 5) k rfl dX7_ring_77 ?_
                refine gs_goto (tgt := 87) k (by decide) dX7_ring_79 ?_
                refine gs_istore (lv' := [(4, .int (nI s)), (0, .ref (E.2.2.1 65)), (1, .int f), (2, .int p), (3, .int (lst (V (tn f)) n)), (5, .int (nI s))]) k (by decide) rfl dX7_ring_87 ?_
                refine gs_iincN (q := 5) (a := s) (c := 1) (lv' := [(5, .int (nI (s + 1))), (4, .int (nI s)), (0, .ref (E.2.2.1 65)), (1, .int f), (2, .int p), (3, .int (lst (V (tn f)) n))]) k rfl rfl (by decide) rfl dX7_ring_89 ?_
                refine gs_goto (tgt := 41) k (by decide) dX7_ring_92 ?_
                refine gs_lv (lv' := [(0, .ref (E.2.2.1 65)), (1, .int f), (2, .int p), (3, .int (lst (V (tn f)) n)), (4, .int (nI s)), (5, .int (nI (s + 1)))]) [2, 3, 4, 5, 1, 0] rfl ?_
                exact hGs _ (by rw [if_pos ⟨c6, c5⟩, if_pos (Int32.not_le.mp c7)])
            · refine gs_if_eq (tgt := 89) k (by decide) dX7_ring_69 (fun _ => ?_) (fun h => absurd h (by decide))
              refine gs_iincN (q := 5) (a := s) (c := 1) (lv' := [(5, .int (nI (s + 1))), (0, .ref (E.2.2.1 65)), (1, .int f), (2, .int p), (3, .int (lst (V (tn f)) n)), (4, .int c)]) k rfl rfl (by decide) rfl dX7_ring_89 ?_
              refine gs_goto (tgt := 41) k (by decide) dX7_ring_92 ?_
              refine gs_lv (lv' := [(0, .ref (E.2.2.1 65)), (1, .int f), (2, .int p), (3, .int (lst (V (tn f)) n)), (4, .int c), (5, .int (nI (s + 1)))]) [1, 2, 3, 4, 5, 0] rfl ?_
              exact hGs _ (by rw [if_neg (fun q => c6 q.1)])
        · show G l E K 41 [(0, .ref (E.2.2.1 65)), (1, .int f), (2, .int p), (3, .int (lst (V (tn f)) n)), (4, .int (ringR (V (tn f)) n (tn p))), (5, .int (nI (2 ^ n)))] [] M
          refine gs_iload (q := 5) k rfl dX7_ring_41 ?_
          refine gs_aload_n (q := 0) k rfl rfl dX7_ring_43 ?_
          refine gs_callV (As := []) (k0 := 65) (ci := 7) (T := TX7) (N := 27) k (c_X7_sets hI hn) cf_X7_sets im_X7_sets sl_X7_sets ml_X7_83 (hI 65 (by omega)) rfl rfl (by decide) rfl rfl (Nat.le_of_ble_eq_true rfl) dX7_ring_44 (ppI ?_)
          refine gs_icmpN_ge (a := 2 ^ n) (b := 2 ^ n) (tgt := 95) k rfl rfl (by omega) (by omega) (by decide) dX7_ring_47 (fun c4 => ?_) (fun c4 => absurd c4 (by omega))
          refine gs_iload (q := 4) k rfl dX7_ring_95 ?_
          exact gs_iret k kt dX7_ring_97 ⟨(by simp [-Int32.not_lt, A_ring, ifc_T, ifc_F, c1, c2, c3, tc3]), (by simp [-Int32.not_lt, A_ring, ifc_T, ifc_F, c1, c2, c3, tc3])⟩
      · have qc3 : kd (tn f) < 0 := Classical.byContradiction (fun k => c3 ⟨by assumption, k⟩)
        refine gs_if_ne (tgt := 28) k (by decide) dX7_ring_22 (fun h => absurd h (by decide)) (fun _ => ?_)
        refine gs_bipush (v := -11) k (by decide) dX7_ring_25 ?_
        exact gs_iret k kt dX7_ring_27 ⟨(by simp [-Int32.not_lt, A_ring, ifc_T, ifc_F, c1, c2, c3, qc3]), (by simp [-Int32.not_lt, A_ring, ifc_T, ifc_F, c1, c2, c3, qc3])⟩
    · refine gs_if_ne (tgt := 17) k (by decide) dX7_ring_12 (fun h => absurd h (by decide)) (fun _ => ?_)
      refine gs_iconst (v := -1) k (by decide) dX7_ring_15 ?_
      exact gs_iret k kt dX7_ring_16 ⟨(by simp [-Int32.not_lt, A_ring, ifc_T, ifc_F, c1, c2]), (by simp [-Int32.not_lt, A_ring, ifc_T, ifc_F, c1, c2])⟩
  · refine gs_if_eq (tgt := 15) k (by decide) dX7_ring_4 (fun _ => ?_) (fun h => absurd h (by decide))
    refine gs_iconst (v := -1) k (by decide) dX7_ring_15 ?_
    exact gs_iret k kt dX7_ring_16 ⟨(by simp [-Int32.not_lt, A_ring, ifc_T, ifc_F, c1]), (by simp [-Int32.not_lt, A_ring, ifc_T, ifc_F, c1])⟩

set_option maxRecDepth 100000 in
set_option maxHeartbeats 4000000 in
theorem c_X6_oneIf_x {l : Launch} {E : Ev} {M : Mm} {x : Int32} : Cm l E yX6_oneIf cX6_oneIf 1 (some .int) 0 [.int x] M (pI (ifc (x = 0) 0 1) M) := by
  refine Cm.of (by decide) (Nat.le_of_ble_eq_true rfl) (fun K k kt => ?_)
  show G l E K 0 [(0, .int x)] [] M
  refine gs_iload_n (q := 0) k rfl rfl dX6_oneIf_0 ?_
  refine gs_if_eq (tgt := 8) k (by decide) dX6_oneIf_1 (fun c1 => ?_) (fun c1 => ?_)
  · refine gs_iconst (v := 0) k (by decide) dX6_oneIf_8 ?_
    exact gs_iret k kt dX6_oneIf_9 ⟨(by simp [-Int32.not_lt, ifc_T, ifc_F, c1]), (by simp [-Int32.not_lt, ifc_T, ifc_F, c1])⟩
  · refine gs_iconst (v := 1) k (by decide) dX6_oneIf_4 ?_
    refine gs_goto (tgt := 9) k (by decide) dX6_oneIf_5 ?_
    exact gs_iret k kt dX6_oneIf_9 ⟨(by simp [-Int32.not_lt, ifc_T, ifc_F, c1]), (by simp [-Int32.not_lt, ifc_T, ifc_F, c1])⟩

theorem cf_X6_based : CF yX6_based cX6_based 11 (some .int) 2 := ⟨cd_X6_based, iz_X6, by decide, by decide +kernel, by decide +kernel, by decide +kernel⟩
set_option maxRecDepth 100000 in
set_option maxHeartbeats 4000000 in
theorem c_X6_based {l : Launch} {E : Ev} {M : Mm} {n : Nat} {kd : Nat → Int32} {V : Nat → Nat → Int32} (hI : ∀ k, k < 108 → k ∈ E.2.1) (hn : Cn M n) (hF : CFn M n kd V) {f w : Int32} : Cm l E yX6_based cX6_based 11 (some .int) 3 [.ref (E.2.2.1 0), .int f, .int w] M (pI (A_based (ifc ((basC (ifc (wsum (M 7) n (2 ^ n - 1) = V (tn f) (2 ^ n - 1) - V (tn f) 0) 1 0) (V (tn f)) (M 7) n).1 = 0) 0 1) (basC (ifc (wsum (M 7) n (2 ^ n - 1) = V (tn f) (2 ^ n - 1) - V (tn f) 0) 1 0) (V (tn f)) (M 7) n).2.1 (basC (ifc (wsum (M 7) n (2 ^ n - 1) = V (tn f) (2 ^ n - 1) - V (tn f) 0) 1 0) (V (tn f)) (M 7) n).2.2.1 (basC (ifc (wsum (M 7) n (2 ^ n - 1) = V (tn f) (2 ^ n - 1) - V (tn f) 0) 1 0) (V (tn f)) (M 7) n).2.2.2 n kd f w) M) := by
  refine Cm.of (by decide) (Nat.le_of_ble_eq_true rfl) (fun K k kt => ?_)
  show G l E K 0 [(0, .ref (E.2.2.1 0)), (1, .int f), (2, .int w)] [] M
  obtain ⟨hn0, hn1, hn6⟩ := id hn
  have hp := p2_le6 hn6
  have hp2 := p2_ge2 hn1
  refine gs_aload_n (q := 0) k rfl rfl dX6_based_0 ?_
  refine gs_iload_n (q := 1) k rfl rfl dX6_based_1 ?_
  refine gs_iload_n (q := 2) k rfl rfl dX6_based_2 ?_
  refine gs_callV (As := [.int f, .int w]) (k0 := 0) (ci := 6) (T := TX6) (N := 10) k (c_X6_errorOfChoice hI hF) cf_X6_errorOfChoice im_X6_errorOfChoice sl_X6_errorOfChoice ml_X6_204 (hI 0 (by omega)) rfl rfl (by decide) rfl rfl (Nat.le_of_ble_eq_true rfl) dX6_based_3 (ppE (fun c1 => ?_) (fun c1 c2 => ?_) (fun c1 c2 => ?_))
  · refine gs_istore_n (lv' := [(3, .int (-1)), (0, .ref (E.2.2.1 0)), (1, .int f), (2, .int w)]) k rfl (by decide) rfl dX6_based_6 ?_
    refine gs_iload_n (q := 0) k rfl rfl dX6_based_7 ?_
    refine gs_if_eq (tgt := 13) k (by decide) dX6_based_8 (fun h => absurd h (by decide)) (fun _ => ?_)
    refine gs_iload_n (q := 0) k rfl rfl dX6_based_11 ?_
    exact gs_iret k kt dX6_based_12 ⟨(by simp [-Int32.not_lt, A_based, ifc_T, ifc_F, c1, i0_4, i1_4, i2_4, i3_4]), (by simp [-Int32.not_lt, A_based, ifc_T, ifc_F, c1, i0_4, i1_4, i2_4, i3_4])⟩
  · have bc1 := inR_lt c1.2
    have dc1 := inR_lt c1.1
    refine gs_istore_n (lv' := [(3, .int (-11)), (0, .ref (E.2.2.1 0)), (1, .int f), (2, .int w)]) k rfl (by decide) rfl dX6_based_6 ?_
    refine gs_iload_n (q := 0) k rfl rfl dX6_based_7 ?_
    refine gs_if_eq (tgt := 13) k (by decide) dX6_based_8 (fun h => absurd h (by decide)) (fun _ => ?_)
    refine gs_iload_n (q := 0) k rfl rfl dX6_based_11 ?_
    exact gs_iret k kt dX6_based_12 ⟨(by simp [-Int32.not_lt, A_based, ifc_T, ifc_F, c1, c2, i0_4, i1_4, i2_4, i3_4]), (by simp [-Int32.not_lt, A_based, ifc_T, ifc_F, c1, c2, i0_4, i1_4, i2_4, i3_4])⟩
  · have bc1 := inR_lt c1.2
    have dc1 := inR_lt c1.1
    refine gs_istore_n (lv' := [(3, .int 0), (0, .ref (E.2.2.1 0)), (1, .int f), (2, .int w)]) k rfl (by decide) rfl dX6_based_6 ?_
    refine gs_iload_n (q := 0) k rfl rfl dX6_based_7 ?_
    refine gs_if_eq (tgt := 13) k (by decide) dX6_based_8 (fun _ => ?_) (fun h => absurd h (by decide))
    refine gs_aload_n (q := 1) k rfl rfl dX6_based_13 ?_
    refine gs_get (C := RX6) (T := TX6) (N := 10) (ci := 6) (k0 := 0) (j := 0) k (hI 0 (by omega)) rfl rfl inX6 (by decide) fl_X6_12 rfl rfl dX6_based_14 ?_
    refine gs_get (C := RX5) (T := TX5) (N := 9) (ci := 5) (k0 := 1) (j := 7) k (hI 1 (by omega)) rfl rfl inX5 (by decide) fl_X6_107 rfl rfl dX6_based_17 ?_
    refine gs_iload_n (q := 2) k rfl rfl dX6_based_20 ?_
    refine gs_aaldSN (k0 := 8) (n := 6) (e := tn f) (a := E.2.2.1 (10 + 2 * (tn f))) k (hI 8 (by omega)) (fun _ => rfl) (inR_eq c1.2) (by omega) (by decide) rfl dX6_based_21 ?_
    refine gs_get (C := RX3) (T := TX3) (N := 2) (ci := 3) (k0 := (10 + 2 * (tn f))) (j := 1) k (hI (10 + 2 * (tn f)) (by omega)) (ent_F1 (by omega) _) rfl inX3 (by decide) fl_X6_111 rfl rfl dX6_based_22 ?_
    refine gs_astore (lv' := [(4, .ref (E.2.2.1 (11 + 2 * (tn f)))), (3, .int 0), (0, .ref (E.2.2.1 0)), (1, .int f), (2, .int w)]) k (by decide) rfl dX6_based_25 ?_
    refine gs_aload_n (q := 2) k rfl rfl dX6_based_27 ?_
    refine gs_get (C := RX6) (T := TX6) (N := 10) (ci := 6) (k0 := 0) (j := 0) k (hI 0 (by omega)) rfl rfl inX6 (by decide) fl_X6_12 rfl rfl dX6_based_28 ?_
    refine gs_aload_n (q := 2) k rfl rfl dX6_based_31 ?_
    refine gs_get (C := RX6) (T := TX6) (N := 10) (ci := 6) (k0 := 0) (j := 0) k (hI 0 (by omega)) rfl rfl inX6 (by decide) fl_X6_12 rfl rfl dX6_based_32 ?_
    refine gs_callV (As := []) (k0 := 1) (ci := 5) (T := TX5) (N := 9) k (c_X5_all hI hn) cf_X5_all im_X5_all sl_X5_all ml_X6_119 (hI 1 (by omega)) rfl rfl (by decide) rfl rfl (Nat.le_of_ble_eq_true rfl) dX6_based_35 (ppI ?_)
    refine gs_callV (As := [.int (nI (2 ^ n - 1))]) (k0 := 1) (ci := 5) (T := TX5) (N := 9) k (c_X5_totalWeight (S := 2 ^ n - 1) hI hn rfl (by omega)) cf_X5_totalWeight im_X5_totalWeight sl_X5_totalWeight ml_X6_142 (hI 1 (by omega)) rfl rfl (by decide) rfl rfl (Nat.le_of_ble_eq_true rfl) dX6_based_38 (ppI ?_)
    refine gs_aload (q := 0) k rfl dX6_based_41 ?_
    refine gs_aload_n (q := 2) k rfl rfl dX6_based_43 ?_
    refine gs_get (C := RX6) (T := TX6) (N := 10) (ci := 6) (k0 := 0) (j := 0) k (hI 0 (by omega)) rfl rfl inX6 (by decide) fl_X6_12 rfl rfl dX6_based_44 ?_
    refine gs_callV (As := []) (k0 := 1) (ci := 5) (T := TX5) (N := 9) k (c_X5_all hI hn) cf_X5_all im_X5_all sl_X5_all ml_X6_119 (hI 1 (by omega)) rfl rfl (by decide) rfl rfl (Nat.le_of_ble_eq_true rfl) dX6_based_47 (ppI ?_)
    refine gs_ialdN (k0 := (11 + 2 * (tn f))) (n := 64) (e := 2 ^ n - 1) k (hI (11 + 2 * (tn f)) (by omega)) (ent_V1 (by omega)) rfl (by omega) (by decide) dX6_based_50 ?_
    refine gs_top (y := V (tn f) (2 ^ n - 1)) ((hF (tn f) (by omega)).2.2 (2 ^ n - 1) (by omega)) ?_
    refine gs_aload (q := 0) k rfl dX6_based_51 ?_
    refine gs_iconst (v := 0) k (by decide) dX6_based_53 ?_
    refine gs_ialdN (k0 := (11 + 2 * (tn f))) (n := 64) (e := 0) k (hI (11 + 2 * (tn f)) (by omega)) (ent_V1 (by omega)) rfl (by omega) (by decide) dX6_based_54 ?_
    refine gs_top (y := V (tn f) 0) ((hF (tn f) (by omega)).2.2 0 (by omega)) ?_
    refine gs_isub k dX6_based_55 ?_
    refine gs_icmp_ne (tgt := 63) k (by decide) dX6_based_56 (fun c3 => ?_) (fun c3 => ?_)
    · refine gs_iconst (v := 0) k (by decide) dX6_based_63 ?_
      refine gs_istore (lv' := [(5, .int 0), (4, .ref (E.2.2.1 (11 + 2 * (tn f)))), (3, .int 0), (0, .ref (E.2.2.1 0)), (1, .int f), (2, .int w)]) k (by decide) rfl dX6_based_64 ?_
      refine gs_iconst (v := 0) k (by decide) dX6_based_66 ?_
      refine gs_istore (lv' := [(6, .int 0), (5, .int 0), (4, .ref (E.2.2.1 (11 + 2 * (tn f)))), (3, .int 0), (0, .ref (E.2.2.1 0)), (1, .int f), (2, .int w)]) k (by decide) rfl dX6_based_67 ?_
      refine gs_aload_n (q := 4) k rfl rfl dX6_based_69 ?_
      refine gs_get (C := RX6) (T := TX6) (N := 10) (ci := 6) (k0 := 0) (j := 0) k (hI 0 (by omega)) rfl rfl inX6 (by decide) fl_X6_12 rfl rfl dX6_based_70 ?_
      refine gs_callV (As := []) (k0 := 1) (ci := 5) (T := TX5) (N := 9) k (c_X5_all hI hn) cf_X5_all im_X5_all sl_X5_all ml_X6_119 (hI 1 (by omega)) rfl rfl (by decide) rfl rfl (Nat.le_of_ble_eq_true rfl) dX6_based_73 (ppI ?_)
      refine gs_istore (lv' := [(7, .int (nI (2 ^ n - 1))), (6, .int 0), (5, .int 0), (4, .ref (E.2.2.1 (11 + 2 * (tn f)))), (3, .int 0), (0, .ref (E.2.2.1 0)), (1, .int f), (2, .int w)]) k (by decide) rfl dX6_based_76 ?_
      refine gs_iconst (v := 0) k (by decide) dX6_based_78 ?_
      refine gs_istore (lv' := [(8, .int 0), (7, .int (nI (2 ^ n - 1))), (6, .int 0), (5, .int 0), (4, .ref (E.2.2.1 (11 + 2 * (tn f)))), (3, .int 0), (0, .ref (E.2.2.1 0)), (1, .int f), (2, .int w)]) k (by decide) rfl dX6_based_79 ?_
      refine gs_iconst (v := 0) k (by decide) dX6_based_81 ?_
      refine gs_istore (lv' := [(9, .int 0), (8, .int 0), (7, .int (nI (2 ^ n - 1))), (6, .int 0), (5, .int 0), (4, .ref (E.2.2.1 (11 + 2 * (tn f)))), (3, .int 0), (0, .ref (E.2.2.1 0)), (1, .int f), (2, .int w)]) k (by decide) rfl dX6_based_82 ?_
      refine gs_lv (lv' := [(0, .ref (E.2.2.1 0)), (1, .int f), (2, .int w), (3, .int 0), (4, .ref (E.2.2.1 (11 + 2 * (tn f)))), (5, .int 0), (6, .int 0), (7, .int (nI (2 ^ n - 1))), (8, .int 0), (9, .int 0)]) [7, 8, 9, 6, 5, 4, 3, 2, 1, 0] rfl ?_
      refine for_upJ (σ := Int32 × Int32 × Int32 × Int32) (fun s zs => G l E K 84 [(0, .ref (E.2.2.1 0)), (1, .int f), (2, .int w), (3, .int 0), (4, .ref (E.2.2.1 (11 + 2 * (tn f)))), (5, .int zs.1), (6, .int zs.2.1), (7, .int zs.2.2.1), (8, .int zs.2.2.2), (9, .int (nI s))] [] M) (fun s zs => s = 0 → zs.2.2.1 = nI (2 ^ n - 1)) (fun s zs => (if spv (V (tn f)) (M 7) n s < 0 then 0 else zs.1, if spv (V (tn f)) (M 7) n s = 0 then (zs.2.1 + 1, (if s = 0 then zs.2.2.1 else zs.2.2.1 &&& nI s), zs.2.2.2 ||| nI s) else (zs.2.1, zs.2.2.1, zs.2.2.2))) (2 ^ n) (fun s z hs hJ q => absurd q (by omega)) (fun s zs hs hJs hGs => ?_) (2 ^ n) 0 (0, 0, nI (2 ^ n - 1), 0) (by omega) (fun _ => rfl) (fun hJs => ?_)
      · show G l E K 84 [(0, .ref (E.2.2.1 0)), (1, .int f), (2, .int w), (3, .int 0), (4, .ref (E.2.2.1 (11 + 2 * (tn f)))), (5, .int zs.1), (6, .int zs.2.1), (7, .int zs.2.2.1), (8, .int zs.2.2.2), (9, .int (nI s))] [] M
        refine gs_iload (q := 9) k rfl dX6_based_84 ?_
        refine gs_aload_n (q := 0) k rfl rfl dX6_based_86 ?_
        refine gs_get (C := RX6) (T := TX6) (N := 10) (ci := 6) (k0 := 0) (j := 0) k (hI 0 (by omega)) rfl rfl inX6 (by decide) fl_X6_12 rfl rfl dX6_based_87 ?_
        refine gs_callV (As := []) (k0 := 1) (ci := 5) (T := TX5) (N := 9) k (c_X5_sets hI hn) cf_X5_sets im_X5_sets sl_X5_sets ml_X6_131 (hI 1 (by omega)) rfl rfl (by decide) rfl rfl (Nat.le_of_ble_eq_true rfl) dX6_based_90 (ppI ?_)
        refine gs_icmpN_ge (a := s) (b := 2 ^ n) (tgt := 169) k rfl rfl (by omega) (by omega) (by decide) dX6_based_93 (fun c4 => absurd c4 (by omega)) (fun c4 => ?_)
        refine gs_aload (q := 4) k rfl dX6_based_96 ?_
        refine gs_iload (q := 9) k rfl dX6_based_98 ?_
        refine gs_ialdN (k0 := (11 + 2 * (tn f))) (n := 64) (e := s) k (hI (11 + 2 * (tn f)) (by omega)) (ent_V1 (by omega)) rfl (by omega) (by decide) dX6_based_100 ?_
        refine gs_top (y := V (tn f) s) ((hF (tn f) (by omega)).2.2 s (by omega)) ?_
        refine gs_aload (q := 4) k rfl dX6_based_101 ?_
        refine gs_iconst (v := 0) k (by decide) dX6_based_103 ?_
        refine gs_ialdN (k0 := (11 + 2 * (tn f))) (n := 64) (e := 0) k (hI (11 + 2 * (tn f)) (by omega)) (ent_V1 (by omega)) rfl (by omega) (by decide) dX6_based_104 ?_
        refine gs_top (y := V (tn f) 0) ((hF (tn f) (by omega)).2.2 0 (by omega)) ?_
        refine gs_isub k dX6_based_105 ?_
        refine gs_aload_n (q := 0) k rfl rfl dX6_based_106 ?_
        refine gs_get (C := RX6) (T := TX6) (N := 10) (ci := 6) (k0 := 0) (j := 0) k (hI 0 (by omega)) rfl rfl inX6 (by decide) fl_X6_12 rfl rfl dX6_based_107 ?_
        refine gs_iload (q := 9) k rfl dX6_based_110 ?_
        refine gs_callV (As := [.int (nI s)]) (k0 := 1) (ci := 5) (T := TX5) (N := 9) k (c_X5_totalWeight (S := s) hI hn rfl (by omega)) cf_X5_totalWeight im_X5_totalWeight sl_X5_totalWeight ml_X6_142 (hI 1 (by omega)) rfl rfl (by decide) rfl rfl (Nat.le_of_ble_eq_true rfl) dX6_based_112 (ppI ?_)
        refine gs_isub k dX6_based_115 ?_
        refine gs_top (y := spv (V (tn f)) (M 7) n s) rfl ?_
        refine gs_istore (lv' := [(10, .int (spv (V (tn f)) (M 7) n s)), (0, .ref (E.2.2.1 0)), (1, .int f), (2, .int w), (3, .int 0), (4, .ref (E.2.2.1 (11 + 2 * (tn f)))), (5, .int zs.1), (6, .int zs.2.1), (7, .int zs.2.2.1), (8, .int zs.2.2.2), (9, .int (nI s))]) k (by decide) rfl dX6_based_116 ?_
        refine gs_iload (q := 0) k rfl dX6_based_118 ?_
        refine gs_if_ge (tgt := 126) k (by decide) dX6_based_120 (fun c5 => ?_) (fun c5 => ?_)
        · refine gs_iload (q := 0) k rfl dX6_based_126 ?_
          refine gs_if_ne (tgt := 163) k (by decide) dX6_based_128 (fun c6 => ?_) (fun c6 => ?_)
          · refine gs_iincN (q := 10) (a := s) (c := 1) (lv' := [(9, .int (nI (s + 1))), (10, .int (spv (V (tn f)) (M 7) n s)), (0, .ref (E.2.2.1 0)), (1, .int f), (2, .int w), (3, .int 0), (4, .ref (E.2.2.1 (11 + 2 * (tn f)))), (5, .int zs.1), (6, .int zs.2.1), (7, .int zs.2.2.1), (8, .int zs.2.2.2)]) k rfl rfl (by decide) rfl dX6_based_163 ?_
            refine gs_goto (tgt := 84) k (by decide) dX6_based_166 ?_
            refine gs_lv (lv' := [(0, .ref (E.2.2.1 0)), (1, .int f), (2, .int w), (3, .int 0), (4, .ref (E.2.2.1 (11 + 2 * (tn f)))), (5, .int zs.1), (6, .int zs.2.1), (7, .int zs.2.2.1), (8, .int zs.2.2.2), (9, .int (nI (s + 1))), (10, .int (spv (V (tn f)) (M 7) n s))]) [2, 3, 4, 5, 6, 7, 8, 9, 10, 0, 1] rfl ?_
            refine gs_lv (lv' := [(0, .ref (E.2.2.1 0)), (1, .int f), (2, .int w), (3, .int 0), (4, .ref (E.2.2.1 (11 + 2 * (tn f)))), (5, .int zs.1), (6, .int zs.2.1), (7, .int zs.2.2.1), (8, .int zs.2.2.2), (9, .int (nI (s + 1)))]) [0, 1, 2, 3, 4, 5, 6, 7, 8, 9] rfl ?_
            exact hGs (zs.1, zs.2.1, zs.2.2.1, zs.2.2.2) (by rw [if_neg (Int32.not_lt.mpr c5), if_neg c6])
          · refine gs_iinc (q := 7) (v := zs.2.1 + 1) (lv' := [(6, .int (zs.2.1 + 1)), (10, .int (spv (V (tn f)) (M 7) n s)), (0, .ref (E.2.2.1 0)), (1, .int f), (2, .int w), (3, .int 0), (4, .ref (E.2.2.1 (11 + 2 * (tn f)))), (5, .int zs.1), (7, .int zs.2.2.1), (8, .int zs.2.2.2), (9, .int (nI s))]) k rfl rfl (by decide) rfl dX6_based_131 ?_
            refine gs_iload (q := 9) k rfl dX6_based_134 ?_
            refine gs_iload (q := 10) k rfl dX6_based_136 ?_
            refine gs_ior k dX6_based_138 ?_
            refine gs_istore (lv' := [(8, .int (zs.2.2.2 ||| (nI s))), (6, .int (zs.2.1 + 1)), (10, .int (spv (V (tn f)) (M 7) n s)), (0, .ref (E.2.2.1 0)), (1, .int f), (2, .int w), (3, .int 0), (4, .ref (E.2.2.1 (11 + 2 * (tn f)))), (5, .int zs.1), (7, .int zs.2.2.1), (9, .int (nI s))]) k (by decide) rfl dX6_based_139 ?_
            refine gs_iload (q := 9) k rfl dX6_based_141 ?_
            refine gs_iload (q := 10) k rfl dX6_based_143 ?_
            refine gs_ifN_ne (a := s) (tgt := 158) k rfl (by omega) (by decide) dX6_based_145 (fun c7 => ?_) (fun c7 => ?_)
            · refine gs_iload (q := 10) k rfl dX6_based_158 ?_
              refine gs_iand k dX6_based_160 ?_
              refine gs_istore (lv' := [(7, .int (zs.2.2.1 &&& (nI s))), (8, .int (zs.2.2.2 ||| (nI s))), (6, .int (zs.2.1 + 1)), (10, .int (spv (V (tn f)) (M 7) n s)), (0, .ref (E.2.2.1 0)), (1, .int f), (2, .int w), (3, .int 0), (4, .ref (E.2.2.1 (11 + 2 * (tn f)))), (5, .int zs.1), (9, .int (nI s))]) k (by decide) rfl dX6_based_161 ?_
              refine gs_iincN (q := 10) (a := s) (c := 1) (lv' := [(9, .int (nI (s + 1))), (7, .int (zs.2.2.1 &&& (nI s))), (8, .int (zs.2.2.2 ||| (nI s))), (6, .int (zs.2.1 + 1)), (10, .int (spv (V (tn f)) (M 7) n s)), (0, .ref (E.2.2.1 0)), (1, .int f), (2, .int w), (3, .int 0), (4, .ref (E.2.2.1 (11 + 2 * (tn f)))), (5, .int zs.1)]) k rfl rfl (by decide) rfl dX6_based_163 ?_
              refine gs_goto (tgt := 84) k (by decide) dX6_based_166 ?_
              refine gs_lv (lv' := [(0, .ref (E.2.2.1 0)), (1, .int f), (2, .int w), (3, .int 0), (4, .ref (E.2.2.1 (11 + 2 * (tn f)))), (5, .int zs.1), (6, .int (zs.2.1 + 1)), (7, .int (zs.2.2.1 &&& (nI s))), (8, .int (zs.2.2.2 ||| (nI s))), (9, .int (nI (s + 1))), (10, .int (spv (V (tn f)) (M 7) n s))]) [5, 6, 7, 8, 9, 10, 3, 1, 2, 0, 4] rfl ?_
              refine gs_lv (lv' := [(0, .ref (E.2.2.1 0)), (1, .int f), (2, .int w), (3, .int 0), (4, .ref (E.2.2.1 (11 + 2 * (tn f)))), (5, .int zs.1), (6, .int (zs.2.1 + 1)), (7, .int (zs.2.2.1 &&& (nI s))), (8, .int (zs.2.2.2 ||| (nI s))), (9, .int (nI (s + 1)))]) [0, 1, 2, 3, 4, 5, 6, 7, 8, 9] rfl ?_
              exact hGs (zs.1, zs.2.1 + 1, zs.2.2.1 &&& (nI s), zs.2.2.2 ||| (nI s)) (by rw [if_neg (Int32.not_lt.mpr c5), if_pos c6, if_neg (show ¬ s = 0 by omega)])
            · refine gs_aload_n (q := 3) k rfl rfl dX6_based_148 ?_
              refine gs_get (C := RX6) (T := TX6) (N := 10) (ci := 6) (k0 := 0) (j := 0) k (hI 0 (by omega)) rfl rfl inX6 (by decide) fl_X6_12 rfl rfl dX6_based_149 ?_
              refine gs_callV (As := []) (k0 := 1) (ci := 5) (T := TX5) (N := 9) k (c_X5_all hI hn) cf_X5_all im_X5_all sl_X5_all ml_X6_119 (hI 1 (by omega)) rfl rfl (by decide) rfl rfl (Nat.le_of_ble_eq_true rfl) dX6_based_152 (ppI ?_)
              refine gs_goto (tgt := 160) k (by decide) dX6_based_155 ?_
              refine gs_iand k dX6_based_160 ?_
              refine gs_istore (lv' := [(7, .int (zs.2.2.1 &&& (nI (2 ^ n - 1)))), (8, .int (zs.2.2.2 ||| (nI s))), (6, .int (zs.2.1 + 1)), (10, .int (spv (V (tn f)) (M 7) n s)), (0, .ref (E.2.2.1 0)), (1, .int f), (2, .int w), (3, .int 0), (4, .ref (E.2.2.1 (11 + 2 * (tn f)))), (5, .int zs.1), (9, .int (nI s))]) k (by decide) rfl dX6_based_161 ?_
              refine gs_iincN (q := 10) (a := s) (c := 1) (lv' := [(9, .int (nI (s + 1))), (7, .int (zs.2.2.1 &&& (nI (2 ^ n - 1)))), (8, .int (zs.2.2.2 ||| (nI s))), (6, .int (zs.2.1 + 1)), (10, .int (spv (V (tn f)) (M 7) n s)), (0, .ref (E.2.2.1 0)), (1, .int f), (2, .int w), (3, .int 0), (4, .ref (E.2.2.1 (11 + 2 * (tn f)))), (5, .int zs.1)]) k rfl rfl (by decide) rfl dX6_based_163 ?_
              refine gs_goto (tgt := 84) k (by decide) dX6_based_166 ?_
              refine gs_lv (lv' := [(0, .ref (E.2.2.1 0)), (1, .int f), (2, .int w), (3, .int 0), (4, .ref (E.2.2.1 (11 + 2 * (tn f)))), (5, .int zs.1), (6, .int (zs.2.1 + 1)), (7, .int (zs.2.2.1 &&& (nI (2 ^ n - 1)))), (8, .int (zs.2.2.2 ||| (nI s))), (9, .int (nI (s + 1))), (10, .int (spv (V (tn f)) (M 7) n s))]) [5, 6, 7, 8, 9, 10, 3, 1, 2, 0, 4] rfl ?_
              refine gs_lv (lv' := [(0, .ref (E.2.2.1 0)), (1, .int f), (2, .int w), (3, .int 0), (4, .ref (E.2.2.1 (11 + 2 * (tn f)))), (5, .int zs.1), (6, .int (zs.2.1 + 1)), (7, .int (zs.2.2.1 &&& (nI (2 ^ n - 1)))), (8, .int (zs.2.2.2 ||| (nI s))), (9, .int (nI (s + 1)))]) [0, 1, 2, 3, 4, 5, 6, 7, 8, 9] rfl ?_
              exact hGs (zs.1, zs.2.1 + 1, zs.2.2.1 &&& (nI (2 ^ n - 1)), zs.2.2.2 ||| (nI s)) (by rw [if_neg (Int32.not_lt.mpr c5), if_pos c6, if_pos c7, hJs c7, and_self32])
        · refine gs_iconst (v := 0) k (by decide) dX6_based_123 ?_
          refine gs_istore (lv' := [(5, .int 0), (10, .int (spv (V (tn f)) (M 7) n s)), (0, .ref (E.2.2.1 0)), (1, .int f), (2, .int w), (3, .int 0), (4, .ref (E.2.2.1 (11 + 2 * (tn f)))), (6, .int zs.2.1), (7, .int zs.2.2.1), (8, .int zs.2.2.2), (9, .int (nI s))]) k (by decide) rfl dX6_based_124 ?_
          refine gs_iload (q := 1) k rfl dX6_based_126 ?_
          refine gs_if_ne (tgt := 163) k (by decide) dX6_based_128 (fun c8 => ?_) (fun c8 => ?_)
          · refine gs_iincN (q := 10) (a := s) (c := 1) (lv' := [(9, .int (nI (s + 1))), (5, .int 0), (10, .int (spv (V (tn f)) (M 7) n s)), (0, .ref (E.2.2.1 0)), (1, .int f), (2, .int w), (3, .int 0), (4, .ref (E.2.2.1 (11 + 2 * (tn f)))), (6, .int zs.2.1), (7, .int zs.2.2.1), (8, .int zs.2.2.2)]) k rfl rfl (by decide) rfl dX6_based_163 ?_
            refine gs_goto (tgt := 84) k (by decide) dX6_based_166 ?_
            refine gs_lv (lv' := [(0, .ref (E.2.2.1 0)), (1, .int f), (2, .int w), (3, .int 0), (4, .ref (E.2.2.1 (11 + 2 * (tn f)))), (5, .int 0), (6, .int zs.2.1), (7, .int zs.2.2.1), (8, .int zs.2.2.2), (9, .int (nI (s + 1))), (10, .int (spv (V (tn f)) (M 7) n s))]) [3, 4, 5, 6, 7, 1, 8, 9, 10, 0, 2] rfl ?_
            refine gs_lv (lv' := [(0, .ref (E.2.2.1 0)), (1, .int f), (2, .int w), (3, .int 0), (4, .ref (E.2.2.1 (11 + 2 * (tn f)))), (5, .int 0), (6, .int zs.2.1), (7, .int zs.2.2.1), (8, .int zs.2.2.2), (9, .int (nI (s + 1)))]) [0, 1, 2, 3, 4, 5, 6, 7, 8, 9] rfl ?_
            exact hGs (0, zs.2.1, zs.2.2.1, zs.2.2.2) (by rw [if_pos (Int32.not_le.mp c5), if_neg c8])
          · refine gs_iinc (q := 7) (v := zs.2.1 + 1) (lv' := [(6, .int (zs.2.1 + 1)), (5, .int 0), (10, .int (spv (V (tn f)) (M 7) n s)), (0, .ref (E.2.2.1 0)), (1, .int f), (2, .int w), (3, .int 0), (4, .ref (E.2.2.1 (11 + 2 * (tn f)))), (7, .int zs.2.2.1), (8, .int zs.2.2.2), (9, .int (nI s))]) k rfl rfl (by decide) rfl dX6_based_131 ?_
            refine gs_iload (q := 9) k rfl dX6_based_134 ?_
            refine gs_iload (q := 10) k rfl dX6_based_136 ?_
            refine gs_ior k dX6_based_138 ?_
            refine gs_istore (lv' := [(8, .int (zs.2.2.2 ||| (nI s))), (6, .int (zs.2.1 + 1)), (5, .int 0), (10, .int (spv (V (tn f)) (M 7) n s)), (0, .ref (E.2.2.1 0)), (1, .int f), (2, .int w), (3, .int 0), (4, .ref (E.2.2.1 (11 + 2 * (tn f)))), (7, .int zs.2.2.1), (9, .int (nI s))]) k (by decide) rfl dX6_based_139 ?_
            refine gs_iload (q := 9) k rfl dX6_based_141 ?_
            refine gs_iload (q := 10) k rfl dX6_based_143 ?_
            refine gs_ifN_ne (a := s) (tgt := 158) k rfl (by omega) (by decide) dX6_based_145 (fun c9 => ?_) (fun c9 => ?_)
            · refine gs_iload (q := 10) k rfl dX6_based_158 ?_
              refine gs_iand k dX6_based_160 ?_
              refine gs_istore (lv' := [(7, .int (zs.2.2.1 &&& (nI s))), (8, .int (zs.2.2.2 ||| (nI s))), (6, .int (zs.2.1 + 1)), (5, .int 0), (10, .int (spv (V (tn f)) (M 7) n s)), (0, .ref (E.2.2.1 0)), (1, .int f), (2, .int w), (3, .int 0), (4, .ref (E.2.2.1 (11 + 2 * (tn f)))), (9, .int (nI s))]) k (by decide) rfl dX6_based_161 ?_
              refine gs_iincN (q := 10) (a := s) (c := 1) (lv' := [(9, .int (nI (s + 1))), (7, .int (zs.2.2.1 &&& (nI s))), (8, .int (zs.2.2.2 ||| (nI s))), (6, .int (zs.2.1 + 1)), (5, .int 0), (10, .int (spv (V (tn f)) (M 7) n s)), (0, .ref (E.2.2.1 0)), (1, .int f), (2, .int w), (3, .int 0), (4, .ref (E.2.2.1 (11 + 2 * (tn f))))]) k rfl rfl (by decide) rfl dX6_based_163 ?_
              refine gs_goto (tgt := 84) k (by decide) dX6_based_166 ?_
              refine gs_lv (lv' := [(0, .ref (E.2.2.1 0)), (1, .int f), (2, .int w), (3, .int 0), (4, .ref (E.2.2.1 (11 + 2 * (tn f)))), (5, .int 0), (6, .int (zs.2.1 + 1)), (7, .int (zs.2.2.1 &&& (nI s))), (8, .int (zs.2.2.2 ||| (nI s))), (9, .int (nI (s + 1))), (10, .int (spv (V (tn f)) (M 7) n s))]) [6, 7, 8, 9, 10, 4, 3, 1, 2, 0, 5] rfl ?_
              refine gs_lv (lv' := [(0, .ref (E.2.2.1 0)), (1, .int f), (2, .int w), (3, .int 0), (4, .ref (E.2.2.1 (11 + 2 * (tn f)))), (5, .int 0), (6, .int (zs.2.1 + 1)), (7, .int (zs.2.2.1 &&& (nI s))), (8, .int (zs.2.2.2 ||| (nI s))), (9, .int (nI (s + 1)))]) [0, 1, 2, 3, 4, 5, 6, 7, 8, 9] rfl ?_
              exact hGs (0, zs.2.1 + 1, zs.2.2.1 &&& (nI s), zs.2.2.2 ||| (nI s)) (by rw [if_pos (Int32.not_le.mp c5), if_pos c8, if_neg (show ¬ s = 0 by omega)])
            · refine gs_aload_n (q := 4) k rfl rfl dX6_based_148 ?_
              refine gs_get (C := RX6) (T := TX6) (N := 10) (ci := 6) (k0 := 0) (j := 0) k (hI 0 (by omega)) rfl rfl inX6 (by decide) fl_X6_12 rfl rfl dX6_based_149 ?_
              refine gs_callV (As := []) (k0 := 1) (ci := 5) (T := TX5) (N := 9) k (c_X5_all hI hn) cf_X5_all im_X5_all sl_X5_all ml_X6_119 (hI 1 (by omega)) rfl rfl (by decide) rfl rfl (Nat.le_of_ble_eq_true rfl) dX6_based_152 (ppI ?_)
              refine gs_goto (tgt := 160) k (by decide) dX6_based_155 ?_
              refine gs_iand k dX6_based_160 ?_
              refine gs_istore (lv' := [(7, .int (zs.2.2.1 &&& (nI (2 ^ n - 1)))), (8, .int (zs.2.2.2 ||| (nI s))), (6, .int (zs.2.1 + 1)), (5, .int 0), (10, .int (spv (V (tn f)) (M 7) n s)), (0, .ref (E.2.2.1 0)), (1, .int f), (2, .int w), (3, .int 0), (4, .ref (E.2.2.1 (11 + 2 * (tn f)))), (9, .int (nI s))]) k (by decide) rfl dX6_based_161 ?_
              refine gs_iincN (q := 10) (a := s) (c := 1) (lv' := [(9, .int (nI (s + 1))), (7, .int (zs.2.2.1 &&& (nI (2 ^ n - 1)))), (8, .int (zs.2.2.2 ||| (nI s))), (6, .int (zs.2.1 + 1)), (5, .int 0), (10, .int (spv (V (tn f)) (M 7) n s)), (0, .ref (E.2.2.1 0)), (1, .int f), (2, .int w), (3, .int 0), (4, .ref (E.2.2.1 (11 + 2 * (tn f))))]) k rfl rfl (by decide) rfl dX6_based_163 ?_
              refine gs_goto (tgt := 84) k (by decide) dX6_based_166 ?_
              refine gs_lv (lv' := [(0, .ref (E.2.2.1 0)), (1, .int f), (2, .int w), (3, .int 0), (4, .ref (E.2.2.1 (11 + 2 * (tn f)))), (5, .int 0), (6, .int (zs.2.1 + 1)), (7, .int (zs.2.2.1 &&& (nI (2 ^ n - 1)))), (8, .int (zs.2.2.2 ||| (nI s))), (9, .int (nI (s + 1))), (10, .int (spv (V (tn f)) (M 7) n s))]) [6, 7, 8, 9, 10, 4, 3, 1, 2, 0, 5] rfl ?_
              refine gs_lv (lv' := [(0, .ref (E.2.2.1 0)), (1, .int f), (2, .int w), (3, .int 0), (4, .ref (E.2.2.1 (11 + 2 * (tn f)))), (5, .int 0), (6, .int (zs.2.1 + 1)), (7, .int (zs.2.2.1 &&& (nI (2 ^ n - 1)))), (8, .int (zs.2.2.2 ||| (nI s))), (9, .int (nI (s + 1)))]) [0, 1, 2, 3, 4, 5, 6, 7, 8, 9] rfl ?_
              exact hGs (0, zs.2.1 + 1, zs.2.2.1 &&& (nI (2 ^ n - 1)), zs.2.2.2 ||| (nI s)) (by rw [if_pos (Int32.not_le.mp c5), if_pos c8, if_pos c9, hJs c9, and_self32])
      · show G l E K 84 [(0, .ref (E.2.2.1 0)), (1, .int f), (2, .int w), (3, .int 0), (4, .ref (E.2.2.1 (11 + 2 * (tn f)))), (5, .int ((basC 0 (V (tn f)) (M 7) n).1)), (6, .int ((basC 0 (V (tn f)) (M 7) n).2.1)), (7, .int ((basC 0 (V (tn f)) (M 7) n).2.2.1)), (8, .int ((basC 0 (V (tn f)) (M 7) n).2.2.2)), (9, .int (nI (2 ^ n)))] [] M
        refine gs_iload (q := 9) k rfl dX6_based_84 ?_
        refine gs_aload_n (q := 0) k rfl rfl dX6_based_86 ?_
        refine gs_get (C := RX6) (T := TX6) (N := 10) (ci := 6) (k0 := 0) (j := 0) k (hI 0 (by omega)) rfl rfl inX6 (by decide) fl_X6_12 rfl rfl dX6_based_87 ?_
        refine gs_callV (As := []) (k0 := 1) (ci := 5) (T := TX5) (N := 9) k (c_X5_sets hI hn) cf_X5_sets im_X5_sets sl_X5_sets ml_X6_131 (hI 1 (by omega)) rfl rfl (by decide) rfl rfl (Nat.le_of_ble_eq_true rfl) dX6_based_90 (ppI ?_)
        refine gs_icmpN_ge (a := 2 ^ n) (b := 2 ^ n) (tgt := 169) k rfl rfl (by omega) (by omega) (by decide) dX6_based_93 (fun c4 => ?_) (fun c4 => absurd c4 (by omega))
        refine gs_iload_n (q := 2) k rfl rfl dX6_based_169 ?_
        rcases inR4 c1.1 with rfl | rfl | rfl | rfl
        · refine gs_tableIn (off := 26) (tgt := 196) k (by decide) (by decide) (by decide) (by decide) dX6_based_170 ?_
          refine gs_iload (q := 5) k rfl dX6_based_196 ?_
          refine gs_callS (As := [.int ((basC 0 (V (tn f)) (M 7) n).1)]) k c_X6_oneIf_x cf_X6_oneIf sm_X6_oneIf ml_X6_163 (by decide) rfl rfl (Nat.le_of_ble_eq_true rfl) dX6_based_198 (ppI ?_)
          exact gs_iret k kt dX6_based_201 ⟨(by simp [-Int32.not_lt, A_based, ifc_T, ifc_F, c1, c2, c3, i0_4, i1_4, i2_4, i3_4]), (by simp [-Int32.not_lt, A_based, ifc_T, ifc_F, c1, c2, c3, i0_4, i1_4, i2_4, i3_4])⟩
        · refine gs_tableIn (off := 32) (tgt := 202) k (by decide) (by decide) (by decide) (by decide) dX6_based_170 ?_
          refine gs_iload (q := 6) k rfl dX6_based_202 ?_
          exact gs_iret k kt dX6_based_204 ⟨(by simp [-Int32.not_lt, A_based, ifc_T, ifc_F, c1, c2, c3, i0_4, i1_4, i2_4, i3_4]), (by simp [-Int32.not_lt, A_based, ifc_T, ifc_F, c1, c2, c3, i0_4, i1_4, i2_4, i3_4])⟩
        · refine gs_tableIn (off := 35) (tgt := 205) k (by decide) (by decide) (by decide) (by decide) dX6_based_170 ?_
          refine gs_iload (q := 7) k rfl dX6_based_205 ?_
          exact gs_iret k kt dX6_based_207 ⟨(by simp [-Int32.not_lt, A_based, ifc_T, ifc_F, c1, c2, c3, i0_4, i1_4, i2_4, i3_4]), (by simp [-Int32.not_lt, A_based, ifc_T, ifc_F, c1, c2, c3, i0_4, i1_4, i2_4, i3_4])⟩
        · refine gs_tableOut (tgt := 208) k (by decide) (by decide) dX6_based_170 ?_
          refine gs_iload (q := 8) k rfl dX6_based_208 ?_
          exact gs_iret k kt dX6_based_210 ⟨(by simp [-Int32.not_lt, A_based, ifc_T, ifc_F, c1, c2, c3, i0_4, i1_4, i2_4, i3_4]), (by simp [-Int32.not_lt, A_based, ifc_T, ifc_F, c1, c2, c3, i0_4, i1_4, i2_4, i3_4])⟩
    · refine gs_iconst (v := 1) k (by decide) dX6_based_59 ?_
      refine gs_goto (tgt := 64) k (by decide) dX6_based_60 ?_
      refine gs_istore (lv' := [(5, .int 1), (4, .ref (E.2.2.1 (11 + 2 * (tn f)))), (3, .int 0), (0, .ref (E.2.2.1 0)), (1, .int f), (2, .int w)]) k (by decide) rfl dX6_based_64 ?_
      refine gs_iconst (v := 0) k (by decide) dX6_based_66 ?_
      refine gs_istore (lv' := [(6, .int 0), (5, .int 1), (4, .ref (E.2.2.1 (11 + 2 * (tn f)))), (3, .int 0), (0, .ref (E.2.2.1 0)), (1, .int f), (2, .int w)]) k (by decide) rfl dX6_based_67 ?_
      refine gs_aload_n (q := 4) k rfl rfl dX6_based_69 ?_
      refine gs_get (C := RX6) (T := TX6) (N := 10) (ci := 6) (k0 := 0) (j := 0) k (hI 0 (by omega)) rfl rfl inX6 (by decide) fl_X6_12 rfl rfl dX6_based_70 ?_
      refine gs_callV (As := []) (k0 := 1) (ci := 5) (T := TX5) (N := 9) k (c_X5_all hI hn) cf_X5_all im_X5_all sl_X5_all ml_X6_119 (hI 1 (by omega)) rfl rfl (by decide) rfl rfl (Nat.le_of_ble_eq_true rfl) dX6_based_73 (ppI ?_)
      refine gs_istore (lv' := [(7, .int (nI (2 ^ n - 1))), (6, .int 0), (5, .int 1), (4, .ref (E.2.2.1 (11 + 2 * (tn f)))), (3, .int 0), (0, .ref (E.2.2.1 0)), (1, .int f), (2, .int w)]) k (by decide) rfl dX6_based_76 ?_
      refine gs_iconst (v := 0) k (by decide) dX6_based_78 ?_
      refine gs_istore (lv' := [(8, .int 0), (7, .int (nI (2 ^ n - 1))), (6, .int 0), (5, .int 1), (4, .ref (E.2.2.1 (11 + 2 * (tn f)))), (3, .int 0), (0, .ref (E.2.2.1 0)), (1, .int f), (2, .int w)]) k (by decide) rfl dX6_based_79 ?_
      refine gs_iconst (v := 0) k (by decide) dX6_based_81 ?_
      refine gs_istore (lv' := [(9, .int 0), (8, .int 0), (7, .int (nI (2 ^ n - 1))), (6, .int 0), (5, .int 1), (4, .ref (E.2.2.1 (11 + 2 * (tn f)))), (3, .int 0), (0, .ref (E.2.2.1 0)), (1, .int f), (2, .int w)]) k (by decide) rfl dX6_based_82 ?_
      refine gs_lv (lv' := [(0, .ref (E.2.2.1 0)), (1, .int f), (2, .int w), (3, .int 0), (4, .ref (E.2.2.1 (11 + 2 * (tn f)))), (5, .int 1), (6, .int 0), (7, .int (nI (2 ^ n - 1))), (8, .int 0), (9, .int 0)]) [7, 8, 9, 6, 5, 4, 3, 2, 1, 0] rfl ?_
      refine for_upJ (σ := Int32 × Int32 × Int32 × Int32) (fun s zs => G l E K 84 [(0, .ref (E.2.2.1 0)), (1, .int f), (2, .int w), (3, .int 0), (4, .ref (E.2.2.1 (11 + 2 * (tn f)))), (5, .int zs.1), (6, .int zs.2.1), (7, .int zs.2.2.1), (8, .int zs.2.2.2), (9, .int (nI s))] [] M) (fun s zs => s = 0 → zs.2.2.1 = nI (2 ^ n - 1)) (fun s zs => (if spv (V (tn f)) (M 7) n s < 0 then 0 else zs.1, if spv (V (tn f)) (M 7) n s = 0 then (zs.2.1 + 1, (if s = 0 then zs.2.2.1 else zs.2.2.1 &&& nI s), zs.2.2.2 ||| nI s) else (zs.2.1, zs.2.2.1, zs.2.2.2))) (2 ^ n) (fun s z hs hJ q => absurd q (by omega)) (fun s zs hs hJs hGs => ?_) (2 ^ n) 0 (1, 0, nI (2 ^ n - 1), 0) (by omega) (fun _ => rfl) (fun hJs => ?_)
      · show G l E K 84 [(0, .ref (E.2.2.1 0)), (1, .int f), (2, .int w), (3, .int 0), (4, .ref (E.2.2.1 (11 + 2 * (tn f)))), (5, .int zs.1), (6, .int zs.2.1), (7, .int zs.2.2.1), (8, .int zs.2.2.2), (9, .int (nI s))] [] M
        refine gs_iload (q := 9) k rfl dX6_based_84 ?_
        refine gs_aload_n (q := 0) k rfl rfl dX6_based_86 ?_
        refine gs_get (C := RX6) (T := TX6) (N := 10) (ci := 6) (k0 := 0) (j := 0) k (hI 0 (by omega)) rfl rfl inX6 (by decide) fl_X6_12 rfl rfl dX6_based_87 ?_
        refine gs_callV (As := []) (k0 := 1) (ci := 5) (T := TX5) (N := 9) k (c_X5_sets hI hn) cf_X5_sets im_X5_sets sl_X5_sets ml_X6_131 (hI 1 (by omega)) rfl rfl (by decide) rfl rfl (Nat.le_of_ble_eq_true rfl) dX6_based_90 (ppI ?_)
        refine gs_icmpN_ge (a := s) (b := 2 ^ n) (tgt := 169) k rfl rfl (by omega) (by omega) (by decide) dX6_based_93 (fun c4 => absurd c4 (by omega)) (fun c4 => ?_)
        refine gs_aload (q := 4) k rfl dX6_based_96 ?_
        refine gs_iload (q := 9) k rfl dX6_based_98 ?_
        refine gs_ialdN (k0 := (11 + 2 * (tn f))) (n := 64) (e := s) k (hI (11 + 2 * (tn f)) (by omega)) (ent_V1 (by omega)) rfl (by omega) (by decide) dX6_based_100 ?_
        refine gs_top (y := V (tn f) s) ((hF (tn f) (by omega)).2.2 s (by omega)) ?_
        refine gs_aload (q := 4) k rfl dX6_based_101 ?_
        refine gs_iconst (v := 0) k (by decide) dX6_based_103 ?_
        refine gs_ialdN (k0 := (11 + 2 * (tn f))) (n := 64) (e := 0) k (hI (11 + 2 * (tn f)) (by omega)) (ent_V1 (by omega)) rfl (by omega) (by decide) dX6_based_104 ?_
        refine gs_top (y := V (tn f) 0) ((hF (tn f) (by omega)).2.2 0 (by omega)) ?_
        refine gs_isub k dX6_based_105 ?_
        refine gs_aload_n (q := 0) k rfl rfl dX6_based_106 ?_
        refine gs_get (C := RX6) (T := TX6) (N := 10) (ci := 6) (k0 := 0) (j := 0) k (hI 0 (by omega)) rfl rfl inX6 (by decide) fl_X6_12 rfl rfl dX6_based_107 ?_
        refine gs_iload (q := 9) k rfl dX6_based_110 ?_
        refine gs_callV (As := [.int (nI s)]) (k0 := 1) (ci := 5) (T := TX5) (N := 9) k (c_X5_totalWeight (S := s) hI hn rfl (by omega)) cf_X5_totalWeight im_X5_totalWeight sl_X5_totalWeight ml_X6_142 (hI 1 (by omega)) rfl rfl (by decide) rfl rfl (Nat.le_of_ble_eq_true rfl) dX6_based_112 (ppI ?_)
        refine gs_isub k dX6_based_115 ?_
        refine gs_top (y := spv (V (tn f)) (M 7) n s) rfl ?_
        refine gs_istore (lv' := [(10, .int (spv (V (tn f)) (M 7) n s)), (0, .ref (E.2.2.1 0)), (1, .int f), (2, .int w), (3, .int 0), (4, .ref (E.2.2.1 (11 + 2 * (tn f)))), (5, .int zs.1), (6, .int zs.2.1), (7, .int zs.2.2.1), (8, .int zs.2.2.2), (9, .int (nI s))]) k (by decide) rfl dX6_based_116 ?_
        refine gs_iload (q := 0) k rfl dX6_based_118 ?_
        refine gs_if_ge (tgt := 126) k (by decide) dX6_based_120 (fun c5 => ?_) (fun c5 => ?_)
        · refine gs_iload (q := 0) k rfl dX6_based_126 ?_
          refine gs_if_ne (tgt := 163) k (by decide) dX6_based_128 (fun c6 => ?_) (fun c6 => ?_)
          · refine gs_iincN (q := 10) (a := s) (c := 1) (lv' := [(9, .int (nI (s + 1))), (10, .int (spv (V (tn f)) (M 7) n s)), (0, .ref (E.2.2.1 0)), (1, .int f), (2, .int w), (3, .int 0), (4, .ref (E.2.2.1 (11 + 2 * (tn f)))), (5, .int zs.1), (6, .int zs.2.1), (7, .int zs.2.2.1), (8, .int zs.2.2.2)]) k rfl rfl (by decide) rfl dX6_based_163 ?_
            refine gs_goto (tgt := 84) k (by decide) dX6_based_166 ?_
            refine gs_lv (lv' := [(0, .ref (E.2.2.1 0)), (1, .int f), (2, .int w), (3, .int 0), (4, .ref (E.2.2.1 (11 + 2 * (tn f)))), (5, .int zs.1), (6, .int zs.2.1), (7, .int zs.2.2.1), (8, .int zs.2.2.2), (9, .int (nI (s + 1))), (10, .int (spv (V (tn f)) (M 7) n s))]) [2, 3, 4, 5, 6, 7, 8, 9, 10, 0, 1] rfl ?_
            refine gs_lv (lv' := [(0, .ref (E.2.2.1 0)), (1, .int f), (2, .int w), (3, .int 0), (4, .ref (E.2.2.1 (11 + 2 * (tn f)))), (5, .int zs.1), (6, .int zs.2.1), (7, .int zs.2.2.1), (8, .int zs.2.2.2), (9, .int (nI (s + 1)))]) [0, 1, 2, 3, 4, 5, 6, 7, 8, 9] rfl ?_
            exact hGs (zs.1, zs.2.1, zs.2.2.1, zs.2.2.2) (by rw [if_neg (Int32.not_lt.mpr c5), if_neg c6])
          · refine gs_iinc (q := 7) (v := zs.2.1 + 1) (lv' := [(6, .int (zs.2.1 + 1)), (10, .int (spv (V (tn f)) (M 7) n s)), (0, .ref (E.2.2.1 0)), (1, .int f), (2, .int w), (3, .int 0), (4, .ref (E.2.2.1 (11 + 2 * (tn f)))), (5, .int zs.1), (7, .int zs.2.2.1), (8, .int zs.2.2.2), (9, .int (nI s))]) k rfl rfl (by decide) rfl dX6_based_131 ?_
            refine gs_iload (q := 9) k rfl dX6_based_134 ?_
            refine gs_iload (q := 10) k rfl dX6_based_136 ?_
            refine gs_ior k dX6_based_138 ?_
            refine gs_istore (lv' := [(8, .int (zs.2.2.2 ||| (nI s))), (6, .int (zs.2.1 + 1)), (10, .int (spv (V (tn f)) (M 7) n s)), (0, .ref (E.2.2.1 0)), (1, .int f), (2, .int w), (3, .int 0), (4, .ref (E.2.2.1 (11 + 2 * (tn f)))), (5, .int zs.1), (7, .int zs.2.2.1), (9, .int (nI s))]) k (by decide) rfl dX6_based_139 ?_
            refine gs_iload (q := 9) k rfl dX6_based_141 ?_
            refine gs_iload (q := 10) k rfl dX6_based_143 ?_
            refine gs_ifN_ne (a := s) (tgt := 158) k rfl (by omega) (by decide) dX6_based_145 (fun c7 => ?_) (fun c7 => ?_)
            · refine gs_iload (q := 10) k rfl dX6_based_158 ?_
              refine gs_iand k dX6_based_160 ?_
              refine gs_istore (lv' := [(7, .int (zs.2.2.1 &&& (nI s))), (8, .int (zs.2.2.2 ||| (nI s))), (6, .int (zs.2.1 + 1)), (10, .int (spv (V (tn f)) (M 7) n s)), (0, .ref (E.2.2.1 0)), (1, .int f), (2, .int w), (3, .int 0), (4, .ref (E.2.2.1 (11 + 2 * (tn f)))), (5, .int zs.1), (9, .int (nI s))]) k (by decide) rfl dX6_based_161 ?_
              refine gs_iincN (q := 10) (a := s) (c := 1) (lv' := [(9, .int (nI (s + 1))), (7, .int (zs.2.2.1 &&& (nI s))), (8, .int (zs.2.2.2 ||| (nI s))), (6, .int (zs.2.1 + 1)), (10, .int (spv (V (tn f)) (M 7) n s)), (0, .ref (E.2.2.1 0)), (1, .int f), (2, .int w), (3, .int 0), (4, .ref (E.2.2.1 (11 + 2 * (tn f)))), (5, .int zs.1)]) k rfl rfl (by decide) rfl dX6_based_163 ?_
              refine gs_goto (tgt := 84) k (by decide) dX6_based_166 ?_
              refine gs_lv (lv' := [(0, .ref (E.2.2.1 0)), (1, .int f), (2, .int w), (3, .int 0), (4, .ref (E.2.2.1 (11 + 2 * (tn f)))), (5, .int zs.1), (6, .int (zs.2.1 + 1)), (7, .int (zs.2.2.1 &&& (nI s))), (8, .int (zs.2.2.2 ||| (nI s))), (9, .int (nI (s + 1))), (10, .int (spv (V (tn f)) (M 7) n s))]) [5, 6, 7, 8, 9, 10, 3, 1, 2, 0, 4] rfl ?_
              refine gs_lv (lv' := [(0, .ref (E.2.2.1 0)), (1, .int f), (2, .int w), (3, .int 0), (4, .ref (E.2.2.1 (11 + 2 * (tn f)))), (5, .int zs.1), (6, .int (zs.2.1 + 1)), (7, .int (zs.2.2.1 &&& (nI s))), (8, .int (zs.2.2.2 ||| (nI s))), (9, .int (nI (s + 1)))]) [0, 1, 2, 3, 4, 5, 6, 7, 8, 9] rfl ?_
              exact hGs (zs.1, zs.2.1 + 1, zs.2.2.1 &&& (nI s), zs.2.2.2 ||| (nI s)) (by rw [if_neg (Int32.not_lt.mpr c5), if_pos c6, if_neg (show ¬ s = 0 by omega)])
            · refine gs_aload_n (q := 3) k rfl rfl dX6_based_148 ?_
              refine gs_get (C := RX6) (T := TX6) (N := 10) (ci := 6) (k0 := 0) (j := 0) k (hI 0 (by omega)) rfl rfl inX6 (by decide) fl_X6_12 rfl rfl dX6_based_149 ?_
              refine gs_callV (As := []) (k0 := 1) (ci := 5) (T := TX5) (N := 9) k (c_X5_all hI hn) cf_X5_all im_X5_all sl_X5_all ml_X6_119 (hI 1 (by omega)) rfl rfl (by decide) rfl rfl (Nat.le_of_ble_eq_true rfl) dX6_based_152 (ppI ?_)
              refine gs_goto (tgt := 160) k (by decide) dX6_based_155 ?_
              refine gs_iand k dX6_based_160 ?_
              refine gs_istore (lv' := [(7, .int (zs.2.2.1 &&& (nI (2 ^ n - 1)))), (8, .int (zs.2.2.2 ||| (nI s))), (6, .int (zs.2.1 + 1)), (10, .int (spv (V (tn f)) (M 7) n s)), (0, .ref (E.2.2.1 0)), (1, .int f), (2, .int w), (3, .int 0), (4, .ref (E.2.2.1 (11 + 2 * (tn f)))), (5, .int zs.1), (9, .int (nI s))]) k (by decide) rfl dX6_based_161 ?_
              refine gs_iincN (q := 10) (a := s) (c := 1) (lv' := [(9, .int (nI (s + 1))), (7, .int (zs.2.2.1 &&& (nI (2 ^ n - 1)))), (8, .int (zs.2.2.2 ||| (nI s))), (6, .int (zs.2.1 + 1)), (10, .int (spv (V (tn f)) (M 7) n s)), (0, .ref (E.2.2.1 0)), (1, .int f), (2, .int w), (3, .int 0), (4, .ref (E.2.2.1 (11 + 2 * (tn f)))), (5, .int zs.1)]) k rfl rfl (by decide) rfl dX6_based_163 ?_
              refine gs_goto (tgt := 84) k (by decide) dX6_based_166 ?_
              refine gs_lv (lv' := [(0, .ref (E.2.2.1 0)), (1, .int f), (2, .int w), (3, .int 0), (4, .ref (E.2.2.1 (11 + 2 * (tn f)))), (5, .int zs.1), (6, .int (zs.2.1 + 1)), (7, .int (zs.2.2.1 &&& (nI (2 ^ n - 1)))), (8, .int (zs.2.2.2 ||| (nI s))), (9, .int (nI (s + 1))), (10, .int (spv (V (tn f)) (M 7) n s))]) [5, 6, 7, 8, 9, 10, 3, 1, 2, 0, 4] rfl ?_
              refine gs_lv (lv' := [(0, .ref (E.2.2.1 0)), (1, .int f), (2, .int w), (3, .int 0), (4, .ref (E.2.2.1 (11 + 2 * (tn f)))), (5, .int zs.1), (6, .int (zs.2.1 + 1)), (7, .int (zs.2.2.1 &&& (nI (2 ^ n - 1)))), (8, .int (zs.2.2.2 ||| (nI s))), (9, .int (nI (s + 1)))]) [0, 1, 2, 3, 4, 5, 6, 7, 8, 9] rfl ?_
              exact hGs (zs.1, zs.2.1 + 1, zs.2.2.1 &&& (nI (2 ^ n - 1)), zs.2.2.2 ||| (nI s)) (by rw [if_neg (Int32.not_lt.mpr c5), if_pos c6, if_pos c7, hJs c7, and_self32])
        · refine gs_iconst (v := 0) k (by decide) dX6_based_123 ?_
          refine gs_istore (lv' := [(5, .int 0), (10, .int (spv (V (tn f)) (M 7) n s)), (0, .ref (E.2.2.1 0)), (1, .int f), (2, .int w), (3, .int 0), (4, .ref (E.2.2.1 (11 + 2 * (tn f)))), (6, .int zs.2.1), (7, .int zs.2.2.1), (8, .int zs.2.2.2), (9, .int (nI s))]) k (by decide) rfl dX6_based_124 ?_
          refine gs_iload (q := 1) k rfl dX6_based_126 ?_
          refine gs_if_ne (tgt := 163) k (by decide) dX6_based_128 (fun c8 => ?_) (fun c8 => ?_)
          · refine gs_iincN (q := 10) (a := s) (c := 1) (lv' := [(9, .int (nI (s + 1))), (5, .int 0), (10, .int (spv (V (tn f)) (M 7) n s)), (0, .ref (E.2.2.1 0)), (1, .int f), (2, .int w), (3, .int 0), (4, .ref (E.2.2.1 (11 + 2 * (tn f)))), (6, .int zs.2.1), (7, .int zs.2.2.1), (8, .int zs.2.2.2)]) k rfl rfl (by decide) rfl dX6_based_163 ?_
            refine gs_goto (tgt := 84) k (by decide) dX6_based_166 ?_
            refine gs_lv (lv' := [(0, .ref (E.2.2.1 0)), (1, .int f), (2, .int w), (3, .int 0), (4, .ref (E.2.2.1 (11 + 2 * (tn f)))), (5, .int 0), (6, .int zs.2.1), (7, .int zs.2.2.1), (8, .int zs.2.2.2), (9, .int (nI (s + 1))), (10, .int (spv (V (tn f)) (M 7) n s))]) [3, 4, 5, 6, 7, 1, 8, 9, 10, 0, 2] rfl ?_
            refine gs_lv (lv' := [(0, .ref (E.2.2.1 0)), (1, .int f), (2, .int w), (3, .int 0), (4, .ref (E.2.2.1 (11 + 2 * (tn f)))), (5, .int 0), (6, .int zs.2.1), (7, .int zs.2.2.1), (8, .int zs.2.2.2), (9, .int (nI (s + 1)))]) [0, 1, 2, 3, 4, 5, 6, 7, 8, 9] rfl ?_
            exact hGs (0, zs.2.1, zs.2.2.1, zs.2.2.2) (by rw [if_pos (Int32.not_le.mp c5), if_neg c8])
          · refine gs_iinc (q := 7) (v := zs.2.1 + 1) (lv' := [(6, .int (zs.2.1 + 1)), (5, .int 0), (10, .int (spv (V (tn f)) (M 7) n s)), (0, .ref (E.2.2.1 0)), (1, .int f), (2, .int w), (3, .int 0), (4, .ref (E.2.2.1 (11 + 2 * (tn f)))), (7, .int zs.2.2.1), (8, .int zs.2.2.2), (9, .int (nI s))]) k rfl rfl (by decide) rfl dX6_based_131 ?_
            refine gs_iload (q := 9) k rfl dX6_based_134 ?_
            refine gs_iload (q := 10) k rfl dX6_based_136 ?_
            refine gs_ior k dX6_based_138 ?_
            refine gs_istore (lv' := [(8, .int (zs.2.2.2 ||| (nI s))), (6, .int (zs.2.1 + 1)), (5, .int 0), (10, .int (spv (V (tn f)) (M 7) n s)), (0, .ref (E.2.2.1 0)), (1, .int f), (2, .int w), (3, .int 0), (4, .ref (E.2.2.1 (11 + 2 * (tn f)))), (7, .int zs.2.2.1), (9, .int (nI s))]) k (by decide) rfl dX6_based_139 ?_
            refine gs_iload (q := 9) k rfl dX6_based_141 ?_
            refine gs_iload (q := 10) k rfl dX6_based_143 ?_
            refine gs_ifN_ne (a := s) (tgt := 158) k rfl (by omega) (by decide) dX6_based_145 (fun c9 => ?_) (fun c9 => ?_)
            · refine gs_iload (q := 10) k rfl dX6_based_158 ?_
              refine gs_iand k dX6_based_160 ?_
              refine gs_istore (lv' := [(7, .int (zs.2.2.1 &&& (nI s))), (8, .int (zs.2.2.2 ||| (nI s))), (6, .int (zs.2.1 + 1)), (5, .int 0), (10, .int (spv (V (tn f)) (M 7) n s)), (0, .ref (E.2.2.1 0)), (1, .int f), (2, .int w), (3, .int 0), (4, .ref (E.2.2.1 (11 + 2 * (tn f)))), (9, .int (nI s))]) k (by decide) rfl dX6_based_161 ?_
              refine gs_iincN (q := 10) (a := s) (c := 1) (lv' := [(9, .int (nI (s + 1))), (7, .int (zs.2.2.1 &&& (nI s))), (8, .int (zs.2.2.2 ||| (nI s))), (6, .int (zs.2.1 + 1)), (5, .int 0), (10, .int (spv (V (tn f)) (M 7) n s)), (0, .ref (E.2.2.1 0)), (1, .int f), (2, .int w), (3, .int 0), (4, .ref (E.2.2.1 (11 + 2 * (tn f))))]) k rfl rfl (by decide) rfl dX6_based_163 ?_
              refine gs_goto (tgt := 84) k (by decide) dX6_based_166 ?_
              refine gs_lv (lv' := [(0, .ref (E.2.2.1 0)), (1, .int f), (2, .int w), (3, .int 0), (4, .ref (E.2.2.1 (11 + 2 * (tn f)))), (5, .int 0), (6, .int (zs.2.1 + 1)), (7, .int (zs.2.2.1 &&& (nI s))), (8, .int (zs.2.2.2 ||| (nI s))), (9, .int (nI (s + 1))), (10, .int (spv (V (tn f)) (M 7) n s))]) [6, 7, 8, 9, 10, 4, 3, 1, 2, 0, 5] rfl ?_
              refine gs_lv (lv' := [(0, .ref (E.2.2.1 0)), (1, .int f), (2, .int w), (3, .int 0), (4, .ref (E.2.2.1 (11 + 2 * (tn f)))), (5, .int 0), (6, .int (zs.2.1 + 1)), (7, .int (zs.2.2.1 &&& (nI s))), (8, .int (zs.2.2.2 ||| (nI s))), (9, .int (nI (s + 1)))]) [0, 1, 2, 3, 4, 5, 6, 7, 8, 9] rfl ?_
              exact hGs (0, zs.2.1 + 1, zs.2.2.1 &&& (nI s), zs.2.2.2 ||| (nI s)) (by rw [if_pos (Int32.not_le.mp c5), if_pos c8, if_neg (show ¬ s = 0 by omega)])
            · refine gs_aload_n (q := 4) k rfl rfl dX6_based_148 ?_
              refine gs_get (C := RX6) (T := TX6) (N := 10) (ci := 6) (k0 := 0) (j := 0) k (hI 0 (by omega)) rfl rfl inX6 (by decide) fl_X6_12 rfl rfl dX6_based_149 ?_
              refine gs_callV (As := []) (k0 := 1) (ci := 5) (T := TX5) (N := 9) k (c_X5_all hI hn) cf_X5_all im_X5_all sl_X5_all ml_X6_119 (hI 1 (by omega)) rfl rfl (by decide) rfl rfl (Nat.le_of_ble_eq_true rfl) dX6_based_152 (ppI ?_)
              refine gs_goto (tgt := 160) k (by decide) dX6_based_155 ?_
              refine gs_iand k dX6_based_160 ?_
              refine gs_istore (lv' := [(7, .int (zs.2.2.1 &&& (nI (2 ^ n - 1)))), (8, .int (zs.2.2.2 ||| (nI s))), (6, .int (zs.2.1 + 1)), (5, .int 0), (10, .int (spv (V (tn f)) (M 7) n s)), (0, .ref (E.2.2.1 0)), (1, .int f), (2, .int w), (3, .int 0), (4, .ref (E.2.2.1 (11 + 2 * (tn f)))), (9, .int (nI s))]) k (by decide) rfl dX6_based_161 ?_
              refine gs_iincN (q := 10) (a := s) (c := 1) (lv' := [(9, .int (nI (s + 1))), (7, .int (zs.2.2.1 &&& (nI (2 ^ n - 1)))), (8, .int (zs.2.2.2 ||| (nI s))), (6, .int (zs.2.1 + 1)), (5, .int 0), (10, .int (spv (V (tn f)) (M 7) n s)), (0, .ref (E.2.2.1 0)), (1, .int f), (2, .int w), (3, .int 0), (4, .ref (E.2.2.1 (11 + 2 * (tn f))))]) k rfl rfl (by decide) rfl dX6_based_163 ?_
              refine gs_goto (tgt := 84) k (by decide) dX6_based_166 ?_
              refine gs_lv (lv' := [(0, .ref (E.2.2.1 0)), (1, .int f), (2, .int w), (3, .int 0), (4, .ref (E.2.2.1 (11 + 2 * (tn f)))), (5, .int 0), (6, .int (zs.2.1 + 1)), (7, .int (zs.2.2.1 &&& (nI (2 ^ n - 1)))), (8, .int (zs.2.2.2 ||| (nI s))), (9, .int (nI (s + 1))), (10, .int (spv (V (tn f)) (M 7) n s))]) [6, 7, 8, 9, 10, 4, 3, 1, 2, 0, 5] rfl ?_
              refine gs_lv (lv' := [(0, .ref (E.2.2.1 0)), (1, .int f), (2, .int w), (3, .int 0), (4, .ref (E.2.2.1 (11 + 2 * (tn f)))), (5, .int 0), (6, .int (zs.2.1 + 1)), (7, .int (zs.2.2.1 &&& (nI (2 ^ n - 1)))), (8, .int (zs.2.2.2 ||| (nI s))), (9, .int (nI (s + 1)))]) [0, 1, 2, 3, 4, 5, 6, 7, 8, 9] rfl ?_
              exact hGs (0, zs.2.1 + 1, zs.2.2.1 &&& (nI (2 ^ n - 1)), zs.2.2.2 ||| (nI s)) (by rw [if_pos (Int32.not_le.mp c5), if_pos c8, if_pos c9, hJs c9, and_self32])
      · show G l E K 84 [(0, .ref (E.2.2.1 0)), (1, .int f), (2, .int w), (3, .int 0), (4, .ref (E.2.2.1 (11 + 2 * (tn f)))), (5, .int ((basC 1 (V (tn f)) (M 7) n).1)), (6, .int ((basC 1 (V (tn f)) (M 7) n).2.1)), (7, .int ((basC 1 (V (tn f)) (M 7) n).2.2.1)), (8, .int ((basC 1 (V (tn f)) (M 7) n).2.2.2)), (9, .int (nI (2 ^ n)))] [] M
        refine gs_iload (q := 9) k rfl dX6_based_84 ?_
        refine gs_aload_n (q := 0) k rfl rfl dX6_based_86 ?_
        refine gs_get (C := RX6) (T := TX6) (N := 10) (ci := 6) (k0 := 0) (j := 0) k (hI 0 (by omega)) rfl rfl inX6 (by decide) fl_X6_12 rfl rfl dX6_based_87 ?_
        refine gs_callV (As := []) (k0 := 1) (ci := 5) (T := TX5) (N := 9) k (c_X5_sets hI hn) cf_X5_sets im_X5_sets sl_X5_sets ml_X6_131 (hI 1 (by omega)) rfl rfl (by decide) rfl rfl (Nat.le_of_ble_eq_true rfl) dX6_based_90 (ppI ?_)
        refine gs_icmpN_ge (a := 2 ^ n) (b := 2 ^ n) (tgt := 169) k rfl rfl (by omega) (by omega) (by decide) dX6_based_93 (fun c4 => ?_) (fun c4 => absurd c4 (by omega))
        refine gs_iload_n (q := 2) k rfl rfl dX6_based_169 ?_
        rcases inR4 c1.1 with rfl | rfl | rfl | rfl
        · refine gs_tableIn (off := 26) (tgt := 196) k (by decide) (by decide) (by decide) (by decide) dX6_based_170 ?_
          refine gs_iload (q := 5) k rfl dX6_based_196 ?_
          refine gs_callS (As := [.int ((basC 1 (V (tn f)) (M 7) n).1)]) k c_X6_oneIf_x cf_X6_oneIf sm_X6_oneIf ml_X6_163 (by decide) rfl rfl (Nat.le_of_ble_eq_true rfl) dX6_based_198 (ppI ?_)
          exact gs_iret k kt dX6_based_201 ⟨(by simp [-Int32.not_lt, A_based, ifc_T, ifc_F, c1, c2, c3, i0_4, i1_4, i2_4, i3_4]), (by simp [-Int32.not_lt, A_based, ifc_T, ifc_F, c1, c2, c3, i0_4, i1_4, i2_4, i3_4])⟩
        · refine gs_tableIn (off := 32) (tgt := 202) k (by decide) (by decide) (by decide) (by decide) dX6_based_170 ?_
          refine gs_iload (q := 6) k rfl dX6_based_202 ?_
          exact gs_iret k kt dX6_based_204 ⟨(by simp [-Int32.not_lt, A_based, ifc_T, ifc_F, c1, c2, c3, i0_4, i1_4, i2_4, i3_4]), (by simp [-Int32.not_lt, A_based, ifc_T, ifc_F, c1, c2, c3, i0_4, i1_4, i2_4, i3_4])⟩
        · refine gs_tableIn (off := 35) (tgt := 205) k (by decide) (by decide) (by decide) (by decide) dX6_based_170 ?_
          refine gs_iload (q := 7) k rfl dX6_based_205 ?_
          exact gs_iret k kt dX6_based_207 ⟨(by simp [-Int32.not_lt, A_based, ifc_T, ifc_F, c1, c2, c3, i0_4, i1_4, i2_4, i3_4]), (by simp [-Int32.not_lt, A_based, ifc_T, ifc_F, c1, c2, c3, i0_4, i1_4, i2_4, i3_4])⟩
        · refine gs_tableOut (tgt := 208) k (by decide) (by decide) dX6_based_170 ?_
          refine gs_iload (q := 8) k rfl dX6_based_208 ?_
          exact gs_iret k kt dX6_based_210 ⟨(by simp [-Int32.not_lt, A_based, ifc_T, ifc_F, c1, c2, c3, i0_4, i1_4, i2_4, i3_4]), (by simp [-Int32.not_lt, A_based, ifc_T, ifc_F, c1, c2, c3, i0_4, i1_4, i2_4, i3_4])⟩

theorem cf_X7_spare : CF yX7_spare cX7_spare 3 (some .int) 2 := ⟨cd_X7_spare, iz_X7, by decide, by decide +kernel, by decide +kernel, by decide +kernel⟩
set_option maxRecDepth 100000 in
set_option maxHeartbeats 4000000 in
theorem c_X7_spare {l : Launch} {E : Ev} {M : Mm} {n : Nat} {kd : Nat → Int32} {V : Nat → Nat → Int32} (hI : ∀ k, k < 108 → k ∈ E.2.1) (hn : Rn M n) (hF : RFn M n kd V) {z : Int32} {f : Nat} (hz : z = nI f) (hf : f < 6) (ht : ¬ kd f < 0) {a : Int32} {S : Nat} (ha : a = nI S) (hS : S < 2 ^ n) : Cm l E yX7_spare cX7_spare 3 (some .int) 2 [.ref (E.2.2.1 65), .int z, .int a] M (pI (spv (V f) (M 71) n S) M) := by
  refine Cm.of (by decide) (Nat.le_of_ble_eq_true rfl) (fun K k kt => ?_)
  show G l E K 0 [(0, .ref (E.2.2.1 65)), (1, .int z), (2, .int a)] [] M
  obtain ⟨hn0, hn1, hn6⟩ := id hn
  have hp := p2_le6 hn6
  have hp2 := p2_ge2 hn1
  refine gs_aload_n (q := 0) k rfl rfl dX7_spare_0 ?_
  refine gs_get (C := RX7) (T := TX7) (N := 27) (ci := 7) (k0 := 65) (j := 8) k (hI 65 (by omega)) rfl rfl inX7 (by decide) fl_X7_39 rfl rfl dX7_spare_1 ?_
  refine gs_iload_n (q := 1) k rfl rfl dX7_spare_4 ?_
  refine gs_aaldIN (k0 := 73) (n := 6) (e := f) (a := E.2.2.1 (74 + f)) k (hI 73 (by omega)) (fun _ => rfl) hz (by omega) (by decide) rfl dX7_spare_5 ?_
  refine gs_iload_n (q := 2) k rfl rfl dX7_spare_6 ?_
  refine gs_ialdN (k0 := (74 + f)) (n := 64) (e := S) k (hI (74 + f) (by omega)) (ent_RV (by omega)) ha (by omega) (by decide) dX7_spare_7 ?_
  refine gs_top (y := V f S) ((hF f hf).2.2 ht S (by omega)) ?_
  refine gs_aload_n (q := 0) k rfl rfl dX7_spare_8 ?_
  refine gs_get (C := RX7) (T := TX7) (N := 27) (ci := 7) (k0 := 65) (j := 8) k (hI 65 (by omega)) rfl rfl inX7 (by decide) fl_X7_39 rfl rfl dX7_spare_9 ?_
  refine gs_iload_n (q := 1) k rfl rfl dX7_spare_12 ?_
  refine gs_aaldIN (k0 := 73) (n := 6) (e := f) (a := E.2.2.1 (74 + f)) k (hI 73 (by omega)) (fun _ => rfl) hz (by omega) (by decide) rfl dX7_spare_13 ?_
  refine gs_iconst (v := 0) k (by decide) dX7_spare_14 ?_
  refine gs_ialdN (k0 := (74 + f)) (n := 64) (e := 0) k (hI (74 + f) (by omega)) (ent_RV (by omega)) rfl (by omega) (by decide) dX7_spare_15 ?_
  refine gs_top (y := V f 0) ((hF f hf).2.2 ht 0 (by omega)) ?_
  refine gs_isub k dX7_spare_16 ?_
  refine gs_aload_n (q := 0) k rfl rfl dX7_spare_17 ?_
  refine gs_iload_n (q := 2) k rfl rfl dX7_spare_18 ?_
  refine gs_callV (As := [.int a]) (k0 := 65) (ci := 7) (T := TX7) (N := 27) k (c_X7_weightOf (S := S) hI hn ha (by omega)) cf_X7_weightOf im_X7_weightOf sl_X7_weightOf ml_X7_156 (hI 65 (by omega)) rfl rfl (by decide) rfl rfl (Nat.le_of_ble_eq_true rfl) dX7_spare_19 (ppI ?_)
  refine gs_isub k dX7_spare_22 ?_
  exact gs_iret k kt dX7_spare_23 ⟨rfl, rfl⟩

theorem cf_X7_isBase : CF yX7_isBase cX7_isBase 3 (some .boolean) 1 := ⟨cd_X7_isBase, iz_X7, by decide, by decide +kernel, by decide +kernel, by decide +kernel⟩
set_option maxRecDepth 100000 in
set_option maxHeartbeats 4000000 in
theorem c_X7_isBase {l : Launch} {E : Ev} {M : Mm} {n : Nat} {kd : Nat → Int32} {V : Nat → Nat → Int32} (hI : ∀ k, k < 108 → k ∈ E.2.1) (hn : Rn M n) (hF : RFn M n kd V) {z : Int32} {f : Nat} (hz : z = nI f) (hf : f < 6) (ht : ¬ kd f < 0) : Cm l E yX7_isBase cX7_isBase 3 (some .boolean) 3 [.ref (E.2.2.1 65), .int z] M (pB (isBs (V f) (M 71) n) M) := by
  refine Cm.of (by decide) (Nat.le_of_ble_eq_true rfl) (fun K k kt => ?_)
  show G l E K 0 [(0, .ref (E.2.2.1 65)), (1, .int z)] [] M
  obtain ⟨hn0, hn1, hn6⟩ := id hn
  have hp := p2_le6 hn6
  have hp2 := p2_ge2 hn1
  refine gs_iconst (v := 0) k (by decide) dX7_isBase_0 ?_
  refine gs_istore_n (lv' := [(2, .int 0), (0, .ref (E.2.2.1 65)), (1, .int z)]) k rfl (by decide) rfl dX7_isBase_1 ?_
  refine gs_lv (lv' := [(0, .ref (E.2.2.1 65)), (1, .int z), (2, .int 0)]) [1, 2, 0] rfl ?_
  refine for_al (fun s => G l E K 2 [(0, .ref (E.2.2.1 65)), (1, .int z), (2, .int (nI s))] [] M) (fun s => ¬ spv (V f) (M 71) n s < 0) (2 ^ n) 0 (fun s hss hs hBs hGs => ?_) (fun hEs => ?_) (2 ^ n) 0 (by omega) (Nat.le_refl _) (fun j h1 h2 => absurd h2 (by omega))
  · show G l E K 2 [(0, .ref (E.2.2.1 65)), (1, .int z), (2, .int (nI s))] [] M
    refine gs_iload_n (q := 2) k rfl rfl dX7_isBase_2 ?_
    refine gs_aload_n (q := 0) k rfl rfl dX7_isBase_3 ?_
    refine gs_callV (As := []) (k0 := 65) (ci := 7) (T := TX7) (N := 27) k (c_X7_sets hI hn) cf_X7_sets im_X7_sets sl_X7_sets ml_X7_83 (hI 65 (by omega)) rfl rfl (by decide) rfl rfl (Nat.le_of_ble_eq_true rfl) dX7_isBase_4 (ppI ?_)
    refine gs_icmpN_ge (a := s) (b := 2 ^ n) (tgt := 27) k rfl rfl (by omega) (by omega) (by decide) dX7_isBase_7 (fun c1 => absurd c1 (by omega)) (fun c1 => ?_)
    refine gs_aload_n (q := 0) k rfl rfl dX7_isBase_10 ?_
    refine gs_iload_n (q := 1) k rfl rfl dX7_isBase_11 ?_
    refine gs_iload_n (q := 2) k rfl rfl dX7_isBase_12 ?_
    refine gs_callV (As := [.int z, .int (nI s)]) (k0 := 65) (ci := 7) (T := TX7) (N := 27) k (c_X7_spare (f := f) (S := s) hI hn hF hz (by omega) (by assumption) rfl (by omega)) cf_X7_spare im_X7_spare sl_X7_spare ml_X7_215 (hI 65 (by omega)) rfl rfl (by decide) rfl rfl (Nat.le_of_ble_eq_true rfl) dX7_isBase_13 (ppI ?_)
    refine gs_if_ge (tgt := 21) k (by decide) dX7_isBase_16 (fun c2 => ?_) (fun c2 => ?_)
    · refine gs_iincN (q := 2) (a := s) (c := 1) (lv' := [(2, .int (nI (s + 1))), (0, .ref (E.2.2.1 65)), (1, .int z)]) k rfl rfl (by decide) rfl dX7_isBase_21 ?_
      refine gs_goto (tgt := 2) k (by decide) dX7_isBase_24 ?_
      refine gs_lv (lv' := [(0, .ref (E.2.2.1 65)), (1, .int z), (2, .int (nI (s + 1)))]) [1, 2, 0] rfl ?_
      exact hGs (Int32.not_lt.mpr c2)
    · refine gs_iconst (v := 0) k (by decide) dX7_isBase_19 ?_
      exact gs_zret k kt (by decide) dX7_isBase_20 (pB0 (fun q => q.1 s hs (Int32.not_le.mp c2)))
  · show G l E K 2 [(0, .ref (E.2.2.1 65)), (1, .int z), (2, .int (nI (2 ^ n)))] [] M
    refine gs_iload_n (q := 2) k rfl rfl dX7_isBase_2 ?_
    refine gs_aload_n (q := 0) k rfl rfl dX7_isBase_3 ?_
    refine gs_callV (As := []) (k0 := 65) (ci := 7) (T := TX7) (N := 27) k (c_X7_sets hI hn) cf_X7_sets im_X7_sets sl_X7_sets ml_X7_83 (hI 65 (by omega)) rfl rfl (by decide) rfl rfl (Nat.le_of_ble_eq_true rfl) dX7_isBase_4 (ppI ?_)
    refine gs_icmpN_ge (a := 2 ^ n) (b := 2 ^ n) (tgt := 27) k rfl rfl (by omega) (by omega) (by decide) dX7_isBase_7 (fun c1 => ?_) (fun c1 => absurd c1 (by omega))
    refine gs_aload_n (q := 0) k rfl rfl dX7_isBase_27 ?_
    refine gs_iload_n (q := 1) k rfl rfl dX7_isBase_28 ?_
    refine gs_aload_n (q := 0) k rfl rfl dX7_isBase_29 ?_
    refine gs_callV (As := []) (k0 := 65) (ci := 7) (T := TX7) (N := 27) k (c_X7_all hI hn) cf_X7_all im_X7_all sl_X7_all ml_X7_87 (hI 65 (by omega)) rfl rfl (by decide) rfl rfl (Nat.le_of_ble_eq_true rfl) dX7_isBase_30 (ppI ?_)
    refine gs_callV (As := [.int z, .int (nI (2 ^ n - 1))]) (k0 := 65) (ci := 7) (T := TX7) (N := 27) k (c_X7_spare (f := f) (S := 2 ^ n - 1) hI hn hF hz (by omega) (by assumption) rfl (by omega)) cf_X7_spare im_X7_spare sl_X7_spare ml_X7_215 (hI 65 (by omega)) rfl rfl (by decide) rfl rfl (Nat.le_of_ble_eq_true rfl) dX7_isBase_33 (ppI ?_)
    refine gs_if_ne (tgt := 43) k (by decide) dX7_isBase_36 (fun c2 => ?_) (fun c2 => ?_)
    · refine gs_iconst (v := 0) k (by decide) dX7_isBase_43 ?_
      exact gs_zret k kt (by decide) dX7_isBase_44 (pB0 (fun q => c2 q.2))
    · refine gs_iconst (v := 1) k (by decide) dX7_isBase_39 ?_
      refine gs_goto (tgt := 44) k (by decide) dX7_isBase_40 ?_
      exact gs_zret k kt (by decide) dX7_isBase_44 (pB1 ⟨fun s hs => hEs s (Nat.zero_le _) hs, c2⟩)

theorem cf_X7_based : CF yX7_based cX7_based 7 (some .int) 2 := ⟨cd_X7_based, iz_X7, by decide, by decide +kernel, by decide +kernel, by decide +kernel⟩
set_option maxRecDepth 100000 in
set_option maxHeartbeats 4000000 in
theorem c_X7_based {l : Launch} {E : Ev} {M : Mm} {n : Nat} {kd : Nat → Int32} {V : Nat → Nat → Int32} (hI : ∀ k, k < 108 → k ∈ E.2.1) (hn : Rn M n) (hF : RFn M n kd V) {f w : Int32} : Cm l E yX7_based cX7_based 7 (some .int) 4 [.ref (E.2.2.1 65), .int f, .int w] M (pI (A_based (b2i (isBs (V (tn f)) (M 71) n)) (basR (V (tn f)) (M 71) n).1 (basR (V (tn f)) (M 71) n).2.1 (basR (V (tn f)) (M 71) n).2.2 n kd f w) M) := by
  refine Cm.of (by decide) (Nat.le_of_ble_eq_true rfl) (fun K k kt => ?_)
  show G l E K 0 [(0, .ref (E.2.2.1 65)), (1, .int f), (2, .int w)] [] M
  obtain ⟨hn0, hn1, hn6⟩ := id hn
  have hp := p2_le6 hn6
  have hp2 := p2_ge2 hn1
  refine gs_iload_n (q := 1) k rfl rfl dX7_based_0 ?_
  refine gs_callS (As := [.int f]) k c_X7_isFunction cf_X7_isFunction sm_X7_isFunction ml_X7_128 (by decide) rfl rfl (Nat.le_of_ble_eq_true rfl) dX7_based_1 (ppB (fun c1 => ?_) (fun c1 => ?_))
  · have bc1 := inR_lt c1
    refine gs_if_eq (tgt := 19) k (by decide) dX7_based_4 (fun h => absurd h (by decide)) (fun _ => ?_)
    refine gs_iload_n (q := 2) k rfl rfl dX7_based_7 ?_
    refine gs_i2l k dX7_based_8 ?_
    refine gs_lconst (v := 0) k (by decide) dX7_based_9 ?_
    refine gs_ldc2 (v := 3) k cl_X7_218 dX7_based_10 ?_
    refine gs_callS (As := [.long (w.toInt64), .long (0), .long (3)]) k (Cm.iff (inL (n := 4) (by decide) (by decide)) c_X7_in) cf_X7_in sm_X7_in ml_X7_79 (by decide) rfl rfl (Nat.le_of_ble_eq_true rfl) dX7_based_13 (ppB (fun c2 => ?_) (fun c2 => ?_))
    · have bc2 := inR_lt c2
      refine gs_if_ne (tgt := 21) k (by decide) dX7_based_16 (fun _ => ?_) (fun h => absurd h (by decide))
      refine gs_aload_n (q := 0) k rfl rfl dX7_based_21 ?_
      refine gs_iload_n (q := 1) k rfl rfl dX7_based_22 ?_
      refine gs_callV (As := [.int f]) (k0 := 65) (ci := 7) (T := TX7) (N := 27) k (c_X7_isThere hI hF) cf_X7_isThere im_X7_isThere sl_X7_isThere ml_X7_163 (hI 65 (by omega)) rfl rfl (by decide) rfl rfl (Nat.le_of_ble_eq_true rfl) dX7_based_23 (ppB (fun c3 => ?_) (fun c3 => ?_))
      · have bc3 := inR_lt c3.1
        have tc3 := c3.2
        refine gs_if_ne (tgt := 32) k (by decide) dX7_based_26 (fun _ => ?_) (fun h => absurd h (by decide))
        refine gs_iload_n (q := 2) k rfl rfl dX7_based_32 ?_
        refine gs_if_ne (tgt := 45) k (by decide) dX7_based_33 (fun c4 => ?_) (fun c4 => ?_)
        · refine gs_iconst (v := 0) k (by decide) dX7_based_45 ?_
          refine gs_istore_n (lv' := [(3, .int 0), (0, .ref (E.2.2.1 65)), (1, .int f), (2, .int w)]) k rfl (by decide) rfl dX7_based_46 ?_
          refine gs_aload_n (q := 1) k rfl rfl dX7_based_47 ?_
          refine gs_callV (As := []) (k0 := 65) (ci := 7) (T := TX7) (N := 27) k (c_X7_all hI hn) cf_X7_all im_X7_all sl_X7_all ml_X7_87 (hI 65 (by omega)) rfl rfl (by decide) rfl rfl (Nat.le_of_ble_eq_true rfl) dX7_based_48 (ppI ?_)
          refine gs_istore (lv' := [(4, .int (nI (2 ^ n - 1))), (3, .int 0), (0, .ref (E.2.2.1 65)), (1, .int f), (2, .int w)]) k (by decide) rfl dX7_based_51 ?_
          refine gs_iconst (v := 0) k (by decide) dX7_based_53 ?_
          refine gs_istore (lv' := [(5, .int 0), (4, .int (nI (2 ^ n - 1))), (3, .int 0), (0, .ref (E.2.2.1 65)), (1, .int f), (2, .int w)]) k (by decide) rfl dX7_based_54 ?_
          refine gs_iconst (v := 0) k (by decide) dX7_based_56 ?_
          refine gs_istore (lv' := [(6, .int 0), (5, .int 0), (4, .int (nI (2 ^ n - 1))), (3, .int 0), (0, .ref (E.2.2.1 65)), (1, .int f), (2, .int w)]) k (by decide) rfl dX7_based_57 ?_
          refine gs_lv (lv' := [(0, .ref (E.2.2.1 65)), (1, .int f), (2, .int w), (3, .int 0), (4, .int (nI (2 ^ n - 1))), (5, .int 0), (6, .int 0)]) [4, 5, 6, 3, 2, 1, 0] rfl ?_
          refine for_up (σ := Int32 × Int32 × Int32) (fun s zs => G l E K 59 [(0, .ref (E.2.2.1 65)), (1, .int f), (2, .int w), (3, .int zs.1), (4, .int zs.2.1), (5, .int zs.2.2), (6, .int (nI s))] [] M) (fun s zs => if spv (V (tn f)) (M 71) n s = 0 then (zs.1 + 1, (if s = 0 then zs.2.1 else zs.2.1 &&& nI s), zs.2.2 ||| nI s) else (zs.1, zs.2.1, zs.2.2)) (2 ^ n) (fun s zs hs hGs => ?_) (2 ^ n) 0 (0, nI (2 ^ n - 1), 0) (by omega) ?_
          · show G l E K 59 [(0, .ref (E.2.2.1 65)), (1, .int f), (2, .int w), (3, .int zs.1), (4, .int zs.2.1), (5, .int zs.2.2), (6, .int (nI s))] [] M
            refine gs_iload (q := 6) k rfl dX7_based_59 ?_
            refine gs_aload_n (q := 0) k rfl rfl dX7_based_61 ?_
            refine gs_callV (As := []) (k0 := 65) (ci := 7) (T := TX7) (N := 27) k (c_X7_sets hI hn) cf_X7_sets im_X7_sets sl_X7_sets ml_X7_83 (hI 65 (by omega)) rfl rfl (by decide) rfl rfl (Nat.le_of_ble_eq_true rfl) dX7_based_62 (ppI ?_)
            refine gs_icmpN_ge (a := s) (b := 2 ^ n) (tgt := 114) k rfl rfl (by omega) (by omega) (by decide) dX7_based_65 (fun c5 => absurd c5 (by omega)) (fun c5 => ?_)
            refine gs_aload_n (q := 0) k rfl rfl dX7_based_68 ?_
            refine gs_iload_n (q := 1) k rfl rfl dX7_based_69 ?_
            refine gs_iload (q := 6) k rfl dX7_based_70 ?_
            refine gs_callV (As := [.int f, .int (nI s)]) (k0 := 65) (ci := 7) (T := TX7) (N := 27) k (c_X7_spare (f := tn f) (S := s) hI hn hF (inR_eq c1) (by omega) (by assumption) rfl (by omega)) cf_X7_spare im_X7_spare sl_X7_spare ml_X7_215 (hI 65 (by omega)) rfl rfl (by decide) rfl rfl (Nat.le_of_ble_eq_true rfl) dX7_based_72 (ppI ?_)
            refine gs_if_eq (tgt := 81) k (by decide) dX7_based_75 (fun c6 => ?_) (fun c6 => ?_)
            · refine gs_iinc (q := 3) (v := zs.1 + 1) (lv' := [(3, .int (zs.1 + 1)), (0, .ref (E.2.2.1 65)), (1, .int f), (2, .int w), (4, .int zs.2.1), (5, .int zs.2.2), (6, .int (nI s))]) k rfl rfl (by decide) rfl dX7_based_81 ?_
              refine gs_iload (q := 4) k rfl dX7_based_84 ?_
              refine gs_iload (q := 6) k rfl dX7_based_86 ?_
              refine gs_ifN_ne (a := s) (tgt := 96) k rfl (by omega) (by decide) dX7_based_88 (fun c7 => ?_) (fun c7 => ?_)
              · refine gs_iload (q := 6) k rfl dX7_based_96 ?_
                refine gs_iand k dX7_based_98 ?_
                refine gs_istore (lv' := [(4, .int (zs.2.1 &&& (nI s))), (3, .int (zs.1 + 1)), (0, .ref (E.2.2.1 65)), (1, .int f), (2, .int w), (5, .int zs.2.2), (6, .int (nI s))]) k (by decide) rfl dX7_based_99 ?_
                refine gs_iload (q := 5) k rfl dX7_based_101 ?_
                refine gs_iload (q := 6) k rfl dX7_based_103 ?_
                refine gs_ior k dX7_based_105 ?_
                refine gs_istore (lv' := [(5, .int (zs.2.2 ||| (nI s))), (4, .int (zs.2.1 &&& (nI s))), (3, .int (zs.1 + 1)), (0, .ref (E.2.2.1 65)), (1, .int f), (2, .int w), (6, .int (nI s))]) k (by decide) rfl dX7_based_106 ?_
                refine gs_iincN (q := 6) (a := s) (c := 1) (lv' := [(6, .int (nI (s + 1))), (5, .int (zs.2.2 ||| (nI s))), (4, .int (zs.2.1 &&& (nI s))), (3, .int (zs.1 + 1)), (0, .ref (E.2.2.1 65)), (1, .int f), (2, .int w)]) k rfl rfl (by decide) rfl dX7_based_108 ?_
                refine gs_goto (tgt := 59) k (by decide) dX7_based_111 ?_
                refine gs_lv (lv' := [(0, .ref (E.2.2.1 65)), (1, .int f), (2, .int w), (3, .int (zs.1 + 1)), (4, .int (zs.2.1 &&& (nI s))), (5, .int (zs.2.2 ||| (nI s))), (6, .int (nI (s + 1)))]) [4, 5, 6, 3, 2, 1, 0] rfl ?_
                exact hGs (zs.1 + 1, zs.2.1 &&& (nI s), zs.2.2 ||| (nI s)) (by rw [if_pos c6, if_neg (show ¬ s = 0 by omega)])
              · refine gs_iload (q := 4) k rfl dX7_based_91 ?_
                refine gs_goto (tgt := 98) k (by decide) dX7_based_93 ?_
                refine gs_iand k dX7_based_98 ?_
                refine gs_istore (lv' := [(4, .int (zs.2.1 &&& zs.2.1)), (3, .int (zs.1 + 1)), (0, .ref (E.2.2.1 65)), (1, .int f), (2, .int w), (5, .int zs.2.2), (6, .int (nI s))]) k (by decide) rfl dX7_based_99 ?_
                refine gs_iload (q := 5) k rfl dX7_based_101 ?_
                refine gs_iload (q := 6) k rfl dX7_based_103 ?_
                refine gs_ior k dX7_based_105 ?_
                refine gs_istore (lv' := [(5, .int (zs.2.2 ||| (nI s))), (4, .int (zs.2.1 &&& zs.2.1)), (3, .int (zs.1 + 1)), (0, .ref (E.2.2.1 65)), (1, .int f), (2, .int w), (6, .int (nI s))]) k (by decide) rfl dX7_based_106 ?_
                refine gs_iincN (q := 6) (a := s) (c := 1) (lv' := [(6, .int (nI (s + 1))), (5, .int (zs.2.2 ||| (nI s))), (4, .int (zs.2.1 &&& zs.2.1)), (3, .int (zs.1 + 1)), (0, .ref (E.2.2.1 65)), (1, .int f), (2, .int w)]) k rfl rfl (by decide) rfl dX7_based_108 ?_
                refine gs_goto (tgt := 59) k (by decide) dX7_based_111 ?_
                refine gs_lv (lv' := [(0, .ref (E.2.2.1 65)), (1, .int f), (2, .int w), (3, .int (zs.1 + 1)), (4, .int (zs.2.1 &&& zs.2.1)), (5, .int (zs.2.2 ||| (nI s))), (6, .int (nI (s + 1)))]) [4, 5, 6, 3, 2, 1, 0] rfl ?_
                exact hGs (zs.1 + 1, zs.2.1 &&& zs.2.1, zs.2.2 ||| (nI s)) (by rw [if_pos c6, if_pos c7, and_self32])
            · refine gs_goto (tgt := 108) k (by decide) dX7_based_78 ?_
              refine gs_iincN (q := 6) (a := s) (c := 1) (lv' := [(6, .int (nI (s + 1))), (0, .ref (E.2.2.1 65)), (1, .int f), (2, .int w), (3, .int zs.1), (4, .int zs.2.1), (5, .int zs.2.2)]) k rfl rfl (by decide) rfl dX7_based_108 ?_
              refine gs_goto (tgt := 59) k (by decide) dX7_based_111 ?_
              refine gs_lv (lv' := [(0, .ref (E.2.2.1 65)), (1, .int f), (2, .int w), (3, .int zs.1), (4, .int zs.2.1), (5, .int zs.2.2), (6, .int (nI (s + 1)))]) [1, 2, 3, 4, 5, 6, 0] rfl ?_
              exact hGs (zs.1, zs.2.1, zs.2.2) (by rw [if_neg c6])
          · show G l E K 59 [(0, .ref (E.2.2.1 65)), (1, .int f), (2, .int w), (3, .int ((basR (V (tn f)) (M 71) n).1)), (4, .int ((basR (V (tn f)) (M 71) n).2.1)), (5, .int ((basR (V (tn f)) (M 71) n).2.2)), (6, .int (nI (2 ^ n)))] [] M
            refine gs_iload (q := 6) k rfl dX7_based_59 ?_
            refine gs_aload_n (q := 0) k rfl rfl dX7_based_61 ?_
            refine gs_callV (As := []) (k0 := 65) (ci := 7) (T := TX7) (N := 27) k (c_X7_sets hI hn) cf_X7_sets im_X7_sets sl_X7_sets ml_X7_83 (hI 65 (by omega)) rfl rfl (by decide) rfl rfl (Nat.le_of_ble_eq_true rfl) dX7_based_62 (ppI ?_)
            refine gs_icmpN_ge (a := 2 ^ n) (b := 2 ^ n) (tgt := 114) k rfl rfl (by omega) (by omega) (by decide) dX7_based_65 (fun c5 => ?_) (fun c5 => absurd c5 (by omega))
            refine gs_iload_n (q := 2) k rfl rfl dX7_based_114 ?_
            refine gs_iconst (v := 1) k (by decide) dX7_based_115 ?_
            refine gs_icmp_ne (tgt := 123) k (by decide) dX7_based_116 (fun c6 => ?_) (fun c6 => ?_)
            · refine gs_iload_n (q := 2) k rfl rfl dX7_based_123 ?_
              refine gs_iconst (v := 2) k (by decide) dX7_based_124 ?_
              refine gs_icmp_ne (tgt := 133) k (by decide) dX7_based_125 (fun c7 => ?_) (fun c7 => ?_)
              · refine gs_iload (q := 5) k rfl dX7_based_133 ?_
                exact gs_iret k kt dX7_based_135 ⟨(by simp [-Int32.not_lt, A_based, b2i, ifc_T, ifc_F, c1, c2, c3, tc3, c4, c6, c7, i0_4, i1_4, i2_4, i3_4]), (by simp [-Int32.not_lt, A_based, b2i, ifc_T, ifc_F, c1, c2, c3, tc3, c4, c6, c7, i0_4, i1_4, i2_4, i3_4])⟩
              · refine gs_iload (q := 4) k rfl dX7_based_128 ?_
                refine gs_goto (tgt := 135) k (by decide) dX7_based_130 ?_
                exact gs_iret k kt dX7_based_135 ⟨(by simp [-Int32.not_lt, A_based, b2i, ifc_T, ifc_F, c1, c2, c3, tc3, c4, c6, c7, i0_4, i1_4, i2_4, i3_4]), (by simp [-Int32.not_lt, A_based, b2i, ifc_T, ifc_F, c1, c2, c3, tc3, c4, c6, c7, i0_4, i1_4, i2_4, i3_4])⟩
            · refine gs_iload_n (q := 3) k rfl rfl dX7_based_119 ?_
              refine gs_goto (tgt := 135) k (by decide) dX7_based_120 ?_
              exact gs_iret k kt dX7_based_135 ⟨(by simp [-Int32.not_lt, A_based, b2i, ifc_T, ifc_F, c1, c2, c3, tc3, c4, c6, i0_4, i1_4, i2_4, i3_4]), (by simp [-Int32.not_lt, A_based, b2i, ifc_T, ifc_F, c1, c2, c3, tc3, c4, c6, i0_4, i1_4, i2_4, i3_4])⟩
        · refine gs_aload_n (q := 0) k rfl rfl dX7_based_36 ?_
          refine gs_iload_n (q := 1) k rfl rfl dX7_based_37 ?_
          refine gs_callV (As := [.int f]) (k0 := 65) (ci := 7) (T := TX7) (N := 27) k (c_X7_isBase (f := tn f) hI hn hF (inR_eq c1) (by omega) (by assumption)) cf_X7_isBase im_X7_isBase sl_X7_isBase ml_X7_220 (hI 65 (by omega)) rfl rfl (by decide) rfl rfl (Nat.le_of_ble_eq_true rfl) dX7_based_38 (ppB (fun c5 => ?_) (fun c5 => ?_))
          · refine gs_callS (As := [.int 1]) k c_X7_bit_1 cf_X7_bit sm_X7_bit ml_X7_181 (by decide) rfl rfl (Nat.le_of_ble_eq_true rfl) dX7_based_41 (ppI ?_)
            exact gs_iret k kt dX7_based_44 ⟨(by simp [-Int32.not_lt, A_based, b2i, ifc_T, ifc_F, c1, c2, c3, tc3, c4, c5, i0_4, i1_4, i2_4, i3_4]), (by simp [-Int32.not_lt, A_based, b2i, ifc_T, ifc_F, c1, c2, c3, tc3, c4, c5, i0_4, i1_4, i2_4, i3_4])⟩
          · refine gs_callS (As := [.int 0]) k c_X7_bit_0 cf_X7_bit sm_X7_bit ml_X7_181 (by decide) rfl rfl (Nat.le_of_ble_eq_true rfl) dX7_based_41 (ppI ?_)
            exact gs_iret k kt dX7_based_44 ⟨(by simp [-Int32.not_lt, A_based, b2i, ifc_T, ifc_F, c1, c2, c3, tc3, c4, c5, i0_4, i1_4, i2_4, i3_4]), (by simp [-Int32.not_lt, A_based, b2i, ifc_T, ifc_F, c1, c2, c3, tc3, c4, c5, i0_4, i1_4, i2_4, i3_4])⟩
      · have qc3 : kd (tn f) < 0 := Classical.byContradiction (fun k => c3 ⟨by assumption, k⟩)
        refine gs_if_ne (tgt := 32) k (by decide) dX7_based_26 (fun h => absurd h (by decide)) (fun _ => ?_)
        refine gs_bipush (v := -11) k (by decide) dX7_based_29 ?_
        exact gs_iret k kt dX7_based_31 ⟨(by simp [-Int32.not_lt, A_based, b2i, ifc_T, ifc_F, c1, c2, c3, qc3, i0_4, i1_4, i2_4, i3_4]), (by simp [-Int32.not_lt, A_based, b2i, ifc_T, ifc_F, c1, c2, c3, qc3, i0_4, i1_4, i2_4, i3_4])⟩
    · refine gs_if_ne (tgt := 21) k (by decide) dX7_based_16 (fun h => absurd h (by decide)) (fun _ => ?_)
      refine gs_iconst (v := -1) k (by decide) dX7_based_19 ?_
      exact gs_iret k kt dX7_based_20 ⟨(by simp [-Int32.not_lt, A_based, b2i, ifc_T, ifc_F, c1, c2, i0_4, i1_4, i2_4, i3_4]), (by simp [-Int32.not_lt, A_based, b2i, ifc_T, ifc_F, c1, c2, i0_4, i1_4, i2_4, i3_4])⟩
  · refine gs_if_eq (tgt := 19) k (by decide) dX7_based_4 (fun _ => ?_) (fun h => absurd h (by decide))
    refine gs_iconst (v := -1) k (by decide) dX7_based_19 ?_
    exact gs_iret k kt dX7_based_20 ⟨(by simp [-Int32.not_lt, A_based, b2i, ifc_T, ifc_F, c1, i0_4, i1_4, i2_4, i3_4]), (by simp [-Int32.not_lt, A_based, b2i, ifc_T, ifc_F, c1, i0_4, i1_4, i2_4, i3_4])⟩

