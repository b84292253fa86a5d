theorem rowr {M : Mm} {k k' : Nat} {r v : Nat → Int32} (h : k' ≠ k) (e : M k' = v) : rset M k r k' = v := by rw [rset_ne _ _ h]; exact e
theorem rown {M : Mm} {k k' j : Nat} {x : Int32} {v : Nat → Int32} (h : k' ≠ k) (e : M k' = v) : mw M k j x k' = v := by rw [mw_nk _ _ _ h]; exact e
theorem setr_rows {n : Nat} {f f' g g' : Nat → Int32} (h1 : f = f') (h2 : g = g') : setr n f g = setr n f' g' := by rw [h1, h2]
def prs (kd : Nat → Int32) : Nat := lp (fun f c => if kd f < 0 then c else c + 1) 6 0 0
def nz (r : Nat → Int32) (N : Nat) : Nat := lp (fun j c => if r j = 0 then c else c + 1) N 0 0
/-- the image of the class: what is saved -/
def CSv (M : Mm) (n : Nat) (kd : Nat → Int32) (V : Nat → Nat → Int32) : Prop := (M 22 0 = nI n ∧ 1 ≤ n ∧ n ≤ 6) ∧ ∀ f, f < 6 → M (31 + 2 * f) 0 = kd f ∧ (kd f < 0 → kd f = -1) ∧ ∀ s, s < 2 ^ n → M (32 + 2 * f) s = V f s
def RSv (M : Mm) (n : Nat) (kd : Nat → Int32) (V : Nat → Nat → Int32) : Prop := (M 65 24 = nI n ∧ 1 ≤ n ∧ n ≤ 6) ∧ ∀ f, f < 6 → M 100 f = kd f ∧ (kd f < 0 → kd f = -1) ∧ (¬ kd f < 0 → ∀ s, s < 2 ^ n → M (102 + f) s = V f s)
def cpf22 (f : Nat) (M : Mm) : Mm := rset (mw M (31 + 2 * f) 0 (M (10 + 2 * f) 0)) (32 + 2 * f) (setr 64 (M (11 + 2 * f)) (M (32 + 2 * f)))
theorem cf_X3_copyFrom : CF yX3_copyFrom cX3_copyFrom 2 none 1 := ⟨cd_X3_copyFrom, iz_X3, by decide, by decide +kernel, by decide +kernel, by decide +kernel⟩
set_option maxRecDepth 100000 in
set_option maxHeartbeats 4000000 in
theorem c_X3_copyFrom22 {l : Launch} {E : Ev} {M : Mm} {f : Nat} (hI : ∀ k, k < 108 → k ∈ E.2.1) (hf : f < 6) : Cm l E yX3_copyFrom cX3_copyFrom 2 none 1 [.ref (E.2.2.1 (31 + 2 * f)), .ref (E.2.2.1 (10 + 2 * f))] M (pV (cpf22 f M)) := by
  refine Cm.of (by decide) (Nat.le_of_ble_eq_true rfl) (fun K k kt => ?_)
  show G l E K 0 [(0, .ref (E.2.2.1 (31 + 2 * f))), (1, .ref (E.2.2.1 (10 + 2 * f)))] [] M
  refine gs_aload_n (q := 0) k rfl rfl dX3_copyFrom_0 ?_
  refine gs_aload_n (q := 1) k rfl rfl dX3_copyFrom_1 ?_
  refine gs_get (C := RX3) (T := TX3) (N := 2) (ci := 3) (k0 := (10 + 2 * f)) (j := 0) k (hI (10 + 2 * f) (by omega)) (ent_F1 hf _) rfl inX3 (by decide) fl_X3_9 rfl rfl dX3_copyFrom_2 ?_
  refine gs_put (C := RX3) (T := TX3) (N := 2) (ci := 3) (k0 := (31 + 2 * f)) (j := 0) (ty := .int) k (hI (31 + 2 * f) (by omega)) (ent_F22 hf _) (ent_F22 hf _) rfl inX3 tyX3 tyX3_ok nmX3 (by decide) fl_X3_9 rfl rfl (tyX3_ok 0 (by decide)) rfl rfl (Nat.le_of_ble_eq_true rfl) dX3_copyFrom_5 ?_
  refine gs_aload_n (q := 1) k rfl rfl dX3_copyFrom_8 ?_
  refine gs_get (C := RX3) (T := TX3) (N := 2) (ci := 3) (k0 := (10 + 2 * f)) (j := 1) k (hI (10 + 2 * f) (by omega)) (ent_F1 hf _) rfl inX3 (by decide) fl_X3_15 rfl rfl dX3_copyFrom_9 ?_
  refine gs_iconst (v := 0) k (by decide) dX3_copyFrom_12 ?_
  refine gs_aload_n (q := 0) k rfl rfl dX3_copyFrom_13 ?_
  refine gs_get (C := RX3) (T := TX3) (N := 2) (ci := 3) (k0 := (31 + 2 * f)) (j := 1) k (hI (31 + 2 * f) (by omega)) (ent_F22 hf _) rfl inX3 (by decide) fl_X3_15 rfl rfl dX3_copyFrom_14 ?_
  refine gs_iconst (v := 0) k (by decide) dX3_copyFrom_17 ?_
  refine gs_bipush (v := 64) k (by decide) dX3_copyFrom_18 ?_
  refine gs_copy (k0 := (11 + 2 * f)) (k1 := (32 + 2 * f)) (n0 := 64) (n1 := 64) (n := 64) k ml_X3_25 (hI (11 + 2 * f) (by omega)) (ent_V1 hf) (hI (32 + 2 * f) (by omega)) (ent_V22 hf) (by decide) (by omega) (by omega) (by omega) (Nat.le_of_ble_eq_true rfl) dX3_copyFrom_20 ?_
  refine gs_M (M' := (rset (mw M (31 + 2 * f) 0 (M (10 + 2 * f) 0)) (32 + 2 * f) (setr 64 (M (11 + 2 * f)) (M (32 + 2 * f))))) (congrArg (rset (mw M (31 + 2 * f) 0 (M (10 + 2 * f) 0)) (32 + 2 * f)) ((cpy_setr _ _ _).trans (setr_rows (rown (by omega) rfl) (rown (by omega) rfl)))) ?_
  exact gs_vret k kt dX3_copyFrom_23 ⟨rfl, rfl⟩

def cpr22 (M : Mm) : Mm := (rset (rset (rset (rset (rset (rset (mw M 22 0 (M 1 0)) 23 (setr 36 (M 2) (M 23))) 24 (setr 8 (M 3) (M 24))) 25 (setr 8 (M 4) (M 25))) 26 (setr 6 (M 5) (M 26))) 27 (setr 6 (M 6) (M 27))) 28 (setr 6 (M 7) (M 28)))
def cpw22 (M : Mm) : Mm := lp (fun f m => cpf22 f m) 6 0 (cpr22 M)
theorem cf_X5_copyFrom : CF yX5_copyFrom cX5_copyFrom 3 none 1 := ⟨cd_X5_copyFrom, iz_X5, by decide, by decide +kernel, by decide +kernel, by decide +kernel⟩
set_option maxRecDepth 100000 in
set_option maxHeartbeats 4000000 in
theorem c_X5_copyFrom22 {l : Launch} {E : Ev} {M : Mm} (hI : ∀ k, k < 108 → k ∈ E.2.1) : Cm l E yX5_copyFrom cX5_copyFrom 3 none 2 [.ref (E.2.2.1 22), .ref (E.2.2.1 1)] M (pV (cpw22 M)) := by
  refine Cm.of (by decide) (Nat.le_of_ble_eq_true rfl) (fun K k kt => ?_)
  show G l E K 0 [(0, .ref (E.2.2.1 22)), (1, .ref (E.2.2.1 1))] [] M
  refine gs_aload_n (q := 0) k rfl rfl dX5_copyFrom_0 ?_
  refine gs_aload_n (q := 1) k rfl rfl dX5_copyFrom_1 ?_
  refine gs_get (C := RX5) (T := TX5) (N := 9) (ci := 5) (k0 := 1) (j := 0) k (hI 1 (by omega)) rfl rfl inX5 (by decide) fl_X5_44 rfl rfl dX5_copyFrom_2 ?_
  refine gs_put (C := RX5) (T := TX5) (N := 9) (ci := 5) (k0 := 22) (j := 0) (ty := .int) k (hI 22 (by omega)) rfl rfl rfl inX5 tyX5 tyX5_ok nmX5 (by decide) fl_X5_44 rfl rfl (tyX5_ok 0 (by decide)) rfl rfl (Nat.le_of_ble_eq_true rfl) dX5_copyFrom_5 ?_
  refine gs_aload_n (q := 1) k rfl rfl dX5_copyFrom_8 ?_
  refine gs_get (C := RX5) (T := TX5) (N := 9) (ci := 5) (k0 := 1) (j := 1) k (hI 1 (by omega)) rfl rfl inX5 (by decide) fl_X5_9 rfl rfl dX5_copyFrom_9 ?_
  refine gs_iconst (v := 0) k (by decide) dX5_copyFrom_12 ?_
  refine gs_aload_n (q := 0) k rfl rfl dX5_copyFrom_13 ?_
  refine gs_get (C := RX5) (T := TX5) (N := 9) (ci := 5) (k0 := 22) (j := 1) k (hI 22 (by omega)) rfl rfl inX5 (by decide) fl_X5_9 rfl rfl dX5_copyFrom_14 ?_
  refine gs_iconst (v := 0) k (by decide) dX5_copyFrom_17 ?_
  refine gs_bipush (v := 36) k (by decide) dX5_copyFrom_18 ?_
  refine gs_copy (k0 := 2) (k1 := 23) (n0 := 36) (n1 := 36) (n := 36) k ml_X5_57 (hI 2 (by omega)) (fun _ => rfl) (hI 23 (by omega)) (fun _ => rfl) (by decide) (by omega) (by omega) (by omega) (Nat.le_of_ble_eq_true rfl) dX5_copyFrom_20 ?_
  refine gs_M (M' := (rset (mw M 22 0 (M 1 0)) 23 (setr 36 (M 2) (M 23)))) (congrArg (rset (mw M 22 0 (M 1 0)) 23) ((cpy_setr _ _ _).trans (setr_rows (rown (by omega) rfl) (rown (by omega) rfl)))) ?_
  refine gs_aload_n (q := 1) k rfl rfl dX5_copyFrom_23 ?_
  refine gs_get (C := RX5) (T := TX5) (N := 9) (ci := 5) (k0 := 1) (j := 2) k (hI 1 (by omega)) rfl rfl inX5 (by decide) fl_X5_15 rfl rfl dX5_copyFrom_24 ?_
  refine gs_iconst (v := 0) k (by decide) dX5_copyFrom_27 ?_
  refine gs_aload_n (q := 0) k rfl rfl dX5_copyFrom_28 ?_
  refine gs_get (C := RX5) (T := TX5) (N := 9) (ci := 5) (k0 := 22) (j := 2) k (hI 22 (by omega)) rfl rfl inX5 (by decide) fl_X5_15 rfl rfl dX5_copyFrom_29 ?_
  refine gs_iconst (v := 0) k (by decide) dX5_copyFrom_32 ?_
  refine gs_bipush (v := 8) k (by decide) dX5_copyFrom_33 ?_
  refine gs_copy (k0 := 3) (k1 := 24) (n0 := 8) (n1 := 8) (n := 8) k ml_X5_57 (hI 3 (by omega)) (fun _ => rfl) (hI 24 (by omega)) (fun _ => rfl) (by decide) (by omega) (by omega) (by omega) (Nat.le_of_ble_eq_true rfl) dX5_copyFrom_35 ?_
  refine gs_M (M' := (rset (rset (mw M 22 0 (M 1 0)) 23 (setr 36 (M 2) (M 23))) 24 (setr 8 (M 3) (M 24)))) (congrArg (rset (rset (mw M 22 0 (M 1 0)) 23 (setr 36 (M 2) (M 23))) 24) ((cpy_setr _ _ _).trans (setr_rows (rowr (by omega) (rown (by omega) rfl)) (rowr (by omega) (rown (by omega) rfl))))) ?_
  refine gs_aload_n (q := 1) k rfl rfl dX5_copyFrom_38 ?_
  refine gs_get (C := RX5) (T := TX5) (N := 9) (ci := 5) (k0 := 1) (j := 3) k (hI 1 (by omega)) rfl rfl inX5 (by decide) fl_X5_18 rfl rfl dX5_copyFrom_39 ?_
  refine gs_iconst (v := 0) k (by decide) dX5_copyFrom_42 ?_
  refine gs_aload_n (q := 0) k rfl rfl dX5_copyFrom_43 ?_
  refine gs_get (C := RX5) (T := TX5) (N := 9) (ci := 5) (k0 := 22) (j := 3) k (hI 22 (by omega)) rfl rfl inX5 (by decide) fl_X5_18 rfl rfl dX5_copyFrom_44 ?_
  refine gs_iconst (v := 0) k (by decide) dX5_copyFrom_47 ?_
  refine gs_bipush (v := 8) k (by decide) dX5_copyFrom_48 ?_
  refine gs_copy (k0 := 4) (k1 := 25) (n0 := 8) (n1 := 8) (n := 8) k ml_X5_57 (hI 4 (by omega)) (fun _ => rfl) (hI 25 (by omega)) (fun _ => rfl) (by decide) (by omega) (by omega) (by omega) (Nat.le_of_ble_eq_true rfl) dX5_copyFrom_50 ?_
  refine gs_M (M' := (rset (rset (rset (mw M 22 0 (M 1 0)) 23 (setr 36 (M 2) (M 23))) 24 (setr 8 (M 3) (M 24))) 25 (setr 8 (M 4) (M 25)))) (congrArg (rset (rset (rset (mw M 22 0 (M 1 0)) 23 (setr 36 (M 2) (M 23))) 24 (setr 8 (M 3) (M 24))) 25) ((cpy_setr _ _ _).trans (setr_rows (rowr (by omega) (rowr (by omega) (rown (by omega) rfl))) (rowr (by omega) (rowr (by omega) (rown (by omega) rfl)))))) ?_
  refine gs_aload_n (q := 1) k rfl rfl dX5_copyFrom_53 ?_
  refine gs_get (C := RX5) (T := TX5) (N := 9) (ci := 5) (k0 := 1) (j := 4) k (hI 1 (by omega)) rfl rfl inX5 (by decide) fl_X5_21 rfl rfl dX5_copyFrom_54 ?_
  refine gs_iconst (v := 0) k (by decide) dX5_copyFrom_57 ?_
  refine gs_aload_n (q := 0) k rfl rfl dX5_copyFrom_58 ?_
  refine gs_get (C := RX5) (T := TX5) (N := 9) (ci := 5) (k0 := 22) (j := 4) k (hI 22 (by omega)) rfl rfl inX5 (by decide) fl_X5_21 rfl rfl dX5_copyFrom_59 ?_
  refine gs_iconst (v := 0) k (by decide) dX5_copyFrom_62 ?_
  refine gs_bipush (v := 6) k (by decide) dX5_copyFrom_63 ?_
  refine gs_copy (k0 := 5) (k1 := 26) (n0 := 6) (n1 := 6) (n := 6) k ml_X5_57 (hI 5 (by omega)) (fun _ => rfl) (hI 26 (by omega)) (fun _ => rfl) (by decide) (by omega) (by omega) (by omega) (Nat.le_of_ble_eq_true rfl) dX5_copyFrom_65 ?_
  refine gs_M (M' := (rset (rset (rset (rset (mw M 22 0 (M 1 0)) 23 (setr 36 (M 2) (M 23))) 24 (setr 8 (M 3) (M 24))) 25 (setr 8 (M 4) (M 25))) 26 (setr 6 (M 5) (M 26)))) (congrArg (rset (rset (rset (rset (mw M 22 0 (M 1 0)) 23 (setr 36 (M 2) (M 23))) 24 (setr 8 (M 3) (M 24))) 25 (setr 8 (M 4) (M 25))) 26) ((cpy_setr _ _ _).trans (setr_rows (rowr (by omega) (rowr (by omega) (rowr (by omega) (rown (by omega) rfl)))) (rowr (by omega) (rowr (by omega) (rowr (by omega) (rown (by omega) rfl))))))) ?_
  refine gs_aload_n (q := 1) k rfl rfl dX5_copyFrom_68 ?_
  refine gs_get (C := RX5) (T := TX5) (N := 9) (ci := 5) (k0 := 1) (j := 5) k (hI 1 (by omega)) rfl rfl inX5 (by decide) fl_X5_24 rfl rfl dX5_copyFrom_69 ?_
  refine gs_iconst (v := 0) k (by decide) dX5_copyFrom_72 ?_
  refine gs_aload_n (q := 0) k rfl rfl dX5_copyFrom_73 ?_
  refine gs_get (C := RX5) (T := TX5) (N := 9) (ci := 5) (k0 := 22) (j := 5) k (hI 22 (by omega)) rfl rfl inX5 (by decide) fl_X5_24 rfl rfl dX5_copyFrom_74 ?_
  refine gs_iconst (v := 0) k (by decide) dX5_copyFrom_77 ?_
  refine gs_bipush (v := 6) k (by decide) dX5_copyFrom_78 ?_
  refine gs_copy (k0 := 6) (k1 := 27) (n0 := 6) (n1 := 6) (n := 6) k ml_X5_57 (hI 6 (by omega)) (fun _ => rfl) (hI 27 (by omega)) (fun _ => rfl) (by decide) (by omega) (by omega) (by omega) (Nat.le_of_ble_eq_true rfl) dX5_copyFrom_80 ?_
  refine gs_M (M' := (rset (rset (rset (rset (rset (mw M 22 0 (M 1 0)) 23 (setr 36 (M 2) (M 23))) 24 (setr 8 (M 3) (M 24))) 25 (setr 8 (M 4) (M 25))) 26 (setr 6 (M 5) (M 26))) 27 (setr 6 (M 6) (M 27)))) (congrArg (rset (rset (rset (rset (rset (mw M 22 0 (M 1 0)) 23 (setr 36 (M 2) (M 23))) 24 (setr 8 (M 3) (M 24))) 25 (setr 8 (M 4) (M 25))) 26 (setr 6 (M 5) (M 26))) 27) ((cpy_setr _ _ _).trans (setr_rows (rowr (by omega) (rowr (by omega) (rowr (by omega) (rowr (by omega) (rown (by omega) rfl))))) (rowr (by omega) (rowr (by omega) (rowr (by omega) (rowr (by omega) (rown (by omega) rfl)))))))) ?_
  refine gs_aload_n (q := 1) k rfl rfl dX5_copyFrom_83 ?_
  refine gs_get (C := RX5) (T := TX5) (N := 9) (ci := 5) (k0 := 1) (j := 6) k (hI 1 (by omega)) rfl rfl inX5 (by decide) fl_X5_27 rfl rfl dX5_copyFrom_84 ?_
  refine gs_iconst (v := 0) k (by decide) dX5_copyFrom_87 ?_
  refine gs_aload_n (q := 0) k rfl rfl dX5_copyFrom_88 ?_
  refine gs_get (C := RX5) (T := TX5) (N := 9) (ci := 5) (k0 := 22) (j := 6) k (hI 22 (by omega)) rfl rfl inX5 (by decide) fl_X5_27 rfl rfl dX5_copyFrom_89 ?_
  refine gs_iconst (v := 0) k (by decide) dX5_copyFrom_92 ?_
  refine gs_bipush (v := 6) k (by decide) dX5_copyFrom_93 ?_
  refine gs_copy (k0 := 7) (k1 := 28) (n0 := 6) (n1 := 6) (n := 6) k ml_X5_57 (hI 7 (by omega)) (fun _ => rfl) (hI 28 (by omega)) (fun _ => rfl) (by decide) (by omega) (by omega) (by omega) (Nat.le_of_ble_eq_true rfl) dX5_copyFrom_95 ?_
  refine gs_M (M' := (rset (rset (rset (rset (rset (rset (mw M 22 0 (M 1 0)) 23 (setr 36 (M 2) (M 23))) 24 (setr 8 (M 3) (M 24))) 25 (setr 8 (M 4) (M 25))) 26 (setr 6 (M 5) (M 26))) 27 (setr 6 (M 6) (M 27))) 28 (setr 6 (M 7) (M 28)))) (congrArg (rset (rset (rset (rset (rset (rset (mw M 22 0 (M 1 0)) 23 (setr 36 (M 2) (M 23))) 24 (setr 8 (M 3) (M 24))) 25 (setr 8 (M 4) (M 25))) 26 (setr 6 (M 5) (M 26))) 27 (setr 6 (M 6) (M 27))) 28) ((cpy_setr _ _ _).trans (setr_rows (rowr (by omega) (rowr (by omega) (rowr (by omega) (rowr (by omega) (rowr (by omega) (rown (by omega) rfl)))))) (rowr (by omega) (rowr (by omega) (rowr (by omega) (rowr (by omega) (rowr (by omega) (rown (by omega) rfl))))))))) ?_
  refine gs_iconst (v := 0) k (by decide) dX5_copyFrom_98 ?_
  refine gs_istore_n (lv' := [(2, .int 0), (0, .ref (E.2.2.1 22)), (1, .ref (E.2.2.1 1))]) k rfl (by decide) rfl dX5_copyFrom_99 ?_
  refine gs_lv (lv' := [(0, .ref (E.2.2.1 22)), (1, .ref (E.2.2.1 1)), (2, .int 0)]) [1, 2, 0] rfl ?_
  refine for_up (σ := Mm) (fun f m => G l E K 100 [(0, .ref (E.2.2.1 22)), (1, .ref (E.2.2.1 1)), (2, .int (nI f))] [] m) (fun f m => cpf22 f m) 6 (fun f m hf hGf => ?_) 6 0 (rset (rset (rset (rset (rset (rset (mw M 22 0 (M 1 0)) 23 (setr 36 (M 2) (M 23))) 24 (setr 8 (M 3) (M 24))) 25 (setr 8 (M 4) (M 25))) 26 (setr 6 (M 5) (M 26))) 27 (setr 6 (M 6) (M 27))) 28 (setr 6 (M 7) (M 28))) (by omega) ?_
  · show G l E K 100 [(0, .ref (E.2.2.1 22)), (1, .ref (E.2.2.1 1)), (2, .int (nI f))] [] m
    refine gs_iload_n (q := 2) k rfl rfl dX5_copyFrom_100 ?_
    refine gs_bipush (v := 6) k (by decide) dX5_copyFrom_101 ?_
    refine gs_icmpN_ge (a := f) (b := 6) (tgt := 127) k rfl rfl (by omega) (by omega) (by decide) dX5_copyFrom_103 (fun c1 => absurd c1 (by omega)) (fun c1 => ?_)
    refine gs_aload_n (q := 0) k rfl rfl dX5_copyFrom_106 ?_
    refine gs_get (C := RX5) (T := TX5) (N := 9) (ci := 5) (k0 := 22) (j := 7) k (hI 22 (by omega)) rfl rfl inX5 (by decide) fl_X5_32 rfl rfl dX5_copyFrom_107 ?_
    refine gs_iload_n (q := 2) k rfl rfl dX5_copyFrom_110 ?_
    refine gs_aaldSN (k0 := 29) (n := 6) (e := f) (a := E.2.2.1 (31 + 2 * f)) k (hI 29 (by omega)) (fun _ => rfl) rfl (by omega) (by decide) rfl dX5_copyFrom_111 ?_
    refine gs_aload_n (q := 1) k rfl rfl dX5_copyFrom_112 ?_
    refine gs_get (C := RX5) (T := TX5) (N := 9) (ci := 5) (k0 := 1) (j := 7) k (hI 1 (by omega)) rfl rfl inX5 (by decide) fl_X5_32 rfl rfl dX5_copyFrom_113 ?_
    refine gs_iload_n (q := 2) k rfl rfl dX5_copyFrom_116 ?_
    refine gs_aaldSN (k0 := 8) (n := 6) (e := f) (a := E.2.2.1 (10 + 2 * f)) k (hI 8 (by omega)) (fun _ => rfl) rfl (by omega) (by decide) rfl dX5_copyFrom_117 ?_
    refine gs_callV (As := [.ref (E.2.2.1 (10 + 2 * f))]) (k0 := (31 + 2 * f)) (ci := 3) (T := TX3) (N := 2) k (c_X3_copyFrom22 hI (by omega)) cf_X3_copyFrom im_X3_copyFrom sl_X3_copyFrom ml_X5_63 (hI (31 + 2 * f) (by omega)) (ent_F22 (by omega) _) rfl (by decide) rfl rfl (Nat.le_of_ble_eq_true rfl) dX5_copyFrom_118 (ppV ?_)
    refine gs_iincN (q := 2) (a := f) (c := 1) (lv' := [(2, .int (nI (f + 1))), (0, .ref (E.2.2.1 22)), (1, .ref (E.2.2.1 1))]) k rfl rfl (by decide) rfl dX5_copyFrom_121 ?_
    refine gs_goto (tgt := 100) k (by decide) dX5_copyFrom_124 ?_
    refine gs_lv (lv' := [(0, .ref (E.2.2.1 22)), (1, .ref (E.2.2.1 1)), (2, .int (nI (f + 1)))]) [1, 2, 0] rfl ?_
    exact hGf _ rfl
  · show G l E K 100 [(0, .ref (E.2.2.1 22)), (1, .ref (E.2.2.1 1)), (2, .int (nI 6))] [] (cpw22 M)
    refine gs_iload_n (q := 2) k rfl rfl dX5_copyFrom_100 ?_
    refine gs_bipush (v := 6) k (by decide) dX5_copyFrom_101 ?_
    refine gs_icmpN_ge (a := 6) (b := 6) (tgt := 127) k rfl rfl (by omega) (by omega) (by decide) dX5_copyFrom_103 (fun c1 => ?_) (fun c1 => absurd c1 (by omega))
    exact gs_vret k kt dX5_copyFrom_127 ⟨rfl, rfl⟩

def cpf1 (f : Nat) (M : Mm) : Mm := rset (mw M (10 + 2 * f) 0 (M (31 + 2 * f) 0)) (11 + 2 * f) (setr 64 (M (32 + 2 * f)) (M (11 + 2 * f)))
set_option maxRecDepth 100000 in
set_option maxHeartbeats 4000000 in
theorem c_X3_copyFrom1 {l : Launch} {E : Ev} {M : Mm} {f : Nat} (hI : ∀ k, k < 108 → k ∈ E.2.1) (hf : f < 6) : Cm l E yX3_copyFrom cX3_copyFrom 2 none 1 [.ref (E.2.2.1 (10 + 2 * f)), .ref (E.2.2.1 (31 + 2 * f))] M (pV (cpf1 f M)) := by
  refine Cm.of (by decide) (Nat.le_of_ble_eq_true rfl) (fun K k kt => ?_)
  show G l E K 0 [(0, .ref (E.2.2.1 (10 + 2 * f))), (1, .ref (E.2.2.1 (31 + 2 * f)))] [] M
  refine gs_aload_n (q := 0) k rfl rfl dX3_copyFrom_0 ?_
  refine gs_aload_n (q := 1) k rfl rfl dX3_copyFrom_1 ?_
  refine gs_get (C := RX3) (T := TX3) (N := 2) (ci := 3) (k0 := (31 + 2 * f)) (j := 0) k (hI (31 + 2 * f) (by omega)) (ent_F22 hf _) rfl inX3 (by decide) fl_X3_9 rfl rfl dX3_copyFrom_2 ?_
  refine gs_put (C := RX3) (T := TX3) (N := 2) (ci := 3) (k0 := (10 + 2 * f)) (j := 0) (ty := .int) k (hI (10 + 2 * f) (by omega)) (ent_F1 hf _) (ent_F1 hf _) rfl inX3 tyX3 tyX3_ok nmX3 (by decide) fl_X3_9 rfl rfl (tyX3_ok 0 (by decide)) rfl rfl (Nat.le_of_ble_eq_true rfl) dX3_copyFrom_5 ?_
  refine gs_aload_n (q := 1) k rfl rfl dX3_copyFrom_8 ?_
  refine gs_get (C := RX3) (T := TX3) (N := 2) (ci := 3) (k0 := (31 + 2 * f)) (j := 1) k (hI (31 + 2 * f) (by omega)) (ent_F22 hf _) rfl inX3 (by decide) fl_X3_15 rfl rfl dX3_copyFrom_9 ?_
  refine gs_iconst (v := 0) k (by decide) dX3_copyFrom_12 ?_
  refine gs_aload_n (q := 0) k rfl rfl dX3_copyFrom_13 ?_
  refine gs_get (C := RX3) (T := TX3) (N := 2) (ci := 3) (k0 := (10 + 2 * f)) (j := 1) k (hI (10 + 2 * f) (by omega)) (ent_F1 hf _) rfl inX3 (by decide) fl_X3_15 rfl rfl dX3_copyFrom_14 ?_
  refine gs_iconst (v := 0) k (by decide) dX3_copyFrom_17 ?_
  refine gs_bipush (v := 64) k (by decide) dX3_copyFrom_18 ?_
  refine gs_copy (k0 := (32 + 2 * f)) (k1 := (11 + 2 * f)) (n0 := 64) (n1 := 64) (n := 64) k ml_X3_25 (hI (32 + 2 * f) (by omega)) (ent_V22 hf) (hI (11 + 2 * f) (by omega)) (ent_V1 hf) (by decide) (by omega) (by omega) (by omega) (Nat.le_of_ble_eq_true rfl) dX3_copyFrom_20 ?_
  refine gs_M (M' := (rset (mw M (10 + 2 * f) 0 (M (31 + 2 * f) 0)) (11 + 2 * f) (setr 64 (M (32 + 2 * f)) (M (11 + 2 * f))))) (congrArg (rset (mw M (10 + 2 * f) 0 (M (31 + 2 * f) 0)) (11 + 2 * f)) ((cpy_setr _ _ _).trans (setr_rows (rown (by omega) rfl) (rown (by omega) rfl)))) ?_
  exact gs_vret k kt dX3_copyFrom_23 ⟨rfl, rfl⟩

def cpr1 (M : Mm) : Mm := (rset (rset (rset (rset (rset (rset (mw M 1 0 (M 22 0)) 2 (setr 36 (M 23) (M 2))) 3 (setr 8 (M 24) (M 3))) 4 (setr 8 (M 25) (M 4))) 5 (setr 6 (M 26) (M 5))) 6 (setr 6 (M 27) (M 6))) 7 (setr 6 (M 28) (M 7)))
def cpw1 (M : Mm) : Mm := lp (fun f m => cpf1 f m) 6 0 (cpr1 M)
set_option maxRecDepth 100000 in
set_option maxHeartbeats 4000000 in
theorem c_X5_copyFrom1 {l : Launch} {E : Ev} {M : Mm} (hI : ∀ k, k < 108 → k ∈ E.2.1) : Cm l E yX5_copyFrom cX5_copyFrom 3 none 2 [.ref (E.2.2.1 1), .ref (E.2.2.1 22)] M (pV (cpw1 M)) := by
  refine Cm.of (by decide) (Nat.le_of_ble_eq_true rfl) (fun K k kt => ?_)
  show G l E K 0 [(0, .ref (E.2.2.1 1)), (1, .ref (E.2.2.1 22))] [] M
  refine gs_aload_n (q := 0) k rfl rfl dX5_copyFrom_0 ?_
  refine gs_aload_n (q := 1) k rfl rfl dX5_copyFrom_1 ?_
  refine gs_get (C := RX5) (T := TX5) (N := 9) (ci := 5) (k0 := 22) (j := 0) k (hI 22 (by omega)) rfl rfl inX5 (by decide) fl_X5_44 rfl rfl dX5_copyFrom_2 ?_
  refine gs_put (C := RX5) (T := TX5) (N := 9) (ci := 5) (k0 := 1) (j := 0) (ty := .int) k (hI 1 (by omega)) rfl rfl rfl inX5 tyX5 tyX5_ok nmX5 (by decide) fl_X5_44 rfl rfl (tyX5_ok 0 (by decide)) rfl rfl (Nat.le_of_ble_eq_true rfl) dX5_copyFrom_5 ?_
  refine gs_aload_n (q := 1) k rfl rfl dX5_copyFrom_8 ?_
  refine gs_get (C := RX5) (T := TX5) (N := 9) (ci := 5) (k0 := 22) (j := 1) k (hI 22 (by omega)) rfl rfl inX5 (by decide) fl_X5_9 rfl rfl dX5_copyFrom_9 ?_
  refine gs_iconst (v := 0) k (by decide) dX5_copyFrom_12 ?_
  refine gs_aload_n (q := 0) k rfl rfl dX5_copyFrom_13 ?_
  refine gs_get (C := RX5) (T := TX5) (N := 9) (ci := 5) (k0 := 1) (j := 1) k (hI 1 (by omega)) rfl rfl inX5 (by decide) fl_X5_9 rfl rfl dX5_copyFrom_14 ?_
  refine gs_iconst (v := 0) k (by decide) dX5_copyFrom_17 ?_
  refine gs_bipush (v := 36) k (by decide) dX5_copyFrom_18 ?_
  refine gs_copy (k0 := 23) (k1 := 2) (n0 := 36) (n1 := 36) (n := 36) k ml_X5_57 (hI 23 (by omega)) (fun _ => rfl) (hI 2 (by omega)) (fun _ => rfl) (by decide) (by omega) (by omega) (by omega) (Nat.le_of_ble_eq_true rfl) dX5_copyFrom_20 ?_
  refine gs_M (M' := (rset (mw M 1 0 (M 22 0)) 2 (setr 36 (M 23) (M 2)))) (congrArg (rset (mw M 1 0 (M 22 0)) 2) ((cpy_setr _ _ _).trans (setr_rows (rown (by omega) rfl) (rown (by omega) rfl)))) ?_
  refine gs_aload_n (q := 1) k rfl rfl dX5_copyFrom_23 ?_
  refine gs_get (C := RX5) (T := TX5) (N := 9) (ci := 5) (k0 := 22) (j := 2) k (hI 22 (by omega)) rfl rfl inX5 (by decide) fl_X5_15 rfl rfl dX5_copyFrom_24 ?_
  refine gs_iconst (v := 0) k (by decide) dX5_copyFrom_27 ?_
  refine gs_aload_n (q := 0) k rfl rfl dX5_copyFrom_28 ?_
  refine gs_get (C := RX5) (T := TX5) (N := 9) (ci := 5) (k0 := 1) (j := 2) k (hI 1 (by omega)) rfl rfl inX5 (by decide) fl_X5_15 rfl rfl dX5_copyFrom_29 ?_
  refine gs_iconst (v := 0) k (by decide) dX5_copyFrom_32 ?_
  refine gs_bipush (v := 8) k (by decide) dX5_copyFrom_33 ?_
  refine gs_copy (k0 := 24) (k1 := 3) (n0 := 8) (n1 := 8) (n := 8) k ml_X5_57 (hI 24 (by omega)) (fun _ => rfl) (hI 3 (by omega)) (fun _ => rfl) (by decide) (by omega) (by omega) (by omega) (Nat.le_of_ble_eq_true rfl) dX5_copyFrom_35 ?_
  refine gs_M (M' := (rset (rset (mw M 1 0 (M 22 0)) 2 (setr 36 (M 23) (M 2))) 3 (setr 8 (M 24) (M 3)))) (congrArg (rset (rset (mw M 1 0 (M 22 0)) 2 (setr 36 (M 23) (M 2))) 3) ((cpy_setr _ _ _).trans (setr_rows (rowr (by omega) (rown (by omega) rfl)) (rowr (by omega) (rown (by omega) rfl))))) ?_
  refine gs_aload_n (q := 1) k rfl rfl dX5_copyFrom_38 ?_
  refine gs_get (C := RX5) (T := TX5) (N := 9) (ci := 5) (k0 := 22) (j := 3) k (hI 22 (by omega)) rfl rfl inX5 (by decide) fl_X5_18 rfl rfl dX5_copyFrom_39 ?_
  refine gs_iconst (v := 0) k (by decide) dX5_copyFrom_42 ?_
  refine gs_aload_n (q := 0) k rfl rfl dX5_copyFrom_43 ?_
  refine gs_get (C := RX5) (T := TX5) (N := 9) (ci := 5) (k0 := 1) (j := 3) k (hI 1 (by omega)) rfl rfl inX5 (by decide) fl_X5_18 rfl rfl dX5_copyFrom_44 ?_
  refine gs_iconst (v := 0) k (by decide) dX5_copyFrom_47 ?_
  refine gs_bipush (v := 8) k (by decide) dX5_copyFrom_48 ?_
  refine gs_copy (k0 := 25) (k1 := 4) (n0 := 8) (n1 := 8) (n := 8) k ml_X5_57 (hI 25 (by omega)) (fun _ => rfl) (hI 4 (by omega)) (fun _ => rfl) (by decide) (by omega) (by omega) (by omega) (Nat.le_of_ble_eq_true rfl) dX5_copyFrom_50 ?_
  refine gs_M (M' := (rset (rset (rset (mw M 1 0 (M 22 0)) 2 (setr 36 (M 23) (M 2))) 3 (setr 8 (M 24) (M 3))) 4 (setr 8 (M 25) (M 4)))) (congrArg (rset (rset (rset (mw M 1 0 (M 22 0)) 2 (setr 36 (M 23) (M 2))) 3 (setr 8 (M 24) (M 3))) 4) ((cpy_setr _ _ _).trans (setr_rows (rowr (by omega) (rowr (by omega) (rown (by omega) rfl))) (rowr (by omega) (rowr (by omega) (rown (by omega) rfl)))))) ?_
  refine gs_aload_n (q := 1) k rfl rfl dX5_copyFrom_53 ?_
  refine gs_get (C := RX5) (T := TX5) (N := 9) (ci := 5) (k0 := 22) (j := 4) k (hI 22 (by omega)) rfl rfl inX5 (by decide) fl_X5_21 rfl rfl dX5_copyFrom_54 ?_
  refine gs_iconst (v := 0) k (by decide) dX5_copyFrom_57 ?_
  refine gs_aload_n (q := 0) k rfl rfl dX5_copyFrom_58 ?_
  refine gs_get (C := RX5) (T := TX5) (N := 9) (ci := 5) (k0 := 1) (j := 4) k (hI 1 (by omega)) rfl rfl inX5 (by decide) fl_X5_21 rfl rfl dX5_copyFrom_59 ?_
  refine gs_iconst (v := 0) k (by decide) dX5_copyFrom_62 ?_
  refine gs_bipush (v := 6) k (by decide) dX5_copyFrom_63 ?_
  refine gs_copy (k0 := 26) (k1 := 5) (n0 := 6) (n1 := 6) (n := 6) k ml_X5_57 (hI 26 (by omega)) (fun _ => rfl) (hI 5 (by omega)) (fun _ => rfl) (by decide) (by omega) (by omega) (by omega) (Nat.le_of_ble_eq_true rfl) dX5_copyFrom_65 ?_
  refine gs_M (M' := (rset (rset (rset (rset (mw M 1 0 (M 22 0)) 2 (setr 36 (M 23) (M 2))) 3 (setr 8 (M 24) (M 3))) 4 (setr 8 (M 25) (M 4))) 5 (setr 6 (M 26) (M 5)))) (congrArg (rset (rset (rset (rset (mw M 1 0 (M 22 0)) 2 (setr 36 (M 23) (M 2))) 3 (setr 8 (M 24) (M 3))) 4 (setr 8 (M 25) (M 4))) 5) ((cpy_setr _ _ _).trans (setr_rows (rowr (by omega) (rowr (by omega) (rowr (by omega) (rown (by omega) rfl)))) (rowr (by omega) (rowr (by omega) (rowr (by omega) (rown (by omega) rfl))))))) ?_
  refine gs_aload_n (q := 1) k rfl rfl dX5_copyFrom_68 ?_
  refine gs_get (C := RX5) (T := TX5) (N := 9) (ci := 5) (k0 := 22) (j := 5) k (hI 22 (by omega)) rfl rfl inX5 (by decide) fl_X5_24 rfl rfl dX5_copyFrom_69 ?_
  refine gs_iconst (v := 0) k (by decide) dX5_copyFrom_72 ?_
  refine gs_aload_n (q := 0) k rfl rfl dX5_copyFrom_73 ?_
  refine gs_get (C := RX5) (T := TX5) (N := 9) (ci := 5) (k0 := 1) (j := 5) k (hI 1 (by omega)) rfl rfl inX5 (by decide) fl_X5_24 rfl rfl dX5_copyFrom_74 ?_
  refine gs_iconst (v := 0) k (by decide) dX5_copyFrom_77 ?_
  refine gs_bipush (v := 6) k (by decide) dX5_copyFrom_78 ?_
  refine gs_copy (k0 := 27) (k1 := 6) (n0 := 6) (n1 := 6) (n := 6) k ml_X5_57 (hI 27 (by omega)) (fun _ => rfl) (hI 6 (by omega)) (fun _ => rfl) (by decide) (by omega) (by omega) (by omega) (Nat.le_of_ble_eq_true rfl) dX5_copyFrom_80 ?_
  refine gs_M (M' := (rset (rset (rset (rset (rset (mw M 1 0 (M 22 0)) 2 (setr 36 (M 23) (M 2))) 3 (setr 8 (M 24) (M 3))) 4 (setr 8 (M 25) (M 4))) 5 (setr 6 (M 26) (M 5))) 6 (setr 6 (M 27) (M 6)))) (congrArg (rset (rset (rset (rset (rset (mw M 1 0 (M 22 0)) 2 (setr 36 (M 23) (M 2))) 3 (setr 8 (M 24) (M 3))) 4 (setr 8 (M 25) (M 4))) 5 (setr 6 (M 26) (M 5))) 6) ((cpy_setr _ _ _).trans (setr_rows (rowr (by omega) (rowr (by omega) (rowr (by omega) (rowr (by omega) (rown (by omega) rfl))))) (rowr (by omega) (rowr (by omega) (rowr (by omega) (rowr (by omega) (rown (by omega) rfl)))))))) ?_
  refine gs_aload_n (q := 1) k rfl rfl dX5_copyFrom_83 ?_
  refine gs_get (C := RX5) (T := TX5) (N := 9) (ci := 5) (k0 := 22) (j := 6) k (hI 22 (by omega)) rfl rfl inX5 (by decide) fl_X5_27 rfl rfl dX5_copyFrom_84 ?_
  refine gs_iconst (v := 0) k (by decide) dX5_copyFrom_87 ?_
  refine gs_aload_n (q := 0) k rfl rfl dX5_copyFrom_88 ?_
  refine gs_get (C := RX5) (T := TX5) (N := 9) (ci := 5) (k0 := 1) (j := 6) k (hI 1 (by omega)) rfl rfl inX5 (by decide) fl_X5_27 rfl rfl dX5_copyFrom_89 ?_
  refine gs_iconst (v := 0) k (by decide) dX5_copyFrom_92 ?_
  refine gs_bipush (v := 6) k (by decide) dX5_copyFrom_93 ?_
  refine gs_copy (k0 := 28) (k1 := 7) (n0 := 6) (n1 := 6) (n := 6) k ml_X5_57 (hI 28 (by omega)) (fun _ => rfl) (hI 7 (by omega)) (fun _ => rfl) (by decide) (by omega) (by omega) (by omega) (Nat.le_of_ble_eq_true rfl) dX5_copyFrom_95 ?_
  refine gs_M (M' := (rset (rset (rset (rset (rset (rset (mw M 1 0 (M 22 0)) 2 (setr 36 (M 23) (M 2))) 3 (setr 8 (M 24) (M 3))) 4 (setr 8 (M 25) (M 4))) 5 (setr 6 (M 26) (M 5))) 6 (setr 6 (M 27) (M 6))) 7 (setr 6 (M 28) (M 7)))) (congrArg (rset (rset (rset (rset (rset (rset (mw M 1 0 (M 22 0)) 2 (setr 36 (M 23) (M 2))) 3 (setr 8 (M 24) (M 3))) 4 (setr 8 (M 25) (M 4))) 5 (setr 6 (M 26) (M 5))) 6 (setr 6 (M 27) (M 6))) 7) ((cpy_setr _ _ _).trans (setr_rows (rowr (by omega) (rowr (by omega) (rowr (by omega) (rowr (by omega) (rowr (by omega) (rown (by omega) rfl)))))) (rowr (by omega) (rowr (by omega) (rowr (by omega) (rowr (by omega) (rowr (by omega) (rown (by omega) rfl))))))))) ?_
  refine gs_iconst (v := 0) k (by decide) dX5_copyFrom_98 ?_
  refine gs_istore_n (lv' := [(2, .int 0), (0, .ref (E.2.2.1 1)), (1, .ref (E.2.2.1 22))]) k rfl (by decide) rfl dX5_copyFrom_99 ?_
  refine gs_lv (lv' := [(0, .ref (E.2.2.1 1)), (1, .ref (E.2.2.1 22)), (2, .int 0)]) [1, 2, 0] rfl ?_
  refine for_up (σ := Mm) (fun f m => G l E K 100 [(0, .ref (E.2.2.1 1)), (1, .ref (E.2.2.1 22)), (2, .int (nI f))] [] m) (fun f m => cpf1 f m) 6 (fun f m hf hGf => ?_) 6 0 (rset (rset (rset (rset (rset (rset (mw M 1 0 (M 22 0)) 2 (setr 36 (M 23) (M 2))) 3 (setr 8 (M 24) (M 3))) 4 (setr 8 (M 25) (M 4))) 5 (setr 6 (M 26) (M 5))) 6 (setr 6 (M 27) (M 6))) 7 (setr 6 (M 28) (M 7))) (by omega) ?_
  · show G l E K 100 [(0, .ref (E.2.2.1 1)), (1, .ref (E.2.2.1 22)), (2, .int (nI f))] [] m
    refine gs_iload_n (q := 2) k rfl rfl dX5_copyFrom_100 ?_
    refine gs_bipush (v := 6) k (by decide) dX5_copyFrom_101 ?_
    refine gs_icmpN_ge (a := f) (b := 6) (tgt := 127) k rfl rfl (by omega) (by omega) (by decide) dX5_copyFrom_103 (fun c1 => absurd c1 (by omega)) (fun c1 => ?_)
    refine gs_aload_n (q := 0) k rfl rfl dX5_copyFrom_106 ?_
    refine gs_get (C := RX5) (T := TX5) (N := 9) (ci := 5) (k0 := 1) (j := 7) k (hI 1 (by omega)) rfl rfl inX5 (by decide) fl_X5_32 rfl rfl dX5_copyFrom_107 ?_
    refine gs_iload_n (q := 2) k rfl rfl dX5_copyFrom_110 ?_
    refine gs_aaldSN (k0 := 8) (n := 6) (e := f) (a := E.2.2.1 (10 + 2 * f)) k (hI 8 (by omega)) (fun _ => rfl) rfl (by omega) (by decide) rfl dX5_copyFrom_111 ?_
    refine gs_aload_n (q := 1) k rfl rfl dX5_copyFrom_112 ?_
    refine gs_get (C := RX5) (T := TX5) (N := 9) (ci := 5) (k0 := 22) (j := 7) k (hI 22 (by omega)) rfl rfl inX5 (by decide) fl_X5_32 rfl rfl dX5_copyFrom_113 ?_
    refine gs_iload_n (q := 2) k rfl rfl dX5_copyFrom_116 ?_
    refine gs_aaldSN (k0 := 29) (n := 6) (e := f) (a := E.2.2.1 (31 + 2 * f)) k (hI 29 (by omega)) (fun _ => rfl) rfl (by omega) (by decide) rfl dX5_copyFrom_117 ?_
    refine gs_callV (As := [.ref (E.2.2.1 (31 + 2 * f))]) (k0 := (10 + 2 * f)) (ci := 3) (T := TX3) (N := 2) k (c_X3_copyFrom1 hI (by omega)) cf_X3_copyFrom im_X3_copyFrom sl_X3_copyFrom ml_X5_63 (hI (10 + 2 * f) (by omega)) (ent_F1 (by omega) _) rfl (by decide) rfl rfl (Nat.le_of_ble_eq_true rfl) dX5_copyFrom_118 (ppV ?_)
    refine gs_iincN (q := 2) (a := f) (c := 1) (lv' := [(2, .int (nI (f + 1))), (0, .ref (E.2.2.1 1)), (1, .ref (E.2.2.1 22))]) k rfl rfl (by decide) rfl dX5_copyFrom_121 ?_
    refine gs_goto (tgt := 100) k (by decide) dX5_copyFrom_124 ?_
    refine gs_lv (lv' := [(0, .ref (E.2.2.1 1)), (1, .ref (E.2.2.1 22)), (2, .int (nI (f + 1)))]) [1, 2, 0] rfl ?_
    exact hGf _ rfl
  · show G l E K 100 [(0, .ref (E.2.2.1 1)), (1, .ref (E.2.2.1 22)), (2, .int (nI 6))] [] (cpw1 M)
    refine gs_iload_n (q := 2) k rfl rfl dX5_copyFrom_100 ?_
    refine gs_bipush (v := 6) k (by decide) dX5_copyFrom_101 ?_
    refine gs_icmpN_ge (a := 6) (b := 6) (tgt := 127) k rfl rfl (by omega) (by omega) (by decide) dX5_copyFrom_103 (fun c1 => ?_) (fun c1 => absurd c1 (by omega))
    exact gs_vret k kt dX5_copyFrom_127 ⟨rfl, rfl⟩

theorem cpw22_out {M : Mm} : ∀ k j, k < 22 ∨ 42 < k → cpw22 M k j = M k j := by
  refine lp_J (fun (_ : Nat) (m : Mm) => ∀ k j, k < 22 ∨ 42 < k → m k j = M k j) 6 (fun f m hf h k j hk => ?_) 6 0 _ (by omega) (fun k j hk => ?_)
  · exact rdr (by omega) (rdn (by omega) (h k j hk))
  · exact rdr (by omega) (rdr (by omega) (rdr (by omega) (rdr (by omega) (rdr (by omega) (rdr (by omega) (rdn (by omega) rfl))))))
theorem cpw1_out {M : Mm} : ∀ k j, k < 1 ∨ 21 < k → cpw1 M k j = M k j := by
  refine lp_J (fun (_ : Nat) (m : Mm) => ∀ k j, k < 1 ∨ 21 < k → m k j = M k j) 6 (fun f m hf h k j hk => ?_) 6 0 _ (by omega) (fun k j hk => ?_)
  · exact rdr (by omega) (rdn (by omega) (h k j hk))
  · exact rdr (by omega) (rdr (by omega) (rdr (by omega) (rdr (by omega) (rdr (by omega) (rdr (by omega) (rdn (by omega) rfl))))))
theorem CFn.out {M M' : Mm} {n : Nat} {kd : Nat → Int32} {V : Nat → Nat → Int32} (h : CFn M n kd V) (o : ∀ k j, 10 ≤ k → k ≤ 21 → M' k j = M k j) : CFn M' n kd V := fun f hf =>
  ⟨(o _ _ (by omega) (by omega)).trans (h f hf).1, (h f hf).2.1, fun s hs => (o _ _ (by omega) (by omega)).trans ((h f hf).2.2 s hs)⟩
/-- what the copies hold -/
theorem cpw1_fn {M : Mm} : ∀ g, g < 6 → cpw1 M (10 + 2 * g) 0 = M (31 + 2 * g) 0 ∧ ∀ j, j < 64 → cpw1 M (11 + 2 * g) j = M (32 + 2 * g) j := by
  intro g hg
  refine lp_J (fun (i : Nat) (m : Mm) => (∀ k j, 22 ≤ k → m k j = M k j) ∧ (g < i → m (10 + 2 * g) 0 = M (31 + 2 * g) 0 ∧ ∀ j, j < 64 → m (11 + 2 * g) j = M (32 + 2 * g) j)) 6 (fun f m hf h => ⟨fun k j hk => ?_, fun hi => ?_⟩) 6 0 _ (by omega) ⟨fun k j hk => ?_, fun h => absurd h (by omega)⟩ |>.2 hg
  · exact rdr (by omega) (rdn (by omega) (h.1 k j hk))
  · by_cases e : g = f
    · subst e
      refine ⟨rdr (by omega) ((mw_eq _ _ _ _).trans (h.1 _ _ (by omega))), fun j hj => ?_⟩
      exact (congrFun (rset_eq _ _ _) _).trans ((setr_in hj).trans (h.1 _ _ (by omega)))
    · obtain ⟨h1, h2⟩ := h.2 (by omega)
      exact ⟨rdr (by omega) (rdn (by omega) h1), fun j hj => rdr (by omega) (rdn (by omega) (h2 j hj))⟩
  · exact rdr (by omega) (rdr (by omega) (rdr (by omega) (rdr (by omega) (rdr (by omega) (rdr (by omega) (rdn (by omega) rfl))))))
theorem cpw22_fn {M : Mm} : ∀ g, g < 6 → cpw22 M (31 + 2 * g) 0 = M (10 + 2 * g) 0 ∧ ∀ j, j < 64 → cpw22 M (32 + 2 * g) j = M (11 + 2 * g) j := by
  intro g hg
  refine lp_J (fun (i : Nat) (m : Mm) => (∀ k j, k < 22 → m k j = M k j) ∧ (g < i → m (31 + 2 * g) 0 = M (10 + 2 * g) 0 ∧ ∀ j, j < 64 → m (32 + 2 * g) j = M (11 + 2 * g) j)) 6 (fun f m hf h => ⟨fun k j hk => ?_, fun hi => ?_⟩) 6 0 _ (by omega) ⟨fun k j hk => ?_, fun h => absurd h (by omega)⟩ |>.2 hg
  · exact rdr (by omega) (rdn (by omega) (h.1 k j hk))
  · by_cases e : g = f
    · subst e
      refine ⟨rdr (by omega) ((mw_eq _ _ _ _).trans (h.1 _ _ (by omega))), fun j hj => ?_⟩
      exact (congrFun (rset_eq _ _ _) _).trans ((setr_in hj).trans (h.1 _ _ (by omega)))
    · obtain ⟨h1, h2⟩ := h.2 (by omega)
      exact ⟨rdr (by omega) (rdn (by omega) h1), fun j hj => rdr (by omega) (rdn (by omega) (h2 j hj))⟩
  · exact rdr (by omega) (rdr (by omega) (rdr (by omega) (rdr (by omega) (rdr (by omega) (rdr (by omega) (rdn (by omega) rfl))))))
theorem cpw1_row {M : Mm} {k : Nat} (h : k < 10) : cpw1 M k = cpr1 M k := by
  funext j
  exact lp_J (fun (_ : Nat) (m : Mm) => ∀ k j, k < 10 → m k j = cpr1 M k j) 6 (fun f m hf h k j hk => rdr (by omega) (rdn (by omega) (h k j hk))) 6 0 _ (by omega) (fun _ _ _ => rfl) k j h
theorem cpw22_row {M : Mm} {k : Nat} (h : k < 31) : cpw22 M k = cpr22 M k := by
  funext j
  exact lp_J (fun (_ : Nat) (m : Mm) => ∀ k j, k < 31 → m k j = cpr22 M k j) 6 (fun f m hf h k j hk => rdr (by omega) (rdn (by omega) (h k j hk))) 6 0 _ (by omega) (fun _ _ _ => rfl) k j h
theorem cpw1_F {M : Mm} {n : Nat} {kd : Nat → Int32} {V : Nat → Nat → Int32} (h : CSv M n kd V) : CFn (cpw1 M) n kd V := fun f hf => by
  obtain ⟨⟨-, -, h6⟩, h⟩ := h
  obtain ⟨h1, h2, h3⟩ := h f hf
  obtain ⟨e1, e2⟩ := cpw1_fn (M := M) f hf
  have := p2_le6 h6
  exact ⟨e1.trans h1, h2, fun s hs => (e2 s (by omega)).trans (h3 s hs)⟩
theorem cf_X5_presentFunctions : CF yX5_presentFunctions cX5_presentFunctions 3 (some .int) 0 := ⟨cd_X5_presentFunctions, iz_X5, by decide, by decide +kernel, by decide +kernel, by decide +kernel⟩
set_option maxRecDepth 100000 in
set_option maxHeartbeats 4000000 in
theorem c_X5_presentFunctions {l : Launch} {E : Ev} {M : Mm} {n : Nat} {kd : Nat → Int32} {V : Nat → Nat → Int32} (hI : ∀ k, k < 108 → k ∈ E.2.1) (hF : CFn M n kd V) : Cm l E yX5_presentFunctions cX5_presentFunctions 3 (some .int) 1 [.ref (E.2.2.1 1)] M (pI (nI (prs kd)) M) := by
  refine Cm.of (by decide) (Nat.le_of_ble_eq_true rfl) (fun K k kt => ?_)
  show G l E K 0 [(0, .ref (E.2.2.1 1))] [] M
  refine gs_iconst (v := 0) k (by decide) dX5_presentFunctions_0 ?_
  refine gs_istore_n (lv' := [(1, .int 0), (0, .ref (E.2.2.1 1))]) k rfl (by decide) rfl dX5_presentFunctions_1 ?_
  refine gs_iconst (v := 0) k (by decide) dX5_presentFunctions_2 ?_
  refine gs_istore_n (lv' := [(2, .int 0), (1, .int 0), (0, .ref (E.2.2.1 1))]) k rfl (by decide) rfl dX5_presentFunctions_3 ?_
  refine gs_lv (lv' := [(0, .ref (E.2.2.1 1)), (1, .int 0), (2, .int 0)]) [2, 1, 0] rfl ?_
  refine for_up (σ := Nat) (fun f c => G l E K 4 [(0, .ref (E.2.2.1 1)), (1, .int (nI c)), (2, .int (nI f))] [] M) (fun f c => if kd f < 0 then c else c + 1) 6 (fun f c hf hGf => ?_) 6 0 0 (by omega) ?_
  · show G l E K 4 [(0, .ref (E.2.2.1 1)), (1, .int (nI c)), (2, .int (nI f))] [] M
    refine gs_iload_n (q := 2) k rfl rfl dX5_presentFunctions_4 ?_
    refine gs_bipush (v := 6) k (by decide) dX5_presentFunctions_5 ?_
    refine gs_icmpN_ge (a := f) (b := 6) (tgt := 31) k rfl rfl (by omega) (by omega) (by decide) dX5_presentFunctions_7 (fun c1 => absurd c1 (by omega)) (fun c1 => ?_)
    refine gs_aload_n (q := 0) k rfl rfl dX5_presentFunctions_10 ?_
    refine gs_get (C := RX5) (T := TX5) (N := 9) (ci := 5) (k0 := 1) (j := 7) k (hI 1 (by omega)) rfl rfl inX5 (by decide) fl_X5_32 rfl rfl dX5_presentFunctions_11 ?_
    refine gs_iload_n (q := 2) k rfl rfl dX5_presentFunctions_14 ?_
    refine gs_aaldSN (k0 := 8) (n := 6) (e := f) (a := E.2.2.1 (10 + 2 * f)) k (hI 8 (by omega)) (fun _ => rfl) rfl (by omega) (by decide) rfl dX5_presentFunctions_15 ?_
    refine gs_callV (As := []) (k0 := (10 + 2 * f)) (ci := 3) (T := TX3) (N := 2) k (c_X3_isMissing hI hF (by omega)) cf_X3_isMissing im_X3_isMissing sl_X3_isMissing ml_X5_71 (hI (10 + 2 * f) (by omega)) (ent_F1 (by omega) _) rfl (by decide) rfl rfl (Nat.le_of_ble_eq_true rfl) dX5_presentFunctions_16 (ppB (fun c2 => ?_) (fun c2 => ?_))
    · refine gs_if_ne (tgt := 25) k (by decide) dX5_presentFunctions_19 (fun _ => ?_) (fun h => absurd h (by decide))
      refine gs_iincN (q := 2) (a := f) (c := 1) (lv' := [(2, .int (nI (f + 1))), (0, .ref (E.2.2.1 1)), (1, .int (nI c))]) k rfl rfl (by decide) rfl dX5_presentFunctions_25 ?_
      refine gs_goto (tgt := 4) k (by decide) dX5_presentFunctions_28 ?_
      refine gs_lv (lv' := [(0, .ref (E.2.2.1 1)), (1, .int (nI c)), (2, .int (nI (f + 1)))]) [1, 2, 0] rfl ?_
      exact hGf _ (by rw [if_pos c2])
    · refine gs_if_ne (tgt := 25) k (by decide) dX5_presentFunctions_19 (fun h => absurd h (by decide)) (fun _ => ?_)
      refine gs_iincN (q := 1) (a := c) (c := 1) (lv' := [(1, .int (nI (c + 1))), (0, .ref (E.2.2.1 1)), (2, .int (nI f))]) k rfl rfl (by decide) rfl dX5_presentFunctions_22 ?_
      refine gs_iincN (q := 2) (a := f) (c := 1) (lv' := [(2, .int (nI (f + 1))), (1, .int (nI (c + 1))), (0, .ref (E.2.2.1 1))]) k rfl rfl (by decide) rfl dX5_presentFunctions_25 ?_
      refine gs_goto (tgt := 4) k (by decide) dX5_presentFunctions_28 ?_
      refine gs_lv (lv' := [(0, .ref (E.2.2.1 1)), (1, .int (nI (c + 1))), (2, .int (nI (f + 1)))]) [2, 1, 0] rfl ?_
      exact hGf _ (by rw [if_neg c2])
  · show G l E K 4 [(0, .ref (E.2.2.1 1)), (1, .int (nI (prs kd))), (2, .int (nI 6))] [] M
    refine gs_iload_n (q := 2) k rfl rfl dX5_presentFunctions_4 ?_
    refine gs_bipush (v := 6) k (by decide) dX5_presentFunctions_5 ?_
    refine gs_icmpN_ge (a := 6) (b := 6) (tgt := 31) k rfl rfl (by omega) (by omega) (by decide) dX5_presentFunctions_7 (fun c1 => ?_) (fun c1 => absurd c1 (by omega))
    refine gs_iload_n (q := 1) k rfl rfl dX5_presentFunctions_31 ?_
    exact gs_iret k kt dX5_presentFunctions_32 ⟨rfl, rfl⟩

theorem cf_X7_functions : CF yX7_functions cX7_functions 3 (some .int) 0 := ⟨cd_X7_functions, iz_X7, by decide, by decide +kernel, by decide +kernel, by decide +kernel⟩
set_option maxRecDepth 100000 in
set_option maxHeartbeats 4000000 in
theorem c_X7_functions {l : Launch} {E : Ev} {M : Mm} {n : Nat} {kd : Nat → Int32} {V : Nat → Nat → Int32} (hI : ∀ k, k < 108 → k ∈ E.2.1) (hF : RFn M n kd V) : Cm l E yX7_functions cX7_functions 3 (some .int) 0 [.ref (E.2.2.1 65)] M (pI (nI (prs kd)) M) := by
  refine Cm.of (by decide) (Nat.le_of_ble_eq_true rfl) (fun K k kt => ?_)
  show G l E K 0 [(0, .ref (E.2.2.1 65))] [] M
  refine gs_iconst (v := 0) k (by decide) dX7_functions_0 ?_
  refine gs_istore_n (lv' := [(1, .int 0), (0, .ref (E.2.2.1 65))]) k rfl (by decide) rfl dX7_functions_1 ?_
  refine gs_iconst (v := 0) k (by decide) dX7_functions_2 ?_
  refine gs_istore_n (lv' := [(2, .int 0), (1, .int 0), (0, .ref (E.2.2.1 65))]) k rfl (by decide) rfl dX7_functions_3 ?_
  refine gs_lv (lv' := [(0, .ref (E.2.2.1 65)), (1, .int 0), (2, .int 0)]) [2, 1, 0] rfl ?_
  refine for_up (σ := Nat) (fun f c => G l E K 4 [(0, .ref (E.2.2.1 65)), (1, .int (nI c)), (2, .int (nI f))] [] M) (fun f c => if kd f < 0 then c else c + 1) 6 (fun f c hf hGf => ?_) 6 0 0 (by omega) ?_
  · show G l E K 4 [(0, .ref (E.2.2.1 65)), (1, .int (nI c)), (2, .int (nI f))] [] M
    refine gs_iload_n (q := 2) k rfl rfl dX7_functions_4 ?_
    refine gs_bipush (v := 6) k (by decide) dX7_functions_5 ?_
    refine gs_icmpN_ge (a := f) (b := 6) (tgt := 28) k rfl rfl (by omega) (by omega) (by decide) dX7_functions_7 (fun c1 => absurd c1 (by omega)) (fun c1 => ?_)
    refine gs_aload_n (q := 0) k rfl rfl dX7_functions_10 ?_
    refine gs_get (C := RX7) (T := TX7) (N := 27) (ci := 7) (k0 := 65) (j := 7) k (hI 65 (by omega)) rfl rfl inX7 (by decide) fl_X7_34 rfl rfl dX7_functions_11 ?_
    refine gs_iload_n (q := 2) k rfl rfl dX7_functions_14 ?_
    refine gs_ialdN (k0 := 72) (n := 6) (e := f) k (hI 72 (by omega)) (fun _ => rfl) rfl (by omega) (by decide) dX7_functions_15 ?_
    refine gs_top (y := kd f) ((hF f (by omega)).1) ?_
    refine gs_if_lt (tgt := 22) k (by decide) dX7_functions_16 (fun c2 => ?_) (fun c2 => ?_)
    · refine gs_iincN (q := 2) (a := f) (c := 1) (lv' := [(2, .int (nI (f + 1))), (0, .ref (E.2.2.1 65)), (1, .int (nI c))]) k rfl rfl (by decide) rfl dX7_functions_22 ?_
      refine gs_goto (tgt := 4) k (by decide) dX7_functions_25 ?_
      refine gs_lv (lv' := [(0, .ref (E.2.2.1 65)), (1, .int (nI c)), (2, .int (nI (f + 1)))]) [1, 2, 0] rfl ?_
      exact hGf _ (by rw [if_pos c2])
    · refine gs_iincN (q := 1) (a := c) (c := 1) (lv' := [(1, .int (nI (c + 1))), (0, .ref (E.2.2.1 65)), (2, .int (nI f))]) k rfl rfl (by decide) rfl dX7_functions_19 ?_
      refine gs_iincN (q := 2) (a := f) (c := 1) (lv' := [(2, .int (nI (f + 1))), (1, .int (nI (c + 1))), (0, .ref (E.2.2.1 65))]) k rfl rfl (by decide) rfl dX7_functions_22 ?_
      refine gs_goto (tgt := 4) k (by decide) dX7_functions_25 ?_
      refine gs_lv (lv' := [(0, .ref (E.2.2.1 65)), (1, .int (nI (c + 1))), (2, .int (nI (f + 1)))]) [2, 1, 0] rfl ?_
      exact hGf _ (by rw [if_neg c2])
  · show G l E K 4 [(0, .ref (E.2.2.1 65)), (1, .int (nI (prs kd))), (2, .int (nI 6))] [] M
    refine gs_iload_n (q := 2) k rfl rfl dX7_functions_4 ?_
    refine gs_bipush (v := 6) k (by decide) dX7_functions_5 ?_
    refine gs_icmpN_ge (a := 6) (b := 6) (tgt := 28) k rfl rfl (by omega) (by omega) (by decide) dX7_functions_7 (fun c1 => ?_) (fun c1 => absurd c1 (by omega))
    refine gs_iload_n (q := 1) k rfl rfl dX7_functions_28 ?_
    exact gs_iret k kt dX7_functions_29 ⟨rfl, rfl⟩

theorem cf_X6_nonZero : CF yX6_nonZero cX6_nonZero 6 (some .int) 1 := ⟨cd_X6_nonZero, iz_X6, by decide, by decide +kernel, by decide +kernel, by decide +kernel⟩
set_option maxRecDepth 100000 in
set_option maxHeartbeats 4000000 in
theorem c_X6_nonZero36 {l : Launch} {E : Ev} {M : Mm} {k0 : Nat} (hk : k0 ∈ E.2.1) (he : ∀ r, ent E.2.2.1 E.2.2.2.1 k0 r = ai E.2.2.2.1 36 r) : Cm l E yX6_nonZero cX6_nonZero 6 (some .int) 0 [.ref (E.2.2.1 k0)] M (pI (nI (nz (M k0) 36)) M) := by
  refine Cm.of (by decide) (Nat.le_of_ble_eq_true rfl) (fun K k kt => ?_)
  show G l E K 0 [(0, .ref (E.2.2.1 k0))] [] M
  refine gs_iconst (v := 0) k (by decide) dX6_nonZero_0 ?_
  refine gs_istore_n (lv' := [(1, .int 0), (0, .ref (E.2.2.1 k0))]) k rfl (by decide) rfl dX6_nonZero_1 ?_
  refine gs_aload_n (q := 1) k rfl rfl dX6_nonZero_2 ?_
  refine gs_astore_n (lv' := [(2, .ref (E.2.2.1 k0)), (1, .int 0), (0, .ref (E.2.2.1 k0))]) k rfl (by decide) rfl dX6_nonZero_3 ?_
  refine gs_aload_n (q := 0) k rfl rfl dX6_nonZero_4 ?_
  refine gs_alen (k0 := k0) (n := 36) k hk (he) rfl dX6_nonZero_5 ?_
  refine gs_istore_n (lv' := [(3, .int (nI 36)), (2, .ref (E.2.2.1 k0)), (1, .int 0), (0, .ref (E.2.2.1 k0))]) k rfl (by decide) rfl dX6_nonZero_6 ?_
  refine gs_iconst (v := 0) k (by decide) dX6_nonZero_7 ?_
  refine gs_istore (lv' := [(4, .int 0), (3, .int (nI 36)), (2, .ref (E.2.2.1 k0)), (1, .int 0), (0, .ref (E.2.2.1 k0))]) k (by decide) rfl dX6_nonZero_8 ?_
  refine gs_lv (lv' := [(0, .ref (E.2.2.1 k0)), (1, .int 0), (2, .ref (E.2.2.1 k0)), (3, .int (nI 36)), (4, .int 0)]) [4, 3, 2, 1, 0] rfl ?_
  refine for_up (σ := Nat) (fun j c => G l E K 10 [(0, .ref (E.2.2.1 k0)), (1, .int (nI c)), (2, .ref (E.2.2.1 k0)), (3, .int (nI 36)), (4, .int (nI j))] [] M) (fun j c => if M k0 j = 0 then c else c + 1) 36 (fun j c hj hGj => ?_) 36 0 0 (by omega) ?_
  · show G l E K 10 [(0, .ref (E.2.2.1 k0)), (1, .int (nI c)), (2, .ref (E.2.2.1 k0)), (3, .int (nI 36)), (4, .int (nI j))] [] M
    refine gs_iload (q := 4) k rfl dX6_nonZero_10 ?_
    refine gs_iload_n (q := 3) k rfl rfl dX6_nonZero_12 ?_
    refine gs_icmpN_ge (a := j) (b := 36) (tgt := 36) k rfl rfl (by omega) (by omega) (by decide) dX6_nonZero_13 (fun c1 => absurd c1 (by omega)) (fun c1 => ?_)
    refine gs_aload_n (q := 2) k rfl rfl dX6_nonZero_16 ?_
    refine gs_iload (q := 4) k rfl dX6_nonZero_17 ?_
    refine gs_ialdN (k0 := k0) (n := 36) (e := j) k hk (he) rfl (by omega) (by decide) dX6_nonZero_19 ?_
    refine gs_istore (lv' := [(5, .int (M k0 j)), (0, .ref (E.2.2.1 k0)), (1, .int (nI c)), (2, .ref (E.2.2.1 k0)), (3, .int (nI 36)), (4, .int (nI j))]) k (by decide) rfl dX6_nonZero_20 ?_
    refine gs_iload (q := 0) k rfl dX6_nonZero_22 ?_
    refine gs_if_eq (tgt := 30) k (by decide) dX6_nonZero_24 (fun c2 => ?_) (fun c2 => ?_)
    · refine gs_iincN (q := 5) (a := j) (c := 1) (lv' := [(4, .int (nI (j + 1))), (5, .int (M k0 j)), (0, .ref (E.2.2.1 k0)), (1, .int (nI c)), (2, .ref (E.2.2.1 k0)), (3, .int (nI 36))]) k rfl rfl (by decide) rfl dX6_nonZero_30 ?_
      refine gs_goto (tgt := 10) k (by decide) dX6_nonZero_33 ?_
      refine gs_lv (lv' := [(0, .ref (E.2.2.1 k0)), (1, .int (nI c)), (2, .ref (E.2.2.1 k0)), (3, .int (nI 36)), (4, .int (nI (j + 1))), (5, .int (M k0 j))]) [2, 3, 4, 5, 0, 1] rfl ?_
      refine gs_lv (lv' := [(0, .ref (E.2.2.1 k0)), (1, .int (nI c)), (2, .ref (E.2.2.1 k0)), (3, .int (nI 36)), (4, .int (nI (j + 1)))]) [0, 1, 2, 3, 4] rfl ?_
      exact hGj _ (by rw [if_pos c2])
    · refine gs_iincN (q := 2) (a := c) (c := 1) (lv' := [(1, .int (nI (c + 1))), (5, .int (M k0 j)), (0, .ref (E.2.2.1 k0)), (2, .ref (E.2.2.1 k0)), (3, .int (nI 36)), (4, .int (nI j))]) k rfl rfl (by decide) rfl dX6_nonZero_27 ?_
      refine gs_iincN (q := 5) (a := j) (c := 1) (lv' := [(4, .int (nI (j + 1))), (1, .int (nI (c + 1))), (5, .int (M k0 j)), (0, .ref (E.2.2.1 k0)), (2, .ref (E.2.2.1 k0)), (3, .int (nI 36))]) k rfl rfl (by decide) rfl dX6_nonZero_30 ?_
      refine gs_goto (tgt := 10) k (by decide) dX6_nonZero_33 ?_
      refine gs_lv (lv' := [(0, .ref (E.2.2.1 k0)), (1, .int (nI (c + 1))), (2, .ref (E.2.2.1 k0)), (3, .int (nI 36)), (4, .int (nI (j + 1))), (5, .int (M k0 j))]) [3, 1, 4, 5, 0, 2] rfl ?_
      refine gs_lv (lv' := [(0, .ref (E.2.2.1 k0)), (1, .int (nI (c + 1))), (2, .ref (E.2.2.1 k0)), (3, .int (nI 36)), (4, .int (nI (j + 1)))]) [0, 1, 2, 3, 4] rfl ?_
      exact hGj _ (by rw [if_neg c2])
  · show G l E K 10 [(0, .ref (E.2.2.1 k0)), (1, .int (nI (nz (M k0) 36))), (2, .ref (E.2.2.1 k0)), (3, .int (nI 36)), (4, .int (nI 36))] [] M
    refine gs_iload (q := 4) k rfl dX6_nonZero_10 ?_
    refine gs_iload_n (q := 3) k rfl rfl dX6_nonZero_12 ?_
    refine gs_icmpN_ge (a := 36) (b := 36) (tgt := 36) k rfl rfl (by omega) (by omega) (by decide) dX6_nonZero_13 (fun c1 => ?_) (fun c1 => absurd c1 (by omega))
    refine gs_iload_n (q := 1) k rfl rfl dX6_nonZero_36 ?_
    exact gs_iret k kt dX6_nonZero_37 ⟨rfl, rfl⟩

theorem cf_X7_unlikeNought : CF yX7_unlikeNought cX7_unlikeNought 3 (some .int) 1 := ⟨cd_X7_unlikeNought, iz_X7, by decide, by decide +kernel, by decide +kernel, by decide +kernel⟩
set_option maxRecDepth 100000 in
set_option maxHeartbeats 4000000 in
theorem c_X7_unlikeNought36 {l : Launch} {E : Ev} {M : Mm} {k0 : Nat} (hk : k0 ∈ E.2.1) (he : ∀ r, ent E.2.2.1 E.2.2.2.1 k0 r = ai E.2.2.2.1 36 r) : Cm l E yX7_unlikeNought cX7_unlikeNought 3 (some .int) 0 [.ref (E.2.2.1 k0)] M (pI (nI (nz (M k0) 36)) M) := by
  refine Cm.of (by decide) (Nat.le_of_ble_eq_true rfl) (fun K k kt => ?_)
  show G l E K 0 [(0, .ref (E.2.2.1 k0))] [] M
  refine gs_iconst (v := 0) k (by decide) dX7_unlikeNought_0 ?_
  refine gs_istore_n (lv' := [(1, .int 0), (0, .ref (E.2.2.1 k0))]) k rfl (by decide) rfl dX7_unlikeNought_1 ?_
  refine gs_iconst (v := 0) k (by decide) dX7_unlikeNought_2 ?_
  refine gs_istore_n (lv' := [(2, .int 0), (1, .int 0), (0, .ref (E.2.2.1 k0))]) k rfl (by decide) rfl dX7_unlikeNought_3 ?_
  refine gs_lv (lv' := [(0, .ref (E.2.2.1 k0)), (1, .int 0), (2, .int 0)]) [2, 1, 0] rfl ?_
  refine for_up (σ := Nat) (fun j c => G l E K 4 [(0, .ref (E.2.2.1 k0)), (1, .int (nI c)), (2, .int (nI j))] [] M) (fun j c => if M k0 j = 0 then c else c + 1) 36 (fun j c hj hGj => ?_) 36 0 0 (by omega) ?_
  · show G l E K 4 [(0, .ref (E.2.2.1 k0)), (1, .int (nI c)), (2, .int (nI j))] [] M
    refine gs_iload_n (q := 2) k rfl rfl dX7_unlikeNought_4 ?_
    refine gs_aload_n (q := 0) k rfl rfl dX7_unlikeNought_5 ?_
    refine gs_alen (k0 := k0) (n := 36) k hk (he) rfl dX7_unlikeNought_6 ?_
    refine gs_icmpN_ge (a := j) (b := 36) (tgt := 25) k rfl rfl (by omega) (by omega) (by decide) dX7_unlikeNought_7 (fun c1 => absurd c1 (by omega)) (fun c1 => ?_)
    refine gs_aload_n (q := 0) k rfl rfl dX7_unlikeNought_10 ?_
    refine gs_iload_n (q := 2) k rfl rfl dX7_unlikeNought_11 ?_
    refine gs_ialdN (k0 := k0) (n := 36) (e := j) k hk (he) rfl (by omega) (by decide) dX7_unlikeNought_12 ?_
    refine gs_if_eq (tgt := 19) k (by decide) dX7_unlikeNought_13 (fun c2 => ?_) (fun c2 => ?_)
    · refine gs_iincN (q := 2) (a := j) (c := 1) (lv' := [(2, .int (nI (j + 1))), (0, .ref (E.2.2.1 k0)), (1, .int (nI c))]) k rfl rfl (by decide) rfl dX7_unlikeNought_19 ?_
      refine gs_goto (tgt := 4) k (by decide) dX7_unlikeNought_22 ?_
      refine gs_lv (lv' := [(0, .ref (E.2.2.1 k0)), (1, .int (nI c)), (2, .int (nI (j + 1)))]) [1, 2, 0] rfl ?_
      exact hGj _ (by rw [if_pos c2])
    · refine gs_iincN (q := 1) (a := c) (c := 1) (lv' := [(1, .int (nI (c + 1))), (0, .ref (E.2.2.1 k0)), (2, .int (nI j))]) k rfl rfl (by decide) rfl dX7_unlikeNought_16 ?_
      refine gs_iincN (q := 2) (a := j) (c := 1) (lv' := [(2, .int (nI (j + 1))), (1, .int (nI (c + 1))), (0, .ref (E.2.2.1 k0))]) k rfl rfl (by decide) rfl dX7_unlikeNought_19 ?_
      refine gs_goto (tgt := 4) k (by decide) dX7_unlikeNought_22 ?_
      refine gs_lv (lv' := [(0, .ref (E.2.2.1 k0)), (1, .int (nI (c + 1))), (2, .int (nI (j + 1)))]) [2, 1, 0] rfl ?_
      exact hGj _ (by rw [if_neg c2])
  · show G l E K 4 [(0, .ref (E.2.2.1 k0)), (1, .int (nI (nz (M k0) 36))), (2, .int (nI 36))] [] M
    refine gs_iload_n (q := 2) k rfl rfl dX7_unlikeNought_4 ?_
    refine gs_aload_n (q := 0) k rfl rfl dX7_unlikeNought_5 ?_
    refine gs_alen (k0 := k0) (n := 36) k hk (he) rfl dX7_unlikeNought_6 ?_
    refine gs_icmpN_ge (a := 36) (b := 36) (tgt := 25) k rfl rfl (by omega) (by omega) (by decide) dX7_unlikeNought_7 (fun c1 => ?_) (fun c1 => absurd c1 (by omega))
    refine gs_iload_n (q := 1) k rfl rfl dX7_unlikeNought_25 ?_
    exact gs_iret k kt dX7_unlikeNought_26 ⟨rfl, rfl⟩

set_option maxRecDepth 100000 in
set_option maxHeartbeats 4000000 in
theorem c_X6_nonZero8 {l : Launch} {E : Ev} {M : Mm} {k0 : Nat} (hk : k0 ∈ E.2.1) (he : ∀ r, ent E.2.2.1 E.2.2.2.1 k0 r = ai E.2.2.2.1 8 r) : Cm l E yX6_nonZero cX6_nonZero 6 (some .int) 0 [.ref (E.2.2.1 k0)] M (pI (nI (nz (M k0) 8)) M) := by
  refine Cm.of (by decide) (Nat.le_of_ble_eq_true rfl) (fun K k kt => ?_)
  show G l E K 0 [(0, .ref (E.2.2.1 k0))] [] M
  refine gs_iconst (v := 0) k (by decide) dX6_nonZero_0 ?_
  refine gs_istore_n (lv' := [(1, .int 0), (0, .ref (E.2.2.1 k0))]) k rfl (by decide) rfl dX6_nonZero_1 ?_
  refine gs_aload_n (q := 1) k rfl rfl dX6_nonZero_2 ?_
  refine gs_astore_n (lv' := [(2, .ref (E.2.2.1 k0)), (1, .int 0), (0, .ref (E.2.2.1 k0))]) k rfl (by decide) rfl dX6_nonZero_3 ?_
  refine gs_aload_n (q := 0) k rfl rfl dX6_nonZero_4 ?_
  refine gs_alen (k0 := k0) (n := 8) k hk (he) rfl dX6_nonZero_5 ?_
  refine gs_istore_n (lv' := [(3, .int (nI 8)), (2, .ref (E.2.2.1 k0)), (1, .int 0), (0, .ref (E.2.2.1 k0))]) k rfl (by decide) rfl dX6_nonZero_6 ?_
  refine gs_iconst (v := 0) k (by decide) dX6_nonZero_7 ?_
  refine gs_istore (lv' := [(4, .int 0), (3, .int (nI 8)), (2, .ref (E.2.2.1 k0)), (1, .int 0), (0, .ref (E.2.2.1 k0))]) k (by decide) rfl dX6_nonZero_8 ?_
  refine gs_lv (lv' := [(0, .ref (E.2.2.1 k0)), (1, .int 0), (2, .ref (E.2.2.1 k0)), (3, .int (nI 8)), (4, .int 0)]) [4, 3, 2, 1, 0] rfl ?_
  refine for_up (σ := Nat) (fun j c => G l E K 10 [(0, .ref (E.2.2.1 k0)), (1, .int (nI c)), (2, .ref (E.2.2.1 k0)), (3, .int (nI 8)), (4, .int (nI j))] [] M) (fun j c => if M k0 j = 0 then c else c + 1) 8 (fun j c hj hGj => ?_) 8 0 0 (by omega) ?_
  · show G l E K 10 [(0, .ref (E.2.2.1 k0)), (1, .int (nI c)), (2, .ref (E.2.2.1 k0)), (3, .int (nI 8)), (4, .int (nI j))] [] M
    refine gs_iload (q := 4) k rfl dX6_nonZero_10 ?_
    refine gs_iload_n (q := 3) k rfl rfl dX6_nonZero_12 ?_
    refine gs_icmpN_ge (a := j) (b := 8) (tgt := 36) k rfl rfl (by omega) (by omega) (by decide) dX6_nonZero_13 (fun c1 => absurd c1 (by omega)) (fun c1 => ?_)
    refine gs_aload_n (q := 2) k rfl rfl dX6_nonZero_16 ?_
    refine gs_iload (q := 4) k rfl dX6_nonZero_17 ?_
    refine gs_ialdN (k0 := k0) (n := 8) (e := j) k hk (he) rfl (by omega) (by decide) dX6_nonZero_19 ?_
    refine gs_istore (lv' := [(5, .int (M k0 j)), (0, .ref (E.2.2.1 k0)), (1, .int (nI c)), (2, .ref (E.2.2.1 k0)), (3, .int (nI 8)), (4, .int (nI j))]) k (by decide) rfl dX6_nonZero_20 ?_
    refine gs_iload (q := 0) k rfl dX6_nonZero_22 ?_
    refine gs_if_eq (tgt := 30) k (by decide) dX6_nonZero_24 (fun c2 => ?_) (fun c2 => ?_)
    · refine gs_iincN (q := 5) (a := j) (c := 1) (lv' := [(4, .int (nI (j + 1))), (5, .int (M k0 j)), (0, .ref (E.2.2.1 k0)), (1, .int (nI c)), (2, .ref (E.2.2.1 k0)), (3, .int (nI 8))]) k rfl rfl (by decide) rfl dX6_nonZero_30 ?_
      refine gs_goto (tgt := 10) k (by decide) dX6_nonZero_33 ?_
      refine gs_lv (lv' := [(0, .ref (E.2.2.1 k0)), (1, .int (nI c)), (2, .ref (E.2.2.1 k0)), (3, .int (nI 8)), (4, .int (nI (j + 1))), (5, .int (M k0 j))]) [2, 3, 4, 5, 0, 1] rfl ?_
      refine gs_lv (lv' := [(0, .ref (E.2.2.1 k0)), (1, .int (nI c)), (2, .ref (E.2.2.1 k0)), (3, .int (nI 8)), (4, .int (nI (j + 1)))]) [0, 1, 2, 3, 4] rfl ?_
      exact hGj _ (by rw [if_pos c2])
    · refine gs_iincN (q := 2) (a := c) (c := 1) (lv' := [(1, .int (nI (c + 1))), (5, .int (M k0 j)), (0, .ref (E.2.2.1 k0)), (2, .ref (E.2.2.1 k0)), (3, .int (nI 8)), (4, .int (nI j))]) k rfl rfl (by decide) rfl dX6_nonZero_27 ?_
      refine gs_iincN (q := 5) (a := j) (c := 1) (lv' := [(4, .int (nI (j + 1))), (1, .int (nI (c + 1))), (5, .int (M k0 j)), (0, .ref (E.2.2.1 k0)), (2, .ref (E.2.2.1 k0)), (3, .int (nI 8))]) k rfl rfl (by decide) rfl dX6_nonZero_30 ?_
      refine gs_goto (tgt := 10) k (by decide) dX6_nonZero_33 ?_
      refine gs_lv (lv' := [(0, .ref (E.2.2.1 k0)), (1, .int (nI (c + 1))), (2, .ref (E.2.2.1 k0)), (3, .int (nI 8)), (4, .int (nI (j + 1))), (5, .int (M k0 j))]) [3, 1, 4, 5, 0, 2] rfl ?_
      refine gs_lv (lv' := [(0, .ref (E.2.2.1 k0)), (1, .int (nI (c + 1))), (2, .ref (E.2.2.1 k0)), (3, .int (nI 8)), (4, .int (nI (j + 1)))]) [0, 1, 2, 3, 4] rfl ?_
      exact hGj _ (by rw [if_neg c2])
  · show G l E K 10 [(0, .ref (E.2.2.1 k0)), (1, .int (nI (nz (M k0) 8))), (2, .ref (E.2.2.1 k0)), (3, .int (nI 8)), (4, .int (nI 8))] [] M
    refine gs_iload (q := 4) k rfl dX6_nonZero_10 ?_
    refine gs_iload_n (q := 3) k rfl rfl dX6_nonZero_12 ?_
    refine gs_icmpN_ge (a := 8) (b := 8) (tgt := 36) k rfl rfl (by omega) (by omega) (by decide) dX6_nonZero_13 (fun c1 => ?_) (fun c1 => absurd c1 (by omega))
    refine gs_iload_n (q := 1) k rfl rfl dX6_nonZero_36 ?_
    exact gs_iret k kt dX6_nonZero_37 ⟨rfl, rfl⟩

set_option maxRecDepth 100000 in
set_option maxHeartbeats 4000000 in
theorem c_X7_unlikeNought8 {l : Launch} {E : Ev} {M : Mm} {k0 : Nat} (hk : k0 ∈ E.2.1) (he : ∀ r, ent E.2.2.1 E.2.2.2.1 k0 r = ai E.2.2.2.1 8 r) : Cm l E yX7_unlikeNought cX7_unlikeNought 3 (some .int) 0 [.ref (E.2.2.1 k0)] M (pI (nI (nz (M k0) 8)) M) := by
  refine Cm.of (by decide) (Nat.le_of_ble_eq_true rfl) (fun K k kt => ?_)
  show G l E K 0 [(0, .ref (E.2.2.1 k0))] [] M
  refine gs_iconst (v := 0) k (by decide) dX7_unlikeNought_0 ?_
  refine gs_istore_n (lv' := [(1, .int 0), (0, .ref (E.2.2.1 k0))]) k rfl (by decide) rfl dX7_unlikeNought_1 ?_
  refine gs_iconst (v := 0) k (by decide) dX7_unlikeNought_2 ?_
  refine gs_istore_n (lv' := [(2, .int 0), (1, .int 0), (0, .ref (E.2.2.1 k0))]) k rfl (by decide) rfl dX7_unlikeNought_3 ?_
  refine gs_lv (lv' := [(0, .ref (E.2.2.1 k0)), (1, .int 0), (2, .int 0)]) [2, 1, 0] rfl ?_
  refine for_up (σ := Nat) (fun j c => G l E K 4 [(0, .ref (E.2.2.1 k0)), (1, .int (nI c)), (2, .int (nI j))] [] M) (fun j c => if M k0 j = 0 then c else c + 1) 8 (fun j c hj hGj => ?_) 8 0 0 (by omega) ?_
  · show G l E K 4 [(0, .ref (E.2.2.1 k0)), (1, .int (nI c)), (2, .int (nI j))] [] M
    refine gs_iload_n (q := 2) k rfl rfl dX7_unlikeNought_4 ?_
    refine gs_aload_n (q := 0) k rfl rfl dX7_unlikeNought_5 ?_
    refine gs_alen (k0 := k0) (n := 8) k hk (he) rfl dX7_unlikeNought_6 ?_
    refine gs_icmpN_ge (a := j) (b := 8) (tgt := 25) k rfl rfl (by omega) (by omega) (by decide) dX7_unlikeNought_7 (fun c1 => absurd c1 (by omega)) (fun c1 => ?_)
    refine gs_aload_n (q := 0) k rfl rfl dX7_unlikeNought_10 ?_
    refine gs_iload_n (q := 2) k rfl rfl dX7_unlikeNought_11 ?_
    refine gs_ialdN (k0 := k0) (n := 8) (e := j) k hk (he) rfl (by omega) (by decide) dX7_unlikeNought_12 ?_
    refine gs_if_eq (tgt := 19) k (by decide) dX7_unlikeNought_13 (fun c2 => ?_) (fun c2 => ?_)
    · refine gs_iincN (q := 2) (a := j) (c := 1) (lv' := [(2, .int (nI (j + 1))), (0, .ref (E.2.2.1 k0)), (1, .int (nI c))]) k rfl rfl (by decide) rfl dX7_unlikeNought_19 ?_
      refine gs_goto (tgt := 4) k (by decide) dX7_unlikeNought_22 ?_
      refine gs_lv (lv' := [(0, .ref (E.2.2.1 k0)), (1, .int (nI c)), (2, .int (nI (j + 1)))]) [1, 2, 0] rfl ?_
      exact hGj _ (by rw [if_pos c2])
    · refine gs_iincN (q := 1) (a := c) (c := 1) (lv' := [(1, .int (nI (c + 1))), (0, .ref (E.2.2.1 k0)), (2, .int (nI j))]) k rfl rfl (by decide) rfl dX7_unlikeNought_16 ?_
      refine gs_iincN (q := 2) (a := j) (c := 1) (lv' := [(2, .int (nI (j + 1))), (1, .int (nI (c + 1))), (0, .ref (E.2.2.1 k0))]) k rfl rfl (by decide) rfl dX7_unlikeNought_19 ?_
      refine gs_goto (tgt := 4) k (by decide) dX7_unlikeNought_22 ?_
      refine gs_lv (lv' := [(0, .ref (E.2.2.1 k0)), (1, .int (nI (c + 1))), (2, .int (nI (j + 1)))]) [2, 1, 0] rfl ?_
      exact hGj _ (by rw [if_neg c2])
  · show G l E K 4 [(0, .ref (E.2.2.1 k0)), (1, .int (nI (nz (M k0) 8))), (2, .int (nI 8))] [] M
    refine gs_iload_n (q := 2) k rfl rfl dX7_unlikeNought_4 ?_
    refine gs_aload_n (q := 0) k rfl rfl dX7_unlikeNought_5 ?_
    refine gs_alen (k0 := k0) (n := 8) k hk (he) rfl dX7_unlikeNought_6 ?_
    refine gs_icmpN_ge (a := 8) (b := 8) (tgt := 25) k rfl rfl (by omega) (by omega) (by decide) dX7_unlikeNought_7 (fun c1 => ?_) (fun c1 => absurd c1 (by omega))
    refine gs_iload_n (q := 1) k rfl rfl dX7_unlikeNought_25 ?_
    exact gs_iret k kt dX7_unlikeNought_26 ⟨rfl, rfl⟩

theorem cf_X6_image : CF yX6_image cX6_image 1 (some .int) 0 := ⟨cd_X6_image, iz_X6, by decide, by decide +kernel, by decide +kernel, by decide +kernel⟩
set_option maxRecDepth 100000 in
set_option maxHeartbeats 4000000 in
theorem c_X6_image {l : Launch} {E : Ev} {M : Mm} {n : Nat} {kd : Nat → Int32} {V : Nat → Nat → Int32} (hI : ∀ k, k < 108 → k ∈ E.2.1) (hn : Cn M n) (hF : CFn M n kd V) : Cm l E yX6_image cX6_image 1 (some .int) 3 [.ref (E.2.2.1 0)] M (pI (nI (prs kd)) (mw (cpw22 M) 0 2 1)) := by
  refine Cm.of (by decide) (Nat.le_of_ble_eq_true rfl) (fun K k kt => ?_)
  show G l E K 0 [(0, .ref (E.2.2.1 0))] [] M
  refine gs_aload_n (q := 0) k rfl rfl dX6_image_0 ?_
  refine gs_get (C := RX6) (T := TX6) (N := 10) (ci := 6) (k0 := 0) (j := 1) k (hI 0 (by omega)) rfl rfl inX6 (by decide) fl_X6_18 rfl rfl dX6_image_1 ?_
  refine gs_aload_n (q := 0) k rfl rfl dX6_image_4 ?_
  refine gs_get (C := RX6) (T := TX6) (N := 10) (ci := 6) (k0 := 0) (j := 0) k (hI 0 (by omega)) rfl rfl inX6 (by decide) fl_X6_12 rfl rfl dX6_image_5 ?_
  refine gs_callV (As := [.ref (E.2.2.1 1)]) (k0 := 22) (ci := 5) (T := TX5) (N := 9) k (c_X5_copyFrom22 hI) cf_X5_copyFrom im_X5_copyFrom sl_X5_copyFrom ml_X6_290 (hI 22 (by omega)) rfl rfl (by decide) rfl rfl (Nat.le_of_ble_eq_true rfl) dX6_image_8 (ppV ?_)
  have hF := hF.out (fun k j _ _ => cpw22_out (M := M) k j (by omega))
  refine gs_aload_n (q := 0) k rfl rfl dX6_image_11 ?_
  refine gs_iconst (v := 1) k (by decide) dX6_image_12 ?_
  refine gs_put (C := RX6) (T := TX6) (N := 10) (ci := 6) (k0 := 0) (j := 2) (ty := .boolean) k (hI 0 (by omega)) rfl rfl rfl inX6 tyX6 tyX6_ok nmX6 (by decide) fl_X6_21 rfl rfl (tyX6_ok 2 (by decide)) rfl rfl (Nat.le_of_ble_eq_true rfl) dX6_image_13 ?_
  refine gs_aload_n (q := 0) k rfl rfl dX6_image_16 ?_
  refine gs_get (C := RX6) (T := TX6) (N := 10) (ci := 6) (k0 := 0) (j := 0) k (hI 0 (by omega)) rfl rfl inX6 (by decide) fl_X6_12 rfl rfl dX6_image_17 ?_
  refine gs_callV (As := []) (k0 := 1) (ci := 5) (T := TX5) (N := 9) k (c_X5_presentFunctions hI (CFn_mw (by omega) hF)) cf_X5_presentFunctions im_X5_presentFunctions sl_X5_presentFunctions ml_X6_294 (hI 1 (by omega)) rfl rfl (by decide) rfl rfl (Nat.le_of_ble_eq_true rfl) dX6_image_20 (ppI ?_)
  exact gs_iret k kt dX6_image_23 ⟨rfl, rfl⟩

noncomputable def A_back (im : Int32) (kd : Nat → Int32) : Int32 := ifc (im = 0) (-3) (nI (prs kd))
theorem cf_X6_back : CF yX6_back cX6_back 1 (some .int) 0 := ⟨cd_X6_back, iz_X6, by decide, by decide +kernel, by decide +kernel, by decide +kernel⟩
set_option maxRecDepth 100000 in
set_option maxHeartbeats 4000000 in
theorem c_X6_back {l : Launch} {E : Ev} {M : Mm} {n : Nat} {kd : Nat → Int32} {V : Nat → Nat → Int32} (hI : ∀ k, k < 108 → k ∈ E.2.1) (hS : ¬ M 0 2 = 0 → CSv M n kd V) : Cm l E yX6_back cX6_back 1 (some .int) 3 [.ref (E.2.2.1 0)] M (pI (A_back (M 0 2) kd) (ifc (M 0 2 = 0) M (cpw1 M))) := by
  refine Cm.of (by decide) (Nat.le_of_ble_eq_true rfl) (fun K k kt => ?_)
  show G l E K 0 [(0, .ref (E.2.2.1 0))] [] M
  refine gs_aload_n (q := 0) k rfl rfl dX6_back_0 ?_
  refine gs_get (C := RX6) (T := TX6) (N := 10) (ci := 6) (k0 := 0) (j := 2) k (hI 0 (by omega)) rfl rfl inX6 (by decide) fl_X6_21 rfl rfl dX6_back_1 ?_
  refine gs_if_ne (tgt := 10) k (by decide) dX6_back_4 (fun c1 => ?_) (fun c1 => ?_)
  · refine gs_aload_n (q := 0) k rfl rfl dX6_back_10 ?_
    refine gs_get (C := RX6) (T := TX6) (N := 10) (ci := 6) (k0 := 0) (j := 0) k (hI 0 (by omega)) rfl rfl inX6 (by decide) fl_X6_12 rfl rfl dX6_back_11 ?_
    refine gs_aload_n (q := 0) k rfl rfl dX6_back_14 ?_
    refine gs_get (C := RX6) (T := TX6) (N := 10) (ci := 6) (k0 := 0) (j := 1) k (hI 0 (by omega)) rfl rfl inX6 (by decide) fl_X6_18 rfl rfl dX6_back_15 ?_
    refine gs_callV (As := [.ref (E.2.2.1 22)]) (k0 := 1) (ci := 5) (T := TX5) (N := 9) k (c_X5_copyFrom1 hI) cf_X5_copyFrom im_X5_copyFrom sl_X5_copyFrom ml_X6_290 (hI 1 (by omega)) rfl rfl (by decide) rfl rfl (Nat.le_of_ble_eq_true rfl) dX6_back_18 (ppV ?_)
    have hF := cpw1_F (hS c1)
    refine gs_aload_n (q := 0) k rfl rfl dX6_back_21 ?_
    refine gs_get (C := RX6) (T := TX6) (N := 10) (ci := 6) (k0 := 0) (j := 0) k (hI 0 (by omega)) rfl rfl inX6 (by decide) fl_X6_12 rfl rfl dX6_back_22 ?_
    refine gs_callV (As := []) (k0 := 1) (ci := 5) (T := TX5) (N := 9) k (c_X5_presentFunctions hI hF) cf_X5_presentFunctions im_X5_presentFunctions sl_X5_presentFunctions ml_X6_294 (hI 1 (by omega)) rfl rfl (by decide) rfl rfl (Nat.le_of_ble_eq_true rfl) dX6_back_25 (ppI ?_)
    exact gs_iret k kt dX6_back_28 ⟨(by simp [-Int32.not_lt, A_back, ifc_T, ifc_F, c1]), (by simp [-Int32.not_lt, A_back, ifc_T, ifc_F, c1])⟩
  · refine gs_bipush (v := -3) k (by decide) dX6_back_7 ?_
    exact gs_iret k kt dX6_back_9 ⟨(by simp [-Int32.not_lt, A_back, ifc_T, ifc_F, c1]), (by simp [-Int32.not_lt, A_back, ifc_T, ifc_F, c1])⟩

theorem cf_X7_rowOf : CF yX7_rowOf cX7_rowOf 2 (some (.array .int)) 1 := ⟨cd_X7_rowOf, iz_X7, by decide, by decide +kernel, by decide +kernel, by decide +kernel⟩
set_option maxRecDepth 100000 in
set_option maxHeartbeats 4000000 in
theorem c_X7_rowOf0 {l : Launch} {E : Ev} {M : Mm} (hI : ∀ k, k < 108 → k ∈ E.2.1) : Cm l E yX7_rowOf cX7_rowOf 2 (some (.array .int)) 0 [.ref (E.2.2.1 65), .int 0] M (pA (E.2.2.1 66) M) := by
  refine Cm.of (by decide) (Nat.le_of_ble_eq_true rfl) (fun K k kt => ?_)
  show G l E K 0 [(0, .ref (E.2.2.1 65)), (1, .int 0)] [] M
  refine gs_iload_n (q := 1) k rfl rfl dX7_rowOf_0 ?_
  refine gs_tableIn (off := 39) (tgt := 40) k (by decide) (by decide) (by decide) (by decide) dX7_rowOf_1 ?_
  refine gs_aload_n (q := 0) k rfl rfl dX7_rowOf_40 ?_
  refine gs_get (C := RX7) (T := TX7) (N := 27) (ci := 7) (k0 := 65) (j := 1) k (hI 65 (by omega)) rfl rfl inX7 (by decide) fl_X7_15 rfl rfl dX7_rowOf_41 ?_
  exact gs_aret k kt (Or.inr ⟨_, rfl⟩) dX7_rowOf_44 ⟨rfl, rfl⟩

set_option maxRecDepth 100000 in
set_option maxHeartbeats 4000000 in
theorem c_X7_rowOf1 {l : Launch} {E : Ev} {M : Mm} (hI : ∀ k, k < 108 → k ∈ E.2.1) : Cm l E yX7_rowOf cX7_rowOf 2 (some (.array .int)) 0 [.ref (E.2.2.1 65), .int 1] M (pA (E.2.2.1 67) M) := by
  refine Cm.of (by decide) (Nat.le_of_ble_eq_true rfl) (fun K k kt => ?_)
  show G l E K 0 [(0, .ref (E.2.2.1 65)), (1, .int 1)] [] M
  refine gs_iload_n (q := 1) k rfl rfl dX7_rowOf_0 ?_
  refine gs_tableIn (off := 44) (tgt := 45) k (by decide) (by decide) (by decide) (by decide) dX7_rowOf_1 ?_
  refine gs_aload_n (q := 0) k rfl rfl dX7_rowOf_45 ?_
  refine gs_get (C := RX7) (T := TX7) (N := 27) (ci := 7) (k0 := 65) (j := 2) k (hI 65 (by omega)) rfl rfl inX7 (by decide) fl_X7_19 rfl rfl dX7_rowOf_46 ?_
  exact gs_aret k kt (Or.inr ⟨_, rfl⟩) dX7_rowOf_49 ⟨rfl, rfl⟩

set_option maxRecDepth 100000 in
set_option maxHeartbeats 4000000 in
theorem c_X7_rowOf2 {l : Launch} {E : Ev} {M : Mm} (hI : ∀ k, k < 108 → k ∈ E.2.1) : Cm l E yX7_rowOf cX7_rowOf 2 (some (.array .int)) 0 [.ref (E.2.2.1 65), .int 2] M (pA (E.2.2.1 68) M) := by
  refine Cm.of (by decide) (Nat.le_of_ble_eq_true rfl) (fun K k kt => ?_)
  show G l E K 0 [(0, .ref (E.2.2.1 65)), (1, .int 2)] [] M
  refine gs_iload_n (q := 1) k rfl rfl dX7_rowOf_0 ?_
  refine gs_tableIn (off := 49) (tgt := 50) k (by decide) (by decide) (by decide) (by decide) dX7_rowOf_1 ?_
  refine gs_aload_n (q := 0) k rfl rfl dX7_rowOf_50 ?_
  refine gs_get (C := RX7) (T := TX7) (N := 27) (ci := 7) (k0 := 65) (j := 3) k (hI 65 (by omega)) rfl rfl inX7 (by decide) fl_X7_22 rfl rfl dX7_rowOf_51 ?_
  exact gs_aret k kt (Or.inr ⟨_, rfl⟩) dX7_rowOf_54 ⟨rfl, rfl⟩

set_option maxRecDepth 100000 in
set_option maxHeartbeats 4000000 in
theorem c_X7_rowOf3 {l : Launch} {E : Ev} {M : Mm} (hI : ∀ k, k < 108 → k ∈ E.2.1) : Cm l E yX7_rowOf cX7_rowOf 2 (some (.array .int)) 0 [.ref (E.2.2.1 65), .int 3] M (pA (E.2.2.1 69) M) := by
  refine Cm.of (by decide) (Nat.le_of_ble_eq_true rfl) (fun K k kt => ?_)
  show G l E K 0 [(0, .ref (E.2.2.1 65)), (1, .int 3)] [] M
  refine gs_iload_n (q := 1) k rfl rfl dX7_rowOf_0 ?_
  refine gs_tableIn (off := 54) (tgt := 55) k (by decide) (by decide) (by decide) (by decide) dX7_rowOf_1 ?_
  refine gs_aload_n (q := 0) k rfl rfl dX7_rowOf_55 ?_
  refine gs_get (C := RX7) (T := TX7) (N := 27) (ci := 7) (k0 := 65) (j := 4) k (hI 65 (by omega)) rfl rfl inX7 (by decide) fl_X7_25 rfl rfl dX7_rowOf_56 ?_
  exact gs_aret k kt (Or.inr ⟨_, rfl⟩) dX7_rowOf_59 ⟨rfl, rfl⟩

set_option maxRecDepth 100000 in
set_option maxHeartbeats 4000000 in
theorem c_X7_rowOf4 {l : Launch} {E : Ev} {M : Mm} (hI : ∀ k, k < 108 → k ∈ E.2.1) : Cm l E yX7_rowOf cX7_rowOf 2 (some (.array .int)) 0 [.ref (E.2.2.1 65), .int 4] M (pA (E.2.2.1 70) M) := by
  refine Cm.of (by decide) (Nat.le_of_ble_eq_true rfl) (fun K k kt => ?_)
  show G l E K 0 [(0, .ref (E.2.2.1 65)), (1, .int 4)] [] M
  refine gs_iload_n (q := 1) k rfl rfl dX7_rowOf_0 ?_
  refine gs_tableIn (off := 59) (tgt := 60) k (by decide) (by decide) (by decide) (by decide) dX7_rowOf_1 ?_
  refine gs_aload_n (q := 0) k rfl rfl dX7_rowOf_60 ?_
  refine gs_get (C := RX7) (T := TX7) (N := 27) (ci := 7) (k0 := 65) (j := 5) k (hI 65 (by omega)) rfl rfl inX7 (by decide) fl_X7_28 rfl rfl dX7_rowOf_61 ?_
  exact gs_aret k kt (Or.inr ⟨_, rfl⟩) dX7_rowOf_64 ⟨rfl, rfl⟩

set_option maxRecDepth 100000 in
set_option maxHeartbeats 4000000 in
theorem c_X7_rowOf5 {l : Launch} {E : Ev} {M : Mm} (hI : ∀ k, k < 108 → k ∈ E.2.1) : Cm l E yX7_rowOf cX7_rowOf 2 (some (.array .int)) 0 [.ref (E.2.2.1 65), .int 5] M (pA (E.2.2.1 71) M) := by
  refine Cm.of (by decide) (Nat.le_of_ble_eq_true rfl) (fun K k kt => ?_)
  show G l E K 0 [(0, .ref (E.2.2.1 65)), (1, .int 5)] [] M
  refine gs_iload_n (q := 1) k rfl rfl dX7_rowOf_0 ?_
  refine gs_tableIn (off := 64) (tgt := 65) k (by decide) (by decide) (by decide) (by decide) dX7_rowOf_1 ?_
  refine gs_aload_n (q := 0) k rfl rfl dX7_rowOf_65 ?_
  refine gs_get (C := RX7) (T := TX7) (N := 27) (ci := 7) (k0 := 65) (j := 6) k (hI 65 (by omega)) rfl rfl inX7 (by decide) fl_X7_31 rfl rfl dX7_rowOf_66 ?_
  exact gs_aret k kt (Or.inr ⟨_, rfl⟩) dX7_rowOf_69 ⟨rfl, rfl⟩

set_option maxRecDepth 100000 in
set_option maxHeartbeats 4000000 in
theorem c_X7_rowOf6 {l : Launch} {E : Ev} {M : Mm} (hI : ∀ k, k < 108 → k ∈ E.2.1) : Cm l E yX7_rowOf cX7_rowOf 2 (some (.array .int)) 0 [.ref (E.2.2.1 65), .int 6] M (pA (E.2.2.1 72) M) := by
  refine Cm.of (by decide) (Nat.le_of_ble_eq_true rfl) (fun K k kt => ?_)
  show G l E K 0 [(0, .ref (E.2.2.1 65)), (1, .int 6)] [] M
  refine gs_iload_n (q := 1) k rfl rfl dX7_rowOf_0 ?_
  refine gs_tableOut (tgt := 70) k (by decide) (by decide) dX7_rowOf_1 ?_
  refine gs_aload_n (q := 0) k rfl rfl dX7_rowOf_70 ?_
  refine gs_get (C := RX7) (T := TX7) (N := 27) (ci := 7) (k0 := 65) (j := 7) k (hI 65 (by omega)) rfl rfl inX7 (by decide) fl_X7_34 rfl rfl dX7_rowOf_71 ?_
  exact gs_aret k kt (Or.inr ⟨_, rfl⟩) dX7_rowOf_74 ⟨rfl, rfl⟩

def imR (M : Mm) : Mm := (rset (rset (rset (rset (rset (rset (rset (rset (rset (rset (rset (rset (rset (mw (mw M 65 23 1) 65 24 (M 65 0)) 94 (setr 36 (M 66) (M 94))) 95 (setr 8 (M 67) (M 95))) 96 (setr 8 (M 68) (M 96))) 97 (setr 6 (M 69) (M 97))) 98 (setr 6 (M 70) (M 98))) 99 (setr 6 (M 71) (M 99))) 100 (setr 6 (M 72) (M 100))) 102 (setr 64 (M 74) (M 102))) 103 (setr 64 (M 75) (M 103))) 104 (setr 64 (M 76) (M 104))) 105 (setr 64 (M 77) (M 105))) 106 (setr 64 (M 78) (M 106))) 107 (setr 64 (M 79) (M 107)))
def bkR (M : Mm) : Mm := (rset (rset (rset (rset (rset (rset (rset (rset (rset (rset (rset (rset (rset (mw M 65 0 (M 65 24)) 66 (setr 36 (M 94) (M 66))) 67 (setr 8 (M 95) (M 67))) 68 (setr 8 (M 96) (M 68))) 69 (setr 6 (M 97) (M 69))) 70 (setr 6 (M 98) (M 70))) 71 (setr 6 (M 99) (M 71))) 72 (setr 6 (M 100) (M 72))) 74 (setr 64 (M 102) (M 74))) 75 (setr 64 (M 103) (M 75))) 76 (setr 64 (M 104) (M 76))) 77 (setr 64 (M 105) (M 77))) 78 (setr 64 (M 106) (M 78))) 79 (setr 64 (M 107) (M 79)))
theorem bkR_k {M : Mm} {f : Nat} (hf : f < 6) : bkR M 72 f = M 100 f := by
  unfold bkR
  refine rdr (by omega) (rdr (by omega) (rdr (by omega) (rdr (by omega) (rdr (by omega) (rdr (by omega) ?_)))))
  rw [rset_eq, setr_in hf]
theorem bkR_v {M : Mm} {f j : Nat} (hf : f < 6) (hj : j < 64) : bkR M (74 + f) j = M (102 + f) j :=
  match f, hf with
  | 0, _ => rdr (by omega) (rdr (by omega) (rdr (by omega) (rdr (by omega) (rdr (by omega) ((congrFun (rset_eq _ _ _) _).trans (setr_in hj))))))
  | 1, _ => rdr (by omega) (rdr (by omega) (rdr (by omega) (rdr (by omega) ((congrFun (rset_eq _ _ _) _).trans (setr_in hj)))))
  | 2, _ => rdr (by omega) (rdr (by omega) (rdr (by omega) ((congrFun (rset_eq _ _ _) _).trans (setr_in hj))))
  | 3, _ => rdr (by omega) (rdr (by omega) ((congrFun (rset_eq _ _ _) _).trans (setr_in hj)))
  | 4, _ => rdr (by omega) ((congrFun (rset_eq _ _ _) _).trans (setr_in hj))
  | 5, _ => (congrFun (rset_eq _ _ _) _).trans (setr_in hj)
  | f + 6, h => absurd h (by omega)
theorem bkR_F {M : Mm} {n : Nat} {kd : Nat → Int32} {V : Nat → Nat → Int32} (h : RSv M n kd V) : RFn (bkR M) n kd V := fun f hf => by
  obtain ⟨⟨-, -, h6⟩, h⟩ := h
  obtain ⟨h1, h2, h3⟩ := h f hf
  have := p2_le6 h6
  exact ⟨(bkR_k hf).trans h1, h2, fun t s hs => (bkR_v hf (by omega)).trans (h3 t s hs)⟩
theorem cf_X7_image : CF yX7_image cX7_image 2 (some .int) 0 := ⟨cd_X7_image, iz_X7, by decide, by decide +kernel, by decide +kernel, by decide +kernel⟩
set_option maxRecDepth 100000 in
set_option maxHeartbeats 4000000 in
theorem c_X7_image {l : Launch} {E : Ev} {M : Mm} {n : Nat} {kd : Nat → Int32} {V : Nat → Nat → Int32} (hI : ∀ k, k < 108 → k ∈ E.2.1) (hn : Rn M n) (hF : RFn M n kd V) : Cm l E yX7_image cX7_image 2 (some .int) 2 [.ref (E.2.2.1 65)] M (pI (nI (prs kd)) (imR M)) := by
  refine Cm.of (by decide) (Nat.le_of_ble_eq_true rfl) (fun K k kt => ?_)
  show G l E K 0 [(0, .ref (E.2.2.1 65))] [] M
  refine gs_aload_n (q := 0) k rfl rfl dX7_image_0 ?_
  refine gs_iconst (v := 1) k (by decide) dX7_image_1 ?_
  refine gs_put (C := RX7) (T := TX7) (N := 27) (ci := 7) (k0 := 65) (j := 23) (ty := .boolean) k (hI 65 (by omega)) rfl rfl rfl inX7 tyX7 tyX7_ok nmX7 (by decide) fl_X7_365 rfl rfl (tyX7_ok 23 (by decide)) rfl rfl (Nat.le_of_ble_eq_true rfl) dX7_image_2 ?_
  refine gs_aload_n (q := 0) k rfl rfl dX7_image_5 ?_
  refine gs_aload_n (q := 0) k rfl rfl dX7_image_6 ?_
  refine gs_get (C := RX7) (T := TX7) (N := 27) (ci := 7) (k0 := 65) (j := 0) k (hI 65 (by omega)) rfl rfl inX7 (by decide) fl_X7_9 rfl rfl dX7_image_7 ?_
  refine gs_top (y := M 65 0) (rdj (by decide) (rfl)) ?_
  refine gs_put (C := RX7) (T := TX7) (N := 27) (ci := 7) (k0 := 65) (j := 24) (ty := .int) k (hI 65 (by omega)) rfl rfl rfl inX7 tyX7 tyX7_ok nmX7 (by decide) fl_X7_369 rfl rfl (tyX7_ok 24 (by decide)) rfl rfl (Nat.le_of_ble_eq_true rfl) dX7_image_10 ?_
  refine gs_iconst (v := 0) k (by decide) dX7_image_13 ?_
  refine gs_istore_n (lv' := [(1, .int 0), (0, .ref (E.2.2.1 65))]) k rfl (by decide) rfl dX7_image_14 ?_
  refine gs_iload_n (q := 0) k rfl rfl dX7_image_15 ?_
  refine gs_bipush (v := 7) k (by decide) dX7_image_16 ?_
  refine gs_icmp_ge (tgt := 49) k (by decide) dX7_image_18 (fun h => absurd h (by decide)) (fun _ => ?_)
  refine gs_aload_n (q := 1) k rfl rfl dX7_image_21 ?_
  refine gs_iload_n (q := 0) k rfl rfl dX7_image_22 ?_
  refine gs_callV (As := [.int 0]) (k0 := 65) (ci := 7) (T := TX7) (N := 27) k (c_X7_rowOf0 hI) cf_X7_rowOf im_X7_rowOf sl_X7_rowOf ml_X7_372 (hI 65 (by omega)) rfl rfl (by decide) rfl rfl (Nat.le_of_ble_eq_true rfl) dX7_image_23 (ppA ?_)
  refine gs_iconst (v := 0) k (by decide) dX7_image_26 ?_
  refine gs_aload_n (q := 1) k rfl rfl dX7_image_27 ?_
  refine gs_get (C := RX7) (T := TX7) (N := 27) (ci := 7) (k0 := 65) (j := 25) k (hI 65 (by omega)) rfl rfl inX7 (by decide) fl_X7_70 rfl rfl dX7_image_28 ?_
  refine gs_iload_n (q := 0) k rfl rfl dX7_image_31 ?_
  refine gs_aaldIN (k0 := 93) (n := 7) (e := 0) (a := E.2.2.1 94) k (hI 93 (by omega)) (fun _ => rfl) rfl (by omega) (by decide) rfl dX7_image_32 ?_
  refine gs_iconst (v := 0) k (by decide) dX7_image_33 ?_
  refine gs_aload_n (q := 1) k rfl rfl dX7_image_34 ?_
  refine gs_iload_n (q := 0) k rfl rfl dX7_image_35 ?_
  refine gs_callV (As := [.int 0]) (k0 := 65) (ci := 7) (T := TX7) (N := 27) k (c_X7_rowOf0 hI) cf_X7_rowOf im_X7_rowOf sl_X7_rowOf ml_X7_372 (hI 65 (by omega)) rfl rfl (by decide) rfl rfl (Nat.le_of_ble_eq_true rfl) dX7_image_36 (ppA ?_)
  refine gs_alen (k0 := 66) (n := 36) k (hI 66 (by omega)) (fun _ => rfl) rfl dX7_image_39 ?_
  refine gs_copy (k0 := 66) (k1 := 94) (n0 := 36) (n1 := 36) (n := 36) k ml_X7_376 (hI 66 (by omega)) (fun _ => rfl) (hI 94 (by omega)) (fun _ => rfl) (by decide) (by omega) (by omega) (by omega) (Nat.le_of_ble_eq_true rfl) dX7_image_40 ?_
  refine gs_M (M' := (rset (mw (mw M 65 23 (1)) 65 24 (M 65 0)) 94 (setr 36 (M 66) (M 94)))) (congrArg (rset (mw (mw M 65 23 (1)) 65 24 (M 65 0)) 94) ((cpy_setr _ _ _).trans (setr_rows (rown (by omega) (rown (by omega) rfl)) (rown (by omega) (rown (by omega) rfl))))) ?_
  refine gs_iinc (q := 0) (v := 1) (lv' := [(1, .int 1), (0, .ref (E.2.2.1 65))]) k rfl (by decide) (by decide) rfl dX7_image_43 ?_
  refine gs_goto (tgt := 15) k (by decide) dX7_image_46 ?_
  refine gs_iload_n (q := 0) k rfl rfl dX7_image_15 ?_
  refine gs_bipush (v := 7) k (by decide) dX7_image_16 ?_
  refine gs_icmp_ge (tgt := 49) k (by decide) dX7_image_18 (fun h => absurd h (by decide)) (fun _ => ?_)
  refine gs_aload_n (q := 1) k rfl rfl dX7_image_21 ?_
  refine gs_iload_n (q := 0) k rfl rfl dX7_image_22 ?_
  refine gs_callV (As := [.int 1]) (k0 := 65) (ci := 7) (T := TX7) (N := 27) k (c_X7_rowOf1 hI) cf_X7_rowOf im_X7_rowOf sl_X7_rowOf ml_X7_372 (hI 65 (by omega)) rfl rfl (by decide) rfl rfl (Nat.le_of_ble_eq_true rfl) dX7_image_23 (ppA ?_)
  refine gs_iconst (v := 0) k (by decide) dX7_image_26 ?_
  refine gs_aload_n (q := 1) k rfl rfl dX7_image_27 ?_
  refine gs_get (C := RX7) (T := TX7) (N := 27) (ci := 7) (k0 := 65) (j := 25) k (hI 65 (by omega)) rfl rfl inX7 (by decide) fl_X7_70 rfl rfl dX7_image_28 ?_
  refine gs_iload_n (q := 0) k rfl rfl dX7_image_31 ?_
  refine gs_aaldIN (k0 := 93) (n := 7) (e := 1) (a := E.2.2.1 95) k (hI 93 (by omega)) (fun _ => rfl) rfl (by omega) (by decide) rfl dX7_image_32 ?_
  refine gs_iconst (v := 0) k (by decide) dX7_image_33 ?_
  refine gs_aload_n (q := 1) k rfl rfl dX7_image_34 ?_
  refine gs_iload_n (q := 0) k rfl rfl dX7_image_35 ?_
  refine gs_callV (As := [.int 1]) (k0 := 65) (ci := 7) (T := TX7) (N := 27) k (c_X7_rowOf1 hI) cf_X7_rowOf im_X7_rowOf sl_X7_rowOf ml_X7_372 (hI 65 (by omega)) rfl rfl (by decide) rfl rfl (Nat.le_of_ble_eq_true rfl) dX7_image_36 (ppA ?_)
  refine gs_alen (k0 := 67) (n := 8) k (hI 67 (by omega)) (fun _ => rfl) rfl dX7_image_39 ?_
  refine gs_copy (k0 := 67) (k1 := 95) (n0 := 8) (n1 := 36) (n := 8) k ml_X7_376 (hI 67 (by omega)) (fun _ => rfl) (hI 95 (by omega)) (fun _ => rfl) (by decide) (by omega) (by omega) (by omega) (Nat.le_of_ble_eq_true rfl) dX7_image_40 ?_
  refine gs_M (M' := (rset (rset (mw (mw M 65 23 (1)) 65 24 (M 65 0)) 94 (setr 36 (M 66) (M 94))) 95 (setr 8 (M 67) (M 95)))) (congrArg (rset (rset (mw (mw M 65 23 (1)) 65 24 (M 65 0)) 94 (setr 36 (M 66) (M 94))) 95) ((cpy_setr _ _ _).trans (setr_rows (rowr (by omega) (rown (by omega) (rown (by omega) rfl))) (rowr (by omega) (rown (by omega) (rown (by omega) rfl)))))) ?_
  refine gs_iinc (q := 0) (v := 2) (lv' := [(1, .int 2), (0, .ref (E.2.2.1 65))]) k rfl (by decide) (by decide) rfl dX7_image_43 ?_
  refine gs_goto (tgt := 15) k (by decide) dX7_image_46 ?_
  refine gs_iload_n (q := 0) k rfl rfl dX7_image_15 ?_
  refine gs_bipush (v := 7) k (by decide) dX7_image_16 ?_
  refine gs_icmp_ge (tgt := 49) k (by decide) dX7_image_18 (fun h => absurd h (by decide)) (fun _ => ?_)
  refine gs_aload_n (q := 1) k rfl rfl dX7_image_21 ?_
  refine gs_iload_n (q := 0) k rfl rfl dX7_image_22 ?_
  refine gs_callV (As := [.int 2]) (k0 := 65) (ci := 7) (T := TX7) (N := 27) k (c_X7_rowOf2 hI) cf_X7_rowOf im_X7_rowOf sl_X7_rowOf ml_X7_372 (hI 65 (by omega)) rfl rfl (by decide) rfl rfl (Nat.le_of_ble_eq_true rfl) dX7_image_23 (ppA ?_)
  refine gs_iconst (v := 0) k (by decide) dX7_image_26 ?_
  refine gs_aload_n (q := 1) k rfl rfl dX7_image_27 ?_
  refine gs_get (C := RX7) (T := TX7) (N := 27) (ci := 7) (k0 := 65) (j := 25) k (hI 65 (by omega)) rfl rfl inX7 (by decide) fl_X7_70 rfl rfl dX7_image_28 ?_
  refine gs_iload_n (q := 0) k rfl rfl dX7_image_31 ?_
  refine gs_aaldIN (k0 := 93) (n := 7) (e := 2) (a := E.2.2.1 96) k (hI 93 (by omega)) (fun _ => rfl) rfl (by omega) (by decide) rfl dX7_image_32 ?_
  refine gs_iconst (v := 0) k (by decide) dX7_image_33 ?_
  refine gs_aload_n (q := 1) k rfl rfl dX7_image_34 ?_
  refine gs_iload_n (q := 0) k rfl rfl dX7_image_35 ?_
  refine gs_callV (As := [.int 2]) (k0 := 65) (ci := 7) (T := TX7) (N := 27) k (c_X7_rowOf2 hI) cf_X7_rowOf im_X7_rowOf sl_X7_rowOf ml_X7_372 (hI 65 (by omega)) rfl rfl (by decide) rfl rfl (Nat.le_of_ble_eq_true rfl) dX7_image_36 (ppA ?_)
  refine gs_alen (k0 := 68) (n := 8) k (hI 68 (by omega)) (fun _ => rfl) rfl dX7_image_39 ?_
  refine gs_copy (k0 := 68) (k1 := 96) (n0 := 8) (n1 := 36) (n := 8) k ml_X7_376 (hI 68 (by omega)) (fun _ => rfl) (hI 96 (by omega)) (fun _ => rfl) (by decide) (by omega) (by omega) (by omega) (Nat.le_of_ble_eq_true rfl) dX7_image_40 ?_
  refine gs_M (M' := (rset (rset (rset (mw (mw M 65 23 (1)) 65 24 (M 65 0)) 94 (setr 36 (M 66) (M 94))) 95 (setr 8 (M 67) (M 95))) 96 (setr 8 (M 68) (M 96)))) (congrArg (rset (rset (rset (mw (mw M 65 23 (1)) 65 24 (M 65 0)) 94 (setr 36 (M 66) (M 94))) 95 (setr 8 (M 67) (M 95))) 96) ((cpy_setr _ _ _).trans (setr_rows (rowr (by omega) (rowr (by omega) (rown (by omega) (rown (by omega) rfl)))) (rowr (by omega) (rowr (by omega) (rown (by omega) (rown (by omega) rfl))))))) ?_
  refine gs_iinc (q := 0) (v := 3) (lv' := [(1, .int 3), (0, .ref (E.2.2.1 65))]) k rfl (by decide) (by decide) rfl dX7_image_43 ?_
  refine gs_goto (tgt := 15) k (by decide) dX7_image_46 ?_
  refine gs_iload_n (q := 0) k rfl rfl dX7_image_15 ?_
  refine gs_bipush (v := 7) k (by decide) dX7_image_16 ?_
  refine gs_icmp_ge (tgt := 49) k (by decide) dX7_image_18 (fun h => absurd h (by decide)) (fun _ => ?_)
  refine gs_aload_n (q := 1) k rfl rfl dX7_image_21 ?_
  refine gs_iload_n (q := 0) k rfl rfl dX7_image_22 ?_
  refine gs_callV (As := [.int 3]) (k0 := 65) (ci := 7) (T := TX7) (N := 27) k (c_X7_rowOf3 hI) cf_X7_rowOf im_X7_rowOf sl_X7_rowOf ml_X7_372 (hI 65 (by omega)) rfl rfl (by decide) rfl rfl (Nat.le_of_ble_eq_true rfl) dX7_image_23 (ppA ?_)
  refine gs_iconst (v := 0) k (by decide) dX7_image_26 ?_
  refine gs_aload_n (q := 1) k rfl rfl dX7_image_27 ?_
  refine gs_get (C := RX7) (T := TX7) (N := 27) (ci := 7) (k0 := 65) (j := 25) k (hI 65 (by omega)) rfl rfl inX7 (by decide) fl_X7_70 rfl rfl dX7_image_28 ?_
  refine gs_iload_n (q := 0) k rfl rfl dX7_image_31 ?_
  refine gs_aaldIN (k0 := 93) (n := 7) (e := 3) (a := E.2.2.1 97) k (hI 93 (by omega)) (fun _ => rfl) rfl (by omega) (by decide) rfl dX7_image_32 ?_
  refine gs_iconst (v := 0) k (by decide) dX7_image_33 ?_
  refine gs_aload_n (q := 1) k rfl rfl dX7_image_34 ?_
  refine gs_iload_n (q := 0) k rfl rfl dX7_image_35 ?_
  refine gs_callV (As := [.int 3]) (k0 := 65) (ci := 7) (T := TX7) (N := 27) k (c_X7_rowOf3 hI) cf_X7_rowOf im_X7_rowOf sl_X7_rowOf ml_X7_372 (hI 65 (by omega)) rfl rfl (by decide) rfl rfl (Nat.le_of_ble_eq_true rfl) dX7_image_36 (ppA ?_)
  refine gs_alen (k0 := 69) (n := 6) k (hI 69 (by omega)) (fun _ => rfl) rfl dX7_image_39 ?_
  refine gs_copy (k0 := 69) (k1 := 97) (n0 := 6) (n1 := 36) (n := 6) k ml_X7_376 (hI 69 (by omega)) (fun _ => rfl) (hI 97 (by omega)) (fun _ => rfl) (by decide) (by omega) (by omega) (by omega) (Nat.le_of_ble_eq_true rfl) dX7_image_40 ?_
  refine gs_M (M' := (rset (rset (rset (rset (mw (mw M 65 23 (1)) 65 24 (M 65 0)) 94 (setr 36 (M 66) (M 94))) 95 (setr 8 (M 67) (M 95))) 96 (setr 8 (M 68) (M 96))) 97 (setr 6 (M 69) (M 97)))) (congrArg (rset (rset (rset (rset (mw (mw M 65 23 (1)) 65 24 (M 65 0)) 94 (setr 36 (M 66) (M 94))) 95 (setr 8 (M 67) (M 95))) 96 (setr 8 (M 68) (M 96))) 97) ((cpy_setr _ _ _).trans (setr_rows (rowr (by omega) (rowr (by omega) (rowr (by omega) (rown (by omega) (rown (by omega) rfl))))) (rowr (by omega) (rowr (by omega) (rowr (by omega) (rown (by omega) (rown (by omega) rfl)))))))) ?_
  refine gs_iinc (q := 0) (v := 4) (lv' := [(1, .int 4), (0, .ref (E.2.2.1 65))]) k rfl (by decide) (by decide) rfl dX7_image_43 ?_
  refine gs_goto (tgt := 15) k (by decide) dX7_image_46 ?_
  refine gs_iload_n (q := 0) k rfl rfl dX7_image_15 ?_
  refine gs_bipush (v := 7) k (by decide) dX7_image_16 ?_
  refine gs_icmp_ge (tgt := 49) k (by decide) dX7_image_18 (fun h => absurd h (by decide)) (fun _ => ?_)
  refine gs_aload_n (q := 1) k rfl rfl dX7_image_21 ?_
  refine gs_iload_n (q := 0) k rfl rfl dX7_image_22 ?_
  refine gs_callV (As := [.int 4]) (k0 := 65) (ci := 7) (T := TX7) (N := 27) k (c_X7_rowOf4 hI) cf_X7_rowOf im_X7_rowOf sl_X7_rowOf ml_X7_372 (hI 65 (by omega)) rfl rfl (by decide) rfl rfl (Nat.le_of_ble_eq_true rfl) dX7_image_23 (ppA ?_)
  refine gs_iconst (v := 0) k (by decide) dX7_image_26 ?_
  refine gs_aload_n (q := 1) k rfl rfl dX7_image_27 ?_
  refine gs_get (C := RX7) (T := TX7) (N := 27) (ci := 7) (k0 := 65) (j := 25) k (hI 65 (by omega)) rfl rfl inX7 (by decide) fl_X7_70 rfl rfl dX7_image_28 ?_
  refine gs_iload_n (q := 0) k rfl rfl dX7_image_31 ?_
  refine gs_aaldIN (k0 := 93) (n := 7) (e := 4) (a := E.2.2.1 98) k (hI 93 (by omega)) (fun _ => rfl) rfl (by omega) (by decide) rfl dX7_image_32 ?_
  refine gs_iconst (v := 0) k (by decide) dX7_image_33 ?_
  refine gs_aload_n (q := 1) k rfl rfl dX7_image_34 ?_
  refine gs_iload_n (q := 0) k rfl rfl dX7_image_35 ?_
  refine gs_callV (As := [.int 4]) (k0 := 65) (ci := 7) (T := TX7) (N := 27) k (c_X7_rowOf4 hI) cf_X7_rowOf im_X7_rowOf sl_X7_rowOf ml_X7_372 (hI 65 (by omega)) rfl rfl (by decide) rfl rfl (Nat.le_of_ble_eq_true rfl) dX7_image_36 (ppA ?_)
  refine gs_alen (k0 := 70) (n := 6) k (hI 70 (by omega)) (fun _ => rfl) rfl dX7_image_39 ?_
  refine gs_copy (k0 := 70) (k1 := 98) (n0 := 6) (n1 := 36) (n := 6) k ml_X7_376 (hI 70 (by omega)) (fun _ => rfl) (hI 98 (by omega)) (fun _ => rfl) (by decide) (by omega) (by omega) (by omega) (Nat.le_of_ble_eq_true rfl) dX7_image_40 ?_
  refine gs_M (M' := (rset (rset (rset (rset (rset (mw (mw M 65 23 (1)) 65 24 (M 65 0)) 94 (setr 36 (M 66) (M 94))) 95 (setr 8 (M 67) (M 95))) 96 (setr 8 (M 68) (M 96))) 97 (setr 6 (M 69) (M 97))) 98 (setr 6 (M 70) (M 98)))) (congrArg (rset (rset (rset (rset (rset (mw (mw M 65 23 (1)) 65 24 (M 65 0)) 94 (setr 36 (M 66) (M 94))) 95 (setr 8 (M 67) (M 95))) 96 (setr 8 (M 68) (M 96))) 97 (setr 6 (M 69) (M 97))) 98) ((cpy_setr _ _ _).trans (setr_rows (rowr (by omega) (rowr (by omega) (rowr (by omega) (rowr (by omega) (rown (by omega) (rown (by omega) rfl)))))) (rowr (by omega) (rowr (by omega) (rowr (by omega) (rowr (by omega) (rown (by omega) (rown (by omega) rfl))))))))) ?_
  refine gs_iinc (q := 0) (v := 5) (lv' := [(1, .int 5), (0, .ref (E.2.2.1 65))]) k rfl (by decide) (by decide) rfl dX7_image_43 ?_
  refine gs_goto (tgt := 15) k (by decide) dX7_image_46 ?_
  refine gs_iload_n (q := 0) k rfl rfl dX7_image_15 ?_
  refine gs_bipush (v := 7) k (by decide) dX7_image_16 ?_
  refine gs_icmp_ge (tgt := 49) k (by decide) dX7_image_18 (fun h => absurd h (by decide)) (fun _ => ?_)
  refine gs_aload_n (q := 1) k rfl rfl dX7_image_21 ?_
  refine gs_iload_n (q := 0) k rfl rfl dX7_image_22 ?_
  refine gs_callV (As := [.int 5]) (k0 := 65) (ci := 7) (T := TX7) (N := 27) k (c_X7_rowOf5 hI) cf_X7_rowOf im_X7_rowOf sl_X7_rowOf ml_X7_372 (hI 65 (by omega)) rfl rfl (by decide) rfl rfl (Nat.le_of_ble_eq_true rfl) dX7_image_23 (ppA ?_)
  refine gs_iconst (v := 0) k (by decide) dX7_image_26 ?_
  refine gs_aload_n (q := 1) k rfl rfl dX7_image_27 ?_
  refine gs_get (C := RX7) (T := TX7) (N := 27) (ci := 7) (k0 := 65) (j := 25) k (hI 65 (by omega)) rfl rfl inX7 (by decide) fl_X7_70 rfl rfl dX7_image_28 ?_
  refine gs_iload_n (q := 0) k rfl rfl dX7_image_31 ?_
  refine gs_aaldIN (k0 := 93) (n := 7) (e := 5) (a := E.2.2.1 99) k (hI 93 (by omega)) (fun _ => rfl) rfl (by omega) (by decide) rfl dX7_image_32 ?_
  refine gs_iconst (v := 0) k (by decide) dX7_image_33 ?_
  refine gs_aload_n (q := 1) k rfl rfl dX7_image_34 ?_
  refine gs_iload_n (q := 0) k rfl rfl dX7_image_35 ?_
  refine gs_callV (As := [.int 5]) (k0 := 65) (ci := 7) (T := TX7) (N := 27) k (c_X7_rowOf5 hI) cf_X7_rowOf im_X7_rowOf sl_X7_rowOf ml_X7_372 (hI 65 (by omega)) rfl rfl (by decide) rfl rfl (Nat.le_of_ble_eq_true rfl) dX7_image_36 (ppA ?_)
  refine gs_alen (k0 := 71) (n := 6) k (hI 71 (by omega)) (fun _ => rfl) rfl dX7_image_39 ?_
  refine gs_copy (k0 := 71) (k1 := 99) (n0 := 6) (n1 := 36) (n := 6) k ml_X7_376 (hI 71 (by omega)) (fun _ => rfl) (hI 99 (by omega)) (fun _ => rfl) (by decide) (by omega) (by omega) (by omega) (Nat.le_of_ble_eq_true rfl) dX7_image_40 ?_
  refine gs_M (M' := (rset (rset (rset (rset (rset (rset (mw (mw M 65 23 (1)) 65 24 (M 65 0)) 94 (setr 36 (M 66) (M 94))) 95 (setr 8 (M 67) (M 95))) 96 (setr 8 (M 68) (M 96))) 97 (setr 6 (M 69) (M 97))) 98 (setr 6 (M 70) (M 98))) 99 (setr 6 (M 71) (M 99)))) (congrArg (rset (rset (rset (rset (rset (rset (mw (mw M 65 23 (1)) 65 24 (M 65 0)) 94 (setr 36 (M 66) (M 94))) 95 (setr 8 (M 67) (M 95))) 96 (setr 8 (M 68) (M 96))) 97 (setr 6 (M 69) (M 97))) 98 (setr 6 (M 70) (M 98))) 99) ((cpy_setr _ _ _).trans (setr_rows (rowr (by omega) (rowr (by omega) (rowr (by omega) (rowr (by omega) (rowr (by omega) (rown (by omega) (rown (by omega) rfl))))))) (rowr (by omega) (rowr (by omega) (rowr (by omega) (rowr (by omega) (rowr (by omega) (rown (by omega) (rown (by omega) rfl)))))))))) ?_
  refine gs_iinc (q := 0) (v := 6) (lv' := [(1, .int 6), (0, .ref (E.2.2.1 65))]) k rfl (by decide) (by decide) rfl dX7_image_43 ?_
  refine gs_goto (tgt := 15) k (by decide) dX7_image_46 ?_
  refine gs_iload_n (q := 0) k rfl rfl dX7_image_15 ?_
  refine gs_bipush (v := 7) k (by decide) dX7_image_16 ?_
  refine gs_icmp_ge (tgt := 49) k (by decide) dX7_image_18 (fun h => absurd h (by decide)) (fun _ => ?_)
  refine gs_aload_n (q := 1) k rfl rfl dX7_image_21 ?_
  refine gs_iload_n (q := 0) k rfl rfl dX7_image_22 ?_
  refine gs_callV (As := [.int 6]) (k0 := 65) (ci := 7) (T := TX7) (N := 27) k (c_X7_rowOf6 hI) cf_X7_rowOf im_X7_rowOf sl_X7_rowOf ml_X7_372 (hI 65 (by omega)) rfl rfl (by decide) rfl rfl (Nat.le_of_ble_eq_true rfl) dX7_image_23 (ppA ?_)
  refine gs_iconst (v := 0) k (by decide) dX7_image_26 ?_
  refine gs_aload_n (q := 1) k rfl rfl dX7_image_27 ?_
  refine gs_get (C := RX7) (T := TX7) (N := 27) (ci := 7) (k0 := 65) (j := 25) k (hI 65 (by omega)) rfl rfl inX7 (by decide) fl_X7_70 rfl rfl dX7_image_28 ?_
  refine gs_iload_n (q := 0) k rfl rfl dX7_image_31 ?_
  refine gs_aaldIN (k0 := 93) (n := 7) (e := 6) (a := E.2.2.1 100) k (hI 93 (by omega)) (fun _ => rfl) rfl (by omega) (by decide) rfl dX7_image_32 ?_
  refine gs_iconst (v := 0) k (by decide) dX7_image_33 ?_
  refine gs_aload_n (q := 1) k rfl rfl dX7_image_34 ?_
  refine gs_iload_n (q := 0) k rfl rfl dX7_image_35 ?_
  refine gs_callV (As := [.int 6]) (k0 := 65) (ci := 7) (T := TX7) (N := 27) k (c_X7_rowOf6 hI) cf_X7_rowOf im_X7_rowOf sl_X7_rowOf ml_X7_372 (hI 65 (by omega)) rfl rfl (by decide) rfl rfl (Nat.le_of_ble_eq_true rfl) dX7_image_36 (ppA ?_)
  refine gs_alen (k0 := 72) (n := 6) k (hI 72 (by omega)) (fun _ => rfl) rfl dX7_image_39 ?_
  refine gs_copy (k0 := 72) (k1 := 100) (n0 := 6) (n1 := 36) (n := 6) k ml_X7_376 (hI 72 (by omega)) (fun _ => rfl) (hI 100 (by omega)) (fun _ => rfl) (by decide) (by omega) (by omega) (by omega) (Nat.le_of_ble_eq_true rfl) dX7_image_40 ?_
  refine gs_M (M' := (rset (rset (rset (rset (rset (rset (rset (mw (mw M 65 23 (1)) 65 24 (M 65 0)) 94 (setr 36 (M 66) (M 94))) 95 (setr 8 (M 67) (M 95))) 96 (setr 8 (M 68) (M 96))) 97 (setr 6 (M 69) (M 97))) 98 (setr 6 (M 70) (M 98))) 99 (setr 6 (M 71) (M 99))) 100 (setr 6 (M 72) (M 100)))) (congrArg (rset (rset (rset (rset (rset (rset (rset (mw (mw M 65 23 (1)) 65 24 (M 65 0)) 94 (setr 36 (M 66) (M 94))) 95 (setr 8 (M 67) (M 95))) 96 (setr 8 (M 68) (M 96))) 97 (setr 6 (M 69) (M 97))) 98 (setr 6 (M 70) (M 98))) 99 (setr 6 (M 71) (M 99))) 100) ((cpy_setr _ _ _).trans (setr_rows (rowr (by omega) (rowr (by omega) (rowr (by omega) (rowr (by omega) (rowr (by omega) (rowr (by omega) (rown (by omega) (rown (by omega) rfl)))))))) (rowr (by omega) (rowr (by omega) (rowr (by omega) (rowr (by omega) (rowr (by omega) (rowr (by omega) (rown (by omega) (rown (by omega) rfl))))))))))) ?_
  refine gs_iinc (q := 0) (v := 7) (lv' := [(1, .int 7), (0, .ref (E.2.2.1 65))]) k rfl (by decide) (by decide) rfl dX7_image_43 ?_
  refine gs_goto (tgt := 15) k (by decide) dX7_image_46 ?_
  refine gs_iload_n (q := 0) k rfl rfl dX7_image_15 ?_
  refine gs_bipush (v := 7) k (by decide) dX7_image_16 ?_
  refine gs_icmp_ge (tgt := 49) k (by decide) dX7_image_18 (fun _ => ?_) (fun h => absurd h (by decide))
  refine gs_iconst (v := 0) k (by decide) dX7_image_49 ?_
  refine gs_istore_n (lv' := [(1, .int 0), (0, .ref (E.2.2.1 65))]) k rfl (by decide) rfl dX7_image_50 ?_
  refine gs_iload_n (q := 0) k rfl rfl dX7_image_51 ?_
  refine gs_bipush (v := 6) k (by decide) dX7_image_52 ?_
  refine gs_icmp_ge (tgt := 82) k (by decide) dX7_image_54 (fun h => absurd h (by decide)) (fun _ => ?_)
  refine gs_aload_n (q := 1) k rfl rfl dX7_image_57 ?_
  refine gs_get (C := RX7) (T := TX7) (N := 27) (ci := 7) (k0 := 65) (j := 8) k (hI 65 (by omega)) rfl rfl inX7 (by decide) fl_X7_39 rfl rfl dX7_image_58 ?_
  refine gs_iload_n (q := 0) k rfl rfl dX7_image_61 ?_
  refine gs_aaldIN (k0 := 73) (n := 6) (e := 0) (a := E.2.2.1 74) k (hI 73 (by omega)) (fun _ => rfl) rfl (by omega) (by decide) rfl dX7_image_62 ?_
  refine gs_iconst (v := 0) k (by decide) dX7_image_63 ?_
  refine gs_aload_n (q := 1) k rfl rfl dX7_image_64 ?_
  refine gs_get (C := RX7) (T := TX7) (N := 27) (ci := 7) (k0 := 65) (j := 26) k (hI 65 (by omega)) rfl rfl inX7 (by decide) fl_X7_73 rfl rfl dX7_image_65 ?_
  refine gs_iload_n (q := 0) k rfl rfl dX7_image_68 ?_
  refine gs_aaldIN (k0 := 101) (n := 6) (e := 0) (a := E.2.2.1 102) k (hI 101 (by omega)) (fun _ => rfl) rfl (by omega) (by decide) rfl dX7_image_69 ?_
  refine gs_iconst (v := 0) k (by decide) dX7_image_70 ?_
  refine gs_bipush (v := 64) k (by decide) dX7_image_71 ?_
  refine gs_copy (k0 := 74) (k1 := 102) (n0 := 64) (n1 := 64) (n := 64) k ml_X7_376 (hI 74 (by omega)) (fun _ => rfl) (hI 102 (by omega)) (fun _ => rfl) (by decide) (by omega) (by omega) (by omega) (Nat.le_of_ble_eq_true rfl) dX7_image_73 ?_
  refine gs_M (M' := (rset (rset (rset (rset (rset (rset (rset (rset (mw (mw M 65 23 (1)) 65 24 (M 65 0)) 94 (setr 36 (M 66) (M 94))) 95 (setr 8 (M 67) (M 95))) 96 (setr 8 (M 68) (M 96))) 97 (setr 6 (M 69) (M 97))) 98 (setr 6 (M 70) (M 98))) 99 (setr 6 (M 71) (M 99))) 100 (setr 6 (M 72) (M 100))) 102 (setr 64 (M 74) (M 102)))) (congrArg (rset (rset (rset (rset (rset (rset (rset (rset (mw (mw M 65 23 (1)) 65 24 (M 65 0)) 94 (setr 36 (M 66) (M 94))) 95 (setr 8 (M 67) (M 95))) 96 (setr 8 (M 68) (M 96))) 97 (setr 6 (M 69) (M 97))) 98 (setr 6 (M 70) (M 98))) 99 (setr 6 (M 71) (M 99))) 100 (setr 6 (M 72) (M 100))) 102) ((cpy_setr _ _ _).trans (setr_rows (rowr (by omega) (rowr (by omega) (rowr (by omega) (rowr (by omega) (rowr (by omega) (rowr (by omega) (rowr (by omega) (rown (by omega) (rown (by omega) rfl))))))))) (rowr (by omega) (rowr (by omega) (rowr (by omega) (rowr (by omega) (rowr (by omega) (rowr (by omega) (rowr (by omega) (rown (by omega) (rown (by omega) rfl)))))))))))) ?_
  refine gs_iinc (q := 0) (v := 1) (lv' := [(1, .int 1), (0, .ref (E.2.2.1 65))]) k rfl (by decide) (by decide) rfl dX7_image_76 ?_
  refine gs_goto (tgt := 51) k (by decide) dX7_image_79 ?_
  refine gs_iload_n (q := 0) k rfl rfl dX7_image_51 ?_
  refine gs_bipush (v := 6) k (by decide) dX7_image_52 ?_
  refine gs_icmp_ge (tgt := 82) k (by decide) dX7_image_54 (fun h => absurd h (by decide)) (fun _ => ?_)
  refine gs_aload_n (q := 1) k rfl rfl dX7_image_57 ?_
  refine gs_get (C := RX7) (T := TX7) (N := 27) (ci := 7) (k0 := 65) (j := 8) k (hI 65 (by omega)) rfl rfl inX7 (by decide) fl_X7_39 rfl rfl dX7_image_58 ?_
  refine gs_iload_n (q := 0) k rfl rfl dX7_image_61 ?_
  refine gs_aaldIN (k0 := 73) (n := 6) (e := 1) (a := E.2.2.1 75) k (hI 73 (by omega)) (fun _ => rfl) rfl (by omega) (by decide) rfl dX7_image_62 ?_
  refine gs_iconst (v := 0) k (by decide) dX7_image_63 ?_
  refine gs_aload_n (q := 1) k rfl rfl dX7_image_64 ?_
  refine gs_get (C := RX7) (T := TX7) (N := 27) (ci := 7) (k0 := 65) (j := 26) k (hI 65 (by omega)) rfl rfl inX7 (by decide) fl_X7_73 rfl rfl dX7_image_65 ?_
  refine gs_iload_n (q := 0) k rfl rfl dX7_image_68 ?_
  refine gs_aaldIN (k0 := 101) (n := 6) (e := 1) (a := E.2.2.1 103) k (hI 101 (by omega)) (fun _ => rfl) rfl (by omega) (by decide) rfl dX7_image_69 ?_
  refine gs_iconst (v := 0) k (by decide) dX7_image_70 ?_
  refine gs_bipush (v := 64) k (by decide) dX7_image_71 ?_
  refine gs_copy (k0 := 75) (k1 := 103) (n0 := 64) (n1 := 64) (n := 64) k ml_X7_376 (hI 75 (by omega)) (fun _ => rfl) (hI 103 (by omega)) (fun _ => rfl) (by decide) (by omega) (by omega) (by omega) (Nat.le_of_ble_eq_true rfl) dX7_image_73 ?_
  refine gs_M (M' := (rset (rset (rset (rset (rset (rset (rset (rset (rset (mw (mw M 65 23 (1)) 65 24 (M 65 0)) 94 (setr 36 (M 66) (M 94))) 95 (setr 8 (M 67) (M 95))) 96 (setr 8 (M 68) (M 96))) 97 (setr 6 (M 69) (M 97))) 98 (setr 6 (M 70) (M 98))) 99 (setr 6 (M 71) (M 99))) 100 (setr 6 (M 72) (M 100))) 102 (setr 64 (M 74) (M 102))) 103 (setr 64 (M 75) (M 103)))) (congrArg (rset (rset (rset (rset (rset (rset (rset (rset (rset (mw (mw M 65 23 (1)) 65 24 (M 65 0)) 94 (setr 36 (M 66) (M 94))) 95 (setr 8 (M 67) (M 95))) 96 (setr 8 (M 68) (M 96))) 97 (setr 6 (M 69) (M 97))) 98 (setr 6 (M 70) (M 98))) 99 (setr 6 (M 71) (M 99))) 100 (setr 6 (M 72) (M 100))) 102 (setr 64 (M 74) (M 102))) 103) ((cpy_setr _ _ _).trans (setr_rows (rowr (by omega) (rowr (by omega) (rowr (by omega) (rowr (by omega) (rowr (by omega) (rowr (by omega) (rowr (by omega) (rowr (by omega) (rown (by omega) (rown (by omega) rfl)))))))))) (rowr (by omega) (rowr (by omega) (rowr (by omega) (rowr (by omega) (rowr (by omega) (rowr (by omega) (rowr (by omega) (rowr (by omega) (rown (by omega) (rown (by omega) rfl))))))))))))) ?_
  refine gs_iinc (q := 0) (v := 2) (lv' := [(1, .int 2), (0, .ref (E.2.2.1 65))]) k rfl (by decide) (by decide) rfl dX7_image_76 ?_
  refine gs_goto (tgt := 51) k (by decide) dX7_image_79 ?_
  refine gs_iload_n (q := 0) k rfl rfl dX7_image_51 ?_
  refine gs_bipush (v := 6) k (by decide) dX7_image_52 ?_
  refine gs_icmp_ge (tgt := 82) k (by decide) dX7_image_54 (fun h => absurd h (by decide)) (fun _ => ?_)
  refine gs_aload_n (q := 1) k rfl rfl dX7_image_57 ?_
  refine gs_get (C := RX7) (T := TX7) (N := 27) (ci := 7) (k0 := 65) (j := 8) k (hI 65 (by omega)) rfl rfl inX7 (by decide) fl_X7_39 rfl rfl dX7_image_58 ?_
  refine gs_iload_n (q := 0) k rfl rfl dX7_image_61 ?_
  refine gs_aaldIN (k0 := 73) (n := 6) (e := 2) (a := E.2.2.1 76) k (hI 73 (by omega)) (fun _ => rfl) rfl (by omega) (by decide) rfl dX7_image_62 ?_
  refine gs_iconst (v := 0) k (by decide) dX7_image_63 ?_
  refine gs_aload_n (q := 1) k rfl rfl dX7_image_64 ?_
  refine gs_get (C := RX7) (T := TX7) (N := 27) (ci := 7) (k0 := 65) (j := 26) k (hI 65 (by omega)) rfl rfl inX7 (by decide) fl_X7_73 rfl rfl dX7_image_65 ?_
  refine gs_iload_n (q := 0) k rfl rfl dX7_image_68 ?_
  refine gs_aaldIN (k0 := 101) (n := 6) (e := 2) (a := E.2.2.1 104) k (hI 101 (by omega)) (fun _ => rfl) rfl (by omega) (by decide) rfl dX7_image_69 ?_
  refine gs_iconst (v := 0) k (by decide) dX7_image_70 ?_
  refine gs_bipush (v := 64) k (by decide) dX7_image_71 ?_
  refine gs_copy (k0 := 76) (k1 := 104) (n0 := 64) (n1 := 64) (n := 64) k ml_X7_376 (hI 76 (by omega)) (fun _ => rfl) (hI 104 (by omega)) (fun _ => rfl) (by decide) (by omega) (by omega) (by omega) (Nat.le_of_ble_eq_true rfl) dX7_image_73 ?_
  refine gs_M (M' := (rset (rset (rset (rset (rset (rset (rset (rset (rset (rset (mw (mw M 65 23 (1)) 65 24 (M 65 0)) 94 (setr 36 (M 66) (M 94))) 95 (setr 8 (M 67) (M 95))) 96 (setr 8 (M 68) (M 96))) 97 (setr 6 (M 69) (M 97))) 98 (setr 6 (M 70) (M 98))) 99 (setr 6 (M 71) (M 99))) 100 (setr 6 (M 72) (M 100))) 102 (setr 64 (M 74) (M 102))) 103 (setr 64 (M 75) (M 103))) 104 (setr 64 (M 76) (M 104)))) (congrArg (rset (rset (rset (rset (rset (rset (rset (rset (rset (rset (mw (mw M 65 23 (1)) 65 24 (M 65 0)) 94 (setr 36 (M 66) (M 94))) 95 (setr 8 (M 67) (M 95))) 96 (setr 8 (M 68) (M 96))) 97 (setr 6 (M 69) (M 97))) 98 (setr 6 (M 70) (M 98))) 99 (setr 6 (M 71) (M 99))) 100 (setr 6 (M 72) (M 100))) 102 (setr 64 (M 74) (M 102))) 103 (setr 64 (M 75) (M 103))) 104) ((cpy_setr _ _ _).trans (setr_rows (rowr (by omega) (rowr (by omega) (rowr (by omega) (rowr (by omega) (rowr (by omega) (rowr (by omega) (rowr (by omega) (rowr (by omega) (rowr (by omega) (rown (by omega) (rown (by omega) rfl))))))))))) (rowr (by omega) (rowr (by omega) (rowr (by omega) (rowr (by omega) (rowr (by omega) (rowr (by omega) (rowr (by omega) (rowr (by omega) (rowr (by omega) (rown (by omega) (rown (by omega) rfl)))))))))))))) ?_
  refine gs_iinc (q := 0) (v := 3) (lv' := [(1, .int 3), (0, .ref (E.2.2.1 65))]) k rfl (by decide) (by decide) rfl dX7_image_76 ?_
  refine gs_goto (tgt := 51) k (by decide) dX7_image_79 ?_
  refine gs_iload_n (q := 0) k rfl rfl dX7_image_51 ?_
  refine gs_bipush (v := 6) k (by decide) dX7_image_52 ?_
  refine gs_icmp_ge (tgt := 82) k (by decide) dX7_image_54 (fun h => absurd h (by decide)) (fun _ => ?_)
  refine gs_aload_n (q := 1) k rfl rfl dX7_image_57 ?_
  refine gs_get (C := RX7) (T := TX7) (N := 27) (ci := 7) (k0 := 65) (j := 8) k (hI 65 (by omega)) rfl rfl inX7 (by decide) fl_X7_39 rfl rfl dX7_image_58 ?_
  refine gs_iload_n (q := 0) k rfl rfl dX7_image_61 ?_
  refine gs_aaldIN (k0 := 73) (n := 6) (e := 3) (a := E.2.2.1 77) k (hI 73 (by omega)) (fun _ => rfl) rfl (by omega) (by decide) rfl dX7_image_62 ?_
  refine gs_iconst (v := 0) k (by decide) dX7_image_63 ?_
  refine gs_aload_n (q := 1) k rfl rfl dX7_image_64 ?_
  refine gs_get (C := RX7) (T := TX7) (N := 27) (ci := 7) (k0 := 65) (j := 26) k (hI 65 (by omega)) rfl rfl inX7 (by decide) fl_X7_73 rfl rfl dX7_image_65 ?_
  refine gs_iload_n (q := 0) k rfl rfl dX7_image_68 ?_
  refine gs_aaldIN (k0 := 101) (n := 6) (e := 3) (a := E.2.2.1 105) k (hI 101 (by omega)) (fun _ => rfl) rfl (by omega) (by decide) rfl dX7_image_69 ?_
  refine gs_iconst (v := 0) k (by decide) dX7_image_70 ?_
  refine gs_bipush (v := 64) k (by decide) dX7_image_71 ?_
  refine gs_copy (k0 := 77) (k1 := 105) (n0 := 64) (n1 := 64) (n := 64) k ml_X7_376 (hI 77 (by omega)) (fun _ => rfl) (hI 105 (by omega)) (fun _ => rfl) (by decide) (by omega) (by omega) (by omega) (Nat.le_of_ble_eq_true rfl) dX7_image_73 ?_
  refine gs_M (M' := (rset (rset (rset (rset (rset (rset (rset (rset (rset (rset (rset (mw (mw M 65 23 (1)) 65 24 (M 65 0)) 94 (setr 36 (M 66) (M 94))) 95 (setr 8 (M 67) (M 95))) 96 (setr 8 (M 68) (M 96))) 97 (setr 6 (M 69) (M 97))) 98 (setr 6 (M 70) (M 98))) 99 (setr 6 (M 71) (M 99))) 100 (setr 6 (M 72) (M 100))) 102 (setr 64 (M 74) (M 102))) 103 (setr 64 (M 75) (M 103))) 104 (setr 64 (M 76) (M 104))) 105 (setr 64 (M 77) (M 105)))) (congrArg (rset (rset (rset (rset (rset (rset (rset (rset (rset (rset (rset (mw (mw M 65 23 (1)) 65 24 (M 65 0)) 94 (setr 36 (M 66) (M 94))) 95 (setr 8 (M 67) (M 95))) 96 (setr 8 (M 68) (M 96))) 97 (setr 6 (M 69) (M 97))) 98 (setr 6 (M 70) (M 98))) 99 (setr 6 (M 71) (M 99))) 100 (setr 6 (M 72) (M 100))) 102 (setr 64 (M 74) (M 102))) 103 (setr 64 (M 75) (M 103))) 104 (setr 64 (M 76) (M 104))) 105) ((cpy_setr _ _ _).trans (setr_rows (rowr (by omega) (rowr (by omega) (rowr (by omega) (rowr (by omega) (rowr (by omega) (rowr (by omega) (rowr (by omega) (rowr (by omega) (rowr (by omega) (rowr (by omega) (rown (by omega) (rown (by omega) rfl)))))))))))) (rowr (by omega) (rowr (by omega) (rowr (by omega) (rowr (by omega) (rowr (by omega) (rowr (by omega) (rowr (by omega) (rowr (by omega) (rowr (by omega) (rowr (by omega) (rown (by omega) (rown (by omega) rfl))))))))))))))) ?_
  refine gs_iinc (q := 0) (v := 4) (lv' := [(1, .int 4), (0, .ref (E.2.2.1 65))]) k rfl (by decide) (by decide) rfl dX7_image_76 ?_
  refine gs_goto (tgt := 51) k (by decide) dX7_image_79 ?_
  refine gs_iload_n (q := 0) k rfl rfl dX7_image_51 ?_
  refine gs_bipush (v := 6) k (by decide) dX7_image_52 ?_
  refine gs_icmp_ge (tgt := 82) k (by decide) dX7_image_54 (fun h => absurd h (by decide)) (fun _ => ?_)
  refine gs_aload_n (q := 1) k rfl rfl dX7_image_57 ?_
  refine gs_get (C := RX7) (T := TX7) (N := 27) (ci := 7) (k0 := 65) (j := 8) k (hI 65 (by omega)) rfl rfl inX7 (by decide) fl_X7_39 rfl rfl dX7_image_58 ?_
  refine gs_iload_n (q := 0) k rfl rfl dX7_image_61 ?_
  refine gs_aaldIN (k0 := 73) (n := 6) (e := 4) (a := E.2.2.1 78) k (hI 73 (by omega)) (fun _ => rfl) rfl (by omega) (by decide) rfl dX7_image_62 ?_
  refine gs_iconst (v := 0) k (by decide) dX7_image_63 ?_
  refine gs_aload_n (q := 1) k rfl rfl dX7_image_64 ?_
  refine gs_get (C := RX7) (T := TX7) (N := 27) (ci := 7) (k0 := 65) (j := 26) k (hI 65 (by omega)) rfl rfl inX7 (by decide) fl_X7_73 rfl rfl dX7_image_65 ?_
  refine gs_iload_n (q := 0) k rfl rfl dX7_image_68 ?_
  refine gs_aaldIN (k0 := 101) (n := 6) (e := 4) (a := E.2.2.1 106) k (hI 101 (by omega)) (fun _ => rfl) rfl (by omega) (by decide) rfl dX7_image_69 ?_
  refine gs_iconst (v := 0) k (by decide) dX7_image_70 ?_
  refine gs_bipush (v := 64) k (by decide) dX7_image_71 ?_
  refine gs_copy (k0 := 78) (k1 := 106) (n0 := 64) (n1 := 64) (n := 64) k ml_X7_376 (hI 78 (by omega)) (fun _ => rfl) (hI 106 (by omega)) (fun _ => rfl) (by decide) (by omega) (by omega) (by omega) (Nat.le_of_ble_eq_true rfl) dX7_image_73 ?_
  refine gs_M (M' := (rset (rset (rset (rset (rset (rset (rset (rset (rset (rset (rset (rset (mw (mw M 65 23 (1)) 65 24 (M 65 0)) 94 (setr 36 (M 66) (M 94))) 95 (setr 8 (M 67) (M 95))) 96 (setr 8 (M 68) (M 96))) 97 (setr 6 (M 69) (M 97))) 98 (setr 6 (M 70) (M 98))) 99 (setr 6 (M 71) (M 99))) 100 (setr 6 (M 72) (M 100))) 102 (setr 64 (M 74) (M 102))) 103 (setr 64 (M 75) (M 103))) 104 (setr 64 (M 76) (M 104))) 105 (setr 64 (M 77) (M 105))) 106 (setr 64 (M 78) (M 106)))) (congrArg (rset (rset (rset (rset (rset (rset (rset (rset (rset (rset (rset (rset (mw (mw M 65 23 (1)) 65 24 (M 65 0)) 94 (setr 36 (M 66) (M 94))) 95 (setr 8 (M 67) (M 95))) 96 (setr 8 (M 68) (M 96))) 97 (setr 6 (M 69) (M 97))) 98 (setr 6 (M 70) (M 98))) 99 (setr 6 (M 71) (M 99))) 100 (setr 6 (M 72) (M 100))) 102 (setr 64 (M 74) (M 102))) 103 (setr 64 (M 75) (M 103))) 104 (setr 64 (M 76) (M 104))) 105 (setr 64 (M 77) (M 105))) 106) ((cpy_setr _ _ _).trans (setr_rows (rowr (by omega) (rowr (by omega) (rowr (by omega) (rowr (by omega) (rowr (by omega) (rowr (by omega) (rowr (by omega) (rowr (by omega) (rowr (by omega) (rowr (by omega) (rowr (by omega) (rown (by omega) (rown (by omega) rfl))))))))))))) (rowr (by omega) (rowr (by omega) (rowr (by omega) (rowr (by omega) (rowr (by omega) (rowr (by omega) (rowr (by omega) (rowr (by omega) (rowr (by omega) (rowr (by omega) (rowr (by omega) (rown (by omega) (rown (by omega) rfl)))))))))))))))) ?_
  refine gs_iinc (q := 0) (v := 5) (lv' := [(1, .int 5), (0, .ref (E.2.2.1 65))]) k rfl (by decide) (by decide) rfl dX7_image_76 ?_
  refine gs_goto (tgt := 51) k (by decide) dX7_image_79 ?_
  refine gs_iload_n (q := 0) k rfl rfl dX7_image_51 ?_
  refine gs_bipush (v := 6) k (by decide) dX7_image_52 ?_
  refine gs_icmp_ge (tgt := 82) k (by decide) dX7_image_54 (fun h => absurd h (by decide)) (fun _ => ?_)
  refine gs_aload_n (q := 1) k rfl rfl dX7_image_57 ?_
  refine gs_get (C := RX7) (T := TX7) (N := 27) (ci := 7) (k0 := 65) (j := 8) k (hI 65 (by omega)) rfl rfl inX7 (by decide) fl_X7_39 rfl rfl dX7_image_58 ?_
  refine gs_iload_n (q := 0) k rfl rfl dX7_image_61 ?_
  refine gs_aaldIN (k0 := 73) (n := 6) (e := 5) (a := E.2.2.1 79) k (hI 73 (by omega)) (fun _ => rfl) rfl (by omega) (by decide) rfl dX7_image_62 ?_
  refine gs_iconst (v := 0) k (by decide) dX7_image_63 ?_
  refine gs_aload_n (q := 1) k rfl rfl dX7_image_64 ?_
  refine gs_get (C := RX7) (T := TX7) (N := 27) (ci := 7) (k0 := 65) (j := 26) k (hI 65 (by omega)) rfl rfl inX7 (by decide) fl_X7_73 rfl rfl dX7_image_65 ?_
  refine gs_iload_n (q := 0) k rfl rfl dX7_image_68 ?_
  refine gs_aaldIN (k0 := 101) (n := 6) (e := 5) (a := E.2.2.1 107) k (hI 101 (by omega)) (fun _ => rfl) rfl (by omega) (by decide) rfl dX7_image_69 ?_
  refine gs_iconst (v := 0) k (by decide) dX7_image_70 ?_
  refine gs_bipush (v := 64) k (by decide) dX7_image_71 ?_
  refine gs_copy (k0 := 79) (k1 := 107) (n0 := 64) (n1 := 64) (n := 64) k ml_X7_376 (hI 79 (by omega)) (fun _ => rfl) (hI 107 (by omega)) (fun _ => rfl) (by decide) (by omega) (by omega) (by omega) (Nat.le_of_ble_eq_true rfl) dX7_image_73 ?_
  refine gs_M (M' := (rset (rset (rset (rset (rset (rset (rset (rset (rset (rset (rset (rset (rset (mw (mw M 65 23 (1)) 65 24 (M 65 0)) 94 (setr 36 (M 66) (M 94))) 95 (setr 8 (M 67) (M 95))) 96 (setr 8 (M 68) (M 96))) 97 (setr 6 (M 69) (M 97))) 98 (setr 6 (M 70) (M 98))) 99 (setr 6 (M 71) (M 99))) 100 (setr 6 (M 72) (M 100))) 102 (setr 64 (M 74) (M 102))) 103 (setr 64 (M 75) (M 103))) 104 (setr 64 (M 76) (M 104))) 105 (setr 64 (M 77) (M 105))) 106 (setr 64 (M 78) (M 106))) 107 (setr 64 (M 79) (M 107)))) (congrArg (rset (rset (rset (rset (rset (rset (rset (rset (rset (rset (rset (rset (rset (mw (mw M 65 23 (1)) 65 24 (M 65 0)) 94 (setr 36 (M 66) (M 94))) 95 (setr 8 (M 67) (M 95))) 96 (setr 8 (M 68) (M 96))) 97 (setr 6 (M 69) (M 97))) 98 (setr 6 (M 70) (M 98))) 99 (setr 6 (M 71) (M 99))) 100 (setr 6 (M 72) (M 100))) 102 (setr 64 (M 74) (M 102))) 103 (setr 64 (M 75) (M 103))) 104 (setr 64 (M 76) (M 104))) 105 (setr 64 (M 77) (M 105))) 106 (setr 64 (M 78) (M 106))) 107) ((cpy_setr _ _ _).trans (setr_rows (rowr (by omega) (rowr (by omega) (rowr (by omega) (rowr (by omega) (rowr (by omega) (rowr (by omega) (rowr (by omega) (rowr (by omega) (rowr (by omega) (rowr (by omega) (rowr (by omega) (rowr (by omega) (rown (by omega) (rown (by omega) rfl)))))))))))))) (rowr (by omega) (rowr (by omega) (rowr (by omega) (rowr (by omega) (rowr (by omega) (rowr (by omega) (rowr (by omega) (rowr (by omega) (rowr (by omega) (rowr (by omega) (rowr (by omega) (rowr (by omega) (rown (by omega) (rown (by omega) rfl))))))))))))))))) ?_
  refine gs_iinc (q := 0) (v := 6) (lv' := [(1, .int 6), (0, .ref (E.2.2.1 65))]) k rfl (by decide) (by decide) rfl dX7_image_76 ?_
  refine gs_goto (tgt := 51) k (by decide) dX7_image_79 ?_
  refine gs_iload_n (q := 0) k rfl rfl dX7_image_51 ?_
  refine gs_bipush (v := 6) k (by decide) dX7_image_52 ?_
  refine gs_icmp_ge (tgt := 82) k (by decide) dX7_image_54 (fun _ => ?_) (fun h => absurd h (by decide))
  refine gs_aload_n (q := 1) k rfl rfl dX7_image_82 ?_
  refine gs_callV (As := []) (k0 := 65) (ci := 7) (T := TX7) (N := 27) k (c_X7_functions hI (RFn_rs (by omega) (RFn_rs (by omega) (RFn_rs (by omega) (RFn_rs (by omega) (RFn_rs (by omega) (RFn_rs (by omega) (RFn_rs (by omega) (RFn_rs (by omega) (RFn_rs (by omega) (RFn_rs (by omega) (RFn_rs (by omega) (RFn_rs (by omega) (RFn_rs (by omega) (RFn_mw (by omega) (RFn_mw (by omega) hF)))))))))))))))) cf_X7_functions im_X7_functions sl_X7_functions ml_X7_382 (hI 65 (by omega)) rfl rfl (by decide) rfl rfl (Nat.le_of_ble_eq_true rfl) dX7_image_83 (ppI ?_)
  exact gs_iret k kt dX7_image_86 ⟨rfl, rfl⟩

theorem cf_X7_back : CF yX7_back cX7_back 2 (some .int) 0 := ⟨cd_X7_back, iz_X7, by decide, by decide +kernel, by decide +kernel, by decide +kernel⟩
set_option maxRecDepth 100000 in
set_option maxHeartbeats 4000000 in
theorem c_X7_back {l : Launch} {E : Ev} {M : Mm} {n : Nat} {kd : Nat → Int32} {V : Nat → Nat → Int32} (hI : ∀ k, k < 108 → k ∈ E.2.1) (hS : ¬ M 65 23 = 0 → RSv M n kd V) : Cm l E yX7_back cX7_back 2 (some .int) 2 [.ref (E.2.2.1 65)] M (pI (A_back (M 65 23) kd) (ifc (M 65 23 = 0) M (bkR M))) := by
  refine Cm.of (by decide) (Nat.le_of_ble_eq_true rfl) (fun K k kt => ?_)
  show G l E K 0 [(0, .ref (E.2.2.1 65))] [] M
  refine gs_aload_n (q := 0) k rfl rfl dX7_back_0 ?_
  refine gs_get (C := RX7) (T := TX7) (N := 27) (ci := 7) (k0 := 65) (j := 23) k (hI 65 (by omega)) rfl rfl inX7 (by decide) fl_X7_365 rfl rfl dX7_back_1 ?_
  refine gs_if_ne (tgt := 10) k (by decide) dX7_back_4 (fun c1 => ?_) (fun c1 => ?_)
  · refine gs_aload_n (q := 0) k rfl rfl dX7_back_10 ?_
    refine gs_aload_n (q := 0) k rfl rfl dX7_back_11 ?_
    refine gs_get (C := RX7) (T := TX7) (N := 27) (ci := 7) (k0 := 65) (j := 24) k (hI 65 (by omega)) rfl rfl inX7 (by decide) fl_X7_369 rfl rfl dX7_back_12 ?_
    refine gs_put (C := RX7) (T := TX7) (N := 27) (ci := 7) (k0 := 65) (j := 0) (ty := .int) k (hI 65 (by omega)) rfl rfl rfl inX7 tyX7 tyX7_ok nmX7 (by decide) fl_X7_9 rfl rfl (tyX7_ok 0 (by decide)) rfl rfl (Nat.le_of_ble_eq_true rfl) dX7_back_15 ?_
    refine gs_iconst (v := 0) k (by decide) dX7_back_18 ?_
    refine gs_istore_n (lv' := [(1, .int 0), (0, .ref (E.2.2.1 65))]) k rfl (by decide) rfl dX7_back_19 ?_
    refine gs_iload_n (q := 0) k rfl rfl dX7_back_20 ?_
    refine gs_bipush (v := 7) k (by decide) dX7_back_21 ?_
    refine gs_icmp_ge (tgt := 54) k (by decide) dX7_back_23 (fun h => absurd h (by decide)) (fun _ => ?_)
    refine gs_aload_n (q := 1) k rfl rfl dX7_back_26 ?_
    refine gs_get (C := RX7) (T := TX7) (N := 27) (ci := 7) (k0 := 65) (j := 25) k (hI 65 (by omega)) rfl rfl inX7 (by decide) fl_X7_70 rfl rfl dX7_back_27 ?_
    refine gs_iload_n (q := 0) k rfl rfl dX7_back_30 ?_
    refine gs_aaldIN (k0 := 93) (n := 7) (e := 0) (a := E.2.2.1 94) k (hI 93 (by omega)) (fun _ => rfl) rfl (by omega) (by decide) rfl dX7_back_31 ?_
    refine gs_iconst (v := 0) k (by decide) dX7_back_32 ?_
    refine gs_aload_n (q := 1) k rfl rfl dX7_back_33 ?_
    refine gs_iload_n (q := 0) k rfl rfl dX7_back_34 ?_
    refine gs_callV (As := [.int 0]) (k0 := 65) (ci := 7) (T := TX7) (N := 27) k (c_X7_rowOf0 hI) cf_X7_rowOf im_X7_rowOf sl_X7_rowOf ml_X7_372 (hI 65 (by omega)) rfl rfl (by decide) rfl rfl (Nat.le_of_ble_eq_true rfl) dX7_back_35 (ppA ?_)
    refine gs_iconst (v := 0) k (by decide) dX7_back_38 ?_
    refine gs_aload_n (q := 1) k rfl rfl dX7_back_39 ?_
    refine gs_iload_n (q := 0) k rfl rfl dX7_back_40 ?_
    refine gs_callV (As := [.int 0]) (k0 := 65) (ci := 7) (T := TX7) (N := 27) k (c_X7_rowOf0 hI) cf_X7_rowOf im_X7_rowOf sl_X7_rowOf ml_X7_372 (hI 65 (by omega)) rfl rfl (by decide) rfl rfl (Nat.le_of_ble_eq_true rfl) dX7_back_41 (ppA ?_)
    refine gs_alen (k0 := 66) (n := 36) k (hI 66 (by omega)) (fun _ => rfl) rfl dX7_back_44 ?_
    refine gs_copy (k0 := 94) (k1 := 66) (n0 := 36) (n1 := 36) (n := 36) k ml_X7_376 (hI 94 (by omega)) (fun _ => rfl) (hI 66 (by omega)) (fun _ => rfl) (by decide) (by omega) (by omega) (by omega) (Nat.le_of_ble_eq_true rfl) dX7_back_45 ?_
    refine gs_M (M' := (rset (mw M 65 0 (M 65 24)) 66 (setr 36 (M 94) (M 66)))) (congrArg (rset (mw M 65 0 (M 65 24)) 66) ((cpy_setr _ _ _).trans (setr_rows (rown (by omega) rfl) (rown (by omega) rfl)))) ?_
    refine gs_iinc (q := 0) (v := 1) (lv' := [(1, .int 1), (0, .ref (E.2.2.1 65))]) k rfl (by decide) (by decide) rfl dX7_back_48 ?_
    refine gs_goto (tgt := 20) k (by decide) dX7_back_51 ?_
    refine gs_iload_n (q := 0) k rfl rfl dX7_back_20 ?_
    refine gs_bipush (v := 7) k (by decide) dX7_back_21 ?_
    refine gs_icmp_ge (tgt := 54) k (by decide) dX7_back_23 (fun h => absurd h (by decide)) (fun _ => ?_)
    refine gs_aload_n (q := 1) k rfl rfl dX7_back_26 ?_
    refine gs_get (C := RX7) (T := TX7) (N := 27) (ci := 7) (k0 := 65) (j := 25) k (hI 65 (by omega)) rfl rfl inX7 (by decide) fl_X7_70 rfl rfl dX7_back_27 ?_
    refine gs_iload_n (q := 0) k rfl rfl dX7_back_30 ?_
    refine gs_aaldIN (k0 := 93) (n := 7) (e := 1) (a := E.2.2.1 95) k (hI 93 (by omega)) (fun _ => rfl) rfl (by omega) (by decide) rfl dX7_back_31 ?_
    refine gs_iconst (v := 0) k (by decide) dX7_back_32 ?_
    refine gs_aload_n (q := 1) k rfl rfl dX7_back_33 ?_
    refine gs_iload_n (q := 0) k rfl rfl dX7_back_34 ?_
    refine gs_callV (As := [.int 1]) (k0 := 65) (ci := 7) (T := TX7) (N := 27) k (c_X7_rowOf1 hI) cf_X7_rowOf im_X7_rowOf sl_X7_rowOf ml_X7_372 (hI 65 (by omega)) rfl rfl (by decide) rfl rfl (Nat.le_of_ble_eq_true rfl) dX7_back_35 (ppA ?_)
    refine gs_iconst (v := 0) k (by decide) dX7_back_38 ?_
    refine gs_aload_n (q := 1) k rfl rfl dX7_back_39 ?_
    refine gs_iload_n (q := 0) k rfl rfl dX7_back_40 ?_
    refine gs_callV (As := [.int 1]) (k0 := 65) (ci := 7) (T := TX7) (N := 27) k (c_X7_rowOf1 hI) cf_X7_rowOf im_X7_rowOf sl_X7_rowOf ml_X7_372 (hI 65 (by omega)) rfl rfl (by decide) rfl rfl (Nat.le_of_ble_eq_true rfl) dX7_back_41 (ppA ?_)
    refine gs_alen (k0 := 67) (n := 8) k (hI 67 (by omega)) (fun _ => rfl) rfl dX7_back_44 ?_
    refine gs_copy (k0 := 95) (k1 := 67) (n0 := 36) (n1 := 8) (n := 8) k ml_X7_376 (hI 95 (by omega)) (fun _ => rfl) (hI 67 (by omega)) (fun _ => rfl) (by decide) (by omega) (by omega) (by omega) (Nat.le_of_ble_eq_true rfl) dX7_back_45 ?_
    refine gs_M (M' := (rset (rset (mw M 65 0 (M 65 24)) 66 (setr 36 (M 94) (M 66))) 67 (setr 8 (M 95) (M 67)))) (congrArg (rset (rset (mw M 65 0 (M 65 24)) 66 (setr 36 (M 94) (M 66))) 67) ((cpy_setr _ _ _).trans (setr_rows (rowr (by omega) (rown (by omega) rfl)) (rowr (by omega) (rown (by omega) rfl))))) ?_
    refine gs_iinc (q := 0) (v := 2) (lv' := [(1, .int 2), (0, .ref (E.2.2.1 65))]) k rfl (by decide) (by decide) rfl dX7_back_48 ?_
    refine gs_goto (tgt := 20) k (by decide) dX7_back_51 ?_
    refine gs_iload_n (q := 0) k rfl rfl dX7_back_20 ?_
    refine gs_bipush (v := 7) k (by decide) dX7_back_21 ?_
    refine gs_icmp_ge (tgt := 54) k (by decide) dX7_back_23 (fun h => absurd h (by decide)) (fun _ => ?_)
    refine gs_aload_n (q := 1) k rfl rfl dX7_back_26 ?_
    refine gs_get (C := RX7) (T := TX7) (N := 27) (ci := 7) (k0 := 65) (j := 25) k (hI 65 (by omega)) rfl rfl inX7 (by decide) fl_X7_70 rfl rfl dX7_back_27 ?_
    refine gs_iload_n (q := 0) k rfl rfl dX7_back_30 ?_
    refine gs_aaldIN (k0 := 93) (n := 7) (e := 2) (a := E.2.2.1 96) k (hI 93 (by omega)) (fun _ => rfl) rfl (by omega) (by decide) rfl dX7_back_31 ?_
    refine gs_iconst (v := 0) k (by decide) dX7_back_32 ?_
    refine gs_aload_n (q := 1) k rfl rfl dX7_back_33 ?_
    refine gs_iload_n (q := 0) k rfl rfl dX7_back_34 ?_
    refine gs_callV (As := [.int 2]) (k0 := 65) (ci := 7) (T := TX7) (N := 27) k (c_X7_rowOf2 hI) cf_X7_rowOf im_X7_rowOf sl_X7_rowOf ml_X7_372 (hI 65 (by omega)) rfl rfl (by decide) rfl rfl (Nat.le_of_ble_eq_true rfl) dX7_back_35 (ppA ?_)
    refine gs_iconst (v := 0) k (by decide) dX7_back_38 ?_
    refine gs_aload_n (q := 1) k rfl rfl dX7_back_39 ?_
    refine gs_iload_n (q := 0) k rfl rfl dX7_back_40 ?_
    refine gs_callV (As := [.int 2]) (k0 := 65) (ci := 7) (T := TX7) (N := 27) k (c_X7_rowOf2 hI) cf_X7_rowOf im_X7_rowOf sl_X7_rowOf ml_X7_372 (hI 65 (by omega)) rfl rfl (by decide) rfl rfl (Nat.le_of_ble_eq_true rfl) dX7_back_41 (ppA ?_)
    refine gs_alen (k0 := 68) (n := 8) k (hI 68 (by omega)) (fun _ => rfl) rfl dX7_back_44 ?_
    refine gs_copy (k0 := 96) (k1 := 68) (n0 := 36) (n1 := 8) (n := 8) k ml_X7_376 (hI 96 (by omega)) (fun _ => rfl) (hI 68 (by omega)) (fun _ => rfl) (by decide) (by omega) (by omega) (by omega) (Nat.le_of_ble_eq_true rfl) dX7_back_45 ?_
    refine gs_M (M' := (rset (rset (rset (mw M 65 0 (M 65 24)) 66 (setr 36 (M 94) (M 66))) 67 (setr 8 (M 95) (M 67))) 68 (setr 8 (M 96) (M 68)))) (congrArg (rset (rset (rset (mw M 65 0 (M 65 24)) 66 (setr 36 (M 94) (M 66))) 67 (setr 8 (M 95) (M 67))) 68) ((cpy_setr _ _ _).trans (setr_rows (rowr (by omega) (rowr (by omega) (rown (by omega) rfl))) (rowr (by omega) (rowr (by omega) (rown (by omega) rfl)))))) ?_
    refine gs_iinc (q := 0) (v := 3) (lv' := [(1, .int 3), (0, .ref (E.2.2.1 65))]) k rfl (by decide) (by decide) rfl dX7_back_48 ?_
    refine gs_goto (tgt := 20) k (by decide) dX7_back_51 ?_
    refine gs_iload_n (q := 0) k rfl rfl dX7_back_20 ?_
    refine gs_bipush (v := 7) k (by decide) dX7_back_21 ?_
    refine gs_icmp_ge (tgt := 54) k (by decide) dX7_back_23 (fun h => absurd h (by decide)) (fun _ => ?_)
    refine gs_aload_n (q := 1) k rfl rfl dX7_back_26 ?_
    refine gs_get (C := RX7) (T := TX7) (N := 27) (ci := 7) (k0 := 65) (j := 25) k (hI 65 (by omega)) rfl rfl inX7 (by decide) fl_X7_70 rfl rfl dX7_back_27 ?_
    refine gs_iload_n (q := 0) k rfl rfl dX7_back_30 ?_
    refine gs_aaldIN (k0 := 93) (n := 7) (e := 3) (a := E.2.2.1 97) k (hI 93 (by omega)) (fun _ => rfl) rfl (by omega) (by decide) rfl dX7_back_31 ?_
    refine gs_iconst (v := 0) k (by decide) dX7_back_32 ?_
    refine gs_aload_n (q := 1) k rfl rfl dX7_back_33 ?_
    refine gs_iload_n (q := 0) k rfl rfl dX7_back_34 ?_
    refine gs_callV (As := [.int 3]) (k0 := 65) (ci := 7) (T := TX7) (N := 27) k (c_X7_rowOf3 hI) cf_X7_rowOf im_X7_rowOf sl_X7_rowOf ml_X7_372 (hI 65 (by omega)) rfl rfl (by decide) rfl rfl (Nat.le_of_ble_eq_true rfl) dX7_back_35 (ppA ?_)
    refine gs_iconst (v := 0) k (by decide) dX7_back_38 ?_
    refine gs_aload_n (q := 1) k rfl rfl dX7_back_39 ?_
    refine gs_iload_n (q := 0) k rfl rfl dX7_back_40 ?_
    refine gs_callV (As := [.int 3]) (k0 := 65) (ci := 7) (T := TX7) (N := 27) k (c_X7_rowOf3 hI) cf_X7_rowOf im_X7_rowOf sl_X7_rowOf ml_X7_372 (hI 65 (by omega)) rfl rfl (by decide) rfl rfl (Nat.le_of_ble_eq_true rfl) dX7_back_41 (ppA ?_)
    refine gs_alen (k0 := 69) (n := 6) k (hI 69 (by omega)) (fun _ => rfl) rfl dX7_back_44 ?_
    refine gs_copy (k0 := 97) (k1 := 69) (n0 := 36) (n1 := 6) (n := 6) k ml_X7_376 (hI 97 (by omega)) (fun _ => rfl) (hI 69 (by omega)) (fun _ => rfl) (by decide) (by omega) (by omega) (by omega) (Nat.le_of_ble_eq_true rfl) dX7_back_45 ?_
    refine gs_M (M' := (rset (rset (rset (rset (mw M 65 0 (M 65 24)) 66 (setr 36 (M 94) (M 66))) 67 (setr 8 (M 95) (M 67))) 68 (setr 8 (M 96) (M 68))) 69 (setr 6 (M 97) (M 69)))) (congrArg (rset (rset (rset (rset (mw M 65 0 (M 65 24)) 66 (setr 36 (M 94) (M 66))) 67 (setr 8 (M 95) (M 67))) 68 (setr 8 (M 96) (M 68))) 69) ((cpy_setr _ _ _).trans (setr_rows (rowr (by omega) (rowr (by omega) (rowr (by omega) (rown (by omega) rfl)))) (rowr (by omega) (rowr (by omega) (rowr (by omega) (rown (by omega) rfl))))))) ?_
    refine gs_iinc (q := 0) (v := 4) (lv' := [(1, .int 4), (0, .ref (E.2.2.1 65))]) k rfl (by decide) (by decide) rfl dX7_back_48 ?_
    refine gs_goto (tgt := 20) k (by decide) dX7_back_51 ?_
    refine gs_iload_n (q := 0) k rfl rfl dX7_back_20 ?_
    refine gs_bipush (v := 7) k (by decide) dX7_back_21 ?_
    refine gs_icmp_ge (tgt := 54) k (by decide) dX7_back_23 (fun h => absurd h (by decide)) (fun _ => ?_)
    refine gs_aload_n (q := 1) k rfl rfl dX7_back_26 ?_
    refine gs_get (C := RX7) (T := TX7) (N := 27) (ci := 7) (k0 := 65) (j := 25) k (hI 65 (by omega)) rfl rfl inX7 (by decide) fl_X7_70 rfl rfl dX7_back_27 ?_
    refine gs_iload_n (q := 0) k rfl rfl dX7_back_30 ?_
    refine gs_aaldIN (k0 := 93) (n := 7) (e := 4) (a := E.2.2.1 98) k (hI 93 (by omega)) (fun _ => rfl) rfl (by omega) (by decide) rfl dX7_back_31 ?_
    refine gs_iconst (v := 0) k (by decide) dX7_back_32 ?_
    refine gs_aload_n (q := 1) k rfl rfl dX7_back_33 ?_
    refine gs_iload_n (q := 0) k rfl rfl dX7_back_34 ?_
    refine gs_callV (As := [.int 4]) (k0 := 65) (ci := 7) (T := TX7) (N := 27) k (c_X7_rowOf4 hI) cf_X7_rowOf im_X7_rowOf sl_X7_rowOf ml_X7_372 (hI 65 (by omega)) rfl rfl (by decide) rfl rfl (Nat.le_of_ble_eq_true rfl) dX7_back_35 (ppA ?_)
    refine gs_iconst (v := 0) k (by decide) dX7_back_38 ?_
    refine gs_aload_n (q := 1) k rfl rfl dX7_back_39 ?_
    refine gs_iload_n (q := 0) k rfl rfl dX7_back_40 ?_
    refine gs_callV (As := [.int 4]) (k0 := 65) (ci := 7) (T := TX7) (N := 27) k (c_X7_rowOf4 hI) cf_X7_rowOf im_X7_rowOf sl_X7_rowOf ml_X7_372 (hI 65 (by omega)) rfl rfl (by decide) rfl rfl (Nat.le_of_ble_eq_true rfl) dX7_back_41 (ppA ?_)
    refine gs_alen (k0 := 70) (n := 6) k (hI 70 (by omega)) (fun _ => rfl) rfl dX7_back_44 ?_
    refine gs_copy (k0 := 98) (k1 := 70) (n0 := 36) (n1 := 6) (n := 6) k ml_X7_376 (hI 98 (by omega)) (fun _ => rfl) (hI 70 (by omega)) (fun _ => rfl) (by decide) (by omega) (by omega) (by omega) (Nat.le_of_ble_eq_true rfl) dX7_back_45 ?_
    refine gs_M (M' := (rset (rset (rset (rset (rset (mw M 65 0 (M 65 24)) 66 (setr 36 (M 94) (M 66))) 67 (setr 8 (M 95) (M 67))) 68 (setr 8 (M 96) (M 68))) 69 (setr 6 (M 97) (M 69))) 70 (setr 6 (M 98) (M 70)))) (congrArg (rset (rset (rset (rset (rset (mw M 65 0 (M 65 24)) 66 (setr 36 (M 94) (M 66))) 67 (setr 8 (M 95) (M 67))) 68 (setr 8 (M 96) (M 68))) 69 (setr 6 (M 97) (M 69))) 70) ((cpy_setr _ _ _).trans (setr_rows (rowr (by omega) (rowr (by omega) (rowr (by omega) (rowr (by omega) (rown (by omega) rfl))))) (rowr (by omega) (rowr (by omega) (rowr (by omega) (rowr (by omega) (rown (by omega) rfl)))))))) ?_
    refine gs_iinc (q := 0) (v := 5) (lv' := [(1, .int 5), (0, .ref (E.2.2.1 65))]) k rfl (by decide) (by decide) rfl dX7_back_48 ?_
    refine gs_goto (tgt := 20) k (by decide) dX7_back_51 ?_
    refine gs_iload_n (q := 0) k rfl rfl dX7_back_20 ?_
    refine gs_bipush (v := 7) k (by decide) dX7_back_21 ?_
    refine gs_icmp_ge (tgt := 54) k (by decide) dX7_back_23 (fun h => absurd h (by decide)) (fun _ => ?_)
    refine gs_aload_n (q := 1) k rfl rfl dX7_back_26 ?_
    refine gs_get (C := RX7) (T := TX7) (N := 27) (ci := 7) (k0 := 65) (j := 25) k (hI 65 (by omega)) rfl rfl inX7 (by decide) fl_X7_70 rfl rfl dX7_back_27 ?_
    refine gs_iload_n (q := 0) k rfl rfl dX7_back_30 ?_
    refine gs_aaldIN (k0 := 93) (n := 7) (e := 5) (a := E.2.2.1 99) k (hI 93 (by omega)) (fun _ => rfl) rfl (by omega) (by decide) rfl dX7_back_31 ?_
    refine gs_iconst (v := 0) k (by decide) dX7_back_32 ?_
    refine gs_aload_n (q := 1) k rfl rfl dX7_back_33 ?_
    refine gs_iload_n (q := 0) k rfl rfl dX7_back_34 ?_
    refine gs_callV (As := [.int 5]) (k0 := 65) (ci := 7) (T := TX7) (N := 27) k (c_X7_rowOf5 hI) cf_X7_rowOf im_X7_rowOf sl_X7_rowOf ml_X7_372 (hI 65 (by omega)) rfl rfl (by decide) rfl rfl (Nat.le_of_ble_eq_true rfl) dX7_back_35 (ppA ?_)
    refine gs_iconst (v := 0) k (by decide) dX7_back_38 ?_
    refine gs_aload_n (q := 1) k rfl rfl dX7_back_39 ?_
    refine gs_iload_n (q := 0) k rfl rfl dX7_back_40 ?_
    refine gs_callV (As := [.int 5]) (k0 := 65) (ci := 7) (T := TX7) (N := 27) k (c_X7_rowOf5 hI) cf_X7_rowOf im_X7_rowOf sl_X7_rowOf ml_X7_372 (hI 65 (by omega)) rfl rfl (by decide) rfl rfl (Nat.le_of_ble_eq_true rfl) dX7_back_41 (ppA ?_)
    refine gs_alen (k0 := 71) (n := 6) k (hI 71 (by omega)) (fun _ => rfl) rfl dX7_back_44 ?_
    refine gs_copy (k0 := 99) (k1 := 71) (n0 := 36) (n1 := 6) (n := 6) k ml_X7_376 (hI 99 (by omega)) (fun _ => rfl) (hI 71 (by omega)) (fun _ => rfl) (by decide) (by omega) (by omega) (by omega) (Nat.le_of_ble_eq_true rfl) dX7_back_45 ?_
    refine gs_M (M' := (rset (rset (rset (rset (rset (rset (mw M 65 0 (M 65 24)) 66 (setr 36 (M 94) (M 66))) 67 (setr 8 (M 95) (M 67))) 68 (setr 8 (M 96) (M 68))) 69 (setr 6 (M 97) (M 69))) 70 (setr 6 (M 98) (M 70))) 71 (setr 6 (M 99) (M 71)))) (congrArg (rset (rset (rset (rset (rset (rset (mw M 65 0 (M 65 24)) 66 (setr 36 (M 94) (M 66))) 67 (setr 8 (M 95) (M 67))) 68 (setr 8 (M 96) (M 68))) 69 (setr 6 (M 97) (M 69))) 70 (setr 6 (M 98) (M 70))) 71) ((cpy_setr _ _ _).trans (setr_rows (rowr (by omega) (rowr (by omega) (rowr (by omega) (rowr (by omega) (rowr (by omega) (rown (by omega) rfl)))))) (rowr (by omega) (rowr (by omega) (rowr (by omega) (rowr (by omega) (rowr (by omega) (rown (by omega) rfl))))))))) ?_
    refine gs_iinc (q := 0) (v := 6) (lv' := [(1, .int 6), (0, .ref (E.2.2.1 65))]) k rfl (by decide) (by decide) rfl dX7_back_48 ?_
    refine gs_goto (tgt := 20) k (by decide) dX7_back_51 ?_
    refine gs_iload_n (q := 0) k rfl rfl dX7_back_20 ?_
    refine gs_bipush (v := 7) k (by decide) dX7_back_21 ?_
    refine gs_icmp_ge (tgt := 54) k (by decide) dX7_back_23 (fun h => absurd h (by decide)) (fun _ => ?_)
    refine gs_aload_n (q := 1) k rfl rfl dX7_back_26 ?_
    refine gs_get (C := RX7) (T := TX7) (N := 27) (ci := 7) (k0 := 65) (j := 25) k (hI 65 (by omega)) rfl rfl inX7 (by decide) fl_X7_70 rfl rfl dX7_back_27 ?_
    refine gs_iload_n (q := 0) k rfl rfl dX7_back_30 ?_
    refine gs_aaldIN (k0 := 93) (n := 7) (e := 6) (a := E.2.2.1 100) k (hI 93 (by omega)) (fun _ => rfl) rfl (by omega) (by decide) rfl dX7_back_31 ?_
    refine gs_iconst (v := 0) k (by decide) dX7_back_32 ?_
    refine gs_aload_n (q := 1) k rfl rfl dX7_back_33 ?_
    refine gs_iload_n (q := 0) k rfl rfl dX7_back_34 ?_
    refine gs_callV (As := [.int 6]) (k0 := 65) (ci := 7) (T := TX7) (N := 27) k (c_X7_rowOf6 hI) cf_X7_rowOf im_X7_rowOf sl_X7_rowOf ml_X7_372 (hI 65 (by omega)) rfl rfl (by decide) rfl rfl (Nat.le_of_ble_eq_true rfl) dX7_back_35 (ppA ?_)
    refine gs_iconst (v := 0) k (by decide) dX7_back_38 ?_
    refine gs_aload_n (q := 1) k rfl rfl dX7_back_39 ?_
    refine gs_iload_n (q := 0) k rfl rfl dX7_back_40 ?_
    refine gs_callV (As := [.int 6]) (k0 := 65) (ci := 7) (T := TX7) (N := 27) k (c_X7_rowOf6 hI) cf_X7_rowOf im_X7_rowOf sl_X7_rowOf ml_X7_372 (hI 65 (by omega)) rfl rfl (by decide) rfl rfl (Nat.le_of_ble_eq_true rfl) dX7_back_41 (ppA ?_)
    refine gs_alen (k0 := 72) (n := 6) k (hI 72 (by omega)) (fun _ => rfl) rfl dX7_back_44 ?_
    refine gs_copy (k0 := 100) (k1 := 72) (n0 := 36) (n1 := 6) (n := 6) k ml_X7_376 (hI 100 (by omega)) (fun _ => rfl) (hI 72 (by omega)) (fun _ => rfl) (by decide) (by omega) (by omega) (by omega) (Nat.le_of_ble_eq_true rfl) dX7_back_45 ?_
    refine gs_M (M' := (rset (rset (rset (rset (rset (rset (rset (mw M 65 0 (M 65 24)) 66 (setr 36 (M 94) (M 66))) 67 (setr 8 (M 95) (M 67))) 68 (setr 8 (M 96) (M 68))) 69 (setr 6 (M 97) (M 69))) 70 (setr 6 (M 98) (M 70))) 71 (setr 6 (M 99) (M 71))) 72 (setr 6 (M 100) (M 72)))) (congrArg (rset (rset (rset (rset (rset (rset (rset (mw M 65 0 (M 65 24)) 66 (setr 36 (M 94) (M 66))) 67 (setr 8 (M 95) (M 67))) 68 (setr 8 (M 96) (M 68))) 69 (setr 6 (M 97) (M 69))) 70 (setr 6 (M 98) (M 70))) 71 (setr 6 (M 99) (M 71))) 72) ((cpy_setr _ _ _).trans (setr_rows (rowr (by omega) (rowr (by omega) (rowr (by omega) (rowr (by omega) (rowr (by omega) (rowr (by omega) (rown (by omega) rfl))))))) (rowr (by omega) (rowr (by omega) (rowr (by omega) (rowr (by omega) (rowr (by omega) (rowr (by omega) (rown (by omega) rfl)))))))))) ?_
    refine gs_iinc (q := 0) (v := 7) (lv' := [(1, .int 7), (0, .ref (E.2.2.1 65))]) k rfl (by decide) (by decide) rfl dX7_back_48 ?_
    refine gs_goto (tgt := 20) k (by decide) dX7_back_51 ?_
    refine gs_iload_n (q := 0) k rfl rfl dX7_back_20 ?_
    refine gs_bipush (v := 7) k (by decide) dX7_back_21 ?_
    refine gs_icmp_ge (tgt := 54) k (by decide) dX7_back_23 (fun _ => ?_) (fun h => absurd h (by decide))
    refine gs_iconst (v := 0) k (by decide) dX7_back_54 ?_
    refine gs_istore_n (lv' := [(1, .int 0), (0, .ref (E.2.2.1 65))]) k rfl (by decide) rfl dX7_back_55 ?_
    refine gs_iload_n (q := 0) k rfl rfl dX7_back_56 ?_
    refine gs_bipush (v := 6) k (by decide) dX7_back_57 ?_
    refine gs_icmp_ge (tgt := 87) k (by decide) dX7_back_59 (fun h => absurd h (by decide)) (fun _ => ?_)
    refine gs_aload_n (q := 1) k rfl rfl dX7_back_62 ?_
    refine gs_get (C := RX7) (T := TX7) (N := 27) (ci := 7) (k0 := 65) (j := 26) k (hI 65 (by omega)) rfl rfl inX7 (by decide) fl_X7_73 rfl rfl dX7_back_63 ?_
    refine gs_iload_n (q := 0) k rfl rfl dX7_back_66 ?_
    refine gs_aaldIN (k0 := 101) (n := 6) (e := 0) (a := E.2.2.1 102) k (hI 101 (by omega)) (fun _ => rfl) rfl (by omega) (by decide) rfl dX7_back_67 ?_
    refine gs_iconst (v := 0) k (by decide) dX7_back_68 ?_
    refine gs_aload_n (q := 1) k rfl rfl dX7_back_69 ?_
    refine gs_get (C := RX7) (T := TX7) (N := 27) (ci := 7) (k0 := 65) (j := 8) k (hI 65 (by omega)) rfl rfl inX7 (by decide) fl_X7_39 rfl rfl dX7_back_70 ?_
    refine gs_iload_n (q := 0) k rfl rfl dX7_back_73 ?_
    refine gs_aaldIN (k0 := 73) (n := 6) (e := 0) (a := E.2.2.1 74) k (hI 73 (by omega)) (fun _ => rfl) rfl (by omega) (by decide) rfl dX7_back_74 ?_
    refine gs_iconst (v := 0) k (by decide) dX7_back_75 ?_
    refine gs_bipush (v := 64) k (by decide) dX7_back_76 ?_
    refine gs_copy (k0 := 102) (k1 := 74) (n0 := 64) (n1 := 64) (n := 64) k ml_X7_376 (hI 102 (by omega)) (fun _ => rfl) (hI 74 (by omega)) (fun _ => rfl) (by decide) (by omega) (by omega) (by omega) (Nat.le_of_ble_eq_true rfl) dX7_back_78 ?_
    refine gs_M (M' := (rset (rset (rset (rset (rset (rset (rset (rset (mw M 65 0 (M 65 24)) 66 (setr 36 (M 94) (M 66))) 67 (setr 8 (M 95) (M 67))) 68 (setr 8 (M 96) (M 68))) 69 (setr 6 (M 97) (M 69))) 70 (setr 6 (M 98) (M 70))) 71 (setr 6 (M 99) (M 71))) 72 (setr 6 (M 100) (M 72))) 74 (setr 64 (M 102) (M 74)))) (congrArg (rset (rset (rset (rset (rset (rset (rset (rset (mw M 65 0 (M 65 24)) 66 (setr 36 (M 94) (M 66))) 67 (setr 8 (M 95) (M 67))) 68 (setr 8 (M 96) (M 68))) 69 (setr 6 (M 97) (M 69))) 70 (setr 6 (M 98) (M 70))) 71 (setr 6 (M 99) (M 71))) 72 (setr 6 (M 100) (M 72))) 74) ((cpy_setr _ _ _).trans (setr_rows (rowr (by omega) (rowr (by omega) (rowr (by omega) (rowr (by omega) (rowr (by omega) (rowr (by omega) (rowr (by omega) (rown (by omega) rfl)))))))) (rowr (by omega) (rowr (by omega) (rowr (by omega) (rowr (by omega) (rowr (by omega) (rowr (by omega) (rowr (by omega) (rown (by omega) rfl))))))))))) ?_
    refine gs_iinc (q := 0) (v := 1) (lv' := [(1, .int 1), (0, .ref (E.2.2.1 65))]) k rfl (by decide) (by decide) rfl dX7_back_81 ?_
    refine gs_goto (tgt := 56) k (by decide) dX7_back_84 ?_
    refine gs_iload_n (q := 0) k rfl rfl dX7_back_56 ?_
    refine gs_bipush (v := 6) k (by decide) dX7_back_57 ?_
    refine gs_icmp_ge (tgt := 87) k (by decide) dX7_back_59 (fun h => absurd h (by decide)) (fun _ => ?_)
    refine gs_aload_n (q := 1) k rfl rfl dX7_back_62 ?_
    refine gs_get (C := RX7) (T := TX7) (N := 27) (ci := 7) (k0 := 65) (j := 26) k (hI 65 (by omega)) rfl rfl inX7 (by decide) fl_X7_73 rfl rfl dX7_back_63 ?_
    refine gs_iload_n (q := 0) k rfl rfl dX7_back_66 ?_
    refine gs_aaldIN (k0 := 101) (n := 6) (e := 1) (a := E.2.2.1 103) k (hI 101 (by omega)) (fun _ => rfl) rfl (by omega) (by decide) rfl dX7_back_67 ?_
    refine gs_iconst (v := 0) k (by decide) dX7_back_68 ?_
    refine gs_aload_n (q := 1) k rfl rfl dX7_back_69 ?_
    refine gs_get (C := RX7) (T := TX7) (N := 27) (ci := 7) (k0 := 65) (j := 8) k (hI 65 (by omega)) rfl rfl inX7 (by decide) fl_X7_39 rfl rfl dX7_back_70 ?_
    refine gs_iload_n (q := 0) k rfl rfl dX7_back_73 ?_
    refine gs_aaldIN (k0 := 73) (n := 6) (e := 1) (a := E.2.2.1 75) k (hI 73 (by omega)) (fun _ => rfl) rfl (by omega) (by decide) rfl dX7_back_74 ?_
    refine gs_iconst (v := 0) k (by decide) dX7_back_75 ?_
    refine gs_bipush (v := 64) k (by decide) dX7_back_76 ?_
    refine gs_copy (k0 := 103) (k1 := 75) (n0 := 64) (n1 := 64) (n := 64) k ml_X7_376 (hI 103 (by omega)) (fun _ => rfl) (hI 75 (by omega)) (fun _ => rfl) (by decide) (by omega) (by omega) (by omega) (Nat.le_of_ble_eq_true rfl) dX7_back_78 ?_
    refine gs_M (M' := (rset (rset (rset (rset (rset (rset (rset (rset (rset (mw M 65 0 (M 65 24)) 66 (setr 36 (M 94) (M 66))) 67 (setr 8 (M 95) (M 67))) 68 (setr 8 (M 96) (M 68))) 69 (setr 6 (M 97) (M 69))) 70 (setr 6 (M 98) (M 70))) 71 (setr 6 (M 99) (M 71))) 72 (setr 6 (M 100) (M 72))) 74 (setr 64 (M 102) (M 74))) 75 (setr 64 (M 103) (M 75)))) (congrArg (rset (rset (rset (rset (rset (rset (rset (rset (rset (mw M 65 0 (M 65 24)) 66 (setr 36 (M 94) (M 66))) 67 (setr 8 (M 95) (M 67))) 68 (setr 8 (M 96) (M 68))) 69 (setr 6 (M 97) (M 69))) 70 (setr 6 (M 98) (M 70))) 71 (setr 6 (M 99) (M 71))) 72 (setr 6 (M 100) (M 72))) 74 (setr 64 (M 102) (M 74))) 75) ((cpy_setr _ _ _).trans (setr_rows (rowr (by omega) (rowr (by omega) (rowr (by omega) (rowr (by omega) (rowr (by omega) (rowr (by omega) (rowr (by omega) (rowr (by omega) (rown (by omega) rfl))))))))) (rowr (by omega) (rowr (by omega) (rowr (by omega) (rowr (by omega) (rowr (by omega) (rowr (by omega) (rowr (by omega) (rowr (by omega) (rown (by omega) rfl)))))))))))) ?_
    refine gs_iinc (q := 0) (v := 2) (lv' := [(1, .int 2), (0, .ref (E.2.2.1 65))]) k rfl (by decide) (by decide) rfl dX7_back_81 ?_
    refine gs_goto (tgt := 56) k (by decide) dX7_back_84 ?_
    refine gs_iload_n (q := 0) k rfl rfl dX7_back_56 ?_
    refine gs_bipush (v := 6) k (by decide) dX7_back_57 ?_
    refine gs_icmp_ge (tgt := 87) k (by decide) dX7_back_59 (fun h => absurd h (by decide)) (fun _ => ?_)
    refine gs_aload_n (q := 1) k rfl rfl dX7_back_62 ?_
    refine gs_get (C := RX7) (T := TX7) (N := 27) (ci := 7) (k0 := 65) (j := 26) k (hI 65 (by omega)) rfl rfl inX7 (by decide) fl_X7_73 rfl rfl dX7_back_63 ?_
    refine gs_iload_n (q := 0) k rfl rfl dX7_back_66 ?_
    refine gs_aaldIN (k0 := 101) (n := 6) (e := 2) (a := E.2.2.1 104) k (hI 101 (by omega)) (fun _ => rfl) rfl (by omega) (by decide) rfl dX7_back_67 ?_
    refine gs_iconst (v := 0) k (by decide) dX7_back_68 ?_
    refine gs_aload_n (q := 1) k rfl rfl dX7_back_69 ?_
    refine gs_get (C := RX7) (T := TX7) (N := 27) (ci := 7) (k0 := 65) (j := 8) k (hI 65 (by omega)) rfl rfl inX7 (by decide) fl_X7_39 rfl rfl dX7_back_70 ?_
    refine gs_iload_n (q := 0) k rfl rfl dX7_back_73 ?_
    refine gs_aaldIN (k0 := 73) (n := 6) (e := 2) (a := E.2.2.1 76) k (hI 73 (by omega)) (fun _ => rfl) rfl (by omega) (by decide) rfl dX7_back_74 ?_
    refine gs_iconst (v := 0) k (by decide) dX7_back_75 ?_
    refine gs_bipush (v := 64) k (by decide) dX7_back_76 ?_
    refine gs_copy (k0 := 104) (k1 := 76) (n0 := 64) (n1 := 64) (n := 64) k ml_X7_376 (hI 104 (by omega)) (fun _ => rfl) (hI 76 (by omega)) (fun _ => rfl) (by decide) (by omega) (by omega) (by omega) (Nat.le_of_ble_eq_true rfl) dX7_back_78 ?_
    refine gs_M (M' := (rset (rset (rset (rset (rset (rset (rset (rset (rset (rset (mw M 65 0 (M 65 24)) 66 (setr 36 (M 94) (M 66))) 67 (setr 8 (M 95) (M 67))) 68 (setr 8 (M 96) (M 68))) 69 (setr 6 (M 97) (M 69))) 70 (setr 6 (M 98) (M 70))) 71 (setr 6 (M 99) (M 71))) 72 (setr 6 (M 100) (M 72))) 74 (setr 64 (M 102) (M 74))) 75 (setr 64 (M 103) (M 75))) 76 (setr 64 (M 104) (M 76)))) (congrArg (rset (rset (rset (rset (rset (rset (rset (rset (rset (rset (mw M 65 0 (M 65 24)) 66 (setr 36 (M 94) (M 66))) 67 (setr 8 (M 95) (M 67))) 68 (setr 8 (M 96) (M 68))) 69 (setr 6 (M 97) (M 69))) 70 (setr 6 (M 98) (M 70))) 71 (setr 6 (M 99) (M 71))) 72 (setr 6 (M 100) (M 72))) 74 (setr 64 (M 102) (M 74))) 75 (setr 64 (M 103) (M 75))) 76) ((cpy_setr _ _ _).trans (setr_rows (rowr (by omega) (rowr (by omega) (rowr (by omega) (rowr (by omega) (rowr (by omega) (rowr (by omega) (rowr (by omega) (rowr (by omega) (rowr (by omega) (rown (by omega) rfl)))))))))) (rowr (by omega) (rowr (by omega) (rowr (by omega) (rowr (by omega) (rowr (by omega) (rowr (by omega) (rowr (by omega) (rowr (by omega) (rowr (by omega) (rown (by omega) rfl))))))))))))) ?_
    refine gs_iinc (q := 0) (v := 3) (lv' := [(1, .int 3), (0, .ref (E.2.2.1 65))]) k rfl (by decide) (by decide) rfl dX7_back_81 ?_
    refine gs_goto (tgt := 56) k (by decide) dX7_back_84 ?_
    refine gs_iload_n (q := 0) k rfl rfl dX7_back_56 ?_
    refine gs_bipush (v := 6) k (by decide) dX7_back_57 ?_
    refine gs_icmp_ge (tgt := 87) k (by decide) dX7_back_59 (fun h => absurd h (by decide)) (fun _ => ?_)
    refine gs_aload_n (q := 1) k rfl rfl dX7_back_62 ?_
    refine gs_get (C := RX7) (T := TX7) (N := 27) (ci := 7) (k0 := 65) (j := 26) k (hI 65 (by omega)) rfl rfl inX7 (by decide) fl_X7_73 rfl rfl dX7_back_63 ?_
    refine gs_iload_n (q := 0) k rfl rfl dX7_back_66 ?_
    refine gs_aaldIN (k0 := 101) (n := 6) (e := 3) (a := E.2.2.1 105) k (hI 101 (by omega)) (fun _ => rfl) rfl (by omega) (by decide) rfl dX7_back_67 ?_
    refine gs_iconst (v := 0) k (by decide) dX7_back_68 ?_
    refine gs_aload_n (q := 1) k rfl rfl dX7_back_69 ?_
    refine gs_get (C := RX7) (T := TX7) (N := 27) (ci := 7) (k0 := 65) (j := 8) k (hI 65 (by omega)) rfl rfl inX7 (by decide) fl_X7_39 rfl rfl dX7_back_70 ?_
    refine gs_iload_n (q := 0) k rfl rfl dX7_back_73 ?_
    refine gs_aaldIN (k0 := 73) (n := 6) (e := 3) (a := E.2.2.1 77) k (hI 73 (by omega)) (fun _ => rfl) rfl (by omega) (by decide) rfl dX7_back_74 ?_
    refine gs_iconst (v := 0) k (by decide) dX7_back_75 ?_
    refine gs_bipush (v := 64) k (by decide) dX7_back_76 ?_
    refine gs_copy (k0 := 105) (k1 := 77) (n0 := 64) (n1 := 64) (n := 64) k ml_X7_376 (hI 105 (by omega)) (fun _ => rfl) (hI 77 (by omega)) (fun _ => rfl) (by decide) (by omega) (by omega) (by omega) (Nat.le_of_ble_eq_true rfl) dX7_back_78 ?_
    refine gs_M (M' := (rset (rset (rset (rset (rset (rset (rset (rset (rset (rset (rset (mw M 65 0 (M 65 24)) 66 (setr 36 (M 94) (M 66))) 67 (setr 8 (M 95) (M 67))) 68 (setr 8 (M 96) (M 68))) 69 (setr 6 (M 97) (M 69))) 70 (setr 6 (M 98) (M 70))) 71 (setr 6 (M 99) (M 71))) 72 (setr 6 (M 100) (M 72))) 74 (setr 64 (M 102) (M 74))) 75 (setr 64 (M 103) (M 75))) 76 (setr 64 (M 104) (M 76))) 77 (setr 64 (M 105) (M 77)))) (congrArg (rset (rset (rset (rset (rset (rset (rset (rset (rset (rset (rset (mw M 65 0 (M 65 24)) 66 (setr 36 (M 94) (M 66))) 67 (setr 8 (M 95) (M 67))) 68 (setr 8 (M 96) (M 68))) 69 (setr 6 (M 97) (M 69))) 70 (setr 6 (M 98) (M 70))) 71 (setr 6 (M 99) (M 71))) 72 (setr 6 (M 100) (M 72))) 74 (setr 64 (M 102) (M 74))) 75 (setr 64 (M 103) (M 75))) 76 (setr 64 (M 104) (M 76))) 77) ((cpy_setr _ _ _).trans (setr_rows (rowr (by omega) (rowr (by omega) (rowr (by omega) (rowr (by omega) (rowr (by omega) (rowr (by omega) (rowr (by omega) (rowr (by omega) (rowr (by omega) (rowr (by omega) (rown (by omega) rfl))))))))))) (rowr (by omega) (rowr (by omega) (rowr (by omega) (rowr (by omega) (rowr (by omega) (rowr (by omega) (rowr (by omega) (rowr (by omega) (rowr (by omega) (rowr (by omega) (rown (by omega) rfl)))))))))))))) ?_
    refine gs_iinc (q := 0) (v := 4) (lv' := [(1, .int 4), (0, .ref (E.2.2.1 65))]) k rfl (by decide) (by decide) rfl dX7_back_81 ?_
    refine gs_goto (tgt := 56) k (by decide) dX7_back_84 ?_
    refine gs_iload_n (q := 0) k rfl rfl dX7_back_56 ?_
    refine gs_bipush (v := 6) k (by decide) dX7_back_57 ?_
    refine gs_icmp_ge (tgt := 87) k (by decide) dX7_back_59 (fun h => absurd h (by decide)) (fun _ => ?_)
    refine gs_aload_n (q := 1) k rfl rfl dX7_back_62 ?_
    refine gs_get (C := RX7) (T := TX7) (N := 27) (ci := 7) (k0 := 65) (j := 26) k (hI 65 (by omega)) rfl rfl inX7 (by decide) fl_X7_73 rfl rfl dX7_back_63 ?_
    refine gs_iload_n (q := 0) k rfl rfl dX7_back_66 ?_
    refine gs_aaldIN (k0 := 101) (n := 6) (e := 4) (a := E.2.2.1 106) k (hI 101 (by omega)) (fun _ => rfl) rfl (by omega) (by decide) rfl dX7_back_67 ?_
    refine gs_iconst (v := 0) k (by decide) dX7_back_68 ?_
    refine gs_aload_n (q := 1) k rfl rfl dX7_back_69 ?_
    refine gs_get (C := RX7) (T := TX7) (N := 27) (ci := 7) (k0 := 65) (j := 8) k (hI 65 (by omega)) rfl rfl inX7 (by decide) fl_X7_39 rfl rfl dX7_back_70 ?_
    refine gs_iload_n (q := 0) k rfl rfl dX7_back_73 ?_
    refine gs_aaldIN (k0 := 73) (n := 6) (e := 4) (a := E.2.2.1 78) k (hI 73 (by omega)) (fun _ => rfl) rfl (by omega) (by decide) rfl dX7_back_74 ?_
    refine gs_iconst (v := 0) k (by decide) dX7_back_75 ?_
    refine gs_bipush (v := 64) k (by decide) dX7_back_76 ?_
    refine gs_copy (k0 := 106) (k1 := 78) (n0 := 64) (n1 := 64) (n := 64) k ml_X7_376 (hI 106 (by omega)) (fun _ => rfl) (hI 78 (by omega)) (fun _ => rfl) (by decide) (by omega) (by omega) (by omega) (Nat.le_of_ble_eq_true rfl) dX7_back_78 ?_
    refine gs_M (M' := (rset (rset (rset (rset (rset (rset (rset (rset (rset (rset (rset (rset (mw M 65 0 (M 65 24)) 66 (setr 36 (M 94) (M 66))) 67 (setr 8 (M 95) (M 67))) 68 (setr 8 (M 96) (M 68))) 69 (setr 6 (M 97) (M 69))) 70 (setr 6 (M 98) (M 70))) 71 (setr 6 (M 99) (M 71))) 72 (setr 6 (M 100) (M 72))) 74 (setr 64 (M 102) (M 74))) 75 (setr 64 (M 103) (M 75))) 76 (setr 64 (M 104) (M 76))) 77 (setr 64 (M 105) (M 77))) 78 (setr 64 (M 106) (M 78)))) (congrArg (rset (rset (rset (rset (rset (rset (rset (rset (rset (rset (rset (rset (mw M 65 0 (M 65 24)) 66 (setr 36 (M 94) (M 66))) 67 (setr 8 (M 95) (M 67))) 68 (setr 8 (M 96) (M 68))) 69 (setr 6 (M 97) (M 69))) 70 (setr 6 (M 98) (M 70))) 71 (setr 6 (M 99) (M 71))) 72 (setr 6 (M 100) (M 72))) 74 (setr 64 (M 102) (M 74))) 75 (setr 64 (M 103) (M 75))) 76 (setr 64 (M 104) (M 76))) 77 (setr 64 (M 105) (M 77))) 78) ((cpy_setr _ _ _).trans (setr_rows (rowr (by omega) (rowr (by omega) (rowr (by omega) (rowr (by omega) (rowr (by omega) (rowr (by omega) (rowr (by omega) (rowr (by omega) (rowr (by omega) (rowr (by omega) (rowr (by omega) (rown (by omega) rfl)))))))))))) (rowr (by omega) (rowr (by omega) (rowr (by omega) (rowr (by omega) (rowr (by omega) (rowr (by omega) (rowr (by omega) (rowr (by omega) (rowr (by omega) (rowr (by omega) (rowr (by omega) (rown (by omega) rfl))))))))))))))) ?_
    refine gs_iinc (q := 0) (v := 5) (lv' := [(1, .int 5), (0, .ref (E.2.2.1 65))]) k rfl (by decide) (by decide) rfl dX7_back_81 ?_
    refine gs_goto (tgt := 56) k (by decide) dX7_back_84 ?_
    refine gs_iload_n (q := 0) k rfl rfl dX7_back_56 ?_
    refine gs_bipush (v := 6) k (by decide) dX7_back_57 ?_
    refine gs_icmp_ge (tgt := 87) k (by decide) dX7_back_59 (fun h => absurd h (by decide)) (fun _ => ?_)
    refine gs_aload_n (q := 1) k rfl rfl dX7_back_62 ?_
    refine gs_get (C := RX7) (T := TX7) (N := 27) (ci := 7) (k0 := 65) (j := 26) k (hI 65 (by omega)) rfl rfl inX7 (by decide) fl_X7_73 rfl rfl dX7_back_63 ?_
    refine gs_iload_n (q := 0) k rfl rfl dX7_back_66 ?_
    refine gs_aaldIN (k0 := 101) (n := 6) (e := 5) (a := E.2.2.1 107) k (hI 101 (by omega)) (fun _ => rfl) rfl (by omega) (by decide) rfl dX7_back_67 ?_
    refine gs_iconst (v := 0) k (by decide) dX7_back_68 ?_
    refine gs_aload_n (q := 1) k rfl rfl dX7_back_69 ?_
    refine gs_get (C := RX7) (T := TX7) (N := 27) (ci := 7) (k0 := 65) (j := 8) k (hI 65 (by omega)) rfl rfl inX7 (by decide) fl_X7_39 rfl rfl dX7_back_70 ?_
    refine gs_iload_n (q := 0) k rfl rfl dX7_back_73 ?_
    refine gs_aaldIN (k0 := 73) (n := 6) (e := 5) (a := E.2.2.1 79) k (hI 73 (by omega)) (fun _ => rfl) rfl (by omega) (by decide) rfl dX7_back_74 ?_
    refine gs_iconst (v := 0) k (by decide) dX7_back_75 ?_
    refine gs_bipush (v := 64) k (by decide) dX7_back_76 ?_
    refine gs_copy (k0 := 107) (k1 := 79) (n0 := 64) (n1 := 64) (n := 64) k ml_X7_376 (hI 107 (by omega)) (fun _ => rfl) (hI 79 (by omega)) (fun _ => rfl) (by decide) (by omega) (by omega) (by omega) (Nat.le_of_ble_eq_true rfl) dX7_back_78 ?_
    refine gs_M (M' := (rset (rset (rset (rset (rset (rset (rset (rset (rset (rset (rset (rset (rset (mw M 65 0 (M 65 24)) 66 (setr 36 (M 94) (M 66))) 67 (setr 8 (M 95) (M 67))) 68 (setr 8 (M 96) (M 68))) 69 (setr 6 (M 97) (M 69))) 70 (setr 6 (M 98) (M 70))) 71 (setr 6 (M 99) (M 71))) 72 (setr 6 (M 100) (M 72))) 74 (setr 64 (M 102) (M 74))) 75 (setr 64 (M 103) (M 75))) 76 (setr 64 (M 104) (M 76))) 77 (setr 64 (M 105) (M 77))) 78 (setr 64 (M 106) (M 78))) 79 (setr 64 (M 107) (M 79)))) (congrArg (rset (rset (rset (rset (rset (rset (rset (rset (rset (rset (rset (rset (rset (mw M 65 0 (M 65 24)) 66 (setr 36 (M 94) (M 66))) 67 (setr 8 (M 95) (M 67))) 68 (setr 8 (M 96) (M 68))) 69 (setr 6 (M 97) (M 69))) 70 (setr 6 (M 98) (M 70))) 71 (setr 6 (M 99) (M 71))) 72 (setr 6 (M 100) (M 72))) 74 (setr 64 (M 102) (M 74))) 75 (setr 64 (M 103) (M 75))) 76 (setr 64 (M 104) (M 76))) 77 (setr 64 (M 105) (M 77))) 78 (setr 64 (M 106) (M 78))) 79) ((cpy_setr _ _ _).trans (setr_rows (rowr (by omega) (rowr (by omega) (rowr (by omega) (rowr (by omega) (rowr (by omega) (rowr (by omega) (rowr (by omega) (rowr (by omega) (rowr (by omega) (rowr (by omega) (rowr (by omega) (rowr (by omega) (rown (by omega) rfl))))))))))))) (rowr (by omega) (rowr (by omega) (rowr (by omega) (rowr (by omega) (rowr (by omega) (rowr (by omega) (rowr (by omega) (rowr (by omega) (rowr (by omega) (rowr (by omega) (rowr (by omega) (rowr (by omega) (rown (by omega) rfl)))))))))))))))) ?_
    refine gs_iinc (q := 0) (v := 6) (lv' := [(1, .int 6), (0, .ref (E.2.2.1 65))]) k rfl (by decide) (by decide) rfl dX7_back_81 ?_
    refine gs_goto (tgt := 56) k (by decide) dX7_back_84 ?_
    refine gs_iload_n (q := 0) k rfl rfl dX7_back_56 ?_
    refine gs_bipush (v := 6) k (by decide) dX7_back_57 ?_
    refine gs_icmp_ge (tgt := 87) k (by decide) dX7_back_59 (fun _ => ?_) (fun h => absurd h (by decide))
    refine gs_aload_n (q := 1) k rfl rfl dX7_back_87 ?_
    refine gs_callV (As := []) (k0 := 65) (ci := 7) (T := TX7) (N := 27) k (c_X7_functions (M := bkR M) hI (bkR_F (hS c1))) cf_X7_functions im_X7_functions sl_X7_functions ml_X7_382 (hI 65 (by omega)) rfl rfl (by decide) rfl rfl (Nat.le_of_ble_eq_true rfl) dX7_back_88 (ppI ?_)
    exact gs_iret k kt dX7_back_91 ⟨(by simp [A_back, ifc_T, ifc_F, c1]), (ifc_f c1).symm⟩
  · refine gs_bipush (v := -3) k (by decide) dX7_back_7 ?_
    exact gs_iret k kt dX7_back_9 ⟨(by simp [-Int32.not_lt, A_back, ifc_T, ifc_F, c1]), (by simp [-Int32.not_lt, A_back, ifc_T, ifc_F, c1])⟩

noncomputable def A_count (n : Nat) (kd : Nat → Int32) (ld ws : Nat → Int32) (tl pl w : Int32) : Int32 := ifc (inR w 6) (ifc (w = 0) (nI n) (ifc (w = 1) (nI (prs kd)) (ifc (w = 2) (nI (nz ld 36)) (ifc (w = 3) (nI (nz ws 8)) (ifc (w = 4) tl pl))))) (-2)
theorem i0_6 : inR 0 6 := by unfold inR; decide
theorem i1_6 : inR 1 6 := by unfold inR; decide
theorem i2_6 : inR 2 6 := by unfold inR; decide
theorem i3_6 : inR 3 6 := by unfold inR; decide
theorem i4_6 : inR 4 6 := by unfold inR; decide
theorem i5_6 : inR 5 6 := by unfold inR; decide
theorem tab_out {x : Int32} (h : ¬ inR x 6) : x.toInt < 0 ∨ (5 : Int) < x.toInt := by
  unfold inR at h
  omega
theorem cf_X6_count : CF yX6_count cX6_count 2 (some .int) 1 := ⟨cd_X6_count, iz_X6, by decide, by decide +kernel, by decide +kernel, by decide +kernel⟩
set_option maxRecDepth 100000 in
set_option maxHeartbeats 4000000 in
theorem c_X6_count {l : Launch} {E : Ev} {M : Mm} {n : Nat} {kd : Nat → Int32} {V : Nat → Nat → Int32} (hI : ∀ k, k < 108 → k ∈ E.2.1) (hn : Cn M n) (hF : CFn M n kd V) {w : Int32} : Cm l E yX6_count cX6_count 2 (some .int) 2 [.ref (E.2.2.1 0), .int w] M (pI (A_count n kd (M 2) (M 3) (M 52 0) (M 56 0) w) M) := by
  refine Cm.of (by decide) (Nat.le_of_ble_eq_true rfl) (fun K k kt => ?_)
  show G l E K 0 [(0, .ref (E.2.2.1 0)), (1, .int w)] [] M
  obtain ⟨hn0, hn1, hn6⟩ := id hn
  have hp := p2_le6 hn6
  have hp2 := p2_ge2 hn1
  refine gs_iload_n (q := 1) k rfl rfl dX6_count_0 ?_
  by_cases h : inR w 6
  · rcases inR6 h with rfl | rfl | rfl | rfl | rfl | rfl
    · refine gs_tableIn (off := 39) (tgt := 40) k (by decide) (by decide) (by decide) (by decide) dX6_count_1 ?_
      refine gs_aload_n (q := 0) k rfl rfl dX6_count_40 ?_
      refine gs_get (C := RX6) (T := TX6) (N := 10) (ci := 6) (k0 := 0) (j := 0) k (hI 0 (by omega)) rfl rfl inX6 (by decide) fl_X6_12 rfl rfl dX6_count_41 ?_
      refine gs_get (C := RX5) (T := TX5) (N := 9) (ci := 5) (k0 := 1) (j := 0) k (hI 1 (by omega)) rfl rfl inX5 (by decide) fl_X6_63 rfl rfl dX6_count_44 ?_
      exact gs_iret k kt dX6_count_47 ⟨(by simp [-Int32.not_lt, A_count, ifc_T, ifc_F, i0_6, i1_6, i2_6, i3_6, i4_6, i5_6, h, hn0]), rfl⟩
    · refine gs_tableIn (off := 47) (tgt := 48) k (by decide) (by decide) (by decide) (by decide) dX6_count_1 ?_
      refine gs_aload_n (q := 0) k rfl rfl dX6_count_48 ?_
      refine gs_get (C := RX6) (T := TX6) (N := 10) (ci := 6) (k0 := 0) (j := 0) k (hI 0 (by omega)) rfl rfl inX6 (by decide) fl_X6_12 rfl rfl dX6_count_49 ?_
      refine gs_callV (As := []) (k0 := 1) (ci := 5) (T := TX5) (N := 9) k (c_X5_presentFunctions hI hF) cf_X5_presentFunctions im_X5_presentFunctions sl_X5_presentFunctions ml_X6_294 (hI 1 (by omega)) rfl rfl (by decide) rfl rfl (Nat.le_of_ble_eq_true rfl) dX6_count_52 (ppI ?_)
      exact gs_iret k kt dX6_count_55 ⟨(by simp [-Int32.not_lt, A_count, ifc_T, ifc_F, i0_6, i1_6, i2_6, i3_6, i4_6, i5_6, h, hn0]), rfl⟩
    · refine gs_tableIn (off := 55) (tgt := 56) k (by decide) (by decide) (by decide) (by decide) dX6_count_1 ?_
      refine gs_aload_n (q := 0) k rfl rfl dX6_count_56 ?_
      refine gs_get (C := RX6) (T := TX6) (N := 10) (ci := 6) (k0 := 0) (j := 0) k (hI 0 (by omega)) rfl rfl inX6 (by decide) fl_X6_12 rfl rfl dX6_count_57 ?_
      refine gs_get (C := RX5) (T := TX5) (N := 9) (ci := 5) (k0 := 1) (j := 1) k (hI 1 (by omega)) rfl rfl inX5 (by decide) fl_X6_75 rfl rfl dX6_count_60 ?_
      refine gs_callS (As := [.ref (E.2.2.1 2)]) k (c_X6_nonZero36 (hI 2 (by omega)) (fun _ => rfl)) cf_X6_nonZero sm_X6_nonZero ml_X6_297 (by decide) rfl rfl (Nat.le_of_ble_eq_true rfl) dX6_count_63 (ppI ?_)
      exact gs_iret k kt dX6_count_66 ⟨(by simp [-Int32.not_lt, A_count, ifc_T, ifc_F, i0_6, i1_6, i2_6, i3_6, i4_6, i5_6, h, hn0]), rfl⟩
    · refine gs_tableIn (off := 66) (tgt := 67) k (by decide) (by decide) (by decide) (by decide) dX6_count_1 ?_
      refine gs_aload_n (q := 0) k rfl rfl dX6_count_67 ?_
      refine gs_get (C := RX6) (T := TX6) (N := 10) (ci := 6) (k0 := 0) (j := 0) k (hI 0 (by omega)) rfl rfl inX6 (by decide) fl_X6_12 rfl rfl dX6_count_68 ?_
      refine gs_get (C := RX5) (T := TX5) (N := 9) (ci := 5) (k0 := 1) (j := 2) k (hI 1 (by omega)) rfl rfl inX5 (by decide) fl_X6_81 rfl rfl dX6_count_71 ?_
      refine gs_callS (As := [.ref (E.2.2.1 3)]) k (c_X6_nonZero8 (hI 3 (by omega)) (fun _ => rfl)) cf_X6_nonZero sm_X6_nonZero ml_X6_297 (by decide) rfl rfl (Nat.le_of_ble_eq_true rfl) dX6_count_74 (ppI ?_)
      exact gs_iret k kt dX6_count_77 ⟨(by simp [-Int32.not_lt, A_count, ifc_T, ifc_F, i0_6, i1_6, i2_6, i3_6, i4_6, i5_6, h, hn0]), rfl⟩
    · refine gs_tableIn (off := 77) (tgt := 78) k (by decide) (by decide) (by decide) (by decide) dX6_count_1 ?_
      refine gs_aload_n (q := 0) k rfl rfl dX6_count_78 ?_
      refine gs_get (C := RX6) (T := TX6) (N := 10) (ci := 6) (k0 := 0) (j := 4) k (hI 0 (by omega)) rfl rfl inX6 (by decide) fl_X6_35 rfl rfl dX6_count_79 ?_
      refine gs_get (C := RX4) (T := TX4) (N := 6) (ci := 4) (k0 := 52) (j := 0) k (hI 52 (by omega)) rfl rfl inX4 (by decide) fl_X6_246 rfl rfl dX6_count_82 ?_
      exact gs_iret k kt dX6_count_85 ⟨(by simp [-Int32.not_lt, A_count, ifc_T, ifc_F, i0_6, i1_6, i2_6, i3_6, i4_6, i5_6, h, hn0]), rfl⟩
    · refine gs_tableIn (off := 85) (tgt := 86) k (by decide) (by decide) (by decide) (by decide) dX6_count_1 ?_
      refine gs_aload_n (q := 0) k rfl rfl dX6_count_86 ?_
      refine gs_get (C := RX6) (T := TX6) (N := 10) (ci := 6) (k0 := 0) (j := 5) k (hI 0 (by omega)) rfl rfl inX6 (by decide) fl_X6_42 rfl rfl dX6_count_87 ?_
      refine gs_get (C := RX1) (T := TX1) (N := 2) (ci := 1) (k0 := 56) (j := 0) k (hI 56 (by omega)) rfl rfl inX1 (by decide) fl_X6_258 rfl rfl dX6_count_90 ?_
      exact gs_iret k kt dX6_count_93 ⟨(by simp [-Int32.not_lt, A_count, ifc_T, ifc_F, i0_6, i1_6, i2_6, i3_6, i4_6, i5_6, h, hn0]), rfl⟩
  · refine gs_tableOut (tgt := 94) k (tab_out h) (by decide) dX6_count_1 ?_
    refine gs_bipush (v := -2) k (by decide) dX6_count_94 ?_
    exact gs_iret k kt dX6_count_96 ⟨(by simp [-Int32.not_lt, A_count, ifc_T, ifc_F, h]), rfl⟩

theorem cf_X7_count : CF yX7_count cX7_count 2 (some .int) 1 := ⟨cd_X7_count, iz_X7, by decide, by decide +kernel, by decide +kernel, by decide +kernel⟩
set_option maxRecDepth 100000 in
set_option maxHeartbeats 4000000 in
theorem c_X7_count {l : Launch} {E : Ev} {M : Mm} {n : Nat} {kd : Nat → Int32} {V : Nat → Nat → Int32} (hI : ∀ k, k < 108 → k ∈ E.2.1) (hn : Rn M n) (hF : RFn M n kd V) {w : Int32} : Cm l E yX7_count cX7_count 2 (some .int) 2 [.ref (E.2.2.1 65), .int w] M (pI (A_count n kd (M 66) (M 67) (M 65 14) (M 65 20) w) M) := by
  refine Cm.of (by decide) (Nat.le_of_ble_eq_true rfl) (fun K k kt => ?_)
  show G l E K 0 [(0, .ref (E.2.2.1 65)), (1, .int w)] [] M
  obtain ⟨hn0, hn1, hn6⟩ := id hn
  have hp := p2_le6 hn6
  have hp2 := p2_ge2 hn1
  refine gs_iload_n (q := 1) k rfl rfl dX7_count_0 ?_
  by_cases h : inR w 6
  · rcases inR6 h with rfl | rfl | rfl | rfl | rfl | rfl
    · refine gs_tableIn (off := 39) (tgt := 40) k (by decide) (by decide) (by decide) (by decide) dX7_count_1 ?_
      refine gs_aload_n (q := 0) k rfl rfl dX7_count_40 ?_
      refine gs_get (C := RX7) (T := TX7) (N := 27) (ci := 7) (k0 := 65) (j := 0) k (hI 65 (by omega)) rfl rfl inX7 (by decide) fl_X7_9 rfl rfl dX7_count_41 ?_
      exact gs_iret k kt dX7_count_44 ⟨(by simp [-Int32.not_lt, A_count, ifc_T, ifc_F, i0_6, i1_6, i2_6, i3_6, i4_6, i5_6, h, hn0]), rfl⟩
    · refine gs_tableIn (off := 44) (tgt := 45) k (by decide) (by decide) (by decide) (by decide) dX7_count_1 ?_
      refine gs_aload_n (q := 0) k rfl rfl dX7_count_45 ?_
      refine gs_callV (As := []) (k0 := 65) (ci := 7) (T := TX7) (N := 27) k (c_X7_functions hI hF) cf_X7_functions im_X7_functions sl_X7_functions ml_X7_382 (hI 65 (by omega)) rfl rfl (by decide) rfl rfl (Nat.le_of_ble_eq_true rfl) dX7_count_46 (ppI ?_)
      exact gs_iret k kt dX7_count_49 ⟨(by simp [-Int32.not_lt, A_count, ifc_T, ifc_F, i0_6, i1_6, i2_6, i3_6, i4_6, i5_6, h, hn0]), rfl⟩
    · refine gs_tableIn (off := 49) (tgt := 50) k (by decide) (by decide) (by decide) (by decide) dX7_count_1 ?_
      refine gs_aload_n (q := 0) k rfl rfl dX7_count_50 ?_
      refine gs_get (C := RX7) (T := TX7) (N := 27) (ci := 7) (k0 := 65) (j := 1) k (hI 65 (by omega)) rfl rfl inX7 (by decide) fl_X7_15 rfl rfl dX7_count_51 ?_
      refine gs_callS (As := [.ref (E.2.2.1 66)]) k (c_X7_unlikeNought36 (hI 66 (by omega)) (fun _ => rfl)) cf_X7_unlikeNought sm_X7_unlikeNought ml_X7_385 (by decide) rfl rfl (Nat.le_of_ble_eq_true rfl) dX7_count_54 (ppI ?_)
      exact gs_iret k kt dX7_count_57 ⟨(by simp [-Int32.not_lt, A_count, ifc_T, ifc_F, i0_6, i1_6, i2_6, i3_6, i4_6, i5_6, h, hn0]), rfl⟩
    · refine gs_tableIn (off := 57) (tgt := 58) k (by decide) (by decide) (by decide) (by decide) dX7_count_1 ?_
      refine gs_aload_n (q := 0) k rfl rfl dX7_count_58 ?_
      refine gs_get (C := RX7) (T := TX7) (N := 27) (ci := 7) (k0 := 65) (j := 2) k (hI 65 (by omega)) rfl rfl inX7 (by decide) fl_X7_19 rfl rfl dX7_count_59 ?_
      refine gs_callS (As := [.ref (E.2.2.1 67)]) k (c_X7_unlikeNought8 (hI 67 (by omega)) (fun _ => rfl)) cf_X7_unlikeNought sm_X7_unlikeNought ml_X7_385 (by decide) rfl rfl (Nat.le_of_ble_eq_true rfl) dX7_count_62 (ppI ?_)
      exact gs_iret k kt dX7_count_65 ⟨(by simp [-Int32.not_lt, A_count, ifc_T, ifc_F, i0_6, i1_6, i2_6, i3_6, i4_6, i5_6, h, hn0]), rfl⟩
    · refine gs_tableIn (off := 65) (tgt := 66) k (by decide) (by decide) (by decide) (by decide) dX7_count_1 ?_
      refine gs_aload_n (q := 0) k rfl rfl dX7_count_66 ?_
      refine gs_get (C := RX7) (T := TX7) (N := 27) (ci := 7) (k0 := 65) (j := 14) k (hI 65 (by omega)) rfl rfl inX7 (by decide) fl_X7_261 rfl rfl dX7_count_67 ?_
      exact gs_iret k kt dX7_count_70 ⟨(by simp [-Int32.not_lt, A_count, ifc_T, ifc_F, i0_6, i1_6, i2_6, i3_6, i4_6, i5_6, h, hn0]), rfl⟩
    · refine gs_tableIn (off := 70) (tgt := 71) k (by decide) (by decide) (by decide) (by decide) dX7_count_1 ?_
      refine gs_aload_n (q := 0) k rfl rfl dX7_count_71 ?_
      refine gs_get (C := RX7) (T := TX7) (N := 27) (ci := 7) (k0 := 65) (j := 20) k (hI 65 (by omega)) rfl rfl inX7 (by decide) fl_X7_353 rfl rfl dX7_count_72 ?_
      exact gs_iret k kt dX7_count_75 ⟨(by simp [-Int32.not_lt, A_count, ifc_T, ifc_F, i0_6, i1_6, i2_6, i3_6, i4_6, i5_6, h, hn0]), rfl⟩
  · refine gs_tableOut (tgt := 76) k (tab_out h) (by decide) dX7_count_1 ?_
    refine gs_bipush (v := -2) k (by decide) dX7_count_76 ?_
    exact gs_iret k kt dX7_count_78 ⟨(by simp [-Int32.not_lt, A_count, ifc_T, ifc_F, h]), rfl⟩

