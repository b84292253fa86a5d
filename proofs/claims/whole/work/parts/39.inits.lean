def adl (b : Nat) (L : List Nat) : Nat → Nat := fun k => L.getD (k - b) 0
def kc (b k : Nat) : Bool := Nat.beq k (b + 9) || (Nat.beq k (b + 11) || (Nat.beq k (b + 13) || (Nat.beq k (b + 15) || (Nat.beq k (b + 17) || Nat.beq k (b + 19)))))
def mI (b : Nat) : Mm := fun k j => bif kc b k then (bif Nat.beq j 0 then -1 else 0) else 0
def kl (k : Nat) : Bool := Nat.beq k 44 || (Nat.beq k 46 || (Nat.beq k 48 || Nat.beq k 50))
def m6 : Mm := fun k => bif Nat.blt k 1 then (fun _ => 0) else bif Nat.blt k 22 then sta1 4 (mI 1) k else bif Nat.blt k 43 then sta22 4 (mI 22) k else bif kl k then (fun j => bif Nat.beq j 0 then -1 else 0) else (fun _ => 0)
def m7 : Mm := fun k j => bif Nat.beq k 65 then (bif Nat.beq j 0 then 4 else 0) else 0
theorem cf_X3_init : CF yX3_init cX3_init 1 none 0 := ⟨cd_X3_init, iz_X3, by decide, by decide +kernel, by decide +kernel, by decide +kernel⟩
theorem cf_X0_init : CF yX0_init cX0_init 1 none 0 := ⟨cd_X0_init, iz_X0, by decide, by decide +kernel, by decide +kernel, by decide +kernel⟩
theorem cf_X1_init : CF yX1_init cX1_init 1 none 0 := ⟨cd_X1_init, iz_X1, by decide, by decide +kernel, by decide +kernel, by decide +kernel⟩
theorem cf_X2_init : CF yX2_init cX2_init 1 none 0 := ⟨cd_X2_init, iz_X2, by decide, by decide +kernel, by decide +kernel, by decide +kernel⟩
theorem cf_X4_init : CF yX4_init cX4_init 1 none 0 := ⟨cd_X4_init, iz_X4, by decide, by decide +kernel, by decide +kernel, by decide +kernel⟩
theorem cf_X5_init : CF yX5_init cX5_init 2 none 0 := ⟨cd_X5_init, iz_X5, by decide, by decide +kernel, by decide +kernel, by decide +kernel⟩
theorem cf_X6_init : CF yX6_init cX6_init 2 none 0 := ⟨cd_X6_init, iz_X6, by decide, by decide +kernel, by decide +kernel, by decide +kernel⟩
theorem cf_X7_init : CF yX7_init cX7_init 2 none 0 := ⟨cd_X7_init, iz_X7, by decide, by decide +kernel, by decide +kernel, by decide +kernel⟩
theorem c_X0_init {l : Launch} {D : va_G} {cA : Nat → ClassId} {am : Am} {q : Nat} : Ci l D cA am yX0_init cX0_init 1 1 1 64 q (.inr (0, [.int 0, .null])) (fun u => ∃ a1 : Nat, u = [(q, .inr (0, [.int (-1), .ref a1])), (a1, ai cA 64 (fun _ => 0))]) := by
  refine Ci.of (by decide +kernel) rfl (by decide) (fun K k hni t => ?_)
  refine gi_aload_n (q := 0) k rfl rfl dX0_init_0 ?_
  refine gi_obj k ml_X0_3 (by decide) (Nat.le_of_ble_eq_true rfl) dX0_init_1 ?_
  refine gi_aload_n (q := 0) k rfl rfl dX0_init_4 ?_
  refine gi_iconst (v := -1) k (by decide) dX0_init_5 ?_
  refine gi_put (C := RX0) (T := TX0) (N := 2) (ci := 0) (q0 := 0) (j := 0) (ty := .int) k rfl rfl inX0 tyX0 tyX0_ok nmX0 (by decide) fl_X0_11 rfl rfl (tyX0_ok 0 (by decide)) rfl rfl (Nat.le_of_ble_eq_true rfl) dX0_init_6 (ws' := [(q, .inr (0, [.int (-1), .null]))]) rfl ?_
  refine gi_aload_n (q := 0) k rfl rfl dX0_init_9 ?_
  refine gi_bipush (v := 64) k (by decide) dX0_init_10 ?_
  refine gi_newI (N := 64) k (by decide) (by decide) (by decide) (by decide) (by decide) dX0_init_12 (fun a1 => ?_)
  refine gi_ws (ws' := [(q, .inr (0, [.int (-1), .null])), (a1, ai cA 64 (fun _ => 0))]) (k1 := 1) (k2 := 64) rfl rfl rfl ?_
  refine gi_putF (C := RX0) (T := TX0) (N := 2) (ci := 0) (q0 := 0) (j := 1) k hni rfl rfl rfl inX0 tyX0 tyX0_ok nmX0 (by decide) fl_X0_15 rfl rfl (tyX0_ok 1 (by decide)) rfl rfl (Nat.le_of_ble_eq_true rfl) dX0_init_14 (ws' := [(q, .inr (0, [.int (-1), .ref a1])), (a1, ai cA 64 (fun _ => 0))]) rfl ?_
  exact gi_ret (st := []) k t (by decide) (by decide) dX0_init_17 ⟨a1, rfl⟩
theorem c_X1_init {l : Launch} {D : va_G} {cA : Nat → ClassId} {am : Am} {q : Nat} : Ci l D cA am yX1_init cX1_init 1 1 1 511 q (.inr (1, [.int 0, .null])) (fun u => ∃ a1 : Nat, u = [(q, .inr (1, [.int 0, .ref a1])), (a1, ab cA 511 (fun _ => 0))]) := by
  refine Ci.of (by decide +kernel) rfl (by decide) (fun K k hni t => ?_)
  refine gi_aload_n (q := 0) k rfl rfl dX1_init_0 ?_
  refine gi_obj k ml_X1_1 (by decide) (Nat.le_of_ble_eq_true rfl) dX1_init_1 ?_
  refine gi_aload_n (q := 0) k rfl rfl dX1_init_4 ?_
  refine gi_sipush (v := 511) k (by decide) dX1_init_5 ?_
  refine gi_newB (N := 511) k (by decide) (by decide) (by decide) (by decide) (by decide) dX1_init_8 (fun a1 => ?_)
  refine gi_ws (ws' := [(q, .inr (1, [.int 0, .null])), (a1, ab cA 511 (fun _ => 0))]) (k1 := 1) (k2 := 511) rfl rfl rfl ?_
  refine gi_putF (C := RX1) (T := TX1) (N := 2) (ci := 1) (q0 := 0) (j := 1) k hni rfl rfl rfl inX1 tyX1 tyX1_ok nmX1 (by decide) fl_X1_9 rfl rfl (tyX1_ok 1 (by decide)) rfl rfl (Nat.le_of_ble_eq_true rfl) dX1_init_10 (ws' := [(q, .inr (1, [.int 0, .ref a1])), (a1, ab cA 511 (fun _ => 0))]) rfl ?_
  exact gi_ret (st := []) k t (by decide) (by decide) dX1_init_13 ⟨a1, rfl⟩
theorem c_X2_init {l : Launch} {D : va_G} {cA : Nat → ClassId} {am : Am} {q : Nat} : Ci l D cA am yX2_init cX2_init 1 1 3 18 q (.inr (2, [.int 0, .null, .null, .null])) (fun u => ∃ a1 a2 a3 : Nat, u = [(q, .inr (2, [.int 0, .ref a1, .ref a2, .ref a3])), (a1, ai cA 6 (fun _ => 0)), (a2, ai cA 6 (fun _ => 0)), (a3, ai cA 6 (fun _ => 0))]) := by
  refine Ci.of (by decide +kernel) rfl (by decide) (fun K k hni t => ?_)
  refine gi_aload_n (q := 0) k rfl rfl dX2_init_0 ?_
  refine gi_obj k ml_X2_3 (by decide) (Nat.le_of_ble_eq_true rfl) dX2_init_1 ?_
  refine gi_aload_n (q := 0) k rfl rfl dX2_init_4 ?_
  refine gi_bipush (v := 6) k (by decide) dX2_init_5 ?_
  refine gi_newI (N := 6) k (by decide) (by decide) (by decide) (by decide) (by decide) dX2_init_7 (fun a1 => ?_)
  refine gi_ws (ws' := [(q, .inr (2, [.int 0, .null, .null, .null])), (a1, ai cA 6 (fun _ => 0))]) (k1 := 1) (k2 := 6) rfl rfl rfl ?_
  refine gi_putF (C := RX2) (T := TX2) (N := 4) (ci := 2) (q0 := 0) (j := 1) k hni rfl rfl rfl inX2 tyX2 tyX2_ok nmX2 (by decide) fl_X2_9 rfl rfl (tyX2_ok 1 (by decide)) rfl rfl (Nat.le_of_ble_eq_true rfl) dX2_init_9 (ws' := [(q, .inr (2, [.int 0, .ref a1, .null, .null])), (a1, ai cA 6 (fun _ => 0))]) rfl ?_
  refine gi_aload_n (q := 0) k rfl rfl dX2_init_12 ?_
  refine gi_bipush (v := 6) k (by decide) dX2_init_13 ?_
  refine gi_newI (N := 6) k (by decide) (by decide) (by decide) (by decide) (by decide) dX2_init_15 (fun a2 => ?_)
  refine gi_ws (ws' := [(q, .inr (2, [.int 0, .ref a1, .null, .null])), (a1, ai cA 6 (fun _ => 0)), (a2, ai cA 6 (fun _ => 0))]) (k1 := 2) (k2 := 12) rfl rfl rfl ?_
  refine gi_putF (C := RX2) (T := TX2) (N := 4) (ci := 2) (q0 := 0) (j := 2) k hni rfl rfl rfl inX2 tyX2 tyX2_ok nmX2 (by decide) fl_X2_15 rfl rfl (tyX2_ok 2 (by decide)) rfl rfl (Nat.le_of_ble_eq_true rfl) dX2_init_17 (ws' := [(q, .inr (2, [.int 0, .ref a1, .ref a2, .null])), (a1, ai cA 6 (fun _ => 0)), (a2, ai cA 6 (fun _ => 0))]) rfl ?_
  refine gi_aload_n (q := 0) k rfl rfl dX2_init_20 ?_
  refine gi_bipush (v := 6) k (by decide) dX2_init_21 ?_
  refine gi_newI (N := 6) k (by decide) (by decide) (by decide) (by decide) (by decide) dX2_init_23 (fun a3 => ?_)
  refine gi_ws (ws' := [(q, .inr (2, [.int 0, .ref a1, .ref a2, .null])), (a1, ai cA 6 (fun _ => 0)), (a2, ai cA 6 (fun _ => 0)), (a3, ai cA 6 (fun _ => 0))]) (k1 := 3) (k2 := 18) rfl rfl rfl ?_
  refine gi_putF (C := RX2) (T := TX2) (N := 4) (ci := 2) (q0 := 0) (j := 3) k hni rfl rfl rfl inX2 tyX2 tyX2_ok nmX2 (by decide) fl_X2_18 rfl rfl (tyX2_ok 3 (by decide)) rfl rfl (Nat.le_of_ble_eq_true rfl) dX2_init_25 (ws' := [(q, .inr (2, [.int 0, .ref a1, .ref a2, .ref a3])), (a1, ai cA 6 (fun _ => 0)), (a2, ai cA 6 (fun _ => 0)), (a3, ai cA 6 (fun _ => 0))]) rfl ?_
  exact gi_ret (st := []) k t (by decide) (by decide) dX2_init_28 ⟨a1, a2, a3, rfl⟩
theorem c_X3_init {l : Launch} {D : va_G} {cA : Nat → ClassId} {am : Am} {q : Nat} : Ci l D cA am yX3_init cX3_init 1 1 1 64 q (.inr (3, [.int 0, .null])) (fun u => ∃ a1 : Nat, u = [(q, .inr (3, [.int (-1), .ref a1])), (a1, ai cA 64 (fun _ => 0))]) := by
  refine Ci.of (by decide +kernel) rfl (by decide) (fun K k hni t => ?_)
  refine gi_aload_n (q := 0) k rfl rfl dX3_init_0 ?_
  refine gi_obj k ml_X3_3 (by decide) (Nat.le_of_ble_eq_true rfl) dX3_init_1 ?_
  refine gi_aload_n (q := 0) k rfl rfl dX3_init_4 ?_
  refine gi_iconst (v := -1) k (by decide) dX3_init_5 ?_
  refine gi_put (C := RX3) (T := TX3) (N := 2) (ci := 3) (q0 := 0) (j := 0) (ty := .int) k rfl rfl inX3 tyX3 tyX3_ok nmX3 (by decide) fl_X3_9 rfl rfl (tyX3_ok 0 (by decide)) rfl rfl (Nat.le_of_ble_eq_true rfl) dX3_init_6 (ws' := [(q, .inr (3, [.int (-1), .null]))]) rfl ?_
  refine gi_aload_n (q := 0) k rfl rfl dX3_init_9 ?_
  refine gi_bipush (v := 64) k (by decide) dX3_init_10 ?_
  refine gi_newI (N := 64) k (by decide) (by decide) (by decide) (by decide) (by decide) dX3_init_12 (fun a1 => ?_)
  refine gi_ws (ws' := [(q, .inr (3, [.int (-1), .null])), (a1, ai cA 64 (fun _ => 0))]) (k1 := 1) (k2 := 64) rfl rfl rfl ?_
  refine gi_putF (C := RX3) (T := TX3) (N := 2) (ci := 3) (q0 := 0) (j := 1) k hni rfl rfl rfl inX3 tyX3 tyX3_ok nmX3 (by decide) fl_X3_15 rfl rfl (tyX3_ok 1 (by decide)) rfl rfl (Nat.le_of_ble_eq_true rfl) dX3_init_14 (ws' := [(q, .inr (3, [.int (-1), .ref a1])), (a1, ai cA 64 (fun _ => 0))]) rfl ?_
  exact gi_ret (st := []) k t (by decide) (by decide) dX3_init_17 ⟨a1, rfl⟩
theorem c_X4_init {l : Launch} {D : va_G} {cA : Nat → ClassId} {am : Am} {q : Nat} : Ci l D cA am yX4_init cX4_init 1 1 3 180 q (.inr (4, [.int 0, .int 0, .null, .null, .null, .int 0])) (fun u => ∃ a1 a2 a3 : Nat, u = [(q, .inr (4, [.int 0, .int 0, .ref a1, .ref a2, .ref a3, .int 0])), (a1, ai cA 20 (fun _ => 0)), (a2, ai cA 60 (fun _ => 0)), (a3, ab cA 100 (fun _ => 0))]) := by
  refine Ci.of (by decide +kernel) rfl (by decide) (fun K k hni t => ?_)
  refine gi_aload_n (q := 0) k rfl rfl dX4_init_0 ?_
  refine gi_obj k ml_X4_3 (by decide) (Nat.le_of_ble_eq_true rfl) dX4_init_1 ?_
  refine gi_aload_n (q := 0) k rfl rfl dX4_init_4 ?_
  refine gi_bipush (v := 20) k (by decide) dX4_init_5 ?_
  refine gi_newI (N := 20) k (by decide) (by decide) (by decide) (by decide) (by decide) dX4_init_7 (fun a1 => ?_)
  refine gi_ws (ws' := [(q, .inr (4, [.int 0, .int 0, .null, .null, .null, .int 0])), (a1, ai cA 20 (fun _ => 0))]) (k1 := 1) (k2 := 20) rfl rfl rfl ?_
  refine gi_putF (C := RX4) (T := TX4) (N := 6) (ci := 4) (q0 := 0) (j := 2) k hni rfl rfl rfl inX4 tyX4 tyX4_ok nmX4 (by decide) fl_X4_9 rfl rfl (tyX4_ok 2 (by decide)) rfl rfl (Nat.le_of_ble_eq_true rfl) dX4_init_9 (ws' := [(q, .inr (4, [.int 0, .int 0, .ref a1, .null, .null, .int 0])), (a1, ai cA 20 (fun _ => 0))]) rfl ?_
  refine gi_aload_n (q := 0) k rfl rfl dX4_init_12 ?_
  refine gi_bipush (v := 60) k (by decide) dX4_init_13 ?_
  refine gi_newI (N := 60) k (by decide) (by decide) (by decide) (by decide) (by decide) dX4_init_15 (fun a2 => ?_)
  refine gi_ws (ws' := [(q, .inr (4, [.int 0, .int 0, .ref a1, .null, .null, .int 0])), (a1, ai cA 20 (fun _ => 0)), (a2, ai cA 60 (fun _ => 0))]) (k1 := 2) (k2 := 80) rfl rfl rfl ?_
  refine gi_putF (C := RX4) (T := TX4) (N := 6) (ci := 4) (q0 := 0) (j := 3) k hni rfl rfl rfl inX4 tyX4 tyX4_ok nmX4 (by decide) fl_X4_13 rfl rfl (tyX4_ok 3 (by decide)) rfl rfl (Nat.le_of_ble_eq_true rfl) dX4_init_17 (ws' := [(q, .inr (4, [.int 0, .int 0, .ref a1, .ref a2, .null, .int 0])), (a1, ai cA 20 (fun _ => 0)), (a2, ai cA 60 (fun _ => 0))]) rfl ?_
  refine gi_aload_n (q := 0) k rfl rfl dX4_init_20 ?_
  refine gi_bipush (v := 100) k (by decide) dX4_init_21 ?_
  refine gi_newB (N := 100) k (by decide) (by decide) (by decide) (by decide) (by decide) dX4_init_23 (fun a3 => ?_)
  refine gi_ws (ws' := [(q, .inr (4, [.int 0, .int 0, .ref a1, .ref a2, .null, .int 0])), (a1, ai cA 20 (fun _ => 0)), (a2, ai cA 60 (fun _ => 0)), (a3, ab cA 100 (fun _ => 0))]) (k1 := 3) (k2 := 180) rfl rfl rfl ?_
  refine gi_putF (C := RX4) (T := TX4) (N := 6) (ci := 4) (q0 := 0) (j := 4) k hni rfl rfl rfl inX4 tyX4 tyX4_ok nmX4 (by decide) fl_X4_16 rfl rfl (tyX4_ok 4 (by decide)) rfl rfl (Nat.le_of_ble_eq_true rfl) dX4_init_25 (ws' := [(q, .inr (4, [.int 0, .int 0, .ref a1, .ref a2, .ref a3, .int 0])), (a1, ai cA 20 (fun _ => 0)), (a2, ai cA 60 (fun _ => 0)), (a3, ab cA 100 (fun _ => 0))]) rfl ?_
  exact gi_ret (st := []) k t (by decide) (by decide) dX4_init_28 ⟨a1, a2, a3, rfl⟩
theorem c_X5_init1 {l : Launch} {D : va_G} {cA : Nat → ClassId} {am : Am} {q : Nat} : Ci l D cA am yX5_init cX5_init 2 3 20 478 q (.inr (5, [.int 0, .null, .null, .null, .null, .null, .null, .null, .null])) (fun u => ∃ f : Nat → Nat, f 1 = q ∧ u = wlist (D, List.range' 1 21, f, cA, am) (sta1 4 (mI 1))) := by
  refine Ci.of (by decide +kernel) rfl (by decide) (fun K k hni t => ?_)
  refine gi_aload_n (q := 0) k rfl rfl dX5_init_0 ?_
  refine gi_obj k ml_X5_3 (by decide) (Nat.le_of_ble_eq_true rfl) dX5_init_1 ?_
  refine gi_aload_n (q := 0) k rfl rfl dX5_init_4 ?_
  refine gi_bipush (v := 36) k (by decide) dX5_init_5 ?_
  refine gi_newI (N := 36) k (by decide) (by decide) (by decide) (by decide) (by decide) dX5_init_7 (fun a1 => ?_)
  refine gi_ws (ws' := [(q, .inr (5, [.int 0, .null, .null, .null, .null, .null, .null, .null, .null])), (a1, ai cA 36 (fun _ => 0))]) (k1 := 1) (k2 := 36) rfl rfl rfl ?_
  refine gi_putF (C := RX5) (T := TX5) (N := 9) (ci := 5) (q0 := 0) (j := 1) k hni rfl rfl rfl inX5 tyX5 tyX5_ok nmX5 (by decide) fl_X5_9 rfl rfl (tyX5_ok 1 (by decide)) rfl rfl (Nat.le_of_ble_eq_true rfl) dX5_init_9 (ws' := [(q, .inr (5, [.int 0, .ref a1, .null, .null, .null, .null, .null, .null, .null])), (a1, ai cA 36 (fun _ => 0))]) rfl ?_
  refine gi_aload_n (q := 0) k rfl rfl dX5_init_12 ?_
  refine gi_bipush (v := 8) k (by decide) dX5_init_13 ?_
  refine gi_newI (N := 8) k (by decide) (by decide) (by decide) (by decide) (by decide) dX5_init_15 (fun a2 => ?_)
  refine gi_ws (ws' := [(q, .inr (5, [.int 0, .ref a1, .null, .null, .null, .null, .null, .null, .null])), (a1, ai cA 36 (fun _ => 0)), (a2, ai cA 8 (fun _ => 0))]) (k1 := 2) (k2 := 44) rfl rfl rfl ?_
  refine gi_putF (C := RX5) (T := TX5) (N := 9) (ci := 5) (q0 := 0) (j := 2) k hni rfl rfl rfl inX5 tyX5 tyX5_ok nmX5 (by decide) fl_X5_15 rfl rfl (tyX5_ok 2 (by decide)) rfl rfl (Nat.le_of_ble_eq_true rfl) dX5_init_17 (ws' := [(q, .inr (5, [.int 0, .ref a1, .ref a2, .null, .null, .null, .null, .null, .null])), (a1, ai cA 36 (fun _ => 0)), (a2, ai cA 8 (fun _ => 0))]) rfl ?_
  refine gi_aload_n (q := 0) k rfl rfl dX5_init_20 ?_
  refine gi_bipush (v := 8) k (by decide) dX5_init_21 ?_
  refine gi_newI (N := 8) k (by decide) (by decide) (by decide) (by decide) (by decide) dX5_init_23 (fun a3 => ?_)
  refine gi_ws (ws' := [(q, .inr (5, [.int 0, .ref a1, .ref a2, .null, .null, .null, .null, .null, .null])), (a1, ai cA 36 (fun _ => 0)), (a2, ai cA 8 (fun _ => 0)), (a3, ai cA 8 (fun _ => 0))]) (k1 := 3) (k2 := 52) rfl rfl rfl ?_
  refine gi_putF (C := RX5) (T := TX5) (N := 9) (ci := 5) (q0 := 0) (j := 3) k hni rfl rfl rfl inX5 tyX5 tyX5_ok nmX5 (by decide) fl_X5_18 rfl rfl (tyX5_ok 3 (by decide)) rfl rfl (Nat.le_of_ble_eq_true rfl) dX5_init_25 (ws' := [(q, .inr (5, [.int 0, .ref a1, .ref a2, .ref a3, .null, .null, .null, .null, .null])), (a1, ai cA 36 (fun _ => 0)), (a2, ai cA 8 (fun _ => 0)), (a3, ai cA 8 (fun _ => 0))]) rfl ?_
  refine gi_aload_n (q := 0) k rfl rfl dX5_init_28 ?_
  refine gi_bipush (v := 6) k (by decide) dX5_init_29 ?_
  refine gi_newI (N := 6) k (by decide) (by decide) (by decide) (by decide) (by decide) dX5_init_31 (fun a4 => ?_)
  refine gi_ws (ws' := [(q, .inr (5, [.int 0, .ref a1, .ref a2, .ref a3, .null, .null, .null, .null, .null])), (a1, ai cA 36 (fun _ => 0)), (a2, ai cA 8 (fun _ => 0)), (a3, ai cA 8 (fun _ => 0)), (a4, ai cA 6 (fun _ => 0))]) (k1 := 4) (k2 := 58) rfl rfl rfl ?_
  refine gi_putF (C := RX5) (T := TX5) (N := 9) (ci := 5) (q0 := 0) (j := 4) k hni rfl rfl rfl inX5 tyX5 tyX5_ok nmX5 (by decide) fl_X5_21 rfl rfl (tyX5_ok 4 (by decide)) rfl rfl (Nat.le_of_ble_eq_true rfl) dX5_init_33 (ws' := [(q, .inr (5, [.int 0, .ref a1, .ref a2, .ref a3, .ref a4, .null, .null, .null, .null])), (a1, ai cA 36 (fun _ => 0)), (a2, ai cA 8 (fun _ => 0)), (a3, ai cA 8 (fun _ => 0)), (a4, ai cA 6 (fun _ => 0))]) rfl ?_
  refine gi_aload_n (q := 0) k rfl rfl dX5_init_36 ?_
  refine gi_bipush (v := 6) k (by decide) dX5_init_37 ?_
  refine gi_newI (N := 6) k (by decide) (by decide) (by decide) (by decide) (by decide) dX5_init_39 (fun a5 => ?_)
  refine gi_ws (ws' := [(q, .inr (5, [.int 0, .ref a1, .ref a2, .ref a3, .ref a4, .null, .null, .null, .null])), (a1, ai cA 36 (fun _ => 0)), (a2, ai cA 8 (fun _ => 0)), (a3, ai cA 8 (fun _ => 0)), (a4, ai cA 6 (fun _ => 0)), (a5, ai cA 6 (fun _ => 0))]) (k1 := 5) (k2 := 64) rfl rfl rfl ?_
  refine gi_putF (C := RX5) (T := TX5) (N := 9) (ci := 5) (q0 := 0) (j := 5) k hni rfl rfl rfl inX5 tyX5 tyX5_ok nmX5 (by decide) fl_X5_24 rfl rfl (tyX5_ok 5 (by decide)) rfl rfl (Nat.le_of_ble_eq_true rfl) dX5_init_41 (ws' := [(q, .inr (5, [.int 0, .ref a1, .ref a2, .ref a3, .ref a4, .ref a5, .null, .null, .null])), (a1, ai cA 36 (fun _ => 0)), (a2, ai cA 8 (fun _ => 0)), (a3, ai cA 8 (fun _ => 0)), (a4, ai cA 6 (fun _ => 0)), (a5, ai cA 6 (fun _ => 0))]) rfl ?_
  refine gi_aload_n (q := 0) k rfl rfl dX5_init_44 ?_
  refine gi_bipush (v := 6) k (by decide) dX5_init_45 ?_
  refine gi_newI (N := 6) k (by decide) (by decide) (by decide) (by decide) (by decide) dX5_init_47 (fun a6 => ?_)
  refine gi_ws (ws' := [(q, .inr (5, [.int 0, .ref a1, .ref a2, .ref a3, .ref a4, .ref a5, .null, .null, .null])), (a1, ai cA 36 (fun _ => 0)), (a2, ai cA 8 (fun _ => 0)), (a3, ai cA 8 (fun _ => 0)), (a4, ai cA 6 (fun _ => 0)), (a5, ai cA 6 (fun _ => 0)), (a6, ai cA 6 (fun _ => 0))]) (k1 := 6) (k2 := 70) rfl rfl rfl ?_
  refine gi_putF (C := RX5) (T := TX5) (N := 9) (ci := 5) (q0 := 0) (j := 6) k hni rfl rfl rfl inX5 tyX5 tyX5_ok nmX5 (by decide) fl_X5_27 rfl rfl (tyX5_ok 6 (by decide)) rfl rfl (Nat.le_of_ble_eq_true rfl) dX5_init_49 (ws' := [(q, .inr (5, [.int 0, .ref a1, .ref a2, .ref a3, .ref a4, .ref a5, .ref a6, .null, .null])), (a1, ai cA 36 (fun _ => 0)), (a2, ai cA 8 (fun _ => 0)), (a3, ai cA 8 (fun _ => 0)), (a4, ai cA 6 (fun _ => 0)), (a5, ai cA 6 (fun _ => 0)), (a6, ai cA 6 (fun _ => 0))]) rfl ?_
  refine gi_aload_n (q := 0) k rfl rfl dX5_init_52 ?_
  refine gi_bipush (v := 6) k (by decide) dX5_init_53 ?_
  refine gi_newq3 (N := 6) k kl_X5_30 (by decide) (by decide) (by decide) (by decide) (by decide) dX5_init_55 (fun a7 => ?_)
  refine gi_ws (ws' := [(q, .inr (5, [.int 0, .ref a1, .ref a2, .ref a3, .ref a4, .ref a5, .ref a6, .null, .null])), (a1, ai cA 36 (fun _ => 0)), (a2, ai cA 8 (fun _ => 0)), (a3, ai cA 8 (fun _ => 0)), (a4, ai cA 6 (fun _ => 0)), (a5, ai cA 6 (fun _ => 0)), (a6, ai cA 6 (fun _ => 0)), (a7, ag (cA 2) 6 (fun _ => none))]) (k1 := 7) (k2 := 76) rfl rfl rfl ?_
  refine gi_putF (C := RX5) (T := TX5) (N := 9) (ci := 5) (q0 := 0) (j := 7) k hni rfl rfl rfl inX5 tyX5 tyX5_ok nmX5 (by decide) fl_X5_32 rfl rfl (tyX5_ok 7 (by decide)) rfl rfl (Nat.le_of_ble_eq_true rfl) dX5_init_58 (ws' := [(q, .inr (5, [.int 0, .ref a1, .ref a2, .ref a3, .ref a4, .ref a5, .ref a6, .ref a7, .null])), (a1, ai cA 36 (fun _ => 0)), (a2, ai cA 8 (fun _ => 0)), (a3, ai cA 8 (fun _ => 0)), (a4, ai cA 6 (fun _ => 0)), (a5, ai cA 6 (fun _ => 0)), (a6, ai cA 6 (fun _ => 0)), (a7, ag (cA 2) 6 (fun _ => none))]) rfl ?_
  refine gi_aload_n (q := 0) k rfl rfl dX5_init_61 ?_
  refine gi_bipush (v := 6) k (by decide) dX5_init_62 ?_
  refine gi_newI (N := 6) k (by decide) (by decide) (by decide) (by decide) (by decide) dX5_init_64 (fun a8 => ?_)
  refine gi_ws (ws' := [(q, .inr (5, [.int 0, .ref a1, .ref a2, .ref a3, .ref a4, .ref a5, .ref a6, .ref a7, .null])), (a1, ai cA 36 (fun _ => 0)), (a2, ai cA 8 (fun _ => 0)), (a3, ai cA 8 (fun _ => 0)), (a4, ai cA 6 (fun _ => 0)), (a5, ai cA 6 (fun _ => 0)), (a6, ai cA 6 (fun _ => 0)), (a7, ag (cA 2) 6 (fun _ => none)), (a8, ai cA 6 (fun _ => 0))]) (k1 := 8) (k2 := 82) rfl rfl rfl ?_
  refine gi_putF (C := RX5) (T := TX5) (N := 9) (ci := 5) (q0 := 0) (j := 8) k hni rfl rfl rfl inX5 tyX5 tyX5_ok nmX5 (by decide) fl_X5_36 rfl rfl (tyX5_ok 8 (by decide)) rfl rfl (Nat.le_of_ble_eq_true rfl) dX5_init_66 (ws' := [(q, .inr (5, [.int 0, .ref a1, .ref a2, .ref a3, .ref a4, .ref a5, .ref a6, .ref a7, .ref a8])), (a1, ai cA 36 (fun _ => 0)), (a2, ai cA 8 (fun _ => 0)), (a3, ai cA 8 (fun _ => 0)), (a4, ai cA 6 (fun _ => 0)), (a5, ai cA 6 (fun _ => 0)), (a6, ai cA 6 (fun _ => 0)), (a7, ag (cA 2) 6 (fun _ => none)), (a8, ai cA 6 (fun _ => 0))]) rfl ?_
  refine gi_iconst (v := 0) k (by decide) dX5_init_69 ?_
  refine gi_istore_n (lv' := [(1, .int 0), (0, .ref q)]) k rfl (by decide) rfl dX5_init_70 ?_
  refine gi_iload_n (q := 0) k rfl rfl dX5_init_71 ?_
  refine gi_bipush (v := 6) k (by decide) dX5_init_72 ?_
  refine gi_icmp_ge (tgt := 96) k (by decide) dX5_init_74 (fun z => absurd z (by decide)) (fun _ => ?_)
  refine gi_aload_n (q := 1) k rfl rfl dX5_init_77 ?_
  refine gi_get (C := RX5) (T := TX5) (N := 9) (ci := 5) (q0 := 0) (j := 7) (v := .ref a7) k rfl rfl inX5 (by decide) fl_X5_32 rfl rfl dX5_init_78 ?_
  refine gi_iload_n (q := 0) k rfl rfl dX5_init_81 ?_
  refine gi_new (C := RX3) (T := TX3) (N := 2) (ci := 3) (fs := [.int 0, .null]) k inX3 tyX3 tyX3_ok kl_X5_30 ia_X3 iz_X3 rfl (fun j hj => by rcases (show j = 0 ∨ j = 1 by omega) with rfl | rfl <;> rfl) (by decide) (by decide) dX5_init_82 (fun a9 => ?_)
  refine gi_ws (ws' := [(q, .inr (5, [.int 0, .ref a1, .ref a2, .ref a3, .ref a4, .ref a5, .ref a6, .ref a7, .ref a8])), (a1, ai cA 36 (fun _ => 0)), (a2, ai cA 8 (fun _ => 0)), (a3, ai cA 8 (fun _ => 0)), (a4, ai cA 6 (fun _ => 0)), (a5, ai cA 6 (fun _ => 0)), (a6, ai cA 6 (fun _ => 0)), (a7, ag (cA 2) 6 (fun _ => none)), (a8, ai cA 6 (fun _ => 0)), (a9, .inr (3, [.int 0, .null]))]) (k1 := 9) (k2 := 84) rfl rfl rfl ?_
  refine gi_dup k rfl dX5_init_85 ?_
  refine gi_initN (host := RX6) (pre := [(q, .inr (5, [.int 0, .ref a1, .ref a2, .ref a3, .ref a4, .ref a5, .ref a6, .ref a7, .ref a8])), (a1, ai cA 36 (fun _ => 0)), (a2, ai cA 8 (fun _ => 0)), (a3, ai cA 8 (fun _ => 0)), (a4, ai cA 6 (fun _ => 0)), (a5, ai cA 6 (fun _ => 0)), (a6, ai cA 6 (fun _ => 0)), (a7, ag (cA 2) 6 (fun _ => none)), (a8, ai cA 6 (fun _ => 0))]) k (c_X3_init (q := a9)) cf_X3_init im_X3_init (fun h => h.1.1) rfl (by decide) rfl (Nat.le_of_ble_eq_true rfl) (by decide) (by decide) dX5_init_86 (fun u hu => ?_)
  obtain ⟨a10, rfl⟩ := hu
  refine gi_ws (ws' := [(q, .inr (5, [.int 0, .ref a1, .ref a2, .ref a3, .ref a4, .ref a5, .ref a6, .ref a7, .ref a8])), (a1, ai cA 36 (fun _ => 0)), (a2, ai cA 8 (fun _ => 0)), (a3, ai cA 8 (fun _ => 0)), (a4, ai cA 6 (fun _ => 0)), (a5, ai cA 6 (fun _ => 0)), (a6, ai cA 6 (fun _ => 0)), (a7, ag (cA 2) 6 (fun _ => none)), (a8, ai cA 6 (fun _ => 0)), (a9, .inr (3, [.int (-1), .ref a10])), (a10, ai cA 64 (fun _ => 0))]) (k1 := 10) (k2 := 148) rfl rfl rfl ?_
  refine gi_astq (q0 := 7) (t0 := 2) (qk := 9) (ci := 3) (r := (RX3, TX3, 2)) (i' := 0) k rfl rfl rfl rfl (by unfold vp_in; decide) (by decide) dX5_init_89 (ws' := [(q, .inr (5, [.int 0, .ref a1, .ref a2, .ref a3, .ref a4, .ref a5, .ref a6, .ref a7, .ref a8])), (a1, ai cA 36 (fun _ => 0)), (a2, ai cA 8 (fun _ => 0)), (a3, ai cA 8 (fun _ => 0)), (a4, ai cA 6 (fun _ => 0)), (a5, ai cA 6 (fun _ => 0)), (a6, ai cA 6 (fun _ => 0)), (a7, ag (cA 2) 6 (va_up (fun _ => none) 0 (some a9))), (a8, ai cA 6 (fun _ => 0)), (a9, .inr (3, [.int (-1), .ref a10])), (a10, ai cA 64 (fun _ => 0))]) rfl ?_
  refine gi_iinc (q := 0) (v := 1) (lv' := [(1, .int 1), (0, .ref q)]) k rfl (by decide) (by decide) rfl dX5_init_90 ?_
  refine gi_goto (tgt := 71) k (by decide) dX5_init_93 ?_
  refine gi_iload_n (q := 0) k rfl rfl dX5_init_71 ?_
  refine gi_bipush (v := 6) k (by decide) dX5_init_72 ?_
  refine gi_icmp_ge (tgt := 96) k (by decide) dX5_init_74 (fun z => absurd z (by decide)) (fun _ => ?_)
  refine gi_aload_n (q := 1) k rfl rfl dX5_init_77 ?_
  refine gi_get (C := RX5) (T := TX5) (N := 9) (ci := 5) (q0 := 0) (j := 7) (v := .ref a7) k rfl rfl inX5 (by decide) fl_X5_32 rfl rfl dX5_init_78 ?_
  refine gi_iload_n (q := 0) k rfl rfl dX5_init_81 ?_
  refine gi_new (C := RX3) (T := TX3) (N := 2) (ci := 3) (fs := [.int 0, .null]) k inX3 tyX3 tyX3_ok kl_X5_30 ia_X3 iz_X3 rfl (fun j hj => by rcases (show j = 0 ∨ j = 1 by omega) with rfl | rfl <;> rfl) (by decide) (by decide) dX5_init_82 (fun a11 => ?_)
  refine gi_ws (ws' := [(q, .inr (5, [.int 0, .ref a1, .ref a2, .ref a3, .ref a4, .ref a5, .ref a6, .ref a7, .ref a8])), (a1, ai cA 36 (fun _ => 0)), (a2, ai cA 8 (fun _ => 0)), (a3, ai cA 8 (fun _ => 0)), (a4, ai cA 6 (fun _ => 0)), (a5, ai cA 6 (fun _ => 0)), (a6, ai cA 6 (fun _ => 0)), (a7, ag (cA 2) 6 (va_up (fun _ => none) 0 (some a9))), (a8, ai cA 6 (fun _ => 0)), (a9, .inr (3, [.int (-1), .ref a10])), (a10, ai cA 64 (fun _ => 0)), (a11, .inr (3, [.int 0, .null]))]) (k1 := 11) (k2 := 150) rfl rfl rfl ?_
  refine gi_dup k rfl dX5_init_85 ?_
  refine gi_initN (host := RX6) (pre := [(q, .inr (5, [.int 0, .ref a1, .ref a2, .ref a3, .ref a4, .ref a5, .ref a6, .ref a7, .ref a8])), (a1, ai cA 36 (fun _ => 0)), (a2, ai cA 8 (fun _ => 0)), (a3, ai cA 8 (fun _ => 0)), (a4, ai cA 6 (fun _ => 0)), (a5, ai cA 6 (fun _ => 0)), (a6, ai cA 6 (fun _ => 0)), (a7, ag (cA 2) 6 (va_up (fun _ => none) 0 (some a9))), (a8, ai cA 6 (fun _ => 0)), (a9, .inr (3, [.int (-1), .ref a10])), (a10, ai cA 64 (fun _ => 0))]) k (c_X3_init (q := a11)) cf_X3_init im_X3_init (fun h => h.1.1) rfl (by decide) rfl (Nat.le_of_ble_eq_true rfl) (by decide) (by decide) dX5_init_86 (fun u hu => ?_)
  obtain ⟨a12, rfl⟩ := hu
  refine gi_ws (ws' := [(q, .inr (5, [.int 0, .ref a1, .ref a2, .ref a3, .ref a4, .ref a5, .ref a6, .ref a7, .ref a8])), (a1, ai cA 36 (fun _ => 0)), (a2, ai cA 8 (fun _ => 0)), (a3, ai cA 8 (fun _ => 0)), (a4, ai cA 6 (fun _ => 0)), (a5, ai cA 6 (fun _ => 0)), (a6, ai cA 6 (fun _ => 0)), (a7, ag (cA 2) 6 (va_up (fun _ => none) 0 (some a9))), (a8, ai cA 6 (fun _ => 0)), (a9, .inr (3, [.int (-1), .ref a10])), (a10, ai cA 64 (fun _ => 0)), (a11, .inr (3, [.int (-1), .ref a12])), (a12, ai cA 64 (fun _ => 0))]) (k1 := 12) (k2 := 214) rfl rfl rfl ?_
  refine gi_astq (q0 := 7) (t0 := 2) (qk := 11) (ci := 3) (r := (RX3, TX3, 2)) (i' := 1) k rfl rfl rfl rfl (by unfold vp_in; decide) (by decide) dX5_init_89 (ws' := [(q, .inr (5, [.int 0, .ref a1, .ref a2, .ref a3, .ref a4, .ref a5, .ref a6, .ref a7, .ref a8])), (a1, ai cA 36 (fun _ => 0)), (a2, ai cA 8 (fun _ => 0)), (a3, ai cA 8 (fun _ => 0)), (a4, ai cA 6 (fun _ => 0)), (a5, ai cA 6 (fun _ => 0)), (a6, ai cA 6 (fun _ => 0)), (a7, ag (cA 2) 6 (va_up (va_up (fun _ => none) 0 (some a9)) 1 (some a11))), (a8, ai cA 6 (fun _ => 0)), (a9, .inr (3, [.int (-1), .ref a10])), (a10, ai cA 64 (fun _ => 0)), (a11, .inr (3, [.int (-1), .ref a12])), (a12, ai cA 64 (fun _ => 0))]) rfl ?_
  refine gi_iinc (q := 0) (v := 2) (lv' := [(1, .int 2), (0, .ref q)]) k rfl (by decide) (by decide) rfl dX5_init_90 ?_
  refine gi_goto (tgt := 71) k (by decide) dX5_init_93 ?_
  refine gi_iload_n (q := 0) k rfl rfl dX5_init_71 ?_
  refine gi_bipush (v := 6) k (by decide) dX5_init_72 ?_
  refine gi_icmp_ge (tgt := 96) k (by decide) dX5_init_74 (fun z => absurd z (by decide)) (fun _ => ?_)
  refine gi_aload_n (q := 1) k rfl rfl dX5_init_77 ?_
  refine gi_get (C := RX5) (T := TX5) (N := 9) (ci := 5) (q0 := 0) (j := 7) (v := .ref a7) k rfl rfl inX5 (by decide) fl_X5_32 rfl rfl dX5_init_78 ?_
  refine gi_iload_n (q := 0) k rfl rfl dX5_init_81 ?_
  refine gi_new (C := RX3) (T := TX3) (N := 2) (ci := 3) (fs := [.int 0, .null]) k inX3 tyX3 tyX3_ok kl_X5_30 ia_X3 iz_X3 rfl (fun j hj => by rcases (show j = 0 ∨ j = 1 by omega) with rfl | rfl <;> rfl) (by decide) (by decide) dX5_init_82 (fun a13 => ?_)
  refine gi_ws (ws' := [(q, .inr (5, [.int 0, .ref a1, .ref a2, .ref a3, .ref a4, .ref a5, .ref a6, .ref a7, .ref a8])), (a1, ai cA 36 (fun _ => 0)), (a2, ai cA 8 (fun _ => 0)), (a3, ai cA 8 (fun _ => 0)), (a4, ai cA 6 (fun _ => 0)), (a5, ai cA 6 (fun _ => 0)), (a6, ai cA 6 (fun _ => 0)), (a7, ag (cA 2) 6 (va_up (va_up (fun _ => none) 0 (some a9)) 1 (some a11))), (a8, ai cA 6 (fun _ => 0)), (a9, .inr (3, [.int (-1), .ref a10])), (a10, ai cA 64 (fun _ => 0)), (a11, .inr (3, [.int (-1), .ref a12])), (a12, ai cA 64 (fun _ => 0)), (a13, .inr (3, [.int 0, .null]))]) (k1 := 13) (k2 := 216) rfl rfl rfl ?_
  refine gi_dup k rfl dX5_init_85 ?_
  refine gi_initN (host := RX6) (pre := [(q, .inr (5, [.int 0, .ref a1, .ref a2, .ref a3, .ref a4, .ref a5, .ref a6, .ref a7, .ref a8])), (a1, ai cA 36 (fun _ => 0)), (a2, ai cA 8 (fun _ => 0)), (a3, ai cA 8 (fun _ => 0)), (a4, ai cA 6 (fun _ => 0)), (a5, ai cA 6 (fun _ => 0)), (a6, ai cA 6 (fun _ => 0)), (a7, ag (cA 2) 6 (va_up (va_up (fun _ => none) 0 (some a9)) 1 (some a11))), (a8, ai cA 6 (fun _ => 0)), (a9, .inr (3, [.int (-1), .ref a10])), (a10, ai cA 64 (fun _ => 0)), (a11, .inr (3, [.int (-1), .ref a12])), (a12, ai cA 64 (fun _ => 0))]) k (c_X3_init (q := a13)) cf_X3_init im_X3_init (fun h => h.1.1) rfl (by decide) rfl (Nat.le_of_ble_eq_true rfl) (by decide) (by decide) dX5_init_86 (fun u hu => ?_)
  obtain ⟨a14, rfl⟩ := hu
  refine gi_ws (ws' := [(q, .inr (5, [.int 0, .ref a1, .ref a2, .ref a3, .ref a4, .ref a5, .ref a6, .ref a7, .ref a8])), (a1, ai cA 36 (fun _ => 0)), (a2, ai cA 8 (fun _ => 0)), (a3, ai cA 8 (fun _ => 0)), (a4, ai cA 6 (fun _ => 0)), (a5, ai cA 6 (fun _ => 0)), (a6, ai cA 6 (fun _ => 0)), (a7, ag (cA 2) 6 (va_up (va_up (fun _ => none) 0 (some a9)) 1 (some a11))), (a8, ai cA 6 (fun _ => 0)), (a9, .inr (3, [.int (-1), .ref a10])), (a10, ai cA 64 (fun _ => 0)), (a11, .inr (3, [.int (-1), .ref a12])), (a12, ai cA 64 (fun _ => 0)), (a13, .inr (3, [.int (-1), .ref a14])), (a14, ai cA 64 (fun _ => 0))]) (k1 := 14) (k2 := 280) rfl rfl rfl ?_
  refine gi_astq (q0 := 7) (t0 := 2) (qk := 13) (ci := 3) (r := (RX3, TX3, 2)) (i' := 2) k rfl rfl rfl rfl (by unfold vp_in; decide) (by decide) dX5_init_89 (ws' := [(q, .inr (5, [.int 0, .ref a1, .ref a2, .ref a3, .ref a4, .ref a5, .ref a6, .ref a7, .ref a8])), (a1, ai cA 36 (fun _ => 0)), (a2, ai cA 8 (fun _ => 0)), (a3, ai cA 8 (fun _ => 0)), (a4, ai cA 6 (fun _ => 0)), (a5, ai cA 6 (fun _ => 0)), (a6, ai cA 6 (fun _ => 0)), (a7, ag (cA 2) 6 (va_up (va_up (va_up (fun _ => none) 0 (some a9)) 1 (some a11)) 2 (some a13))), (a8, ai cA 6 (fun _ => 0)), (a9, .inr (3, [.int (-1), .ref a10])), (a10, ai cA 64 (fun _ => 0)), (a11, .inr (3, [.int (-1), .ref a12])), (a12, ai cA 64 (fun _ => 0)), (a13, .inr (3, [.int (-1), .ref a14])), (a14, ai cA 64 (fun _ => 0))]) rfl ?_
  refine gi_iinc (q := 0) (v := 3) (lv' := [(1, .int 3), (0, .ref q)]) k rfl (by decide) (by decide) rfl dX5_init_90 ?_
  refine gi_goto (tgt := 71) k (by decide) dX5_init_93 ?_
  refine gi_iload_n (q := 0) k rfl rfl dX5_init_71 ?_
  refine gi_bipush (v := 6) k (by decide) dX5_init_72 ?_
  refine gi_icmp_ge (tgt := 96) k (by decide) dX5_init_74 (fun z => absurd z (by decide)) (fun _ => ?_)
  refine gi_aload_n (q := 1) k rfl rfl dX5_init_77 ?_
  refine gi_get (C := RX5) (T := TX5) (N := 9) (ci := 5) (q0 := 0) (j := 7) (v := .ref a7) k rfl rfl inX5 (by decide) fl_X5_32 rfl rfl dX5_init_78 ?_
  refine gi_iload_n (q := 0) k rfl rfl dX5_init_81 ?_
  refine gi_new (C := RX3) (T := TX3) (N := 2) (ci := 3) (fs := [.int 0, .null]) k inX3 tyX3 tyX3_ok kl_X5_30 ia_X3 iz_X3 rfl (fun j hj => by rcases (show j = 0 ∨ j = 1 by omega) with rfl | rfl <;> rfl) (by decide) (by decide) dX5_init_82 (fun a15 => ?_)
  refine gi_ws (ws' := [(q, .inr (5, [.int 0, .ref a1, .ref a2, .ref a3, .ref a4, .ref a5, .ref a6, .ref a7, .ref a8])), (a1, ai cA 36 (fun _ => 0)), (a2, ai cA 8 (fun _ => 0)), (a3, ai cA 8 (fun _ => 0)), (a4, ai cA 6 (fun _ => 0)), (a5, ai cA 6 (fun _ => 0)), (a6, ai cA 6 (fun _ => 0)), (a7, ag (cA 2) 6 (va_up (va_up (va_up (fun _ => none) 0 (some a9)) 1 (some a11)) 2 (some a13))), (a8, ai cA 6 (fun _ => 0)), (a9, .inr (3, [.int (-1), .ref a10])), (a10, ai cA 64 (fun _ => 0)), (a11, .inr (3, [.int (-1), .ref a12])), (a12, ai cA 64 (fun _ => 0)), (a13, .inr (3, [.int (-1), .ref a14])), (a14, ai cA 64 (fun _ => 0)), (a15, .inr (3, [.int 0, .null]))]) (k1 := 15) (k2 := 282) rfl rfl rfl ?_
  refine gi_dup k rfl dX5_init_85 ?_
  refine gi_initN (host := RX6) (pre := [(q, .inr (5, [.int 0, .ref a1, .ref a2, .ref a3, .ref a4, .ref a5, .ref a6, .ref a7, .ref a8])), (a1, ai cA 36 (fun _ => 0)), (a2, ai cA 8 (fun _ => 0)), (a3, ai cA 8 (fun _ => 0)), (a4, ai cA 6 (fun _ => 0)), (a5, ai cA 6 (fun _ => 0)), (a6, ai cA 6 (fun _ => 0)), (a7, ag (cA 2) 6 (va_up (va_up (va_up (fun _ => none) 0 (some a9)) 1 (some a11)) 2 (some a13))), (a8, ai cA 6 (fun _ => 0)), (a9, .inr (3, [.int (-1), .ref a10])), (a10, ai cA 64 (fun _ => 0)), (a11, .inr (3, [.int (-1), .ref a12])), (a12, ai cA 64 (fun _ => 0)), (a13, .inr (3, [.int (-1), .ref a14])), (a14, ai cA 64 (fun _ => 0))]) k (c_X3_init (q := a15)) cf_X3_init im_X3_init (fun h => h.1.1) rfl (by decide) rfl (Nat.le_of_ble_eq_true rfl) (by decide) (by decide) dX5_init_86 (fun u hu => ?_)
  obtain ⟨a16, rfl⟩ := hu
  refine gi_ws (ws' := [(q, .inr (5, [.int 0, .ref a1, .ref a2, .ref a3, .ref a4, .ref a5, .ref a6, .ref a7, .ref a8])), (a1, ai cA 36 (fun _ => 0)), (a2, ai cA 8 (fun _ => 0)), (a3, ai cA 8 (fun _ => 0)), (a4, ai cA 6 (fun _ => 0)), (a5, ai cA 6 (fun _ => 0)), (a6, ai cA 6 (fun _ => 0)), (a7, ag (cA 2) 6 (va_up (va_up (va_up (fun _ => none) 0 (some a9)) 1 (some a11)) 2 (some a13))), (a8, ai cA 6 (fun _ => 0)), (a9, .inr (3, [.int (-1), .ref a10])), (a10, ai cA 64 (fun _ => 0)), (a11, .inr (3, [.int (-1), .ref a12])), (a12, ai cA 64 (fun _ => 0)), (a13, .inr (3, [.int (-1), .ref a14])), (a14, ai cA 64 (fun _ => 0)), (a15, .inr (3, [.int (-1), .ref a16])), (a16, ai cA 64 (fun _ => 0))]) (k1 := 16) (k2 := 346) rfl rfl rfl ?_
  refine gi_astq (q0 := 7) (t0 := 2) (qk := 15) (ci := 3) (r := (RX3, TX3, 2)) (i' := 3) k rfl rfl rfl rfl (by unfold vp_in; decide) (by decide) dX5_init_89 (ws' := [(q, .inr (5, [.int 0, .ref a1, .ref a2, .ref a3, .ref a4, .ref a5, .ref a6, .ref a7, .ref a8])), (a1, ai cA 36 (fun _ => 0)), (a2, ai cA 8 (fun _ => 0)), (a3, ai cA 8 (fun _ => 0)), (a4, ai cA 6 (fun _ => 0)), (a5, ai cA 6 (fun _ => 0)), (a6, ai cA 6 (fun _ => 0)), (a7, ag (cA 2) 6 (va_up (va_up (va_up (va_up (fun _ => none) 0 (some a9)) 1 (some a11)) 2 (some a13)) 3 (some a15))), (a8, ai cA 6 (fun _ => 0)), (a9, .inr (3, [.int (-1), .ref a10])), (a10, ai cA 64 (fun _ => 0)), (a11, .inr (3, [.int (-1), .ref a12])), (a12, ai cA 64 (fun _ => 0)), (a13, .inr (3, [.int (-1), .ref a14])), (a14, ai cA 64 (fun _ => 0)), (a15, .inr (3, [.int (-1), .ref a16])), (a16, ai cA 64 (fun _ => 0))]) rfl ?_
  refine gi_iinc (q := 0) (v := 4) (lv' := [(1, .int 4), (0, .ref q)]) k rfl (by decide) (by decide) rfl dX5_init_90 ?_
  refine gi_goto (tgt := 71) k (by decide) dX5_init_93 ?_
  refine gi_iload_n (q := 0) k rfl rfl dX5_init_71 ?_
  refine gi_bipush (v := 6) k (by decide) dX5_init_72 ?_
  refine gi_icmp_ge (tgt := 96) k (by decide) dX5_init_74 (fun z => absurd z (by decide)) (fun _ => ?_)
  refine gi_aload_n (q := 1) k rfl rfl dX5_init_77 ?_
  refine gi_get (C := RX5) (T := TX5) (N := 9) (ci := 5) (q0 := 0) (j := 7) (v := .ref a7) k rfl rfl inX5 (by decide) fl_X5_32 rfl rfl dX5_init_78 ?_
  refine gi_iload_n (q := 0) k rfl rfl dX5_init_81 ?_
  refine gi_new (C := RX3) (T := TX3) (N := 2) (ci := 3) (fs := [.int 0, .null]) k inX3 tyX3 tyX3_ok kl_X5_30 ia_X3 iz_X3 rfl (fun j hj => by rcases (show j = 0 ∨ j = 1 by omega) with rfl | rfl <;> rfl) (by decide) (by decide) dX5_init_82 (fun a17 => ?_)
  refine gi_ws (ws' := [(q, .inr (5, [.int 0, .ref a1, .ref a2, .ref a3, .ref a4, .ref a5, .ref a6, .ref a7, .ref a8])), (a1, ai cA 36 (fun _ => 0)), (a2, ai cA 8 (fun _ => 0)), (a3, ai cA 8 (fun _ => 0)), (a4, ai cA 6 (fun _ => 0)), (a5, ai cA 6 (fun _ => 0)), (a6, ai cA 6 (fun _ => 0)), (a7, ag (cA 2) 6 (va_up (va_up (va_up (va_up (fun _ => none) 0 (some a9)) 1 (some a11)) 2 (some a13)) 3 (some a15))), (a8, ai cA 6 (fun _ => 0)), (a9, .inr (3, [.int (-1), .ref a10])), (a10, ai cA 64 (fun _ => 0)), (a11, .inr (3, [.int (-1), .ref a12])), (a12, ai cA 64 (fun _ => 0)), (a13, .inr (3, [.int (-1), .ref a14])), (a14, ai cA 64 (fun _ => 0)), (a15, .inr (3, [.int (-1), .ref a16])), (a16, ai cA 64 (fun _ => 0)), (a17, .inr (3, [.int 0, .null]))]) (k1 := 17) (k2 := 348) rfl rfl rfl ?_
  refine gi_dup k rfl dX5_init_85 ?_
  refine gi_initN (host := RX6) (pre := [(q, .inr (5, [.int 0, .ref a1, .ref a2, .ref a3, .ref a4, .ref a5, .ref a6, .ref a7, .ref a8])), (a1, ai cA 36 (fun _ => 0)), (a2, ai cA 8 (fun _ => 0)), (a3, ai cA 8 (fun _ => 0)), (a4, ai cA 6 (fun _ => 0)), (a5, ai cA 6 (fun _ => 0)), (a6, ai cA 6 (fun _ => 0)), (a7, ag (cA 2) 6 (va_up (va_up (va_up (va_up (fun _ => none) 0 (some a9)) 1 (some a11)) 2 (some a13)) 3 (some a15))), (a8, ai cA 6 (fun _ => 0)), (a9, .inr (3, [.int (-1), .ref a10])), (a10, ai cA 64 (fun _ => 0)), (a11, .inr (3, [.int (-1), .ref a12])), (a12, ai cA 64 (fun _ => 0)), (a13, .inr (3, [.int (-1), .ref a14])), (a14, ai cA 64 (fun _ => 0)), (a15, .inr (3, [.int (-1), .ref a16])), (a16, ai cA 64 (fun _ => 0))]) k (c_X3_init (q := a17)) cf_X3_init im_X3_init (fun h => h.1.1) rfl (by decide) rfl (Nat.le_of_ble_eq_true rfl) (by decide) (by decide) dX5_init_86 (fun u hu => ?_)
  obtain ⟨a18, rfl⟩ := hu
  refine gi_ws (ws' := [(q, .inr (5, [.int 0, .ref a1, .ref a2, .ref a3, .ref a4, .ref a5, .ref a6, .ref a7, .ref a8])), (a1, ai cA 36 (fun _ => 0)), (a2, ai cA 8 (fun _ => 0)), (a3, ai cA 8 (fun _ => 0)), (a4, ai cA 6 (fun _ => 0)), (a5, ai cA 6 (fun _ => 0)), (a6, ai cA 6 (fun _ => 0)), (a7, ag (cA 2) 6 (va_up (va_up (va_up (va_up (fun _ => none) 0 (some a9)) 1 (some a11)) 2 (some a13)) 3 (some a15))), (a8, ai cA 6 (fun _ => 0)), (a9, .inr (3, [.int (-1), .ref a10])), (a10, ai cA 64 (fun _ => 0)), (a11, .inr (3, [.int (-1), .ref a12])), (a12, ai cA 64 (fun _ => 0)), (a13, .inr (3, [.int (-1), .ref a14])), (a14, ai cA 64 (fun _ => 0)), (a15, .inr (3, [.int (-1), .ref a16])), (a16, ai cA 64 (fun _ => 0)), (a17, .inr (3, [.int (-1), .ref a18])), (a18, ai cA 64 (fun _ => 0))]) (k1 := 18) (k2 := 412) rfl rfl rfl ?_
  refine gi_astq (q0 := 7) (t0 := 2) (qk := 17) (ci := 3) (r := (RX3, TX3, 2)) (i' := 4) k rfl rfl rfl rfl (by unfold vp_in; decide) (by decide) dX5_init_89 (ws' := [(q, .inr (5, [.int 0, .ref a1, .ref a2, .ref a3, .ref a4, .ref a5, .ref a6, .ref a7, .ref a8])), (a1, ai cA 36 (fun _ => 0)), (a2, ai cA 8 (fun _ => 0)), (a3, ai cA 8 (fun _ => 0)), (a4, ai cA 6 (fun _ => 0)), (a5, ai cA 6 (fun _ => 0)), (a6, ai cA 6 (fun _ => 0)), (a7, ag (cA 2) 6 (va_up (va_up (va_up (va_up (va_up (fun _ => none) 0 (some a9)) 1 (some a11)) 2 (some a13)) 3 (some a15)) 4 (some a17))), (a8, ai cA 6 (fun _ => 0)), (a9, .inr (3, [.int (-1), .ref a10])), (a10, ai cA 64 (fun _ => 0)), (a11, .inr (3, [.int (-1), .ref a12])), (a12, ai cA 64 (fun _ => 0)), (a13, .inr (3, [.int (-1), .ref a14])), (a14, ai cA 64 (fun _ => 0)), (a15, .inr (3, [.int (-1), .ref a16])), (a16, ai cA 64 (fun _ => 0)), (a17, .inr (3, [.int (-1), .ref a18])), (a18, ai cA 64 (fun _ => 0))]) rfl ?_
  refine gi_iinc (q := 0) (v := 5) (lv' := [(1, .int 5), (0, .ref q)]) k rfl (by decide) (by decide) rfl dX5_init_90 ?_
  refine gi_goto (tgt := 71) k (by decide) dX5_init_93 ?_
  refine gi_iload_n (q := 0) k rfl rfl dX5_init_71 ?_
  refine gi_bipush (v := 6) k (by decide) dX5_init_72 ?_
  refine gi_icmp_ge (tgt := 96) k (by decide) dX5_init_74 (fun z => absurd z (by decide)) (fun _ => ?_)
  refine gi_aload_n (q := 1) k rfl rfl dX5_init_77 ?_
  refine gi_get (C := RX5) (T := TX5) (N := 9) (ci := 5) (q0 := 0) (j := 7) (v := .ref a7) k rfl rfl inX5 (by decide) fl_X5_32 rfl rfl dX5_init_78 ?_
  refine gi_iload_n (q := 0) k rfl rfl dX5_init_81 ?_
  refine gi_new (C := RX3) (T := TX3) (N := 2) (ci := 3) (fs := [.int 0, .null]) k inX3 tyX3 tyX3_ok kl_X5_30 ia_X3 iz_X3 rfl (fun j hj => by rcases (show j = 0 ∨ j = 1 by omega) with rfl | rfl <;> rfl) (by decide) (by decide) dX5_init_82 (fun a19 => ?_)
  refine gi_ws (ws' := [(q, .inr (5, [.int 0, .ref a1, .ref a2, .ref a3, .ref a4, .ref a5, .ref a6, .ref a7, .ref a8])), (a1, ai cA 36 (fun _ => 0)), (a2, ai cA 8 (fun _ => 0)), (a3, ai cA 8 (fun _ => 0)), (a4, ai cA 6 (fun _ => 0)), (a5, ai cA 6 (fun _ => 0)), (a6, ai cA 6 (fun _ => 0)), (a7, ag (cA 2) 6 (va_up (va_up (va_up (va_up (va_up (fun _ => none) 0 (some a9)) 1 (some a11)) 2 (some a13)) 3 (some a15)) 4 (some a17))), (a8, ai cA 6 (fun _ => 0)), (a9, .inr (3, [.int (-1), .ref a10])), (a10, ai cA 64 (fun _ => 0)), (a11, .inr (3, [.int (-1), .ref a12])), (a12, ai cA 64 (fun _ => 0)), (a13, .inr (3, [.int (-1), .ref a14])), (a14, ai cA 64 (fun _ => 0)), (a15, .inr (3, [.int (-1), .ref a16])), (a16, ai cA 64 (fun _ => 0)), (a17, .inr (3, [.int (-1), .ref a18])), (a18, ai cA 64 (fun _ => 0)), (a19, .inr (3, [.int 0, .null]))]) (k1 := 19) (k2 := 414) rfl rfl rfl ?_
  refine gi_dup k rfl dX5_init_85 ?_
  refine gi_initN (host := RX6) (pre := [(q, .inr (5, [.int 0, .ref a1, .ref a2, .ref a3, .ref a4, .ref a5, .ref a6, .ref a7, .ref a8])), (a1, ai cA 36 (fun _ => 0)), (a2, ai cA 8 (fun _ => 0)), (a3, ai cA 8 (fun _ => 0)), (a4, ai cA 6 (fun _ => 0)), (a5, ai cA 6 (fun _ => 0)), (a6, ai cA 6 (fun _ => 0)), (a7, ag (cA 2) 6 (va_up (va_up (va_up (va_up (va_up (fun _ => none) 0 (some a9)) 1 (some a11)) 2 (some a13)) 3 (some a15)) 4 (some a17))), (a8, ai cA 6 (fun _ => 0)), (a9, .inr (3, [.int (-1), .ref a10])), (a10, ai cA 64 (fun _ => 0)), (a11, .inr (3, [.int (-1), .ref a12])), (a12, ai cA 64 (fun _ => 0)), (a13, .inr (3, [.int (-1), .ref a14])), (a14, ai cA 64 (fun _ => 0)), (a15, .inr (3, [.int (-1), .ref a16])), (a16, ai cA 64 (fun _ => 0)), (a17, .inr (3, [.int (-1), .ref a18])), (a18, ai cA 64 (fun _ => 0))]) k (c_X3_init (q := a19)) cf_X3_init im_X3_init (fun h => h.1.1) rfl (by decide) rfl (Nat.le_of_ble_eq_true rfl) (by decide) (by decide) dX5_init_86 (fun u hu => ?_)
  obtain ⟨a20, rfl⟩ := hu
  refine gi_ws (ws' := [(q, .inr (5, [.int 0, .ref a1, .ref a2, .ref a3, .ref a4, .ref a5, .ref a6, .ref a7, .ref a8])), (a1, ai cA 36 (fun _ => 0)), (a2, ai cA 8 (fun _ => 0)), (a3, ai cA 8 (fun _ => 0)), (a4, ai cA 6 (fun _ => 0)), (a5, ai cA 6 (fun _ => 0)), (a6, ai cA 6 (fun _ => 0)), (a7, ag (cA 2) 6 (va_up (va_up (va_up (va_up (va_up (fun _ => none) 0 (some a9)) 1 (some a11)) 2 (some a13)) 3 (some a15)) 4 (some a17))), (a8, ai cA 6 (fun _ => 0)), (a9, .inr (3, [.int (-1), .ref a10])), (a10, ai cA 64 (fun _ => 0)), (a11, .inr (3, [.int (-1), .ref a12])), (a12, ai cA 64 (fun _ => 0)), (a13, .inr (3, [.int (-1), .ref a14])), (a14, ai cA 64 (fun _ => 0)), (a15, .inr (3, [.int (-1), .ref a16])), (a16, ai cA 64 (fun _ => 0)), (a17, .inr (3, [.int (-1), .ref a18])), (a18, ai cA 64 (fun _ => 0)), (a19, .inr (3, [.int (-1), .ref a20])), (a20, ai cA 64 (fun _ => 0))]) (k1 := 20) (k2 := 478) rfl rfl rfl ?_
  refine gi_astq (q0 := 7) (t0 := 2) (qk := 19) (ci := 3) (r := (RX3, TX3, 2)) (i' := 5) k rfl rfl rfl rfl (by unfold vp_in; decide) (by decide) dX5_init_89 (ws' := [(q, .inr (5, [.int 0, .ref a1, .ref a2, .ref a3, .ref a4, .ref a5, .ref a6, .ref a7, .ref a8])), (a1, ai cA 36 (fun _ => 0)), (a2, ai cA 8 (fun _ => 0)), (a3, ai cA 8 (fun _ => 0)), (a4, ai cA 6 (fun _ => 0)), (a5, ai cA 6 (fun _ => 0)), (a6, ai cA 6 (fun _ => 0)), (a7, ag (cA 2) 6 (va_up (va_up (va_up (va_up (va_up (va_up (fun _ => none) 0 (some a9)) 1 (some a11)) 2 (some a13)) 3 (some a15)) 4 (some a17)) 5 (some a19))), (a8, ai cA 6 (fun _ => 0)), (a9, .inr (3, [.int (-1), .ref a10])), (a10, ai cA 64 (fun _ => 0)), (a11, .inr (3, [.int (-1), .ref a12])), (a12, ai cA 64 (fun _ => 0)), (a13, .inr (3, [.int (-1), .ref a14])), (a14, ai cA 64 (fun _ => 0)), (a15, .inr (3, [.int (-1), .ref a16])), (a16, ai cA 64 (fun _ => 0)), (a17, .inr (3, [.int (-1), .ref a18])), (a18, ai cA 64 (fun _ => 0)), (a19, .inr (3, [.int (-1), .ref a20])), (a20, ai cA 64 (fun _ => 0))]) rfl ?_
  refine gi_iinc (q := 0) (v := 6) (lv' := [(1, .int 6), (0, .ref q)]) k rfl (by decide) (by decide) rfl dX5_init_90 ?_
  refine gi_goto (tgt := 71) k (by decide) dX5_init_93 ?_
  refine gi_iload_n (q := 0) k rfl rfl dX5_init_71 ?_
  refine gi_bipush (v := 6) k (by decide) dX5_init_72 ?_
  refine gi_icmp_ge (tgt := 96) k (by decide) dX5_init_74 (fun _ => ?_) (fun z => absurd (by decide) z)
  refine gi_wr (ws' := wlist (D, List.range' 1 21, adl 1 [q, a1, a2, a3, a4, a5, a6, a7, a8, a9, a10, a11, a12, a13, a14, a15, a16, a17, a18, a19, a20], cA, am) (mI 1)) ?_ ?_
  · refine Wr.cons (Or.inl rfl) ?_
    refine Wr.cons (Or.inl rfl) ?_
    refine Wr.cons (Or.inl rfl) ?_
    refine Wr.cons (Or.inl rfl) ?_
    refine Wr.cons (Or.inl rfl) ?_
    refine Wr.cons (Or.inl rfl) ?_
    refine Wr.cons (Or.inl rfl) ?_
    refine Wr.cons (eqe_q (fun i hi => by rcases (show i = 0 ∨ i = 1 ∨ i = 2 ∨ i = 3 ∨ i = 4 ∨ i = 5 by omega) with rfl | rfl | rfl | rfl | rfl | rfl <;> rfl)) ?_
    refine Wr.cons (Or.inl rfl) ?_
    refine Wr.cons (Or.inl rfl) ?_
    refine Wr.cons (Or.inl rfl) ?_
    refine Wr.cons (Or.inl rfl) ?_
    refine Wr.cons (Or.inl rfl) ?_
    refine Wr.cons (Or.inl rfl) ?_
    refine Wr.cons (Or.inl rfl) ?_
    refine Wr.cons (Or.inl rfl) ?_
    refine Wr.cons (Or.inl rfl) ?_
    refine Wr.cons (Or.inl rfl) ?_
    refine Wr.cons (Or.inl rfl) ?_
    refine Wr.cons (Or.inl rfl) ?_
    refine Wr.cons (Or.inl rfl) ?_
    exact Wr.nil
  refine gi_aload_n (q := 1) k rfl rfl dX5_init_96 ?_
  refine gi_iconst (v := 4) k (by decide) dX5_init_97 ?_
  refine gi_G (L := List.range' 1 21) (ad := adl 1 [q, a1, a2, a3, a4, a5, a6, a7, a8, a9, a10, a11, a12, a13, a14, a15, a16, a17, a18, a19, a20]) (M := mI 1) k (by decide) (by decide) rfl (fun kg => ?_)
  refine gs_callV (As := [.int 4]) (k0 := 1) (ci := 5) (T := TX5) (N := 9) kg (c_X5_startAnew1 (fun k h1 h2 => List.mem_range'_1.mpr ⟨h1, h2⟩)) cf_X5_startAnew im_X5_startAnew sl_X5_startAnew ml_X5_40 (List.mem_range'_1.mpr ⟨by omega, by omega⟩) rfl rfl (by decide) rfl rfl (Nat.le_of_ble_eq_true rfl) dX5_init_98 (ppV ?_)
  refine gi_unG ?_
  exact gi_ret (st := []) k t (by decide) (by decide) dX5_init_101 ⟨adl 1 [q, a1, a2, a3, a4, a5, a6, a7, a8, a9, a10, a11, a12, a13, a14, a15, a16, a17, a18, a19, a20], rfl, rfl⟩
theorem c_X5_init22 {l : Launch} {D : va_G} {cA : Nat → ClassId} {am : Am} {q : Nat} : Ci l D cA am yX5_init cX5_init 2 3 20 478 q (.inr (5, [.int 0, .null, .null, .null, .null, .null, .null, .null, .null])) (fun u => ∃ f : Nat → Nat, f 22 = q ∧ u = wlist (D, List.range' 22 21, f, cA, am) (sta22 4 (mI 22))) := by
  refine Ci.of (by decide +kernel) rfl (by decide) (fun K k hni t => ?_)
  refine gi_aload_n (q := 0) k rfl rfl dX5_init_0 ?_
  refine gi_obj k ml_X5_3 (by decide) (Nat.le_of_ble_eq_true rfl) dX5_init_1 ?_
  refine gi_aload_n (q := 0) k rfl rfl dX5_init_4 ?_
  refine gi_bipush (v := 36) k (by decide) dX5_init_5 ?_
  refine gi_newI (N := 36) k (by decide) (by decide) (by decide) (by decide) (by decide) dX5_init_7 (fun a1 => ?_)
  refine gi_ws (ws' := [(q, .inr (5, [.int 0, .null, .null, .null, .null, .null, .null, .null, .null])), (a1, ai cA 36 (fun _ => 0))]) (k1 := 1) (k2 := 36) rfl rfl rfl ?_
  refine gi_putF (C := RX5) (T := TX5) (N := 9) (ci := 5) (q0 := 0) (j := 1) k hni rfl rfl rfl inX5 tyX5 tyX5_ok nmX5 (by decide) fl_X5_9 rfl rfl (tyX5_ok 1 (by decide)) rfl rfl (Nat.le_of_ble_eq_true rfl) dX5_init_9 (ws' := [(q, .inr (5, [.int 0, .ref a1, .null, .null, .null, .null, .null, .null, .null])), (a1, ai cA 36 (fun _ => 0))]) rfl ?_
  refine gi_aload_n (q := 0) k rfl rfl dX5_init_12 ?_
  refine gi_bipush (v := 8) k (by decide) dX5_init_13 ?_
  refine gi_newI (N := 8) k (by decide) (by decide) (by decide) (by decide) (by decide) dX5_init_15 (fun a2 => ?_)
  refine gi_ws (ws' := [(q, .inr (5, [.int 0, .ref a1, .null, .null, .null, .null, .null, .null, .null])), (a1, ai cA 36 (fun _ => 0)), (a2, ai cA 8 (fun _ => 0))]) (k1 := 2) (k2 := 44) rfl rfl rfl ?_
  refine gi_putF (C := RX5) (T := TX5) (N := 9) (ci := 5) (q0 := 0) (j := 2) k hni rfl rfl rfl inX5 tyX5 tyX5_ok nmX5 (by decide) fl_X5_15 rfl rfl (tyX5_ok 2 (by decide)) rfl rfl (Nat.le_of_ble_eq_true rfl) dX5_init_17 (ws' := [(q, .inr (5, [.int 0, .ref a1, .ref a2, .null, .null, .null, .null, .null, .null])), (a1, ai cA 36 (fun _ => 0)), (a2, ai cA 8 (fun _ => 0))]) rfl ?_
  refine gi_aload_n (q := 0) k rfl rfl dX5_init_20 ?_
  refine gi_bipush (v := 8) k (by decide) dX5_init_21 ?_
  refine gi_newI (N := 8) k (by decide) (by decide) (by decide) (by decide) (by decide) dX5_init_23 (fun a3 => ?_)
  refine gi_ws (ws' := [(q, .inr (5, [.int 0, .ref a1, .ref a2, .null, .null, .null, .null, .null, .null])), (a1, ai cA 36 (fun _ => 0)), (a2, ai cA 8 (fun _ => 0)), (a3, ai cA 8 (fun _ => 0))]) (k1 := 3) (k2 := 52) rfl rfl rfl ?_
  refine gi_putF (C := RX5) (T := TX5) (N := 9) (ci := 5) (q0 := 0) (j := 3) k hni rfl rfl rfl inX5 tyX5 tyX5_ok nmX5 (by decide) fl_X5_18 rfl rfl (tyX5_ok 3 (by decide)) rfl rfl (Nat.le_of_ble_eq_true rfl) dX5_init_25 (ws' := [(q, .inr (5, [.int 0, .ref a1, .ref a2, .ref a3, .null, .null, .null, .null, .null])), (a1, ai cA 36 (fun _ => 0)), (a2, ai cA 8 (fun _ => 0)), (a3, ai cA 8 (fun _ => 0))]) rfl ?_
  refine gi_aload_n (q := 0) k rfl rfl dX5_init_28 ?_
  refine gi_bipush (v := 6) k (by decide) dX5_init_29 ?_
  refine gi_newI (N := 6) k (by decide) (by decide) (by decide) (by decide) (by decide) dX5_init_31 (fun a4 => ?_)
  refine gi_ws (ws' := [(q, .inr (5, [.int 0, .ref a1, .ref a2, .ref a3, .null, .null, .null, .null, .null])), (a1, ai cA 36 (fun _ => 0)), (a2, ai cA 8 (fun _ => 0)), (a3, ai cA 8 (fun _ => 0)), (a4, ai cA 6 (fun _ => 0))]) (k1 := 4) (k2 := 58) rfl rfl rfl ?_
  refine gi_putF (C := RX5) (T := TX5) (N := 9) (ci := 5) (q0 := 0) (j := 4) k hni rfl rfl rfl inX5 tyX5 tyX5_ok nmX5 (by decide) fl_X5_21 rfl rfl (tyX5_ok 4 (by decide)) rfl rfl (Nat.le_of_ble_eq_true rfl) dX5_init_33 (ws' := [(q, .inr (5, [.int 0, .ref a1, .ref a2, .ref a3, .ref a4, .null, .null, .null, .null])), (a1, ai cA 36 (fun _ => 0)), (a2, ai cA 8 (fun _ => 0)), (a3, ai cA 8 (fun _ => 0)), (a4, ai cA 6 (fun _ => 0))]) rfl ?_
  refine gi_aload_n (q := 0) k rfl rfl dX5_init_36 ?_
  refine gi_bipush (v := 6) k (by decide) dX5_init_37 ?_
  refine gi_newI (N := 6) k (by decide) (by decide) (by decide) (by decide) (by decide) dX5_init_39 (fun a5 => ?_)
  refine gi_ws (ws' := [(q, .inr (5, [.int 0, .ref a1, .ref a2, .ref a3, .ref a4, .null, .null, .null, .null])), (a1, ai cA 36 (fun _ => 0)), (a2, ai cA 8 (fun _ => 0)), (a3, ai cA 8 (fun _ => 0)), (a4, ai cA 6 (fun _ => 0)), (a5, ai cA 6 (fun _ => 0))]) (k1 := 5) (k2 := 64) rfl rfl rfl ?_
  refine gi_putF (C := RX5) (T := TX5) (N := 9) (ci := 5) (q0 := 0) (j := 5) k hni rfl rfl rfl inX5 tyX5 tyX5_ok nmX5 (by decide) fl_X5_24 rfl rfl (tyX5_ok 5 (by decide)) rfl rfl (Nat.le_of_ble_eq_true rfl) dX5_init_41 (ws' := [(q, .inr (5, [.int 0, .ref a1, .ref a2, .ref a3, .ref a4, .ref a5, .null, .null, .null])), (a1, ai cA 36 (fun _ => 0)), (a2, ai cA 8 (fun _ => 0)), (a3, ai cA 8 (fun _ => 0)), (a4, ai cA 6 (fun _ => 0)), (a5, ai cA 6 (fun _ => 0))]) rfl ?_
  refine gi_aload_n (q := 0) k rfl rfl dX5_init_44 ?_
  refine gi_bipush (v := 6) k (by decide) dX5_init_45 ?_
  refine gi_newI (N := 6) k (by decide) (by decide) (by decide) (by decide) (by decide) dX5_init_47 (fun a6 => ?_)
  refine gi_ws (ws' := [(q, .inr (5, [.int 0, .ref a1, .ref a2, .ref a3, .ref a4, .ref a5, .null, .null, .null])), (a1, ai cA 36 (fun _ => 0)), (a2, ai cA 8 (fun _ => 0)), (a3, ai cA 8 (fun _ => 0)), (a4, ai cA 6 (fun _ => 0)), (a5, ai cA 6 (fun _ => 0)), (a6, ai cA 6 (fun _ => 0))]) (k1 := 6) (k2 := 70) rfl rfl rfl ?_
  refine gi_putF (C := RX5) (T := TX5) (N := 9) (ci := 5) (q0 := 0) (j := 6) k hni rfl rfl rfl inX5 tyX5 tyX5_ok nmX5 (by decide) fl_X5_27 rfl rfl (tyX5_ok 6 (by decide)) rfl rfl (Nat.le_of_ble_eq_true rfl) dX5_init_49 (ws' := [(q, .inr (5, [.int 0, .ref a1, .ref a2, .ref a3, .ref a4, .ref a5, .ref a6, .null, .null])), (a1, ai cA 36 (fun _ => 0)), (a2, ai cA 8 (fun _ => 0)), (a3, ai cA 8 (fun _ => 0)), (a4, ai cA 6 (fun _ => 0)), (a5, ai cA 6 (fun _ => 0)), (a6, ai cA 6 (fun _ => 0))]) rfl ?_
  refine gi_aload_n (q := 0) k rfl rfl dX5_init_52 ?_
  refine gi_bipush (v := 6) k (by decide) dX5_init_53 ?_
  refine gi_newq3 (N := 6) k kl_X5_30 (by decide) (by decide) (by decide) (by decide) (by decide) dX5_init_55 (fun a7 => ?_)
  refine gi_ws (ws' := [(q, .inr (5, [.int 0, .ref a1, .ref a2, .ref a3, .ref a4, .ref a5, .ref a6, .null, .null])), (a1, ai cA 36 (fun _ => 0)), (a2, ai cA 8 (fun _ => 0)), (a3, ai cA 8 (fun _ => 0)), (a4, ai cA 6 (fun _ => 0)), (a5, ai cA 6 (fun _ => 0)), (a6, ai cA 6 (fun _ => 0)), (a7, ag (cA 2) 6 (fun _ => none))]) (k1 := 7) (k2 := 76) rfl rfl rfl ?_
  refine gi_putF (C := RX5) (T := TX5) (N := 9) (ci := 5) (q0 := 0) (j := 7) k hni rfl rfl rfl inX5 tyX5 tyX5_ok nmX5 (by decide) fl_X5_32 rfl rfl (tyX5_ok 7 (by decide)) rfl rfl (Nat.le_of_ble_eq_true rfl) dX5_init_58 (ws' := [(q, .inr (5, [.int 0, .ref a1, .ref a2, .ref a3, .ref a4, .ref a5, .ref a6, .ref a7, .null])), (a1, ai cA 36 (fun _ => 0)), (a2, ai cA 8 (fun _ => 0)), (a3, ai cA 8 (fun _ => 0)), (a4, ai cA 6 (fun _ => 0)), (a5, ai cA 6 (fun _ => 0)), (a6, ai cA 6 (fun _ => 0)), (a7, ag (cA 2) 6 (fun _ => none))]) rfl ?_
  refine gi_aload_n (q := 0) k rfl rfl dX5_init_61 ?_
  refine gi_bipush (v := 6) k (by decide) dX5_init_62 ?_
  refine gi_newI (N := 6) k (by decide) (by decide) (by decide) (by decide) (by decide) dX5_init_64 (fun a8 => ?_)
  refine gi_ws (ws' := [(q, .inr (5, [.int 0, .ref a1, .ref a2, .ref a3, .ref a4, .ref a5, .ref a6, .ref a7, .null])), (a1, ai cA 36 (fun _ => 0)), (a2, ai cA 8 (fun _ => 0)), (a3, ai cA 8 (fun _ => 0)), (a4, ai cA 6 (fun _ => 0)), (a5, ai cA 6 (fun _ => 0)), (a6, ai cA 6 (fun _ => 0)), (a7, ag (cA 2) 6 (fun _ => none)), (a8, ai cA 6 (fun _ => 0))]) (k1 := 8) (k2 := 82) rfl rfl rfl ?_
  refine gi_putF (C := RX5) (T := TX5) (N := 9) (ci := 5) (q0 := 0) (j := 8) k hni rfl rfl rfl inX5 tyX5 tyX5_ok nmX5 (by decide) fl_X5_36 rfl rfl (tyX5_ok 8 (by decide)) rfl rfl (Nat.le_of_ble_eq_true rfl) dX5_init_66 (ws' := [(q, .inr (5, [.int 0, .ref a1, .ref a2, .ref a3, .ref a4, .ref a5, .ref a6, .ref a7, .ref a8])), (a1, ai cA 36 (fun _ => 0)), (a2, ai cA 8 (fun _ => 0)), (a3, ai cA 8 (fun _ => 0)), (a4, ai cA 6 (fun _ => 0)), (a5, ai cA 6 (fun _ => 0)), (a6, ai cA 6 (fun _ => 0)), (a7, ag (cA 2) 6 (fun _ => none)), (a8, ai cA 6 (fun _ => 0))]) rfl ?_
  refine gi_iconst (v := 0) k (by decide) dX5_init_69 ?_
  refine gi_istore_n (lv' := [(1, .int 0), (0, .ref q)]) k rfl (by decide) rfl dX5_init_70 ?_
  refine gi_iload_n (q := 0) k rfl rfl dX5_init_71 ?_
  refine gi_bipush (v := 6) k (by decide) dX5_init_72 ?_
  refine gi_icmp_ge (tgt := 96) k (by decide) dX5_init_74 (fun z => absurd z (by decide)) (fun _ => ?_)
  refine gi_aload_n (q := 1) k rfl rfl dX5_init_77 ?_
  refine gi_get (C := RX5) (T := TX5) (N := 9) (ci := 5) (q0 := 0) (j := 7) (v := .ref a7) k rfl rfl inX5 (by decide) fl_X5_32 rfl rfl dX5_init_78 ?_
  refine gi_iload_n (q := 0) k rfl rfl dX5_init_81 ?_
  refine gi_new (C := RX3) (T := TX3) (N := 2) (ci := 3) (fs := [.int 0, .null]) k inX3 tyX3 tyX3_ok kl_X5_30 ia_X3 iz_X3 rfl (fun j hj => by rcases (show j = 0 ∨ j = 1 by omega) with rfl | rfl <;> rfl) (by decide) (by decide) dX5_init_82 (fun a9 => ?_)
  refine gi_ws (ws' := [(q, .inr (5, [.int 0, .ref a1, .ref a2, .ref a3, .ref a4, .ref a5, .ref a6, .ref a7, .ref a8])), (a1, ai cA 36 (fun _ => 0)), (a2, ai cA 8 (fun _ => 0)), (a3, ai cA 8 (fun _ => 0)), (a4, ai cA 6 (fun _ => 0)), (a5, ai cA 6 (fun _ => 0)), (a6, ai cA 6 (fun _ => 0)), (a7, ag (cA 2) 6 (fun _ => none)), (a8, ai cA 6 (fun _ => 0)), (a9, .inr (3, [.int 0, .null]))]) (k1 := 9) (k2 := 84) rfl rfl rfl ?_
  refine gi_dup k rfl dX5_init_85 ?_
  refine gi_initN (host := RX6) (pre := [(q, .inr (5, [.int 0, .ref a1, .ref a2, .ref a3, .ref a4, .ref a5, .ref a6, .ref a7, .ref a8])), (a1, ai cA 36 (fun _ => 0)), (a2, ai cA 8 (fun _ => 0)), (a3, ai cA 8 (fun _ => 0)), (a4, ai cA 6 (fun _ => 0)), (a5, ai cA 6 (fun _ => 0)), (a6, ai cA 6 (fun _ => 0)), (a7, ag (cA 2) 6 (fun _ => none)), (a8, ai cA 6 (fun _ => 0))]) k (c_X3_init (q := a9)) cf_X3_init im_X3_init (fun h => h.1.1) rfl (by decide) rfl (Nat.le_of_ble_eq_true rfl) (by decide) (by decide) dX5_init_86 (fun u hu => ?_)
  obtain ⟨a10, rfl⟩ := hu
  refine gi_ws (ws' := [(q, .inr (5, [.int 0, .ref a1, .ref a2, .ref a3, .ref a4, .ref a5, .ref a6, .ref a7, .ref a8])), (a1, ai cA 36 (fun _ => 0)), (a2, ai cA 8 (fun _ => 0)), (a3, ai cA 8 (fun _ => 0)), (a4, ai cA 6 (fun _ => 0)), (a5, ai cA 6 (fun _ => 0)), (a6, ai cA 6 (fun _ => 0)), (a7, ag (cA 2) 6 (fun _ => none)), (a8, ai cA 6 (fun _ => 0)), (a9, .inr (3, [.int (-1), .ref a10])), (a10, ai cA 64 (fun _ => 0))]) (k1 := 10) (k2 := 148) rfl rfl rfl ?_
  refine gi_astq (q0 := 7) (t0 := 2) (qk := 9) (ci := 3) (r := (RX3, TX3, 2)) (i' := 0) k rfl rfl rfl rfl (by unfold vp_in; decide) (by decide) dX5_init_89 (ws' := [(q, .inr (5, [.int 0, .ref a1, .ref a2, .ref a3, .ref a4, .ref a5, .ref a6, .ref a7, .ref a8])), (a1, ai cA 36 (fun _ => 0)), (a2, ai cA 8 (fun _ => 0)), (a3, ai cA 8 (fun _ => 0)), (a4, ai cA 6 (fun _ => 0)), (a5, ai cA 6 (fun _ => 0)), (a6, ai cA 6 (fun _ => 0)), (a7, ag (cA 2) 6 (va_up (fun _ => none) 0 (some a9))), (a8, ai cA 6 (fun _ => 0)), (a9, .inr (3, [.int (-1), .ref a10])), (a10, ai cA 64 (fun _ => 0))]) rfl ?_
  refine gi_iinc (q := 0) (v := 1) (lv' := [(1, .int 1), (0, .ref q)]) k rfl (by decide) (by decide) rfl dX5_init_90 ?_
  refine gi_goto (tgt := 71) k (by decide) dX5_init_93 ?_
  refine gi_iload_n (q := 0) k rfl rfl dX5_init_71 ?_
  refine gi_bipush (v := 6) k (by decide) dX5_init_72 ?_
  refine gi_icmp_ge (tgt := 96) k (by decide) dX5_init_74 (fun z => absurd z (by decide)) (fun _ => ?_)
  refine gi_aload_n (q := 1) k rfl rfl dX5_init_77 ?_
  refine gi_get (C := RX5) (T := TX5) (N := 9) (ci := 5) (q0 := 0) (j := 7) (v := .ref a7) k rfl rfl inX5 (by decide) fl_X5_32 rfl rfl dX5_init_78 ?_
  refine gi_iload_n (q := 0) k rfl rfl dX5_init_81 ?_
  refine gi_new (C := RX3) (T := TX3) (N := 2) (ci := 3) (fs := [.int 0, .null]) k inX3 tyX3 tyX3_ok kl_X5_30 ia_X3 iz_X3 rfl (fun j hj => by rcases (show j = 0 ∨ j = 1 by omega) with rfl | rfl <;> rfl) (by decide) (by decide) dX5_init_82 (fun a11 => ?_)
  refine gi_ws (ws' := [(q, .inr (5, [.int 0, .ref a1, .ref a2, .ref a3, .ref a4, .ref a5, .ref a6, .ref a7, .ref a8])), (a1, ai cA 36 (fun _ => 0)), (a2, ai cA 8 (fun _ => 0)), (a3, ai cA 8 (fun _ => 0)), (a4, ai cA 6 (fun _ => 0)), (a5, ai cA 6 (fun _ => 0)), (a6, ai cA 6 (fun _ => 0)), (a7, ag (cA 2) 6 (va_up (fun _ => none) 0 (some a9))), (a8, ai cA 6 (fun _ => 0)), (a9, .inr (3, [.int (-1), .ref a10])), (a10, ai cA 64 (fun _ => 0)), (a11, .inr (3, [.int 0, .null]))]) (k1 := 11) (k2 := 150) rfl rfl rfl ?_
  refine gi_dup k rfl dX5_init_85 ?_
  refine gi_initN (host := RX6) (pre := [(q, .inr (5, [.int 0, .ref a1, .ref a2, .ref a3, .ref a4, .ref a5, .ref a6, .ref a7, .ref a8])), (a1, ai cA 36 (fun _ => 0)), (a2, ai cA 8 (fun _ => 0)), (a3, ai cA 8 (fun _ => 0)), (a4, ai cA 6 (fun _ => 0)), (a5, ai cA 6 (fun _ => 0)), (a6, ai cA 6 (fun _ => 0)), (a7, ag (cA 2) 6 (va_up (fun _ => none) 0 (some a9))), (a8, ai cA 6 (fun _ => 0)), (a9, .inr (3, [.int (-1), .ref a10])), (a10, ai cA 64 (fun _ => 0))]) k (c_X3_init (q := a11)) cf_X3_init im_X3_init (fun h => h.1.1) rfl (by decide) rfl (Nat.le_of_ble_eq_true rfl) (by decide) (by decide) dX5_init_86 (fun u hu => ?_)
  obtain ⟨a12, rfl⟩ := hu
  refine gi_ws (ws' := [(q, .inr (5, [.int 0, .ref a1, .ref a2, .ref a3, .ref a4, .ref a5, .ref a6, .ref a7, .ref a8])), (a1, ai cA 36 (fun _ => 0)), (a2, ai cA 8 (fun _ => 0)), (a3, ai cA 8 (fun _ => 0)), (a4, ai cA 6 (fun _ => 0)), (a5, ai cA 6 (fun _ => 0)), (a6, ai cA 6 (fun _ => 0)), (a7, ag (cA 2) 6 (va_up (fun _ => none) 0 (some a9))), (a8, ai cA 6 (fun _ => 0)), (a9, .inr (3, [.int (-1), .ref a10])), (a10, ai cA 64 (fun _ => 0)), (a11, .inr (3, [.int (-1), .ref a12])), (a12, ai cA 64 (fun _ => 0))]) (k1 := 12) (k2 := 214) rfl rfl rfl ?_
  refine gi_astq (q0 := 7) (t0 := 2) (qk := 11) (ci := 3) (r := (RX3, TX3, 2)) (i' := 1) k rfl rfl rfl rfl (by unfold vp_in; decide) (by decide) dX5_init_89 (ws' := [(q, .inr (5, [.int 0, .ref a1, .ref a2, .ref a3, .ref a4, .ref a5, .ref a6, .ref a7, .ref a8])), (a1, ai cA 36 (fun _ => 0)), (a2, ai cA 8 (fun _ => 0)), (a3, ai cA 8 (fun _ => 0)), (a4, ai cA 6 (fun _ => 0)), (a5, ai cA 6 (fun _ => 0)), (a6, ai cA 6 (fun _ => 0)), (a7, ag (cA 2) 6 (va_up (va_up (fun _ => none) 0 (some a9)) 1 (some a11))), (a8, ai cA 6 (fun _ => 0)), (a9, .inr (3, [.int (-1), .ref a10])), (a10, ai cA 64 (fun _ => 0)), (a11, .inr (3, [.int (-1), .ref a12])), (a12, ai cA 64 (fun _ => 0))]) rfl ?_
  refine gi_iinc (q := 0) (v := 2) (lv' := [(1, .int 2), (0, .ref q)]) k rfl (by decide) (by decide) rfl dX5_init_90 ?_
  refine gi_goto (tgt := 71) k (by decide) dX5_init_93 ?_
  refine gi_iload_n (q := 0) k rfl rfl dX5_init_71 ?_
  refine gi_bipush (v := 6) k (by decide) dX5_init_72 ?_
  refine gi_icmp_ge (tgt := 96) k (by decide) dX5_init_74 (fun z => absurd z (by decide)) (fun _ => ?_)
  refine gi_aload_n (q := 1) k rfl rfl dX5_init_77 ?_
  refine gi_get (C := RX5) (T := TX5) (N := 9) (ci := 5) (q0 := 0) (j := 7) (v := .ref a7) k rfl rfl inX5 (by decide) fl_X5_32 rfl rfl dX5_init_78 ?_
  refine gi_iload_n (q := 0) k rfl rfl dX5_init_81 ?_
  refine gi_new (C := RX3) (T := TX3) (N := 2) (ci := 3) (fs := [.int 0, .null]) k inX3 tyX3 tyX3_ok kl_X5_30 ia_X3 iz_X3 rfl (fun j hj => by rcases (show j = 0 ∨ j = 1 by omega) with rfl | rfl <;> rfl) (by decide) (by decide) dX5_init_82 (fun a13 => ?_)
  refine gi_ws (ws' := [(q, .inr (5, [.int 0, .ref a1, .ref a2, .ref a3, .ref a4, .ref a5, .ref a6, .ref a7, .ref a8])), (a1, ai cA 36 (fun _ => 0)), (a2, ai cA 8 (fun _ => 0)), (a3, ai cA 8 (fun _ => 0)), (a4, ai cA 6 (fun _ => 0)), (a5, ai cA 6 (fun _ => 0)), (a6, ai cA 6 (fun _ => 0)), (a7, ag (cA 2) 6 (va_up (va_up (fun _ => none) 0 (some a9)) 1 (some a11))), (a8, ai cA 6 (fun _ => 0)), (a9, .inr (3, [.int (-1), .ref a10])), (a10, ai cA 64 (fun _ => 0)), (a11, .inr (3, [.int (-1), .ref a12])), (a12, ai cA 64 (fun _ => 0)), (a13, .inr (3, [.int 0, .null]))]) (k1 := 13) (k2 := 216) rfl rfl rfl ?_
  refine gi_dup k rfl dX5_init_85 ?_
  refine gi_initN (host := RX6) (pre := [(q, .inr (5, [.int 0, .ref a1, .ref a2, .ref a3, .ref a4, .ref a5, .ref a6, .ref a7, .ref a8])), (a1, ai cA 36 (fun _ => 0)), (a2, ai cA 8 (fun _ => 0)), (a3, ai cA 8 (fun _ => 0)), (a4, ai cA 6 (fun _ => 0)), (a5, ai cA 6 (fun _ => 0)), (a6, ai cA 6 (fun _ => 0)), (a7, ag (cA 2) 6 (va_up (va_up (fun _ => none) 0 (some a9)) 1 (some a11))), (a8, ai cA 6 (fun _ => 0)), (a9, .inr (3, [.int (-1), .ref a10])), (a10, ai cA 64 (fun _ => 0)), (a11, .inr (3, [.int (-1), .ref a12])), (a12, ai cA 64 (fun _ => 0))]) k (c_X3_init (q := a13)) cf_X3_init im_X3_init (fun h => h.1.1) rfl (by decide) rfl (Nat.le_of_ble_eq_true rfl) (by decide) (by decide) dX5_init_86 (fun u hu => ?_)
  obtain ⟨a14, rfl⟩ := hu
  refine gi_ws (ws' := [(q, .inr (5, [.int 0, .ref a1, .ref a2, .ref a3, .ref a4, .ref a5, .ref a6, .ref a7, .ref a8])), (a1, ai cA 36 (fun _ => 0)), (a2, ai cA 8 (fun _ => 0)), (a3, ai cA 8 (fun _ => 0)), (a4, ai cA 6 (fun _ => 0)), (a5, ai cA 6 (fun _ => 0)), (a6, ai cA 6 (fun _ => 0)), (a7, ag (cA 2) 6 (va_up (va_up (fun _ => none) 0 (some a9)) 1 (some a11))), (a8, ai cA 6 (fun _ => 0)), (a9, .inr (3, [.int (-1), .ref a10])), (a10, ai cA 64 (fun _ => 0)), (a11, .inr (3, [.int (-1), .ref a12])), (a12, ai cA 64 (fun _ => 0)), (a13, .inr (3, [.int (-1), .ref a14])), (a14, ai cA 64 (fun _ => 0))]) (k1 := 14) (k2 := 280) rfl rfl rfl ?_
  refine gi_astq (q0 := 7) (t0 := 2) (qk := 13) (ci := 3) (r := (RX3, TX3, 2)) (i' := 2) k rfl rfl rfl rfl (by unfold vp_in; decide) (by decide) dX5_init_89 (ws' := [(q, .inr (5, [.int 0, .ref a1, .ref a2, .ref a3, .ref a4, .ref a5, .ref a6, .ref a7, .ref a8])), (a1, ai cA 36 (fun _ => 0)), (a2, ai cA 8 (fun _ => 0)), (a3, ai cA 8 (fun _ => 0)), (a4, ai cA 6 (fun _ => 0)), (a5, ai cA 6 (fun _ => 0)), (a6, ai cA 6 (fun _ => 0)), (a7, ag (cA 2) 6 (va_up (va_up (va_up (fun _ => none) 0 (some a9)) 1 (some a11)) 2 (some a13))), (a8, ai cA 6 (fun _ => 0)), (a9, .inr (3, [.int (-1), .ref a10])), (a10, ai cA 64 (fun _ => 0)), (a11, .inr (3, [.int (-1), .ref a12])), (a12, ai cA 64 (fun _ => 0)), (a13, .inr (3, [.int (-1), .ref a14])), (a14, ai cA 64 (fun _ => 0))]) rfl ?_
  refine gi_iinc (q := 0) (v := 3) (lv' := [(1, .int 3), (0, .ref q)]) k rfl (by decide) (by decide) rfl dX5_init_90 ?_
  refine gi_goto (tgt := 71) k (by decide) dX5_init_93 ?_
  refine gi_iload_n (q := 0) k rfl rfl dX5_init_71 ?_
  refine gi_bipush (v := 6) k (by decide) dX5_init_72 ?_
  refine gi_icmp_ge (tgt := 96) k (by decide) dX5_init_74 (fun z => absurd z (by decide)) (fun _ => ?_)
  refine gi_aload_n (q := 1) k rfl rfl dX5_init_77 ?_
  refine gi_get (C := RX5) (T := TX5) (N := 9) (ci := 5) (q0 := 0) (j := 7) (v := .ref a7) k rfl rfl inX5 (by decide) fl_X5_32 rfl rfl dX5_init_78 ?_
  refine gi_iload_n (q := 0) k rfl rfl dX5_init_81 ?_
  refine gi_new (C := RX3) (T := TX3) (N := 2) (ci := 3) (fs := [.int 0, .null]) k inX3 tyX3 tyX3_ok kl_X5_30 ia_X3 iz_X3 rfl (fun j hj => by rcases (show j = 0 ∨ j = 1 by omega) with rfl | rfl <;> rfl) (by decide) (by decide) dX5_init_82 (fun a15 => ?_)
  refine gi_ws (ws' := [(q, .inr (5, [.int 0, .ref a1, .ref a2, .ref a3, .ref a4, .ref a5, .ref a6, .ref a7, .ref a8])), (a1, ai cA 36 (fun _ => 0)), (a2, ai cA 8 (fun _ => 0)), (a3, ai cA 8 (fun _ => 0)), (a4, ai cA 6 (fun _ => 0)), (a5, ai cA 6 (fun _ => 0)), (a6, ai cA 6 (fun _ => 0)), (a7, ag (cA 2) 6 (va_up (va_up (va_up (fun _ => none) 0 (some a9)) 1 (some a11)) 2 (some a13))), (a8, ai cA 6 (fun _ => 0)), (a9, .inr (3, [.int (-1), .ref a10])), (a10, ai cA 64 (fun _ => 0)), (a11, .inr (3, [.int (-1), .ref a12])), (a12, ai cA 64 (fun _ => 0)), (a13, .inr (3, [.int (-1), .ref a14])), (a14, ai cA 64 (fun _ => 0)), (a15, .inr (3, [.int 0, .null]))]) (k1 := 15) (k2 := 282) rfl rfl rfl ?_
  refine gi_dup k rfl dX5_init_85 ?_
  refine gi_initN (host := RX6) (pre := [(q, .inr (5, [.int 0, .ref a1, .ref a2, .ref a3, .ref a4, .ref a5, .ref a6, .ref a7, .ref a8])), (a1, ai cA 36 (fun _ => 0)), (a2, ai cA 8 (fun _ => 0)), (a3, ai cA 8 (fun _ => 0)), (a4, ai cA 6 (fun _ => 0)), (a5, ai cA 6 (fun _ => 0)), (a6, ai cA 6 (fun _ => 0)), (a7, ag (cA 2) 6 (va_up (va_up (va_up (fun _ => none) 0 (some a9)) 1 (some a11)) 2 (some a13))), (a8, ai cA 6 (fun _ => 0)), (a9, .inr (3, [.int (-1), .ref a10])), (a10, ai cA 64 (fun _ => 0)), (a11, .inr (3, [.int (-1), .ref a12])), (a12, ai cA 64 (fun _ => 0)), (a13, .inr (3, [.int (-1), .ref a14])), (a14, ai cA 64 (fun _ => 0))]) k (c_X3_init (q := a15)) cf_X3_init im_X3_init (fun h => h.1.1) rfl (by decide) rfl (Nat.le_of_ble_eq_true rfl) (by decide) (by decide) dX5_init_86 (fun u hu => ?_)
  obtain ⟨a16, rfl⟩ := hu
  refine gi_ws (ws' := [(q, .inr (5, [.int 0, .ref a1, .ref a2, .ref a3, .ref a4, .ref a5, .ref a6, .ref a7, .ref a8])), (a1, ai cA 36 (fun _ => 0)), (a2, ai cA 8 (fun _ => 0)), (a3, ai cA 8 (fun _ => 0)), (a4, ai cA 6 (fun _ => 0)), (a5, ai cA 6 (fun _ => 0)), (a6, ai cA 6 (fun _ => 0)), (a7, ag (cA 2) 6 (va_up (va_up (va_up (fun _ => none) 0 (some a9)) 1 (some a11)) 2 (some a13))), (a8, ai cA 6 (fun _ => 0)), (a9, .inr (3, [.int (-1), .ref a10])), (a10, ai cA 64 (fun _ => 0)), (a11, .inr (3, [.int (-1), .ref a12])), (a12, ai cA 64 (fun _ => 0)), (a13, .inr (3, [.int (-1), .ref a14])), (a14, ai cA 64 (fun _ => 0)), (a15, .inr (3, [.int (-1), .ref a16])), (a16, ai cA 64 (fun _ => 0))]) (k1 := 16) (k2 := 346) rfl rfl rfl ?_
  refine gi_astq (q0 := 7) (t0 := 2) (qk := 15) (ci := 3) (r := (RX3, TX3, 2)) (i' := 3) k rfl rfl rfl rfl (by unfold vp_in; decide) (by decide) dX5_init_89 (ws' := [(q, .inr (5, [.int 0, .ref a1, .ref a2, .ref a3, .ref a4, .ref a5, .ref a6, .ref a7, .ref a8])), (a1, ai cA 36 (fun _ => 0)), (a2, ai cA 8 (fun _ => 0)), (a3, ai cA 8 (fun _ => 0)), (a4, ai cA 6 (fun _ => 0)), (a5, ai cA 6 (fun _ => 0)), (a6, ai cA 6 (fun _ => 0)), (a7, ag (cA 2) 6 (va_up (va_up (va_up (va_up (fun _ => none) 0 (some a9)) 1 (some a11)) 2 (some a13)) 3 (some a15))), (a8, ai cA 6 (fun _ => 0)), (a9, .inr (3, [.int (-1), .ref a10])), (a10, ai cA 64 (fun _ => 0)), (a11, .inr (3, [.int (-1), .ref a12])), (a12, ai cA 64 (fun _ => 0)), (a13, .inr (3, [.int (-1), .ref a14])), (a14, ai cA 64 (fun _ => 0)), (a15, .inr (3, [.int (-1), .ref a16])), (a16, ai cA 64 (fun _ => 0))]) rfl ?_
  refine gi_iinc (q := 0) (v := 4) (lv' := [(1, .int 4), (0, .ref q)]) k rfl (by decide) (by decide) rfl dX5_init_90 ?_
  refine gi_goto (tgt := 71) k (by decide) dX5_init_93 ?_
  refine gi_iload_n (q := 0) k rfl rfl dX5_init_71 ?_
  refine gi_bipush (v := 6) k (by decide) dX5_init_72 ?_
  refine gi_icmp_ge (tgt := 96) k (by decide) dX5_init_74 (fun z => absurd z (by decide)) (fun _ => ?_)
  refine gi_aload_n (q := 1) k rfl rfl dX5_init_77 ?_
  refine gi_get (C := RX5) (T := TX5) (N := 9) (ci := 5) (q0 := 0) (j := 7) (v := .ref a7) k rfl rfl inX5 (by decide) fl_X5_32 rfl rfl dX5_init_78 ?_
  refine gi_iload_n (q := 0) k rfl rfl dX5_init_81 ?_
  refine gi_new (C := RX3) (T := TX3) (N := 2) (ci := 3) (fs := [.int 0, .null]) k inX3 tyX3 tyX3_ok kl_X5_30 ia_X3 iz_X3 rfl (fun j hj => by rcases (show j = 0 ∨ j = 1 by omega) with rfl | rfl <;> rfl) (by decide) (by decide) dX5_init_82 (fun a17 => ?_)
  refine gi_ws (ws' := [(q, .inr (5, [.int 0, .ref a1, .ref a2, .ref a3, .ref a4, .ref a5, .ref a6, .ref a7, .ref a8])), (a1, ai cA 36 (fun _ => 0)), (a2, ai cA 8 (fun _ => 0)), (a3, ai cA 8 (fun _ => 0)), (a4, ai cA 6 (fun _ => 0)), (a5, ai cA 6 (fun _ => 0)), (a6, ai cA 6 (fun _ => 0)), (a7, ag (cA 2) 6 (va_up (va_up (va_up (va_up (fun _ => none) 0 (some a9)) 1 (some a11)) 2 (some a13)) 3 (some a15))), (a8, ai cA 6 (fun _ => 0)), (a9, .inr (3, [.int (-1), .ref a10])), (a10, ai cA 64 (fun _ => 0)), (a11, .inr (3, [.int (-1), .ref a12])), (a12, ai cA 64 (fun _ => 0)), (a13, .inr (3, [.int (-1), .ref a14])), (a14, ai cA 64 (fun _ => 0)), (a15, .inr (3, [.int (-1), .ref a16])), (a16, ai cA 64 (fun _ => 0)), (a17, .inr (3, [.int 0, .null]))]) (k1 := 17) (k2 := 348) rfl rfl rfl ?_
  refine gi_dup k rfl dX5_init_85 ?_
  refine gi_initN (host := RX6) (pre := [(q, .inr (5, [.int 0, .ref a1, .ref a2, .ref a3, .ref a4, .ref a5, .ref a6, .ref a7, .ref a8])), (a1, ai cA 36 (fun _ => 0)), (a2, ai cA 8 (fun _ => 0)), (a3, ai cA 8 (fun _ => 0)), (a4, ai cA 6 (fun _ => 0)), (a5, ai cA 6 (fun _ => 0)), (a6, ai cA 6 (fun _ => 0)), (a7, ag (cA 2) 6 (va_up (va_up (va_up (va_up (fun _ => none) 0 (some a9)) 1 (some a11)) 2 (some a13)) 3 (some a15))), (a8, ai cA 6 (fun _ => 0)), (a9, .inr (3, [.int (-1), .ref a10])), (a10, ai cA 64 (fun _ => 0)), (a11, .inr (3, [.int (-1), .ref a12])), (a12, ai cA 64 (fun _ => 0)), (a13, .inr (3, [.int (-1), .ref a14])), (a14, ai cA 64 (fun _ => 0)), (a15, .inr (3, [.int (-1), .ref a16])), (a16, ai cA 64 (fun _ => 0))]) k (c_X3_init (q := a17)) cf_X3_init im_X3_init (fun h => h.1.1) rfl (by decide) rfl (Nat.le_of_ble_eq_true rfl) (by decide) (by decide) dX5_init_86 (fun u hu => ?_)
  obtain ⟨a18, rfl⟩ := hu
  refine gi_ws (ws' := [(q, .inr (5, [.int 0, .ref a1, .ref a2, .ref a3, .ref a4, .ref a5, .ref a6, .ref a7, .ref a8])), (a1, ai cA 36 (fun _ => 0)), (a2, ai cA 8 (fun _ => 0)), (a3, ai cA 8 (fun _ => 0)), (a4, ai cA 6 (fun _ => 0)), (a5, ai cA 6 (fun _ => 0)), (a6, ai cA 6 (fun _ => 0)), (a7, ag (cA 2) 6 (va_up (va_up (va_up (va_up (fun _ => none) 0 (some a9)) 1 (some a11)) 2 (some a13)) 3 (some a15))), (a8, ai cA 6 (fun _ => 0)), (a9, .inr (3, [.int (-1), .ref a10])), (a10, ai cA 64 (fun _ => 0)), (a11, .inr (3, [.int (-1), .ref a12])), (a12, ai cA 64 (fun _ => 0)), (a13, .inr (3, [.int (-1), .ref a14])), (a14, ai cA 64 (fun _ => 0)), (a15, .inr (3, [.int (-1), .ref a16])), (a16, ai cA 64 (fun _ => 0)), (a17, .inr (3, [.int (-1), .ref a18])), (a18, ai cA 64 (fun _ => 0))]) (k1 := 18) (k2 := 412) rfl rfl rfl ?_
  refine gi_astq (q0 := 7) (t0 := 2) (qk := 17) (ci := 3) (r := (RX3, TX3, 2)) (i' := 4) k rfl rfl rfl rfl (by unfold vp_in; decide) (by decide) dX5_init_89 (ws' := [(q, .inr (5, [.int 0, .ref a1, .ref a2, .ref a3, .ref a4, .ref a5, .ref a6, .ref a7, .ref a8])), (a1, ai cA 36 (fun _ => 0)), (a2, ai cA 8 (fun _ => 0)), (a3, ai cA 8 (fun _ => 0)), (a4, ai cA 6 (fun _ => 0)), (a5, ai cA 6 (fun _ => 0)), (a6, ai cA 6 (fun _ => 0)), (a7, ag (cA 2) 6 (va_up (va_up (va_up (va_up (va_up (fun _ => none) 0 (some a9)) 1 (some a11)) 2 (some a13)) 3 (some a15)) 4 (some a17))), (a8, ai cA 6 (fun _ => 0)), (a9, .inr (3, [.int (-1), .ref a10])), (a10, ai cA 64 (fun _ => 0)), (a11, .inr (3, [.int (-1), .ref a12])), (a12, ai cA 64 (fun _ => 0)), (a13, .inr (3, [.int (-1), .ref a14])), (a14, ai cA 64 (fun _ => 0)), (a15, .inr (3, [.int (-1), .ref a16])), (a16, ai cA 64 (fun _ => 0)), (a17, .inr (3, [.int (-1), .ref a18])), (a18, ai cA 64 (fun _ => 0))]) rfl ?_
  refine gi_iinc (q := 0) (v := 5) (lv' := [(1, .int 5), (0, .ref q)]) k rfl (by decide) (by decide) rfl dX5_init_90 ?_
  refine gi_goto (tgt := 71) k (by decide) dX5_init_93 ?_
  refine gi_iload_n (q := 0) k rfl rfl dX5_init_71 ?_
  refine gi_bipush (v := 6) k (by decide) dX5_init_72 ?_
  refine gi_icmp_ge (tgt := 96) k (by decide) dX5_init_74 (fun z => absurd z (by decide)) (fun _ => ?_)
  refine gi_aload_n (q := 1) k rfl rfl dX5_init_77 ?_
  refine gi_get (C := RX5) (T := TX5) (N := 9) (ci := 5) (q0 := 0) (j := 7) (v := .ref a7) k rfl rfl inX5 (by decide) fl_X5_32 rfl rfl dX5_init_78 ?_
  refine gi_iload_n (q := 0) k rfl rfl dX5_init_81 ?_
  refine gi_new (C := RX3) (T := TX3) (N := 2) (ci := 3) (fs := [.int 0, .null]) k inX3 tyX3 tyX3_ok kl_X5_30 ia_X3 iz_X3 rfl (fun j hj => by rcases (show j = 0 ∨ j = 1 by omega) with rfl | rfl <;> rfl) (by decide) (by decide) dX5_init_82 (fun a19 => ?_)
  refine gi_ws (ws' := [(q, .inr (5, [.int 0, .ref a1, .ref a2, .ref a3, .ref a4, .ref a5, .ref a6, .ref a7, .ref a8])), (a1, ai cA 36 (fun _ => 0)), (a2, ai cA 8 (fun _ => 0)), (a3, ai cA 8 (fun _ => 0)), (a4, ai cA 6 (fun _ => 0)), (a5, ai cA 6 (fun _ => 0)), (a6, ai cA 6 (fun _ => 0)), (a7, ag (cA 2) 6 (va_up (va_up (va_up (va_up (va_up (fun _ => none) 0 (some a9)) 1 (some a11)) 2 (some a13)) 3 (some a15)) 4 (some a17))), (a8, ai cA 6 (fun _ => 0)), (a9, .inr (3, [.int (-1), .ref a10])), (a10, ai cA 64 (fun _ => 0)), (a11, .inr (3, [.int (-1), .ref a12])), (a12, ai cA 64 (fun _ => 0)), (a13, .inr (3, [.int (-1), .ref a14])), (a14, ai cA 64 (fun _ => 0)), (a15, .inr (3, [.int (-1), .ref a16])), (a16, ai cA 64 (fun _ => 0)), (a17, .inr (3, [.int (-1), .ref a18])), (a18, ai cA 64 (fun _ => 0)), (a19, .inr (3, [.int 0, .null]))]) (k1 := 19) (k2 := 414) rfl rfl rfl ?_
  refine gi_dup k rfl dX5_init_85 ?_
  refine gi_initN (host := RX6) (pre := [(q, .inr (5, [.int 0, .ref a1, .ref a2, .ref a3, .ref a4, .ref a5, .ref a6, .ref a7, .ref a8])), (a1, ai cA 36 (fun _ => 0)), (a2, ai cA 8 (fun _ => 0)), (a3, ai cA 8 (fun _ => 0)), (a4, ai cA 6 (fun _ => 0)), (a5, ai cA 6 (fun _ => 0)), (a6, ai cA 6 (fun _ => 0)), (a7, ag (cA 2) 6 (va_up (va_up (va_up (va_up (va_up (fun _ => none) 0 (some a9)) 1 (some a11)) 2 (some a13)) 3 (some a15)) 4 (some a17))), (a8, ai cA 6 (fun _ => 0)), (a9, .inr (3, [.int (-1), .ref a10])), (a10, ai cA 64 (fun _ => 0)), (a11, .inr (3, [.int (-1), .ref a12])), (a12, ai cA 64 (fun _ => 0)), (a13, .inr (3, [.int (-1), .ref a14])), (a14, ai cA 64 (fun _ => 0)), (a15, .inr (3, [.int (-1), .ref a16])), (a16, ai cA 64 (fun _ => 0)), (a17, .inr (3, [.int (-1), .ref a18])), (a18, ai cA 64 (fun _ => 0))]) k (c_X3_init (q := a19)) cf_X3_init im_X3_init (fun h => h.1.1) rfl (by decide) rfl (Nat.le_of_ble_eq_true rfl) (by decide) (by decide) dX5_init_86 (fun u hu => ?_)
  obtain ⟨a20, rfl⟩ := hu
  refine gi_ws (ws' := [(q, .inr (5, [.int 0, .ref a1, .ref a2, .ref a3, .ref a4, .ref a5, .ref a6, .ref a7, .ref a8])), (a1, ai cA 36 (fun _ => 0)), (a2, ai cA 8 (fun _ => 0)), (a3, ai cA 8 (fun _ => 0)), (a4, ai cA 6 (fun _ => 0)), (a5, ai cA 6 (fun _ => 0)), (a6, ai cA 6 (fun _ => 0)), (a7, ag (cA 2) 6 (va_up (va_up (va_up (va_up (va_up (fun _ => none) 0 (some a9)) 1 (some a11)) 2 (some a13)) 3 (some a15)) 4 (some a17))), (a8, ai cA 6 (fun _ => 0)), (a9, .inr (3, [.int (-1), .ref a10])), (a10, ai cA 64 (fun _ => 0)), (a11, .inr (3, [.int (-1), .ref a12])), (a12, ai cA 64 (fun _ => 0)), (a13, .inr (3, [.int (-1), .ref a14])), (a14, ai cA 64 (fun _ => 0)), (a15, .inr (3, [.int (-1), .ref a16])), (a16, ai cA 64 (fun _ => 0)), (a17, .inr (3, [.int (-1), .ref a18])), (a18, ai cA 64 (fun _ => 0)), (a19, .inr (3, [.int (-1), .ref a20])), (a20, ai cA 64 (fun _ => 0))]) (k1 := 20) (k2 := 478) rfl rfl rfl ?_
  refine gi_astq (q0 := 7) (t0 := 2) (qk := 19) (ci := 3) (r := (RX3, TX3, 2)) (i' := 5) k rfl rfl rfl rfl (by unfold vp_in; decide) (by decide) dX5_init_89 (ws' := [(q, .inr (5, [.int 0, .ref a1, .ref a2, .ref a3, .ref a4, .ref a5, .ref a6, .ref a7, .ref a8])), (a1, ai cA 36 (fun _ => 0)), (a2, ai cA 8 (fun _ => 0)), (a3, ai cA 8 (fun _ => 0)), (a4, ai cA 6 (fun _ => 0)), (a5, ai cA 6 (fun _ => 0)), (a6, ai cA 6 (fun _ => 0)), (a7, ag (cA 2) 6 (va_up (va_up (va_up (va_up (va_up (va_up (fun _ => none) 0 (some a9)) 1 (some a11)) 2 (some a13)) 3 (some a15)) 4 (some a17)) 5 (some a19))), (a8, ai cA 6 (fun _ => 0)), (a9, .inr (3, [.int (-1), .ref a10])), (a10, ai cA 64 (fun _ => 0)), (a11, .inr (3, [.int (-1), .ref a12])), (a12, ai cA 64 (fun _ => 0)), (a13, .inr (3, [.int (-1), .ref a14])), (a14, ai cA 64 (fun _ => 0)), (a15, .inr (3, [.int (-1), .ref a16])), (a16, ai cA 64 (fun _ => 0)), (a17, .inr (3, [.int (-1), .ref a18])), (a18, ai cA 64 (fun _ => 0)), (a19, .inr (3, [.int (-1), .ref a20])), (a20, ai cA 64 (fun _ => 0))]) rfl ?_
  refine gi_iinc (q := 0) (v := 6) (lv' := [(1, .int 6), (0, .ref q)]) k rfl (by decide) (by decide) rfl dX5_init_90 ?_
  refine gi_goto (tgt := 71) k (by decide) dX5_init_93 ?_
  refine gi_iload_n (q := 0) k rfl rfl dX5_init_71 ?_
  refine gi_bipush (v := 6) k (by decide) dX5_init_72 ?_
  refine gi_icmp_ge (tgt := 96) k (by decide) dX5_init_74 (fun _ => ?_) (fun z => absurd (by decide) z)
  refine gi_wr (ws' := wlist (D, List.range' 22 21, adl 22 [q, a1, a2, a3, a4, a5, a6, a7, a8, a9, a10, a11, a12, a13, a14, a15, a16, a17, a18, a19, a20], cA, am) (mI 22)) ?_ ?_
  · refine Wr.cons (Or.inl rfl) ?_
    refine Wr.cons (Or.inl rfl) ?_
    refine Wr.cons (Or.inl rfl) ?_
    refine Wr.cons (Or.inl rfl) ?_
    refine Wr.cons (Or.inl rfl) ?_
    refine Wr.cons (Or.inl rfl) ?_
    refine Wr.cons (Or.inl rfl) ?_
    refine Wr.cons (eqe_q (fun i hi => by rcases (show i = 0 ∨ i = 1 ∨ i = 2 ∨ i = 3 ∨ i = 4 ∨ i = 5 by omega) with rfl | rfl | rfl | rfl | rfl | rfl <;> rfl)) ?_
    refine Wr.cons (Or.inl rfl) ?_
    refine Wr.cons (Or.inl rfl) ?_
    refine Wr.cons (Or.inl rfl) ?_
    refine Wr.cons (Or.inl rfl) ?_
    refine Wr.cons (Or.inl rfl) ?_
    refine Wr.cons (Or.inl rfl) ?_
    refine Wr.cons (Or.inl rfl) ?_
    refine Wr.cons (Or.inl rfl) ?_
    refine Wr.cons (Or.inl rfl) ?_
    refine Wr.cons (Or.inl rfl) ?_
    refine Wr.cons (Or.inl rfl) ?_
    refine Wr.cons (Or.inl rfl) ?_
    refine Wr.cons (Or.inl rfl) ?_
    exact Wr.nil
  refine gi_aload_n (q := 1) k rfl rfl dX5_init_96 ?_
  refine gi_iconst (v := 4) k (by decide) dX5_init_97 ?_
  refine gi_G (L := List.range' 22 21) (ad := adl 22 [q, a1, a2, a3, a4, a5, a6, a7, a8, a9, a10, a11, a12, a13, a14, a15, a16, a17, a18, a19, a20]) (M := mI 22) k (by decide) (by decide) rfl (fun kg => ?_)
  refine gs_callV (As := [.int 4]) (k0 := 22) (ci := 5) (T := TX5) (N := 9) kg (c_X5_startAnew22 (fun k h1 h2 => List.mem_range'_1.mpr ⟨h1, h2⟩)) cf_X5_startAnew im_X5_startAnew sl_X5_startAnew ml_X5_40 (List.mem_range'_1.mpr ⟨by omega, by omega⟩) rfl rfl (by decide) rfl rfl (Nat.le_of_ble_eq_true rfl) dX5_init_98 (ppV ?_)
  refine gi_unG ?_
  exact gi_ret (st := []) k t (by decide) (by decide) dX5_init_101 ⟨adl 22 [q, a1, a2, a3, a4, a5, a6, a7, a8, a9, a10, a11, a12, a13, a14, a15, a16, a17, a18, a19, a20], rfl, rfl⟩
theorem c_X6_init {l : Launch} {D : va_G} {cA : Nat → ClassId} {am : Am} {q : Nat} : Ci l D cA am yX6_init cX6_init 2 4 64 2097 q (.inr (6, [.null, .null, .int 0, .null, .null, .null, .null, .null, .null, .null])) (fun u => ∃ f : Nat → Nat, f 0 = q ∧ u = wlist (D, List.range' 0 65, f, cA, am) m6) := by
  refine Ci.of (by decide +kernel) rfl (by decide) (fun K k hni t => ?_)
  refine gi_aload_n (q := 0) k rfl rfl dX6_init_0 ?_
  refine gi_obj k ml_X6_3 (by decide) (Nat.le_of_ble_eq_true rfl) dX6_init_1 ?_
  refine gi_aload_n (q := 0) k rfl rfl dX6_init_4 ?_
  refine gi_new (C := RX5) (T := TX5) (N := 9) (ci := 5) (fs := [.int 0, .null, .null, .null, .null, .null, .null, .null, .null]) k inX5 tyX5 tyX5_ok kl_X6_9 ia_X5 iz_X5 rfl (fun j hj => by rcases (show j = 0 ∨ j = 1 ∨ j = 2 ∨ j = 3 ∨ j = 4 ∨ j = 5 ∨ j = 6 ∨ j = 7 ∨ j = 8 by omega) with rfl | rfl | rfl | rfl | rfl | rfl | rfl | rfl | rfl <;> rfl) (by decide) (by decide) dX6_init_5 (fun a1 => ?_)
  refine gi_ws (ws' := [(q, .inr (6, [.null, .null, .int 0, .null, .null, .null, .null, .null, .null, .null])), (a1, .inr (5, [.int 0, .null, .null, .null, .null, .null, .null, .null, .null]))]) (k1 := 1) (k2 := 9) rfl rfl rfl ?_
  refine gi_dup k rfl dX6_init_8 ?_
  refine gi_init (pre := [(q, .inr (6, [.null, .null, .int 0, .null, .null, .null, .null, .null, .null, .null]))]) k (c_X5_init1 (q := a1)) cf_X5_init im_X5_init ml_X6_11 rfl (by decide) rfl (Nat.le_of_ble_eq_true rfl) (by decide) (by decide) dX6_init_9 (fun u hu => ?_)
  obtain ⟨f1, rfl, rfl⟩ := hu
  refine gi_ws (ws' := [(q, .inr (6, [.null, .null, .int 0, .null, .null, .null, .null, .null, .null, .null]))] ++ wlist (D, List.range' 1 21, f1, cA, am) (sta1 4 (mI 1))) (k1 := 21) (k2 := 487) rfl rfl rfl ?_
  refine gi_putF (C := RX6) (T := TX6) (N := 10) (ci := 6) (q0 := 0) (j := 0) k hni rfl rfl rfl inX6 tyX6 tyX6_ok nmX6 (by decide) fl_X6_12 rfl rfl (tyX6_ok 0 (by decide)) rfl rfl (Nat.le_of_ble_eq_true rfl) dX6_init_12 (ws' := [(q, .inr (6, [.ref (f1 1), .null, .int 0, .null, .null, .null, .null, .null, .null, .null]))] ++ wlist (D, List.range' 1 21, f1, cA, am) (sta1 4 (mI 1))) rfl ?_
  refine gi_aload_n (q := 0) k rfl rfl dX6_init_15 ?_
  refine gi_new (C := RX5) (T := TX5) (N := 9) (ci := 5) (fs := [.int 0, .null, .null, .null, .null, .null, .null, .null, .null]) k inX5 tyX5 tyX5_ok kl_X6_9 ia_X5 iz_X5 rfl (fun j hj => by rcases (show j = 0 ∨ j = 1 ∨ j = 2 ∨ j = 3 ∨ j = 4 ∨ j = 5 ∨ j = 6 ∨ j = 7 ∨ j = 8 by omega) with rfl | rfl | rfl | rfl | rfl | rfl | rfl | rfl | rfl <;> rfl) (by decide) (by decide) dX6_init_16 (fun a2 => ?_)
  refine gi_ws (ws' := [(q, .inr (6, [.ref (f1 1), .null, .int 0, .null, .null, .null, .null, .null, .null, .null]))] ++ (wlist (D, List.range' 1 21, f1, cA, am) (sta1 4 (mI 1)) ++ [(a2, .inr (5, [.int 0, .null, .null, .null, .null, .null, .null, .null, .null]))])) (k1 := 22) (k2 := 496) rfl rfl rfl ?_
  refine gi_dup k rfl dX6_init_19 ?_
  refine gi_init (pre := [(q, .inr (6, [.ref (f1 1), .null, .int 0, .null, .null, .null, .null, .null, .null, .null]))] ++ wlist (D, List.range' 1 21, f1, cA, am) (sta1 4 (mI 1))) k (c_X5_init22 (q := a2)) cf_X5_init im_X5_init ml_X6_11 rfl (by decide) rfl (Nat.le_of_ble_eq_true rfl) (by decide) (by decide) dX6_init_20 (fun u hu => ?_)
  obtain ⟨f22, rfl, rfl⟩ := hu
  refine gi_ws (ws' := [(q, .inr (6, [.ref (f1 1), .null, .int 0, .null, .null, .null, .null, .null, .null, .null]))] ++ (wlist (D, List.range' 1 21, f1, cA, am) (sta1 4 (mI 1)) ++ wlist (D, List.range' 22 21, f22, cA, am) (sta22 4 (mI 22)))) (k1 := 42) (k2 := 974) rfl rfl rfl ?_
  refine gi_putF (C := RX6) (T := TX6) (N := 10) (ci := 6) (q0 := 0) (j := 1) k hni rfl rfl rfl inX6 tyX6 tyX6_ok nmX6 (by decide) fl_X6_18 rfl rfl (tyX6_ok 1 (by decide)) rfl rfl (Nat.le_of_ble_eq_true rfl) dX6_init_23 (ws' := [(q, .inr (6, [.ref (f1 1), .ref (f22 22), .int 0, .null, .null, .null, .null, .null, .null, .null]))] ++ (wlist (D, List.range' 1 21, f1, cA, am) (sta1 4 (mI 1)) ++ wlist (D, List.range' 22 21, f22, cA, am) (sta22 4 (mI 22)))) rfl ?_
  refine gi_aload_n (q := 0) k rfl rfl dX6_init_26 ?_
  refine gi_iconst (v := 0) k (by decide) dX6_init_27 ?_
  refine gi_put (C := RX6) (T := TX6) (N := 10) (ci := 6) (q0 := 0) (j := 2) (ty := .boolean) k rfl rfl inX6 tyX6 tyX6_ok nmX6 (by decide) fl_X6_21 rfl rfl (tyX6_ok 2 (by decide)) rfl rfl (Nat.le_of_ble_eq_true rfl) dX6_init_28 (ws' := [(q, .inr (6, [.ref (f1 1), .ref (f22 22), .int 0, .null, .null, .null, .null, .null, .null, .null]))] ++ (wlist (D, List.range' 1 21, f1, cA, am) (sta1 4 (mI 1)) ++ wlist (D, List.range' 22 21, f22, cA, am) (sta22 4 (mI 22)))) rfl ?_
  refine gi_aload_n (q := 0) k rfl rfl dX6_init_31 ?_
  refine gi_iconst (v := 4) k (by decide) dX6_init_32 ?_
  refine gi_newq0 (N := 4) k kl_X6_25 (by decide) (by decide) (by decide) (by decide) (by decide) dX6_init_33 (fun a3 => ?_)
  refine gi_ws (ws' := [(q, .inr (6, [.ref (f1 1), .ref (f22 22), .int 0, .null, .null, .null, .null, .null, .null, .null]))] ++ (wlist (D, List.range' 1 21, f1, cA, am) (sta1 4 (mI 1)) ++ (wlist (D, List.range' 22 21, f22, cA, am) (sta22 4 (mI 22)) ++ [(a3, ag (cA 3) 4 (fun _ => none))]))) (k1 := 43) (k2 := 978) rfl rfl rfl ?_
  refine gi_putF (C := RX6) (T := TX6) (N := 10) (ci := 6) (q0 := 0) (j := 3) k hni rfl rfl rfl inX6 tyX6 tyX6_ok nmX6 (by decide) fl_X6_27 rfl rfl (tyX6_ok 3 (by decide)) rfl rfl (Nat.le_of_ble_eq_true rfl) dX6_init_36 (ws' := [(q, .inr (6, [.ref (f1 1), .ref (f22 22), .int 0, .ref a3, .null, .null, .null, .null, .null, .null]))] ++ (wlist (D, List.range' 1 21, f1, cA, am) (sta1 4 (mI 1)) ++ (wlist (D, List.range' 22 21, f22, cA, am) (sta22 4 (mI 22)) ++ [(a3, ag (cA 3) 4 (fun _ => none))]))) rfl ?_
  refine gi_iconst (v := 0) k (by decide) dX6_init_39 ?_
  refine gi_istore_n (lv' := [(1, .int 0), (0, .ref q)]) k rfl (by decide) rfl dX6_init_40 ?_
  refine gi_iload_n (q := 0) k rfl rfl dX6_init_41 ?_
  refine gi_iconst (v := 4) k (by decide) dX6_init_42 ?_
  refine gi_icmp_ge (tgt := 65) k (by decide) dX6_init_43 (fun z => absurd z (by decide)) (fun _ => ?_)
  refine gi_aload_n (q := 1) k rfl rfl dX6_init_46 ?_
  refine gi_get (C := RX6) (T := TX6) (N := 10) (ci := 6) (q0 := 0) (j := 3) (v := .ref a3) k rfl rfl inX6 (by decide) fl_X6_27 rfl rfl dX6_init_47 ?_
  refine gi_iload_n (q := 0) k rfl rfl dX6_init_50 ?_
  refine gi_new (C := RX0) (T := TX0) (N := 2) (ci := 0) (fs := [.int 0, .null]) k inX0 tyX0 tyX0_ok kl_X6_25 ia_X0 iz_X0 rfl (fun j hj => by rcases (show j = 0 ∨ j = 1 by omega) with rfl | rfl <;> rfl) (by decide) (by decide) dX6_init_51 (fun a4 => ?_)
  refine gi_ws (ws' := [(q, .inr (6, [.ref (f1 1), .ref (f22 22), .int 0, .ref a3, .null, .null, .null, .null, .null, .null]))] ++ (wlist (D, List.range' 1 21, f1, cA, am) (sta1 4 (mI 1)) ++ (wlist (D, List.range' 22 21, f22, cA, am) (sta22 4 (mI 22)) ++ [(a3, ag (cA 3) 4 (fun _ => none)), (a4, .inr (0, [.int 0, .null]))]))) (k1 := 44) (k2 := 980) rfl rfl rfl ?_
  refine gi_dup k rfl dX6_init_54 ?_
  refine gi_initN (host := RX6) (pre := [(q, .inr (6, [.ref (f1 1), .ref (f22 22), .int 0, .ref a3, .null, .null, .null, .null, .null, .null]))] ++ (wlist (D, List.range' 1 21, f1, cA, am) (sta1 4 (mI 1)) ++ (wlist (D, List.range' 22 21, f22, cA, am) (sta22 4 (mI 22)) ++ [(a3, ag (cA 3) 4 (fun _ => none))]))) k (c_X0_init (q := a4)) cf_X0_init im_X0_init (fun h => h.1.2.1) rfl (by decide) rfl (Nat.le_of_ble_eq_true rfl) (by decide) (by decide) dX6_init_55 (fun u hu => ?_)
  obtain ⟨a5, rfl⟩ := hu
  refine gi_ws (ws' := [(q, .inr (6, [.ref (f1 1), .ref (f22 22), .int 0, .ref a3, .null, .null, .null, .null, .null, .null]))] ++ (wlist (D, List.range' 1 21, f1, cA, am) (sta1 4 (mI 1)) ++ (wlist (D, List.range' 22 21, f22, cA, am) (sta22 4 (mI 22)) ++ [(a3, ag (cA 3) 4 (fun _ => none)), (a4, .inr (0, [.int (-1), .ref a5])), (a5, ai cA 64 (fun _ => 0))]))) (k1 := 45) (k2 := 1044) rfl rfl rfl ?_
  refine gi_astq (q0 := 43) (t0 := 3) (qk := 44) (ci := 0) (r := (RX0, TX0, 2)) (i' := 0) k rfl rfl rfl rfl (by unfold vp_in; decide) (by decide) dX6_init_58 (ws' := [(q, .inr (6, [.ref (f1 1), .ref (f22 22), .int 0, .ref a3, .null, .null, .null, .null, .null, .null]))] ++ (wlist (D, List.range' 1 21, f1, cA, am) (sta1 4 (mI 1)) ++ (wlist (D, List.range' 22 21, f22, cA, am) (sta22 4 (mI 22)) ++ [(a3, ag (cA 3) 4 (va_up (fun _ => none) 0 (some a4))), (a4, .inr (0, [.int (-1), .ref a5])), (a5, ai cA 64 (fun _ => 0))]))) rfl ?_
  refine gi_iinc (q := 0) (v := 1) (lv' := [(1, .int 1), (0, .ref q)]) k rfl (by decide) (by decide) rfl dX6_init_59 ?_
  refine gi_goto (tgt := 41) k (by decide) dX6_init_62 ?_
  refine gi_iload_n (q := 0) k rfl rfl dX6_init_41 ?_
  refine gi_iconst (v := 4) k (by decide) dX6_init_42 ?_
  refine gi_icmp_ge (tgt := 65) k (by decide) dX6_init_43 (fun z => absurd z (by decide)) (fun _ => ?_)
  refine gi_aload_n (q := 1) k rfl rfl dX6_init_46 ?_
  refine gi_get (C := RX6) (T := TX6) (N := 10) (ci := 6) (q0 := 0) (j := 3) (v := .ref a3) k rfl rfl inX6 (by decide) fl_X6_27 rfl rfl dX6_init_47 ?_
  refine gi_iload_n (q := 0) k rfl rfl dX6_init_50 ?_
  refine gi_new (C := RX0) (T := TX0) (N := 2) (ci := 0) (fs := [.int 0, .null]) k inX0 tyX0 tyX0_ok kl_X6_25 ia_X0 iz_X0 rfl (fun j hj => by rcases (show j = 0 ∨ j = 1 by omega) with rfl | rfl <;> rfl) (by decide) (by decide) dX6_init_51 (fun a6 => ?_)
  refine gi_ws (ws' := [(q, .inr (6, [.ref (f1 1), .ref (f22 22), .int 0, .ref a3, .null, .null, .null, .null, .null, .null]))] ++ (wlist (D, List.range' 1 21, f1, cA, am) (sta1 4 (mI 1)) ++ (wlist (D, List.range' 22 21, f22, cA, am) (sta22 4 (mI 22)) ++ [(a3, ag (cA 3) 4 (va_up (fun _ => none) 0 (some a4))), (a4, .inr (0, [.int (-1), .ref a5])), (a5, ai cA 64 (fun _ => 0)), (a6, .inr (0, [.int 0, .null]))]))) (k1 := 46) (k2 := 1046) rfl rfl rfl ?_
  refine gi_dup k rfl dX6_init_54 ?_
  refine gi_initN (host := RX6) (pre := [(q, .inr (6, [.ref (f1 1), .ref (f22 22), .int 0, .ref a3, .null, .null, .null, .null, .null, .null]))] ++ (wlist (D, List.range' 1 21, f1, cA, am) (sta1 4 (mI 1)) ++ (wlist (D, List.range' 22 21, f22, cA, am) (sta22 4 (mI 22)) ++ [(a3, ag (cA 3) 4 (va_up (fun _ => none) 0 (some a4))), (a4, .inr (0, [.int (-1), .ref a5])), (a5, ai cA 64 (fun _ => 0))]))) k (c_X0_init (q := a6)) cf_X0_init im_X0_init (fun h => h.1.2.1) rfl (by decide) rfl (Nat.le_of_ble_eq_true rfl) (by decide) (by decide) dX6_init_55 (fun u hu => ?_)
  obtain ⟨a7, rfl⟩ := hu
  refine gi_ws (ws' := [(q, .inr (6, [.ref (f1 1), .ref (f22 22), .int 0, .ref a3, .null, .null, .null, .null, .null, .null]))] ++ (wlist (D, List.range' 1 21, f1, cA, am) (sta1 4 (mI 1)) ++ (wlist (D, List.range' 22 21, f22, cA, am) (sta22 4 (mI 22)) ++ [(a3, ag (cA 3) 4 (va_up (fun _ => none) 0 (some a4))), (a4, .inr (0, [.int (-1), .ref a5])), (a5, ai cA 64 (fun _ => 0)), (a6, .inr (0, [.int (-1), .ref a7])), (a7, ai cA 64 (fun _ => 0))]))) (k1 := 47) (k2 := 1110) rfl rfl rfl ?_
  refine gi_astq (q0 := 43) (t0 := 3) (qk := 46) (ci := 0) (r := (RX0, TX0, 2)) (i' := 1) k rfl rfl rfl rfl (by unfold vp_in; decide) (by decide) dX6_init_58 (ws' := [(q, .inr (6, [.ref (f1 1), .ref (f22 22), .int 0, .ref a3, .null, .null, .null, .null, .null, .null]))] ++ (wlist (D, List.range' 1 21, f1, cA, am) (sta1 4 (mI 1)) ++ (wlist (D, List.range' 22 21, f22, cA, am) (sta22 4 (mI 22)) ++ [(a3, ag (cA 3) 4 (va_up (va_up (fun _ => none) 0 (some a4)) 1 (some a6))), (a4, .inr (0, [.int (-1), .ref a5])), (a5, ai cA 64 (fun _ => 0)), (a6, .inr (0, [.int (-1), .ref a7])), (a7, ai cA 64 (fun _ => 0))]))) rfl ?_
  refine gi_iinc (q := 0) (v := 2) (lv' := [(1, .int 2), (0, .ref q)]) k rfl (by decide) (by decide) rfl dX6_init_59 ?_
  refine gi_goto (tgt := 41) k (by decide) dX6_init_62 ?_
  refine gi_iload_n (q := 0) k rfl rfl dX6_init_41 ?_
  refine gi_iconst (v := 4) k (by decide) dX6_init_42 ?_
  refine gi_icmp_ge (tgt := 65) k (by decide) dX6_init_43 (fun z => absurd z (by decide)) (fun _ => ?_)
  refine gi_aload_n (q := 1) k rfl rfl dX6_init_46 ?_
  refine gi_get (C := RX6) (T := TX6) (N := 10) (ci := 6) (q0 := 0) (j := 3) (v := .ref a3) k rfl rfl inX6 (by decide) fl_X6_27 rfl rfl dX6_init_47 ?_
  refine gi_iload_n (q := 0) k rfl rfl dX6_init_50 ?_
  refine gi_new (C := RX0) (T := TX0) (N := 2) (ci := 0) (fs := [.int 0, .null]) k inX0 tyX0 tyX0_ok kl_X6_25 ia_X0 iz_X0 rfl (fun j hj => by rcases (show j = 0 ∨ j = 1 by omega) with rfl | rfl <;> rfl) (by decide) (by decide) dX6_init_51 (fun a8 => ?_)
  refine gi_ws (ws' := [(q, .inr (6, [.ref (f1 1), .ref (f22 22), .int 0, .ref a3, .null, .null, .null, .null, .null, .null]))] ++ (wlist (D, List.range' 1 21, f1, cA, am) (sta1 4 (mI 1)) ++ (wlist (D, List.range' 22 21, f22, cA, am) (sta22 4 (mI 22)) ++ [(a3, ag (cA 3) 4 (va_up (va_up (fun _ => none) 0 (some a4)) 1 (some a6))), (a4, .inr (0, [.int (-1), .ref a5])), (a5, ai cA 64 (fun _ => 0)), (a6, .inr (0, [.int (-1), .ref a7])), (a7, ai cA 64 (fun _ => 0)), (a8, .inr (0, [.int 0, .null]))]))) (k1 := 48) (k2 := 1112) rfl rfl rfl ?_
  refine gi_dup k rfl dX6_init_54 ?_
  refine gi_initN (host := RX6) (pre := [(q, .inr (6, [.ref (f1 1), .ref (f22 22), .int 0, .ref a3, .null, .null, .null, .null, .null, .null]))] ++ (wlist (D, List.range' 1 21, f1, cA, am) (sta1 4 (mI 1)) ++ (wlist (D, List.range' 22 21, f22, cA, am) (sta22 4 (mI 22)) ++ [(a3, ag (cA 3) 4 (va_up (va_up (fun _ => none) 0 (some a4)) 1 (some a6))), (a4, .inr (0, [.int (-1), .ref a5])), (a5, ai cA 64 (fun _ => 0)), (a6, .inr (0, [.int (-1), .ref a7])), (a7, ai cA 64 (fun _ => 0))]))) k (c_X0_init (q := a8)) cf_X0_init im_X0_init (fun h => h.1.2.1) rfl (by decide) rfl (Nat.le_of_ble_eq_true rfl) (by decide) (by decide) dX6_init_55 (fun u hu => ?_)
  obtain ⟨a9, rfl⟩ := hu
  refine gi_ws (ws' := [(q, .inr (6, [.ref (f1 1), .ref (f22 22), .int 0, .ref a3, .null, .null, .null, .null, .null, .null]))] ++ (wlist (D, List.range' 1 21, f1, cA, am) (sta1 4 (mI 1)) ++ (wlist (D, List.range' 22 21, f22, cA, am) (sta22 4 (mI 22)) ++ [(a3, ag (cA 3) 4 (va_up (va_up (fun _ => none) 0 (some a4)) 1 (some a6))), (a4, .inr (0, [.int (-1), .ref a5])), (a5, ai cA 64 (fun _ => 0)), (a6, .inr (0, [.int (-1), .ref a7])), (a7, ai cA 64 (fun _ => 0)), (a8, .inr (0, [.int (-1), .ref a9])), (a9, ai cA 64 (fun _ => 0))]))) (k1 := 49) (k2 := 1176) rfl rfl rfl ?_
  refine gi_astq (q0 := 43) (t0 := 3) (qk := 48) (ci := 0) (r := (RX0, TX0, 2)) (i' := 2) k rfl rfl rfl rfl (by unfold vp_in; decide) (by decide) dX6_init_58 (ws' := [(q, .inr (6, [.ref (f1 1), .ref (f22 22), .int 0, .ref a3, .null, .null, .null, .null, .null, .null]))] ++ (wlist (D, List.range' 1 21, f1, cA, am) (sta1 4 (mI 1)) ++ (wlist (D, List.range' 22 21, f22, cA, am) (sta22 4 (mI 22)) ++ [(a3, ag (cA 3) 4 (va_up (va_up (va_up (fun _ => none) 0 (some a4)) 1 (some a6)) 2 (some a8))), (a4, .inr (0, [.int (-1), .ref a5])), (a5, ai cA 64 (fun _ => 0)), (a6, .inr (0, [.int (-1), .ref a7])), (a7, ai cA 64 (fun _ => 0)), (a8, .inr (0, [.int (-1), .ref a9])), (a9, ai cA 64 (fun _ => 0))]))) rfl ?_
  refine gi_iinc (q := 0) (v := 3) (lv' := [(1, .int 3), (0, .ref q)]) k rfl (by decide) (by decide) rfl dX6_init_59 ?_
  refine gi_goto (tgt := 41) k (by decide) dX6_init_62 ?_
  refine gi_iload_n (q := 0) k rfl rfl dX6_init_41 ?_
  refine gi_iconst (v := 4) k (by decide) dX6_init_42 ?_
  refine gi_icmp_ge (tgt := 65) k (by decide) dX6_init_43 (fun z => absurd z (by decide)) (fun _ => ?_)
  refine gi_aload_n (q := 1) k rfl rfl dX6_init_46 ?_
  refine gi_get (C := RX6) (T := TX6) (N := 10) (ci := 6) (q0 := 0) (j := 3) (v := .ref a3) k rfl rfl inX6 (by decide) fl_X6_27 rfl rfl dX6_init_47 ?_
  refine gi_iload_n (q := 0) k rfl rfl dX6_init_50 ?_
  refine gi_new (C := RX0) (T := TX0) (N := 2) (ci := 0) (fs := [.int 0, .null]) k inX0 tyX0 tyX0_ok kl_X6_25 ia_X0 iz_X0 rfl (fun j hj => by rcases (show j = 0 ∨ j = 1 by omega) with rfl | rfl <;> rfl) (by decide) (by decide) dX6_init_51 (fun a10 => ?_)
  refine gi_ws (ws' := [(q, .inr (6, [.ref (f1 1), .ref (f22 22), .int 0, .ref a3, .null, .null, .null, .null, .null, .null]))] ++ (wlist (D, List.range' 1 21, f1, cA, am) (sta1 4 (mI 1)) ++ (wlist (D, List.range' 22 21, f22, cA, am) (sta22 4 (mI 22)) ++ [(a3, ag (cA 3) 4 (va_up (va_up (va_up (fun _ => none) 0 (some a4)) 1 (some a6)) 2 (some a8))), (a4, .inr (0, [.int (-1), .ref a5])), (a5, ai cA 64 (fun _ => 0)), (a6, .inr (0, [.int (-1), .ref a7])), (a7, ai cA 64 (fun _ => 0)), (a8, .inr (0, [.int (-1), .ref a9])), (a9, ai cA 64 (fun _ => 0)), (a10, .inr (0, [.int 0, .null]))]))) (k1 := 50) (k2 := 1178) rfl rfl rfl ?_
  refine gi_dup k rfl dX6_init_54 ?_
  refine gi_initN (host := RX6) (pre := [(q, .inr (6, [.ref (f1 1), .ref (f22 22), .int 0, .ref a3, .null, .null, .null, .null, .null, .null]))] ++ (wlist (D, List.range' 1 21, f1, cA, am) (sta1 4 (mI 1)) ++ (wlist (D, List.range' 22 21, f22, cA, am) (sta22 4 (mI 22)) ++ [(a3, ag (cA 3) 4 (va_up (va_up (va_up (fun _ => none) 0 (some a4)) 1 (some a6)) 2 (some a8))), (a4, .inr (0, [.int (-1), .ref a5])), (a5, ai cA 64 (fun _ => 0)), (a6, .inr (0, [.int (-1), .ref a7])), (a7, ai cA 64 (fun _ => 0)), (a8, .inr (0, [.int (-1), .ref a9])), (a9, ai cA 64 (fun _ => 0))]))) k (c_X0_init (q := a10)) cf_X0_init im_X0_init (fun h => h.1.2.1) rfl (by decide) rfl (Nat.le_of_ble_eq_true rfl) (by decide) (by decide) dX6_init_55 (fun u hu => ?_)
  obtain ⟨a11, rfl⟩ := hu
  refine gi_ws (ws' := [(q, .inr (6, [.ref (f1 1), .ref (f22 22), .int 0, .ref a3, .null, .null, .null, .null, .null, .null]))] ++ (wlist (D, List.range' 1 21, f1, cA, am) (sta1 4 (mI 1)) ++ (wlist (D, List.range' 22 21, f22, cA, am) (sta22 4 (mI 22)) ++ [(a3, ag (cA 3) 4 (va_up (va_up (va_up (fun _ => none) 0 (some a4)) 1 (some a6)) 2 (some a8))), (a4, .inr (0, [.int (-1), .ref a5])), (a5, ai cA 64 (fun _ => 0)), (a6, .inr (0, [.int (-1), .ref a7])), (a7, ai cA 64 (fun _ => 0)), (a8, .inr (0, [.int (-1), .ref a9])), (a9, ai cA 64 (fun _ => 0)), (a10, .inr (0, [.int (-1), .ref a11])), (a11, ai cA 64 (fun _ => 0))]))) (k1 := 51) (k2 := 1242) rfl rfl rfl ?_
  refine gi_astq (q0 := 43) (t0 := 3) (qk := 50) (ci := 0) (r := (RX0, TX0, 2)) (i' := 3) k rfl rfl rfl rfl (by unfold vp_in; decide) (by decide) dX6_init_58 (ws' := [(q, .inr (6, [.ref (f1 1), .ref (f22 22), .int 0, .ref a3, .null, .null, .null, .null, .null, .null]))] ++ (wlist (D, List.range' 1 21, f1, cA, am) (sta1 4 (mI 1)) ++ (wlist (D, List.range' 22 21, f22, cA, am) (sta22 4 (mI 22)) ++ [(a3, ag (cA 3) 4 (va_up (va_up (va_up (va_up (fun _ => none) 0 (some a4)) 1 (some a6)) 2 (some a8)) 3 (some a10))), (a4, .inr (0, [.int (-1), .ref a5])), (a5, ai cA 64 (fun _ => 0)), (a6, .inr (0, [.int (-1), .ref a7])), (a7, ai cA 64 (fun _ => 0)), (a8, .inr (0, [.int (-1), .ref a9])), (a9, ai cA 64 (fun _ => 0)), (a10, .inr (0, [.int (-1), .ref a11])), (a11, ai cA 64 (fun _ => 0))]))) rfl ?_
  refine gi_iinc (q := 0) (v := 4) (lv' := [(1, .int 4), (0, .ref q)]) k rfl (by decide) (by decide) rfl dX6_init_59 ?_
  refine gi_goto (tgt := 41) k (by decide) dX6_init_62 ?_
  refine gi_iload_n (q := 0) k rfl rfl dX6_init_41 ?_
  refine gi_iconst (v := 4) k (by decide) dX6_init_42 ?_
  refine gi_icmp_ge (tgt := 65) k (by decide) dX6_init_43 (fun _ => ?_) (fun z => absurd (by decide) z)
  refine gi_aload_n (q := 1) k rfl rfl dX6_init_65 ?_
  refine gi_new (C := RX4) (T := TX4) (N := 6) (ci := 4) (fs := [.int 0, .int 0, .null, .null, .null, .int 0]) k inX4 tyX4 tyX4_ok kl_X6_32 ia_X4 iz_X4 rfl (fun j hj => by rcases (show j = 0 ∨ j = 1 ∨ j = 2 ∨ j = 3 ∨ j = 4 ∨ j = 5 by omega) with rfl | rfl | rfl | rfl | rfl | rfl <;> rfl) (by decide) (by decide) dX6_init_66 (fun a12 => ?_)
  refine gi_ws (ws' := [(q, .inr (6, [.ref (f1 1), .ref (f22 22), .int 0, .ref a3, .null, .null, .null, .null, .null, .null]))] ++ (wlist (D, List.range' 1 21, f1, cA, am) (sta1 4 (mI 1)) ++ (wlist (D, List.range' 22 21, f22, cA, am) (sta22 4 (mI 22)) ++ [(a3, ag (cA 3) 4 (va_up (va_up (va_up (va_up (fun _ => none) 0 (some a4)) 1 (some a6)) 2 (some a8)) 3 (some a10))), (a4, .inr (0, [.int (-1), .ref a5])), (a5, ai cA 64 (fun _ => 0)), (a6, .inr (0, [.int (-1), .ref a7])), (a7, ai cA 64 (fun _ => 0)), (a8, .inr (0, [.int (-1), .ref a9])), (a9, ai cA 64 (fun _ => 0)), (a10, .inr (0, [.int (-1), .ref a11])), (a11, ai cA 64 (fun _ => 0)), (a12, .inr (4, [.int 0, .int 0, .null, .null, .null, .int 0]))]))) (k1 := 52) (k2 := 1248) rfl rfl rfl ?_
  refine gi_dup k rfl dX6_init_69 ?_
  refine gi_initN (host := RX6) (pre := [(q, .inr (6, [.ref (f1 1), .ref (f22 22), .int 0, .ref a3, .null, .null, .null, .null, .null, .null]))] ++ (wlist (D, List.range' 1 21, f1, cA, am) (sta1 4 (mI 1)) ++ (wlist (D, List.range' 22 21, f22, cA, am) (sta22 4 (mI 22)) ++ [(a3, ag (cA 3) 4 (va_up (va_up (va_up (va_up (fun _ => none) 0 (some a4)) 1 (some a6)) 2 (some a8)) 3 (some a10))), (a4, .inr (0, [.int (-1), .ref a5])), (a5, ai cA 64 (fun _ => 0)), (a6, .inr (0, [.int (-1), .ref a7])), (a7, ai cA 64 (fun _ => 0)), (a8, .inr (0, [.int (-1), .ref a9])), (a9, ai cA 64 (fun _ => 0)), (a10, .inr (0, [.int (-1), .ref a11])), (a11, ai cA 64 (fun _ => 0))]))) k (c_X4_init (q := a12)) cf_X4_init im_X4_init (fun h => h.1.2.2.1) rfl (by decide) rfl (Nat.le_of_ble_eq_true rfl) (by decide) (by decide) dX6_init_70 (fun u hu => ?_)
  obtain ⟨a13, a14, a15, rfl⟩ := hu
  refine gi_ws (ws' := [(q, .inr (6, [.ref (f1 1), .ref (f22 22), .int 0, .ref a3, .null, .null, .null, .null, .null, .null]))] ++ (wlist (D, List.range' 1 21, f1, cA, am) (sta1 4 (mI 1)) ++ (wlist (D, List.range' 22 21, f22, cA, am) (sta22 4 (mI 22)) ++ [(a3, ag (cA 3) 4 (va_up (va_up (va_up (va_up (fun _ => none) 0 (some a4)) 1 (some a6)) 2 (some a8)) 3 (some a10))), (a4, .inr (0, [.int (-1), .ref a5])), (a5, ai cA 64 (fun _ => 0)), (a6, .inr (0, [.int (-1), .ref a7])), (a7, ai cA 64 (fun _ => 0)), (a8, .inr (0, [.int (-1), .ref a9])), (a9, ai cA 64 (fun _ => 0)), (a10, .inr (0, [.int (-1), .ref a11])), (a11, ai cA 64 (fun _ => 0)), (a12, .inr (4, [.int 0, .int 0, .ref a13, .ref a14, .ref a15, .int 0])), (a13, ai cA 20 (fun _ => 0)), (a14, ai cA 60 (fun _ => 0)), (a15, ab cA 100 (fun _ => 0))]))) (k1 := 55) (k2 := 1428) rfl rfl rfl ?_
  refine gi_putF (C := RX6) (T := TX6) (N := 10) (ci := 6) (q0 := 0) (j := 4) k hni rfl rfl rfl inX6 tyX6 tyX6_ok nmX6 (by decide) fl_X6_35 rfl rfl (tyX6_ok 4 (by decide)) rfl rfl (Nat.le_of_ble_eq_true rfl) dX6_init_73 (ws' := [(q, .inr (6, [.ref (f1 1), .ref (f22 22), .int 0, .ref a3, .ref a12, .null, .null, .null, .null, .null]))] ++ (wlist (D, List.range' 1 21, f1, cA, am) (sta1 4 (mI 1)) ++ (wlist (D, List.range' 22 21, f22, cA, am) (sta22 4 (mI 22)) ++ [(a3, ag (cA 3) 4 (va_up (va_up (va_up (va_up (fun _ => none) 0 (some a4)) 1 (some a6)) 2 (some a8)) 3 (some a10))), (a4, .inr (0, [.int (-1), .ref a5])), (a5, ai cA 64 (fun _ => 0)), (a6, .inr (0, [.int (-1), .ref a7])), (a7, ai cA 64 (fun _ => 0)), (a8, .inr (0, [.int (-1), .ref a9])), (a9, ai cA 64 (fun _ => 0)), (a10, .inr (0, [.int (-1), .ref a11])), (a11, ai cA 64 (fun _ => 0)), (a12, .inr (4, [.int 0, .int 0, .ref a13, .ref a14, .ref a15, .int 0])), (a13, ai cA 20 (fun _ => 0)), (a14, ai cA 60 (fun _ => 0)), (a15, ab cA 100 (fun _ => 0))]))) rfl ?_
  refine gi_aload_n (q := 1) k rfl rfl dX6_init_76 ?_
  refine gi_new (C := RX1) (T := TX1) (N := 2) (ci := 1) (fs := [.int 0, .null]) k inX1 tyX1 tyX1_ok kl_X6_39 ia_X1 iz_X1 rfl (fun j hj => by rcases (show j = 0 ∨ j = 1 by omega) with rfl | rfl <;> rfl) (by decide) (by decide) dX6_init_77 (fun a16 => ?_)
  refine gi_ws (ws' := [(q, .inr (6, [.ref (f1 1), .ref (f22 22), .int 0, .ref a3, .ref a12, .null, .null, .null, .null, .null]))] ++ (wlist (D, List.range' 1 21, f1, cA, am) (sta1 4 (mI 1)) ++ (wlist (D, List.range' 22 21, f22, cA, am) (sta22 4 (mI 22)) ++ [(a3, ag (cA 3) 4 (va_up (va_up (va_up (va_up (fun _ => none) 0 (some a4)) 1 (some a6)) 2 (some a8)) 3 (some a10))), (a4, .inr (0, [.int (-1), .ref a5])), (a5, ai cA 64 (fun _ => 0)), (a6, .inr (0, [.int (-1), .ref a7])), (a7, ai cA 64 (fun _ => 0)), (a8, .inr (0, [.int (-1), .ref a9])), (a9, ai cA 64 (fun _ => 0)), (a10, .inr (0, [.int (-1), .ref a11])), (a11, ai cA 64 (fun _ => 0)), (a12, .inr (4, [.int 0, .int 0, .ref a13, .ref a14, .ref a15, .int 0])), (a13, ai cA 20 (fun _ => 0)), (a14, ai cA 60 (fun _ => 0)), (a15, ab cA 100 (fun _ => 0)), (a16, .inr (1, [.int 0, .null]))]))) (k1 := 56) (k2 := 1430) rfl rfl rfl ?_
  refine gi_dup k rfl dX6_init_80 ?_
  refine gi_initN (host := RX6) (pre := [(q, .inr (6, [.ref (f1 1), .ref (f22 22), .int 0, .ref a3, .ref a12, .null, .null, .null, .null, .null]))] ++ (wlist (D, List.range' 1 21, f1, cA, am) (sta1 4 (mI 1)) ++ (wlist (D, List.range' 22 21, f22, cA, am) (sta22 4 (mI 22)) ++ [(a3, ag (cA 3) 4 (va_up (va_up (va_up (va_up (fun _ => none) 0 (some a4)) 1 (some a6)) 2 (some a8)) 3 (some a10))), (a4, .inr (0, [.int (-1), .ref a5])), (a5, ai cA 64 (fun _ => 0)), (a6, .inr (0, [.int (-1), .ref a7])), (a7, ai cA 64 (fun _ => 0)), (a8, .inr (0, [.int (-1), .ref a9])), (a9, ai cA 64 (fun _ => 0)), (a10, .inr (0, [.int (-1), .ref a11])), (a11, ai cA 64 (fun _ => 0)), (a12, .inr (4, [.int 0, .int 0, .ref a13, .ref a14, .ref a15, .int 0])), (a13, ai cA 20 (fun _ => 0)), (a14, ai cA 60 (fun _ => 0)), (a15, ab cA 100 (fun _ => 0))]))) k (c_X1_init (q := a16)) cf_X1_init im_X1_init (fun h => h.1.2.2.2.1) rfl (by decide) rfl (Nat.le_of_ble_eq_true rfl) (by decide) (by decide) dX6_init_81 (fun u hu => ?_)
  obtain ⟨a17, rfl⟩ := hu
  refine gi_ws (ws' := [(q, .inr (6, [.ref (f1 1), .ref (f22 22), .int 0, .ref a3, .ref a12, .null, .null, .null, .null, .null]))] ++ (wlist (D, List.range' 1 21, f1, cA, am) (sta1 4 (mI 1)) ++ (wlist (D, List.range' 22 21, f22, cA, am) (sta22 4 (mI 22)) ++ [(a3, ag (cA 3) 4 (va_up (va_up (va_up (va_up (fun _ => none) 0 (some a4)) 1 (some a6)) 2 (some a8)) 3 (some a10))), (a4, .inr (0, [.int (-1), .ref a5])), (a5, ai cA 64 (fun _ => 0)), (a6, .inr (0, [.int (-1), .ref a7])), (a7, ai cA 64 (fun _ => 0)), (a8, .inr (0, [.int (-1), .ref a9])), (a9, ai cA 64 (fun _ => 0)), (a10, .inr (0, [.int (-1), .ref a11])), (a11, ai cA 64 (fun _ => 0)), (a12, .inr (4, [.int 0, .int 0, .ref a13, .ref a14, .ref a15, .int 0])), (a13, ai cA 20 (fun _ => 0)), (a14, ai cA 60 (fun _ => 0)), (a15, ab cA 100 (fun _ => 0)), (a16, .inr (1, [.int 0, .ref a17])), (a17, ab cA 511 (fun _ => 0))]))) (k1 := 57) (k2 := 1941) rfl rfl rfl ?_
  refine gi_putF (C := RX6) (T := TX6) (N := 10) (ci := 6) (q0 := 0) (j := 5) k hni rfl rfl rfl inX6 tyX6 tyX6_ok nmX6 (by decide) fl_X6_42 rfl rfl (tyX6_ok 5 (by decide)) rfl rfl (Nat.le_of_ble_eq_true rfl) dX6_init_84 (ws' := [(q, .inr (6, [.ref (f1 1), .ref (f22 22), .int 0, .ref a3, .ref a12, .ref a16, .null, .null, .null, .null]))] ++ (wlist (D, List.range' 1 21, f1, cA, am) (sta1 4 (mI 1)) ++ (wlist (D, List.range' 22 21, f22, cA, am) (sta22 4 (mI 22)) ++ [(a3, ag (cA 3) 4 (va_up (va_up (va_up (va_up (fun _ => none) 0 (some a4)) 1 (some a6)) 2 (some a8)) 3 (some a10))), (a4, .inr (0, [.int (-1), .ref a5])), (a5, ai cA 64 (fun _ => 0)), (a6, .inr (0, [.int (-1), .ref a7])), (a7, ai cA 64 (fun _ => 0)), (a8, .inr (0, [.int (-1), .ref a9])), (a9, ai cA 64 (fun _ => 0)), (a10, .inr (0, [.int (-1), .ref a11])), (a11, ai cA 64 (fun _ => 0)), (a12, .inr (4, [.int 0, .int 0, .ref a13, .ref a14, .ref a15, .int 0])), (a13, ai cA 20 (fun _ => 0)), (a14, ai cA 60 (fun _ => 0)), (a15, ab cA 100 (fun _ => 0)), (a16, .inr (1, [.int 0, .ref a17])), (a17, ab cA 511 (fun _ => 0))]))) rfl ?_
  refine gi_aload_n (q := 1) k rfl rfl dX6_init_87 ?_
  refine gi_new (C := RX2) (T := TX2) (N := 4) (ci := 2) (fs := [.int 0, .null, .null, .null]) k inX2 tyX2 tyX2_ok kl_X6_46 ia_X2 iz_X2 rfl (fun j hj => by rcases (show j = 0 ∨ j = 1 ∨ j = 2 ∨ j = 3 by omega) with rfl | rfl | rfl | rfl <;> rfl) (by decide) (by decide) dX6_init_88 (fun a18 => ?_)
  refine gi_ws (ws' := [(q, .inr (6, [.ref (f1 1), .ref (f22 22), .int 0, .ref a3, .ref a12, .ref a16, .null, .null, .null, .null]))] ++ (wlist (D, List.range' 1 21, f1, cA, am) (sta1 4 (mI 1)) ++ (wlist (D, List.range' 22 21, f22, cA, am) (sta22 4 (mI 22)) ++ [(a3, ag (cA 3) 4 (va_up (va_up (va_up (va_up (fun _ => none) 0 (some a4)) 1 (some a6)) 2 (some a8)) 3 (some a10))), (a4, .inr (0, [.int (-1), .ref a5])), (a5, ai cA 64 (fun _ => 0)), (a6, .inr (0, [.int (-1), .ref a7])), (a7, ai cA 64 (fun _ => 0)), (a8, .inr (0, [.int (-1), .ref a9])), (a9, ai cA 64 (fun _ => 0)), (a10, .inr (0, [.int (-1), .ref a11])), (a11, ai cA 64 (fun _ => 0)), (a12, .inr (4, [.int 0, .int 0, .ref a13, .ref a14, .ref a15, .int 0])), (a13, ai cA 20 (fun _ => 0)), (a14, ai cA 60 (fun _ => 0)), (a15, ab cA 100 (fun _ => 0)), (a16, .inr (1, [.int 0, .ref a17])), (a17, ab cA 511 (fun _ => 0)), (a18, .inr (2, [.int 0, .null, .null, .null]))]))) (k1 := 58) (k2 := 1945) rfl rfl rfl ?_
  refine gi_dup k rfl dX6_init_91 ?_
  refine gi_initN (host := RX6) (pre := [(q, .inr (6, [.ref (f1 1), .ref (f22 22), .int 0, .ref a3, .ref a12, .ref a16, .null, .null, .null, .null]))] ++ (wlist (D, List.range' 1 21, f1, cA, am) (sta1 4 (mI 1)) ++ (wlist (D, List.range' 22 21, f22, cA, am) (sta22 4 (mI 22)) ++ [(a3, ag (cA 3) 4 (va_up (va_up (va_up (va_up (fun _ => none) 0 (some a4)) 1 (some a6)) 2 (some a8)) 3 (some a10))), (a4, .inr (0, [.int (-1), .ref a5])), (a5, ai cA 64 (fun _ => 0)), (a6, .inr (0, [.int (-1), .ref a7])), (a7, ai cA 64 (fun _ => 0)), (a8, .inr (0, [.int (-1), .ref a9])), (a9, ai cA 64 (fun _ => 0)), (a10, .inr (0, [.int (-1), .ref a11])), (a11, ai cA 64 (fun _ => 0)), (a12, .inr (4, [.int 0, .int 0, .ref a13, .ref a14, .ref a15, .int 0])), (a13, ai cA 20 (fun _ => 0)), (a14, ai cA 60 (fun _ => 0)), (a15, ab cA 100 (fun _ => 0)), (a16, .inr (1, [.int 0, .ref a17])), (a17, ab cA 511 (fun _ => 0))]))) k (c_X2_init (q := a18)) cf_X2_init im_X2_init (fun h => h.1.2.2.2.2) rfl (by decide) rfl (Nat.le_of_ble_eq_true rfl) (by decide) (by decide) dX6_init_92 (fun u hu => ?_)
  obtain ⟨a19, a20, a21, rfl⟩ := hu
  refine gi_ws (ws' := [(q, .inr (6, [.ref (f1 1), .ref (f22 22), .int 0, .ref a3, .ref a12, .ref a16, .null, .null, .null, .null]))] ++ (wlist (D, List.range' 1 21, f1, cA, am) (sta1 4 (mI 1)) ++ (wlist (D, List.range' 22 21, f22, cA, am) (sta22 4 (mI 22)) ++ [(a3, ag (cA 3) 4 (va_up (va_up (va_up (va_up (fun _ => none) 0 (some a4)) 1 (some a6)) 2 (some a8)) 3 (some a10))), (a4, .inr (0, [.int (-1), .ref a5])), (a5, ai cA 64 (fun _ => 0)), (a6, .inr (0, [.int (-1), .ref a7])), (a7, ai cA 64 (fun _ => 0)), (a8, .inr (0, [.int (-1), .ref a9])), (a9, ai cA 64 (fun _ => 0)), (a10, .inr (0, [.int (-1), .ref a11])), (a11, ai cA 64 (fun _ => 0)), (a12, .inr (4, [.int 0, .int 0, .ref a13, .ref a14, .ref a15, .int 0])), (a13, ai cA 20 (fun _ => 0)), (a14, ai cA 60 (fun _ => 0)), (a15, ab cA 100 (fun _ => 0)), (a16, .inr (1, [.int 0, .ref a17])), (a17, ab cA 511 (fun _ => 0)), (a18, .inr (2, [.int 0, .ref a19, .ref a20, .ref a21])), (a19, ai cA 6 (fun _ => 0)), (a20, ai cA 6 (fun _ => 0)), (a21, ai cA 6 (fun _ => 0))]))) (k1 := 61) (k2 := 1963) rfl rfl rfl ?_
  refine gi_putF (C := RX6) (T := TX6) (N := 10) (ci := 6) (q0 := 0) (j := 6) k hni rfl rfl rfl inX6 tyX6 tyX6_ok nmX6 (by decide) fl_X6_49 rfl rfl (tyX6_ok 6 (by decide)) rfl rfl (Nat.le_of_ble_eq_true rfl) dX6_init_95 (ws' := [(q, .inr (6, [.ref (f1 1), .ref (f22 22), .int 0, .ref a3, .ref a12, .ref a16, .ref a18, .null, .null, .null]))] ++ (wlist (D, List.range' 1 21, f1, cA, am) (sta1 4 (mI 1)) ++ (wlist (D, List.range' 22 21, f22, cA, am) (sta22 4 (mI 22)) ++ [(a3, ag (cA 3) 4 (va_up (va_up (va_up (va_up (fun _ => none) 0 (some a4)) 1 (some a6)) 2 (some a8)) 3 (some a10))), (a4, .inr (0, [.int (-1), .ref a5])), (a5, ai cA 64 (fun _ => 0)), (a6, .inr (0, [.int (-1), .ref a7])), (a7, ai cA 64 (fun _ => 0)), (a8, .inr (0, [.int (-1), .ref a9])), (a9, ai cA 64 (fun _ => 0)), (a10, .inr (0, [.int (-1), .ref a11])), (a11, ai cA 64 (fun _ => 0)), (a12, .inr (4, [.int 0, .int 0, .ref a13, .ref a14, .ref a15, .int 0])), (a13, ai cA 20 (fun _ => 0)), (a14, ai cA 60 (fun _ => 0)), (a15, ab cA 100 (fun _ => 0)), (a16, .inr (1, [.int 0, .ref a17])), (a17, ab cA 511 (fun _ => 0)), (a18, .inr (2, [.int 0, .ref a19, .ref a20, .ref a21])), (a19, ai cA 6 (fun _ => 0)), (a20, ai cA 6 (fun _ => 0)), (a21, ai cA 6 (fun _ => 0))]))) rfl ?_
  refine gi_aload_n (q := 1) k rfl rfl dX6_init_98 ?_
  refine gi_bipush (v := 64) k (by decide) dX6_init_99 ?_
  refine gi_newI (N := 64) k (by decide) (by decide) (by decide) (by decide) (by decide) dX6_init_101 (fun a22 => ?_)
  refine gi_ws (ws' := [(q, .inr (6, [.ref (f1 1), .ref (f22 22), .int 0, .ref a3, .ref a12, .ref a16, .ref a18, .null, .null, .null]))] ++ (wlist (D, List.range' 1 21, f1, cA, am) (sta1 4 (mI 1)) ++ (wlist (D, List.range' 22 21, f22, cA, am) (sta22 4 (mI 22)) ++ [(a3, ag (cA 3) 4 (va_up (va_up (va_up (va_up (fun _ => none) 0 (some a4)) 1 (some a6)) 2 (some a8)) 3 (some a10))), (a4, .inr (0, [.int (-1), .ref a5])), (a5, ai cA 64 (fun _ => 0)), (a6, .inr (0, [.int (-1), .ref a7])), (a7, ai cA 64 (fun _ => 0)), (a8, .inr (0, [.int (-1), .ref a9])), (a9, ai cA 64 (fun _ => 0)), (a10, .inr (0, [.int (-1), .ref a11])), (a11, ai cA 64 (fun _ => 0)), (a12, .inr (4, [.int 0, .int 0, .ref a13, .ref a14, .ref a15, .int 0])), (a13, ai cA 20 (fun _ => 0)), (a14, ai cA 60 (fun _ => 0)), (a15, ab cA 100 (fun _ => 0)), (a16, .inr (1, [.int 0, .ref a17])), (a17, ab cA 511 (fun _ => 0)), (a18, .inr (2, [.int 0, .ref a19, .ref a20, .ref a21])), (a19, ai cA 6 (fun _ => 0)), (a20, ai cA 6 (fun _ => 0)), (a21, ai cA 6 (fun _ => 0)), (a22, ai cA 64 (fun _ => 0))]))) (k1 := 62) (k2 := 2027) rfl rfl rfl ?_
  refine gi_putF (C := RX6) (T := TX6) (N := 10) (ci := 6) (q0 := 0) (j := 7) k hni rfl rfl rfl inX6 tyX6 tyX6_ok nmX6 (by decide) fl_X6_53 rfl rfl (tyX6_ok 7 (by decide)) rfl rfl (Nat.le_of_ble_eq_true rfl) dX6_init_103 (ws' := [(q, .inr (6, [.ref (f1 1), .ref (f22 22), .int 0, .ref a3, .ref a12, .ref a16, .ref a18, .ref a22, .null, .null]))] ++ (wlist (D, List.range' 1 21, f1, cA, am) (sta1 4 (mI 1)) ++ (wlist (D, List.range' 22 21, f22, cA, am) (sta22 4 (mI 22)) ++ [(a3, ag (cA 3) 4 (va_up (va_up (va_up (va_up (fun _ => none) 0 (some a4)) 1 (some a6)) 2 (some a8)) 3 (some a10))), (a4, .inr (0, [.int (-1), .ref a5])), (a5, ai cA 64 (fun _ => 0)), (a6, .inr (0, [.int (-1), .ref a7])), (a7, ai cA 64 (fun _ => 0)), (a8, .inr (0, [.int (-1), .ref a9])), (a9, ai cA 64 (fun _ => 0)), (a10, .inr (0, [.int (-1), .ref a11])), (a11, ai cA 64 (fun _ => 0)), (a12, .inr (4, [.int 0, .int 0, .ref a13, .ref a14, .ref a15, .int 0])), (a13, ai cA 20 (fun _ => 0)), (a14, ai cA 60 (fun _ => 0)), (a15, ab cA 100 (fun _ => 0)), (a16, .inr (1, [.int 0, .ref a17])), (a17, ab cA 511 (fun _ => 0)), (a18, .inr (2, [.int 0, .ref a19, .ref a20, .ref a21])), (a19, ai cA 6 (fun _ => 0)), (a20, ai cA 6 (fun _ => 0)), (a21, ai cA 6 (fun _ => 0)), (a22, ai cA 64 (fun _ => 0))]))) rfl ?_
  refine gi_aload_n (q := 1) k rfl rfl dX6_init_106 ?_
  refine gi_bipush (v := 64) k (by decide) dX6_init_107 ?_
  refine gi_newI (N := 64) k (by decide) (by decide) (by decide) (by decide) (by decide) dX6_init_109 (fun a23 => ?_)
  refine gi_ws (ws' := [(q, .inr (6, [.ref (f1 1), .ref (f22 22), .int 0, .ref a3, .ref a12, .ref a16, .ref a18, .ref a22, .null, .null]))] ++ (wlist (D, List.range' 1 21, f1, cA, am) (sta1 4 (mI 1)) ++ (wlist (D, List.range' 22 21, f22, cA, am) (sta22 4 (mI 22)) ++ [(a3, ag (cA 3) 4 (va_up (va_up (va_up (va_up (fun _ => none) 0 (some a4)) 1 (some a6)) 2 (some a8)) 3 (some a10))), (a4, .inr (0, [.int (-1), .ref a5])), (a5, ai cA 64 (fun _ => 0)), (a6, .inr (0, [.int (-1), .ref a7])), (a7, ai cA 64 (fun _ => 0)), (a8, .inr (0, [.int (-1), .ref a9])), (a9, ai cA 64 (fun _ => 0)), (a10, .inr (0, [.int (-1), .ref a11])), (a11, ai cA 64 (fun _ => 0)), (a12, .inr (4, [.int 0, .int 0, .ref a13, .ref a14, .ref a15, .int 0])), (a13, ai cA 20 (fun _ => 0)), (a14, ai cA 60 (fun _ => 0)), (a15, ab cA 100 (fun _ => 0)), (a16, .inr (1, [.int 0, .ref a17])), (a17, ab cA 511 (fun _ => 0)), (a18, .inr (2, [.int 0, .ref a19, .ref a20, .ref a21])), (a19, ai cA 6 (fun _ => 0)), (a20, ai cA 6 (fun _ => 0)), (a21, ai cA 6 (fun _ => 0)), (a22, ai cA 64 (fun _ => 0)), (a23, ai cA 64 (fun _ => 0))]))) (k1 := 63) (k2 := 2091) rfl rfl rfl ?_
  refine gi_putF (C := RX6) (T := TX6) (N := 10) (ci := 6) (q0 := 0) (j := 8) k hni rfl rfl rfl inX6 tyX6 tyX6_ok nmX6 (by decide) fl_X6_57 rfl rfl (tyX6_ok 8 (by decide)) rfl rfl (Nat.le_of_ble_eq_true rfl) dX6_init_111 (ws' := [(q, .inr (6, [.ref (f1 1), .ref (f22 22), .int 0, .ref a3, .ref a12, .ref a16, .ref a18, .ref a22, .ref a23, .null]))] ++ (wlist (D, List.range' 1 21, f1, cA, am) (sta1 4 (mI 1)) ++ (wlist (D, List.range' 22 21, f22, cA, am) (sta22 4 (mI 22)) ++ [(a3, ag (cA 3) 4 (va_up (va_up (va_up (va_up (fun _ => none) 0 (some a4)) 1 (some a6)) 2 (some a8)) 3 (some a10))), (a4, .inr (0, [.int (-1), .ref a5])), (a5, ai cA 64 (fun _ => 0)), (a6, .inr (0, [.int (-1), .ref a7])), (a7, ai cA 64 (fun _ => 0)), (a8, .inr (0, [.int (-1), .ref a9])), (a9, ai cA 64 (fun _ => 0)), (a10, .inr (0, [.int (-1), .ref a11])), (a11, ai cA 64 (fun _ => 0)), (a12, .inr (4, [.int 0, .int 0, .ref a13, .ref a14, .ref a15, .int 0])), (a13, ai cA 20 (fun _ => 0)), (a14, ai cA 60 (fun _ => 0)), (a15, ab cA 100 (fun _ => 0)), (a16, .inr (1, [.int 0, .ref a17])), (a17, ab cA 511 (fun _ => 0)), (a18, .inr (2, [.int 0, .ref a19, .ref a20, .ref a21])), (a19, ai cA 6 (fun _ => 0)), (a20, ai cA 6 (fun _ => 0)), (a21, ai cA 6 (fun _ => 0)), (a22, ai cA 64 (fun _ => 0)), (a23, ai cA 64 (fun _ => 0))]))) rfl ?_
  refine gi_aload_n (q := 1) k rfl rfl dX6_init_114 ?_
  refine gi_bipush (v := 6) k (by decide) dX6_init_115 ?_
  refine gi_newI (N := 6) k (by decide) (by decide) (by decide) (by decide) (by decide) dX6_init_117 (fun a24 => ?_)
  refine gi_ws (ws' := [(q, .inr (6, [.ref (f1 1), .ref (f22 22), .int 0, .ref a3, .ref a12, .ref a16, .ref a18, .ref a22, .ref a23, .null]))] ++ (wlist (D, List.range' 1 21, f1, cA, am) (sta1 4 (mI 1)) ++ (wlist (D, List.range' 22 21, f22, cA, am) (sta22 4 (mI 22)) ++ [(a3, ag (cA 3) 4 (va_up (va_up (va_up (va_up (fun _ => none) 0 (some a4)) 1 (some a6)) 2 (some a8)) 3 (some a10))), (a4, .inr (0, [.int (-1), .ref a5])), (a5, ai cA 64 (fun _ => 0)), (a6, .inr (0, [.int (-1), .ref a7])), (a7, ai cA 64 (fun _ => 0)), (a8, .inr (0, [.int (-1), .ref a9])), (a9, ai cA 64 (fun _ => 0)), (a10, .inr (0, [.int (-1), .ref a11])), (a11, ai cA 64 (fun _ => 0)), (a12, .inr (4, [.int 0, .int 0, .ref a13, .ref a14, .ref a15, .int 0])), (a13, ai cA 20 (fun _ => 0)), (a14, ai cA 60 (fun _ => 0)), (a15, ab cA 100 (fun _ => 0)), (a16, .inr (1, [.int 0, .ref a17])), (a17, ab cA 511 (fun _ => 0)), (a18, .inr (2, [.int 0, .ref a19, .ref a20, .ref a21])), (a19, ai cA 6 (fun _ => 0)), (a20, ai cA 6 (fun _ => 0)), (a21, ai cA 6 (fun _ => 0)), (a22, ai cA 64 (fun _ => 0)), (a23, ai cA 64 (fun _ => 0)), (a24, ai cA 6 (fun _ => 0))]))) (k1 := 64) (k2 := 2097) rfl rfl rfl ?_
  refine gi_putF (C := RX6) (T := TX6) (N := 10) (ci := 6) (q0 := 0) (j := 9) k hni rfl rfl rfl inX6 tyX6 tyX6_ok nmX6 (by decide) fl_X6_60 rfl rfl (tyX6_ok 9 (by decide)) rfl rfl (Nat.le_of_ble_eq_true rfl) dX6_init_119 (ws' := [(q, .inr (6, [.ref (f1 1), .ref (f22 22), .int 0, .ref a3, .ref a12, .ref a16, .ref a18, .ref a22, .ref a23, .ref a24]))] ++ (wlist (D, List.range' 1 21, f1, cA, am) (sta1 4 (mI 1)) ++ (wlist (D, List.range' 22 21, f22, cA, am) (sta22 4 (mI 22)) ++ [(a3, ag (cA 3) 4 (va_up (va_up (va_up (va_up (fun _ => none) 0 (some a4)) 1 (some a6)) 2 (some a8)) 3 (some a10))), (a4, .inr (0, [.int (-1), .ref a5])), (a5, ai cA 64 (fun _ => 0)), (a6, .inr (0, [.int (-1), .ref a7])), (a7, ai cA 64 (fun _ => 0)), (a8, .inr (0, [.int (-1), .ref a9])), (a9, ai cA 64 (fun _ => 0)), (a10, .inr (0, [.int (-1), .ref a11])), (a11, ai cA 64 (fun _ => 0)), (a12, .inr (4, [.int 0, .int 0, .ref a13, .ref a14, .ref a15, .int 0])), (a13, ai cA 20 (fun _ => 0)), (a14, ai cA 60 (fun _ => 0)), (a15, ab cA 100 (fun _ => 0)), (a16, .inr (1, [.int 0, .ref a17])), (a17, ab cA 511 (fun _ => 0)), (a18, .inr (2, [.int 0, .ref a19, .ref a20, .ref a21])), (a19, ai cA 6 (fun _ => 0)), (a20, ai cA 6 (fun _ => 0)), (a21, ai cA 6 (fun _ => 0)), (a22, ai cA 64 (fun _ => 0)), (a23, ai cA 64 (fun _ => 0)), (a24, ai cA 6 (fun _ => 0))]))) rfl ?_
  refine gi_wr (ws' := wlist (D, List.range' 0 65, adl 0 [q, (f1 1), (f1 2), (f1 3), (f1 4), (f1 5), (f1 6), (f1 7), (f1 8), (f1 9), (f1 10), (f1 11), (f1 12), (f1 13), (f1 14), (f1 15), (f1 16), (f1 17), (f1 18), (f1 19), (f1 20), (f1 21), (f22 22), (f22 23), (f22 24), (f22 25), (f22 26), (f22 27), (f22 28), (f22 29), (f22 30), (f22 31), (f22 32), (f22 33), (f22 34), (f22 35), (f22 36), (f22 37), (f22 38), (f22 39), (f22 40), (f22 41), (f22 42), a3, a4, a5, a6, a7, a8, a9, a10, a11, a12, a13, a14, a15, a16, a17, a18, a19, a20, a21, a22, a23, a24], cA, am) m6) ?_ ?_
  · refine Wr.cons (Or.inl rfl) ?_
    refine Wr.cons (Or.inl rfl) ?_
    refine Wr.cons (Or.inl rfl) ?_
    refine Wr.cons (Or.inl rfl) ?_
    refine Wr.cons (Or.inl rfl) ?_
    refine Wr.cons (Or.inl rfl) ?_
    refine Wr.cons (Or.inl rfl) ?_
    refine Wr.cons (Or.inl rfl) ?_
    refine Wr.cons (eqe_q (fun i hi => by rcases (show i = 0 ∨ i = 1 ∨ i = 2 ∨ i = 3 ∨ i = 4 ∨ i = 5 by omega) with rfl | rfl | rfl | rfl | rfl | rfl <;> rfl)) ?_
    refine Wr.cons (Or.inl rfl) ?_
    refine Wr.cons (Or.inl rfl) ?_
    refine Wr.cons (Or.inl rfl) ?_
    refine Wr.cons (Or.inl rfl) ?_
    refine Wr.cons (Or.inl rfl) ?_
    refine Wr.cons (Or.inl rfl) ?_
    refine Wr.cons (Or.inl rfl) ?_
    refine Wr.cons (Or.inl rfl) ?_
    refine Wr.cons (Or.inl rfl) ?_
    refine Wr.cons (Or.inl rfl) ?_
    refine Wr.cons (Or.inl rfl) ?_
    refine Wr.cons (Or.inl rfl) ?_
    refine Wr.cons (Or.inl rfl) ?_
    refine Wr.cons (Or.inl rfl) ?_
    refine Wr.cons (Or.inl rfl) ?_
    refine Wr.cons (Or.inl rfl) ?_
    refine Wr.cons (Or.inl rfl) ?_
    refine Wr.cons (Or.inl rfl) ?_
    refine Wr.cons (Or.inl rfl) ?_
    refine Wr.cons (Or.inl rfl) ?_
    refine Wr.cons (eqe_q (fun i hi => by rcases (show i = 0 ∨ i = 1 ∨ i = 2 ∨ i = 3 ∨ i = 4 ∨ i = 5 by omega) with rfl | rfl | rfl | rfl | rfl | rfl <;> rfl)) ?_
    refine Wr.cons (Or.inl rfl) ?_
    refine Wr.cons (Or.inl rfl) ?_
    refine Wr.cons (Or.inl rfl) ?_
    refine Wr.cons (Or.inl rfl) ?_
    refine Wr.cons (Or.inl rfl) ?_
    refine Wr.cons (Or.inl rfl) ?_
    refine Wr.cons (Or.inl rfl) ?_
    refine Wr.cons (Or.inl rfl) ?_
    refine Wr.cons (Or.inl rfl) ?_
    refine Wr.cons (Or.inl rfl) ?_
    refine Wr.cons (Or.inl rfl) ?_
    refine Wr.cons (Or.inl rfl) ?_
    refine Wr.cons (Or.inl rfl) ?_
    refine Wr.cons (eqe_q (fun i hi => by rcases (show i = 0 ∨ i = 1 ∨ i = 2 ∨ i = 3 by omega) with rfl | rfl | rfl | rfl <;> rfl)) ?_
    refine Wr.cons (Or.inl rfl) ?_
    refine Wr.cons (Or.inl rfl) ?_
    refine Wr.cons (Or.inl rfl) ?_
    refine Wr.cons (Or.inl rfl) ?_
    refine Wr.cons (Or.inl rfl) ?_
    refine Wr.cons (Or.inl rfl) ?_
    refine Wr.cons (Or.inl rfl) ?_
    refine Wr.cons (Or.inl rfl) ?_
    refine Wr.cons (Or.inl rfl) ?_
    refine Wr.cons (Or.inl rfl) ?_
    refine Wr.cons (Or.inl rfl) ?_
    refine Wr.cons (Or.inl rfl) ?_
    refine Wr.cons (Or.inl rfl) ?_
    refine Wr.cons (Or.inl rfl) ?_
    refine Wr.cons (Or.inl rfl) ?_
    refine Wr.cons (Or.inl rfl) ?_
    refine Wr.cons (Or.inl rfl) ?_
    refine Wr.cons (Or.inl rfl) ?_
    refine Wr.cons (Or.inl rfl) ?_
    refine Wr.cons (Or.inl rfl) ?_
    refine Wr.cons (Or.inl rfl) ?_
    exact Wr.nil
  exact gi_ret (st := []) k t (by decide) (by decide) dX6_init_122 ⟨adl 0 [q, (f1 1), (f1 2), (f1 3), (f1 4), (f1 5), (f1 6), (f1 7), (f1 8), (f1 9), (f1 10), (f1 11), (f1 12), (f1 13), (f1 14), (f1 15), (f1 16), (f1 17), (f1 18), (f1 19), (f1 20), (f1 21), (f22 22), (f22 23), (f22 24), (f22 25), (f22 26), (f22 27), (f22 28), (f22 29), (f22 30), (f22 31), (f22 32), (f22 33), (f22 34), (f22 35), (f22 36), (f22 37), (f22 38), (f22 39), (f22 40), (f22 41), (f22 42), a3, a4, a5, a6, a7, a8, a9, a10, a11, a12, a13, a14, a15, a16, a17, a18, a19, a20, a21, a22, a23, a24], rfl, rfl⟩
