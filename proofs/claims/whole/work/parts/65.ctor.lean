/-! ===== the constructors ===== -/
theorem dfX0 : ∀ j, j < 3 → defaultValue (tyX0 j) = vp_V [.null, .int (Int32.ofInt 0), .int (Int32.ofInt 0)] j := by
  intro j hj
  rcases (show j = 0 ∨ j = 1 ∨ j = 2 by omega) with rfl | rfl | rfl <;> rfl
theorem dfX1 : ∀ j, j < 2 → defaultValue (tyX1 j) = vp_V [.null, .int (Int32.ofInt 0)] j := by
  intro j hj
  rcases (show j = 0 ∨ j = 1 by omega) with rfl | rfl <;> rfl
theorem dfX2 : ∀ j, j < 5 → defaultValue (tyX2 j) = vp_V [.null, .null, .null, .null, .null] j := by
  intro j hj
  rcases (show j = 0 ∨ j = 1 ∨ j = 2 ∨ j = 3 ∨ j = 4 by omega) with rfl | rfl | rfl | rfl | rfl <;> rfl
theorem dfX3 : ∀ j, j < 3 → defaultValue (tyX3 j) = vp_V [.null, .null, .null] j := by
  intro j hj
  rcases (show j = 0 ∨ j = 1 ∨ j = 2 by omega) with rfl | rfl | rfl <;> rfl
theorem dfX4 : ∀ j, j < 11 → defaultValue (tyX4 j) = vp_V [.int (Int32.ofInt 0), .int (Int32.ofInt 0), .int (Int32.ofInt 0), .int (Int32.ofInt 0), .int (Int32.ofInt 0), .int (Int32.ofInt 0), .int (Int32.ofInt 0), .null, .null, .null, .null] j := by
  intro j hj
  rcases (show j = 0 ∨ j = 1 ∨ j = 2 ∨ j = 3 ∨ j = 4 ∨ j = 5 ∨ j = 6 ∨ j = 7 ∨ j = 8 ∨ j = 9 ∨ j = 10 by omega) with rfl | rfl | rfl | rfl | rfl | rfl | rfl | rfl | rfl | rfl | rfl <;> rfl
theorem dfX5 : ∀ j, j < 2 → defaultValue (tyX5 j) = vp_V [.null, .null] j := by
  intro j hj
  rcases (show j = 0 ∨ j = 1 by omega) with rfl | rfl <;> rfl
theorem dfX6 : ∀ j, j < 4 → defaultValue (tyX6 j) = vp_V [.null, .int (Int32.ofInt 0), .int (Int32.ofInt 0), .int (Int32.ofInt 0)] j := by
  intro j hj
  rcases (show j = 0 ∨ j = 1 ∨ j = 2 ∨ j = 3 by omega) with rfl | rfl | rfl | rfl <;> rfl
theorem dfX7 : ∀ j, j < 10 → defaultValue (tyX7 j) = vp_V [.null, .null, .null, .null, .null, .null, .null, .null, .int (Int32.ofInt 0), .int (Int32.ofInt 0)] j := by
  intro j hj
  rcases (show j = 0 ∨ j = 1 ∨ j = 2 ∨ j = 3 ∨ j = 4 ∨ j = 5 ∨ j = 6 ∨ j = 7 ∨ j = 8 ∨ j = 9 by omega) with rfl | rfl | rfl | rfl | rfl | rfl | rfl | rfl | rfl | rfl <;> rfl
theorem dfX8 : ∀ j, j < 25 → defaultValue (tyX8 j) = vp_V [.int (Int32.ofInt 0), .int (Int32.ofInt 0), .null, .null, .null, .null, .null, .null, .null, .int (Int32.ofInt 0), .null, .int (Int32.ofInt 0), .int (Int32.ofInt 0), .int (Int32.ofInt 0), .int (Int32.ofInt 0), .int (Int32.ofInt 0), .int (Int32.ofInt 0), .int (Int32.ofInt 0), .int (Int32.ofInt 0), .null, .null, .null, .null, .null, .int (Int32.ofInt 0)] j := by
  intro j hj
  rcases (show j = 0 ∨ j = 1 ∨ j = 2 ∨ j = 3 ∨ j = 4 ∨ j = 5 ∨ j = 6 ∨ j = 7 ∨ j = 8 ∨ j = 9 ∨ j = 10 ∨ j = 11 ∨ j = 12 ∨ j = 13 ∨ j = 14 ∨ j = 15 ∨ j = 16 ∨ j = 17 ∨ j = 18 ∨ j = 19 ∨ j = 20 ∨ j = 21 ∨ j = 22 ∨ j = 23 ∨ j = 24 by omega) with rfl | rfl | rfl | rfl | rfl | rfl | rfl | rfl | rfl | rfl | rfl | rfl | rfl | rfl | rfl | rfl | rfl | rfl | rfl | rfl | rfl | rfl | rfl | rfl | rfl <;> rfl
theorem bvX0 : bV mX0_init := ⟨(tb_at 201 (by decide +kernel) (by decide +kernel)), (tb_at 54 (by decide +kernel) (by decide +kernel)), (tb_at 202 (by decide +kernel) (by decide +kernel)), rfl, rfl, rfl, by decide, by decide, by decide, by decide +kernel⟩
theorem bvX1 : bV mX1_init := ⟨(tb_at 246 (by decide +kernel) (by decide +kernel)), (tb_at 56 (by decide +kernel) (by decide +kernel)), (tb_at 247 (by decide +kernel) (by decide +kernel)), rfl, rfl, rfl, by decide, by decide, by decide, by decide +kernel⟩
theorem bvX2 : bV mX2_init := ⟨(tb_at 218 (by decide +kernel) (by decide +kernel)), (tb_at 55 (by decide +kernel) (by decide +kernel)), (tb_at 219 (by decide +kernel) (by decide +kernel)), rfl, rfl, rfl, by decide, by decide, by decide, by decide +kernel⟩
theorem bvX3 : bV mX3_init := ⟨(tb_at 72 (by decide +kernel) (by decide +kernel)), (tb_at 50 (by decide +kernel) (by decide +kernel)), (tb_at 73 (by decide +kernel) (by decide +kernel)), rfl, rfl, rfl, by decide, by decide, by decide, by decide +kernel⟩
theorem bvX4 : bV mX4_init := ⟨(tb_at 114 (by decide +kernel) (by decide +kernel)), (tb_at 52 (by decide +kernel) (by decide +kernel)), (tb_at 115 (by decide +kernel) (by decide +kernel)), rfl, rfl, rfl, by decide, by decide, by decide, by decide +kernel⟩
theorem bvX5 : bV mX5_init := ⟨(tb_at 120 (by decide +kernel) (by decide +kernel)), (tb_at 53 (by decide +kernel) (by decide +kernel)), (tb_at 121 (by decide +kernel) (by decide +kernel)), rfl, rfl, rfl, by decide, by decide, by decide, by decide +kernel⟩
theorem bvX6 : bV mX6_init := ⟨(tb_at 92 (by decide +kernel) (by decide +kernel)), (tb_at 51 (by decide +kernel) (by decide +kernel)), (tb_at 93 (by decide +kernel) (by decide +kernel)), rfl, rfl, rfl, by decide, by decide, by decide, by decide +kernel⟩
theorem bvX7 : bV mX7_init := ⟨(tb_at 64 (by decide +kernel) (by decide +kernel)), (tb_at 49 (by decide +kernel) (by decide +kernel)), (tb_at 65 (by decide +kernel) (by decide +kernel)), rfl, rfl, rfl, by decide, by decide, by decide, by decide +kernel⟩
theorem bvX8 : bV mX8_init := ⟨(tb_at 822 (by decide +kernel) (by decide +kernel)), (tb_at 57 (by decide +kernel) (by decide +kernel)), (tb_at 823 (by decide +kernel) (by decide +kernel)), rfl, rfl, rfl, by decide, by decide, by decide, by decide +kernel⟩
def lnF : Int → Int := fun x => if x = 7 then -1 else if x = 6 then -1 else if x = 5 then -1 else if x = 4 then -1 else if x = 3 then -1 else if x = 2 then -1 else if x = 1 then -1 else if x = 0 then -1 else 0
theorem up8 {v0 v1 v2 v3 v4 v5 v6 v7 : Nat} : (va_up (va_up (va_up (va_up (va_up (va_up (va_up (va_up (fun _ => none) ((0 : Int).toNat) (some v0)) ((1 : Int).toNat) (some v1)) ((2 : Int).toNat) (some v2)) ((3 : Int).toNat) (some v3)) ((4 : Int).toNat) (some v4)) ((5 : Int).toNat) (some v5)) ((6 : Int).toNat) (some v6)) ((7 : Int).toNat) (some v7)) = (fun j => [v0, v1, v2, v3, v4, v5, v6, v7][j]? : Nat → Option Nat) := by
  funext j
  match j with
  | 0 => rfl
  | 1 => rfl
  | 2 => rfl
  | 3 => rfl
  | 4 => rfl
  | 5 => rfl
  | 6 => rfl
  | 7 => rfl
  | n + 8 =>
    unfold va_up
    rw [if_neg (show ¬ n + 8 = (7 : Int).toNat by simp), if_neg (show ¬ n + 8 = (6 : Int).toNat by simp), if_neg (show ¬ n + 8 = (5 : Int).toNat by simp), if_neg (show ¬ n + 8 = (4 : Int).toNat by simp), if_neg (show ¬ n + 8 = (3 : Int).toNat by simp), if_neg (show ¬ n + 8 = (2 : Int).toNat by simp), if_neg (show ¬ n + 8 = (1 : Int).toNat by simp), if_neg (show ¬ n + 8 = (0 : Int).toNat by simp)]
    rfl
theorem up2 {v0 v1 : Nat} : va_up (va_up (fun _ => none) ((0 : Int).toNat) (some v0)) ((1 : Int).toNat) (some v1) = (fun j => [v0, v1][j]? : Nat → Option Nat) := by
  funext j
  match j with
  | 0 => rfl
  | 1 => rfl
  | n + 2 =>
    unfold va_up
    rw [if_neg (show ¬ n + 2 = (1 : Int).toNat by simp), if_neg (show ¬ n + 2 = (0 : Int).toNat by simp)]
    rfl
section CT
variable {l : Launch} {D : va_G} {cI : ClassId} {d : Nat} {w0 : va_W} {h : Nat}
def wX5 (cI : ClassId) (h : Nat) : va_W → bT → Prop := fun w t => ∃ (q : Nat → Nat), w = [(h, .inr (5, [.ref (q 0), .ref (q 1)])), (q 0, iA cI 3 z0), (q 1, iA cI 3 z0)] ∧ t = []
set_option maxRecDepth 20000 in
set_option maxHeartbeats 4000000 in
theorem n_X5 : bE l D cI mX5_init (d + 1) 2 6 0 h [] w0 [(h, .inr (5, [.null, .null]))] [] (wX5 cI h) := by
  refine b_this (pc := 0) dX5_init_0 ?_
  refine b_obj (pc := 1) dX5_init_1 (tb_at 122 (by decide +kernel) (by decide +kernel)) (Nat.le_of_ble_eq_true rfl) (by omega) ?_
  refine b_this (pc := 4) dX5_init_4 ?_
  refine b_iconst (pc := 5) dX5_init_5 ?_
  refine b_newa (pc := 6) (rc := 1) (rs := 3) (N := 3) rfl dX5_init_6 (by decide) (fun o6 => ?_)
  refine b_putF (pc := 8) 0 dX5_init_8 qC5 (i := 0) (by decide) (tb_at 123 (by decide +kernel) (by decide +kernel)) rfl rfl rfl (tyX5_ok 0 (by decide)) rfl rfl (Nat.le_of_ble_eq_true rfl) ?_
  refine b_this (pc := 11) dX5_init_11 ?_
  refine b_iconst (pc := 12) dX5_init_12 ?_
  refine b_newa (pc := 13) (rc := 0) (rs := 0) (N := 3) rfl dX5_init_13 (by decide) (fun o13 => ?_)
  refine b_putF (pc := 15) 0 dX5_init_15 qC5 (i := 1) (by decide) (tb_at 128 (by decide +kernel) (by decide +kernel)) rfl rfl rfl (tyX5_ok 1 (by decide)) rfl rfl (Nat.le_of_ble_eq_true rfl) ?_
  exact b_ret (pc := 18) dX5_init_18 rfl ⟨(fun i => [o6, o13].getD i 0), rfl, rfl⟩
def wX0 (cI : ClassId) (h : Nat) : va_W → bT → Prop := fun w t => ∃ (q : Nat → Nat), w = [(h, .inr (0, [.ref (q 0), .int (Int32.ofInt 0), .int (Int32.ofInt 0)])), (q 0, iA cI 360 z0)] ∧ t = []
set_option maxRecDepth 20000 in
set_option maxHeartbeats 4000000 in
theorem n_X0 : bE l D cI mX0_init (d + 1) 1 360 0 h [] w0 [(h, .inr (0, [.null, .int (Int32.ofInt 0), .int (Int32.ofInt 0)]))] [] (wX0 cI h) := by
  refine b_this (pc := 0) dX0_init_0 ?_
  refine b_obj (pc := 1) dX0_init_1 (tb_at 203 (by decide +kernel) (by decide +kernel)) (Nat.le_of_ble_eq_true rfl) (by omega) ?_
  refine b_this (pc := 4) dX0_init_4 ?_
  refine b_sipush (pc := 5) dX0_init_5 (by decide +kernel) ?_
  refine b_newa (pc := 8) (rc := 0) (rs := 0) (N := 360) rfl dX0_init_8 (by decide) (fun o8 => ?_)
  refine b_putF (pc := 10) 0 dX0_init_10 qC0 (i := 0) (by decide) (tb_at 204 (by decide +kernel) (by decide +kernel)) rfl rfl rfl (tyX0_ok 0 (by decide)) rfl rfl (Nat.le_of_ble_eq_true rfl) ?_
  exact b_ret (pc := 13) dX0_init_13 rfl ⟨(fun i => [o8].getD i 0), rfl, rfl⟩
def wX1 (cI : ClassId) (h : Nat) : va_W → bT → Prop := fun w t => ∃ (q : Nat → Nat), w = [(h, .inr (1, [.ref (q 0), .int (Int32.ofInt 0)])), (q 0, iA cI 16 z0)] ∧ t = []
set_option maxRecDepth 20000 in
set_option maxHeartbeats 4000000 in
theorem n_X1 : bE l D cI mX1_init (d + 1) 1 16 0 h [] w0 [(h, .inr (1, [.null, .int (Int32.ofInt 0)]))] [] (wX1 cI h) := by
  refine b_this (pc := 0) dX1_init_0 ?_
  refine b_obj (pc := 1) dX1_init_1 (tb_at 248 (by decide +kernel) (by decide +kernel)) (Nat.le_of_ble_eq_true rfl) (by omega) ?_
  refine b_this (pc := 4) dX1_init_4 ?_
  refine b_bipush (pc := 5) dX1_init_5 (by decide +kernel) ?_
  refine b_newa (pc := 7) (rc := 0) (rs := 0) (N := 16) rfl dX1_init_7 (by decide) (fun o7 => ?_)
  refine b_putF (pc := 9) 0 dX1_init_9 qC1 (i := 0) (by decide) (tb_at 249 (by decide +kernel) (by decide +kernel)) rfl rfl rfl (tyX1_ok 0 (by decide)) rfl rfl (Nat.le_of_ble_eq_true rfl) ?_
  exact b_ret (pc := 12) dX1_init_12 rfl ⟨(fun i => [o7].getD i 0), rfl, rfl⟩
def wX6 (cI : ClassId) (h : Nat) : va_W → bT → Prop := fun w t => ∃ (q : Nat → Nat), w = [(h, .inr (6, [.ref (q 0), .int (Int32.ofInt 0), .int (Int32.ofInt 0), .int (Int32.ofInt 0)])), (q 0, iA cI 120 z0)] ∧ t = []
set_option maxRecDepth 20000 in
set_option maxHeartbeats 4000000 in
theorem n_X6 : bE l D cI mX6_init (d + 1) 1 120 0 h [] w0 [(h, .inr (6, [.null, .int (Int32.ofInt 0), .int (Int32.ofInt 0), .int (Int32.ofInt 0)]))] [] (wX6 cI h) := by
  refine b_this (pc := 0) dX6_init_0 ?_
  refine b_obj (pc := 1) dX6_init_1 (tb_at 94 (by decide +kernel) (by decide +kernel)) (Nat.le_of_ble_eq_true rfl) (by omega) ?_
  refine b_this (pc := 4) dX6_init_4 ?_
  refine b_bipush (pc := 5) dX6_init_5 (by decide +kernel) ?_
  refine b_newa (pc := 7) (rc := 0) (rs := 0) (N := 120) rfl dX6_init_7 (by decide) (fun o7 => ?_)
  refine b_putF (pc := 9) 0 dX6_init_9 qC6 (i := 0) (by decide) (tb_at 95 (by decide +kernel) (by decide +kernel)) rfl rfl rfl (tyX6_ok 0 (by decide)) rfl rfl (Nat.le_of_ble_eq_true rfl) ?_
  exact b_ret (pc := 12) dX6_init_12 rfl ⟨(fun i => [o7].getD i 0), rfl, rfl⟩
def wX3 (cI : ClassId) (h : Nat) : va_W → bT → Prop := fun w t => ∃ (q : Nat → Nat) (c5 : ClassId), w = [(h, .inr (3, [.ref (q 0), .ref (q 1), .ref (q 2)])), (q 0, rA c5 8 (fun j => [q 3, q 4, q 5, q 6, q 7, q 8, q 9, q 10][j]?)), (q 3, iA cI 40 z0), (q 4, iA cI 40 z0), (q 5, iA cI 40 z0), (q 6, iA cI 40 z0), (q 7, iA cI 40 z0), (q 8, iA cI 40 z0), (q 9, iA cI 40 z0), (q 10, iA cI 40 z0), (q 1, iA cI 8 lnF), (q 2, iA cI 8 z0)] ∧ t = [(c5, .array .int)]
set_option maxRecDepth 20000 in
set_option maxHeartbeats 4000000 in
theorem n_X3 : bE l D cI mX3_init (d + 1) 11 344 0 h [] w0 [(h, .inr (3, [.null, .null, .null]))] [] (wX3 cI h) := by
  refine b_this (pc := 0) dX3_init_0 ?_
  refine b_obj (pc := 1) dX3_init_1 (tb_at 74 (by decide +kernel) (by decide +kernel)) (Nat.le_of_ble_eq_true rfl) (by omega) ?_
  refine b_this (pc := 4) dX3_init_4 ?_
  refine b_bipush (pc := 5) dX3_init_5 (by decide +kernel) ?_
  refine b_bipush (pc := 7) dX3_init_7 (by decide +kernel) ?_
  refine b_grid (pc := 9) (rc := 2) (rs := 16) dX3_init_9 (tb_at 75 (by decide +kernel) (by decide +kernel)) (fun o9 c5 => ?_)
  refine b_eqw [(h, .inr (3, [.null, .null, .null])), (o9, rA c5 8 (fun j => [o9 + 1, o9 + 2, o9 + 3, o9 + 4, o9 + 5, o9 + 6, o9 + 7, o9 + 8][j]?)), (o9 + 1, iA cI 40 z0), (o9 + 2, iA cI 40 z0), (o9 + 3, iA cI 40 z0), (o9 + 4, iA cI 40 z0), (o9 + 5, iA cI 40 z0), (o9 + 6, iA cI 40 z0), (o9 + 7, iA cI 40 z0), (o9 + 8, iA cI 40 z0)] rfl ?_
  refine b_putF (pc := 13) 0 dX3_init_13 qC3 (i := 0) (by decide) (tb_at 77 (by decide +kernel) (by decide +kernel)) rfl rfl rfl (tyX3_ok 0 (by decide)) rfl rfl (Nat.le_of_ble_eq_true rfl) ?_
  refine b_eqw [(h, .inr (3, [.ref (o9), .null, .null])), (o9, rA c5 8 (fun j => [o9 + 1, o9 + 2, o9 + 3, o9 + 4, o9 + 5, o9 + 6, o9 + 7, o9 + 8][j]?)), (o9 + 1, iA cI 40 z0), (o9 + 2, iA cI 40 z0), (o9 + 3, iA cI 40 z0), (o9 + 4, iA cI 40 z0), (o9 + 5, iA cI 40 z0), (o9 + 6, iA cI 40 z0), (o9 + 7, iA cI 40 z0), (o9 + 8, iA cI 40 z0)] rfl ?_
  refine b_this (pc := 16) dX3_init_16 ?_
  refine b_bipush (pc := 17) dX3_init_17 (by decide +kernel) ?_
  refine b_newa (pc := 19) (rc := 1) (rs := 8) (N := 8) rfl dX3_init_19 (by decide) (fun o19 => ?_)
  refine b_dup (pc := 21) dX3_init_21 ?_
  refine b_iconst (pc := 22) dX3_init_22 ?_
  refine b_iconst (pc := 23) dX3_init_23 ?_
  refine b_iast (pc := 24) (N := 8) 10 dX3_init_24 rfl (by decide) (by decide) ?_
  refine b_eqw [(h, .inr (3, [.ref (o9), .null, .null])), (o9, rA c5 8 (fun j => [o9 + 1, o9 + 2, o9 + 3, o9 + 4, o9 + 5, o9 + 6, o9 + 7, o9 + 8][j]?)), (o9 + 1, iA cI 40 z0), (o9 + 2, iA cI 40 z0), (o9 + 3, iA cI 40 z0), (o9 + 4, iA cI 40 z0), (o9 + 5, iA cI 40 z0), (o9 + 6, iA cI 40 z0), (o9 + 7, iA cI 40 z0), (o9 + 8, iA cI 40 z0), (o19, iA cI 8 (fun x => if x = 0 then -1 else z0 x))] rfl ?_
  refine b_dup (pc := 25) dX3_init_25 ?_
  refine b_iconst (pc := 26) dX3_init_26 ?_
  refine b_iconst (pc := 27) dX3_init_27 ?_
  refine b_iast (pc := 28) (N := 8) 10 dX3_init_28 rfl (by decide) (by decide) ?_
  refine b_eqw [(h, .inr (3, [.ref (o9), .null, .null])), (o9, rA c5 8 (fun j => [o9 + 1, o9 + 2, o9 + 3, o9 + 4, o9 + 5, o9 + 6, o9 + 7, o9 + 8][j]?)), (o9 + 1, iA cI 40 z0), (o9 + 2, iA cI 40 z0), (o9 + 3, iA cI 40 z0), (o9 + 4, iA cI 40 z0), (o9 + 5, iA cI 40 z0), (o9 + 6, iA cI 40 z0), (o9 + 7, iA cI 40 z0), (o9 + 8, iA cI 40 z0), (o19, iA cI 8 (fun x => if x = 1 then -1 else (fun x => if x = 0 then -1 else z0 x) x))] rfl ?_
  refine b_dup (pc := 29) dX3_init_29 ?_
  refine b_iconst (pc := 30) dX3_init_30 ?_
  refine b_iconst (pc := 31) dX3_init_31 ?_
  refine b_iast (pc := 32) (N := 8) 10 dX3_init_32 rfl (by decide) (by decide) ?_
  refine b_eqw [(h, .inr (3, [.ref (o9), .null, .null])), (o9, rA c5 8 (fun j => [o9 + 1, o9 + 2, o9 + 3, o9 + 4, o9 + 5, o9 + 6, o9 + 7, o9 + 8][j]?)), (o9 + 1, iA cI 40 z0), (o9 + 2, iA cI 40 z0), (o9 + 3, iA cI 40 z0), (o9 + 4, iA cI 40 z0), (o9 + 5, iA cI 40 z0), (o9 + 6, iA cI 40 z0), (o9 + 7, iA cI 40 z0), (o9 + 8, iA cI 40 z0), (o19, iA cI 8 (fun x => if x = 2 then -1 else (fun x => if x = 1 then -1 else (fun x => if x = 0 then -1 else z0 x) x) x))] rfl ?_
  refine b_dup (pc := 33) dX3_init_33 ?_
  refine b_iconst (pc := 34) dX3_init_34 ?_
  refine b_iconst (pc := 35) dX3_init_35 ?_
  refine b_iast (pc := 36) (N := 8) 10 dX3_init_36 rfl (by decide) (by decide) ?_
  refine b_eqw [(h, .inr (3, [.ref (o9), .null, .null])), (o9, rA c5 8 (fun j => [o9 + 1, o9 + 2, o9 + 3, o9 + 4, o9 + 5, o9 + 6, o9 + 7, o9 + 8][j]?)), (o9 + 1, iA cI 40 z0), (o9 + 2, iA cI 40 z0), (o9 + 3, iA cI 40 z0), (o9 + 4, iA cI 40 z0), (o9 + 5, iA cI 40 z0), (o9 + 6, iA cI 40 z0), (o9 + 7, iA cI 40 z0), (o9 + 8, iA cI 40 z0), (o19, iA cI 8 (fun x => if x = 3 then -1 else (fun x => if x = 2 then -1 else (fun x => if x = 1 then -1 else (fun x => if x = 0 then -1 else z0 x) x) x) x))] rfl ?_
  refine b_dup (pc := 37) dX3_init_37 ?_
  refine b_iconst (pc := 38) dX3_init_38 ?_
  refine b_iconst (pc := 39) dX3_init_39 ?_
  refine b_iast (pc := 40) (N := 8) 10 dX3_init_40 rfl (by decide) (by decide) ?_
  refine b_eqw [(h, .inr (3, [.ref (o9), .null, .null])), (o9, rA c5 8 (fun j => [o9 + 1, o9 + 2, o9 + 3, o9 + 4, o9 + 5, o9 + 6, o9 + 7, o9 + 8][j]?)), (o9 + 1, iA cI 40 z0), (o9 + 2, iA cI 40 z0), (o9 + 3, iA cI 40 z0), (o9 + 4, iA cI 40 z0), (o9 + 5, iA cI 40 z0), (o9 + 6, iA cI 40 z0), (o9 + 7, iA cI 40 z0), (o9 + 8, iA cI 40 z0), (o19, iA cI 8 (fun x => if x = 4 then -1 else (fun x => if x = 3 then -1 else (fun x => if x = 2 then -1 else (fun x => if x = 1 then -1 else (fun x => if x = 0 then -1 else z0 x) x) x) x) x))] rfl ?_
  refine b_dup (pc := 41) dX3_init_41 ?_
  refine b_iconst (pc := 42) dX3_init_42 ?_
  refine b_iconst (pc := 43) dX3_init_43 ?_
  refine b_iast (pc := 44) (N := 8) 10 dX3_init_44 rfl (by decide) (by decide) ?_
  refine b_eqw [(h, .inr (3, [.ref (o9), .null, .null])), (o9, rA c5 8 (fun j => [o9 + 1, o9 + 2, o9 + 3, o9 + 4, o9 + 5, o9 + 6, o9 + 7, o9 + 8][j]?)), (o9 + 1, iA cI 40 z0), (o9 + 2, iA cI 40 z0), (o9 + 3, iA cI 40 z0), (o9 + 4, iA cI 40 z0), (o9 + 5, iA cI 40 z0), (o9 + 6, iA cI 40 z0), (o9 + 7, iA cI 40 z0), (o9 + 8, iA cI 40 z0), (o19, iA cI 8 (fun x => if x = 5 then -1 else (fun x => if x = 4 then -1 else (fun x => if x = 3 then -1 else (fun x => if x = 2 then -1 else (fun x => if x = 1 then -1 else (fun x => if x = 0 then -1 else z0 x) x) x) x) x) x))] rfl ?_
  refine b_dup (pc := 45) dX3_init_45 ?_
  refine b_bipush (pc := 46) dX3_init_46 (by decide +kernel) ?_
  refine b_iconst (pc := 48) dX3_init_48 ?_
  refine b_iast (pc := 49) (N := 8) 10 dX3_init_49 rfl (by decide) (by decide) ?_
  refine b_eqw [(h, .inr (3, [.ref (o9), .null, .null])), (o9, rA c5 8 (fun j => [o9 + 1, o9 + 2, o9 + 3, o9 + 4, o9 + 5, o9 + 6, o9 + 7, o9 + 8][j]?)), (o9 + 1, iA cI 40 z0), (o9 + 2, iA cI 40 z0), (o9 + 3, iA cI 40 z0), (o9 + 4, iA cI 40 z0), (o9 + 5, iA cI 40 z0), (o9 + 6, iA cI 40 z0), (o9 + 7, iA cI 40 z0), (o9 + 8, iA cI 40 z0), (o19, iA cI 8 (fun x => if x = 6 then -1 else (fun x => if x = 5 then -1 else (fun x => if x = 4 then -1 else (fun x => if x = 3 then -1 else (fun x => if x = 2 then -1 else (fun x => if x = 1 then -1 else (fun x => if x = 0 then -1 else z0 x) x) x) x) x) x) x))] rfl ?_
  refine b_dup (pc := 50) dX3_init_50 ?_
  refine b_bipush (pc := 51) dX3_init_51 (by decide +kernel) ?_
  refine b_iconst (pc := 53) dX3_init_53 ?_
  refine b_iast (pc := 54) (N := 8) 10 dX3_init_54 rfl (by decide) (by decide) ?_
  refine b_eqw [(h, .inr (3, [.ref (o9), .null, .null])), (o9, rA c5 8 (fun j => [o9 + 1, o9 + 2, o9 + 3, o9 + 4, o9 + 5, o9 + 6, o9 + 7, o9 + 8][j]?)), (o9 + 1, iA cI 40 z0), (o9 + 2, iA cI 40 z0), (o9 + 3, iA cI 40 z0), (o9 + 4, iA cI 40 z0), (o9 + 5, iA cI 40 z0), (o9 + 6, iA cI 40 z0), (o9 + 7, iA cI 40 z0), (o9 + 8, iA cI 40 z0), (o19, iA cI 8 (fun x => if x = 7 then -1 else (fun x => if x = 6 then -1 else (fun x => if x = 5 then -1 else (fun x => if x = 4 then -1 else (fun x => if x = 3 then -1 else (fun x => if x = 2 then -1 else (fun x => if x = 1 then -1 else (fun x => if x = 0 then -1 else z0 x) x) x) x) x) x) x) x))] rfl ?_
  refine b_putF (pc := 55) 0 dX3_init_55 qC3 (i := 1) (by decide) (tb_at 79 (by decide +kernel) (by decide +kernel)) rfl rfl rfl (tyX3_ok 1 (by decide)) rfl rfl (Nat.le_of_ble_eq_true rfl) ?_
  refine b_eqw [(h, .inr (3, [.ref (o9), .ref (o19), .null])), (o9, rA c5 8 (fun j => [o9 + 1, o9 + 2, o9 + 3, o9 + 4, o9 + 5, o9 + 6, o9 + 7, o9 + 8][j]?)), (o9 + 1, iA cI 40 z0), (o9 + 2, iA cI 40 z0), (o9 + 3, iA cI 40 z0), (o9 + 4, iA cI 40 z0), (o9 + 5, iA cI 40 z0), (o9 + 6, iA cI 40 z0), (o9 + 7, iA cI 40 z0), (o9 + 8, iA cI 40 z0), (o19, iA cI 8 (fun x => if x = 7 then -1 else (fun x => if x = 6 then -1 else (fun x => if x = 5 then -1 else (fun x => if x = 4 then -1 else (fun x => if x = 3 then -1 else (fun x => if x = 2 then -1 else (fun x => if x = 1 then -1 else (fun x => if x = 0 then -1 else z0 x) x) x) x) x) x) x) x))] rfl ?_
  refine b_this (pc := 58) dX3_init_58 ?_
  refine b_bipush (pc := 59) dX3_init_59 (by decide +kernel) ?_
  refine b_newa (pc := 61) (rc := 0) (rs := 0) (N := 8) rfl dX3_init_61 (by decide) (fun o61 => ?_)
  refine b_putF (pc := 63) 0 dX3_init_63 qC3 (i := 2) (by decide) (tb_at 80 (by decide +kernel) (by decide +kernel)) rfl rfl rfl (tyX3_ok 2 (by decide)) rfl rfl (Nat.le_of_ble_eq_true rfl) ?_
  refine b_eqw [(h, .inr (3, [.ref (o9), .ref (o19), .ref (o61)])), (o9, rA c5 8 (fun j => [o9 + 1, o9 + 2, o9 + 3, o9 + 4, o9 + 5, o9 + 6, o9 + 7, o9 + 8][j]?)), (o9 + 1, iA cI 40 z0), (o9 + 2, iA cI 40 z0), (o9 + 3, iA cI 40 z0), (o9 + 4, iA cI 40 z0), (o9 + 5, iA cI 40 z0), (o9 + 6, iA cI 40 z0), (o9 + 7, iA cI 40 z0), (o9 + 8, iA cI 40 z0), (o19, iA cI 8 (fun x => if x = 7 then -1 else (fun x => if x = 6 then -1 else (fun x => if x = 5 then -1 else (fun x => if x = 4 then -1 else (fun x => if x = 3 then -1 else (fun x => if x = 2 then -1 else (fun x => if x = 1 then -1 else (fun x => if x = 0 then -1 else z0 x) x) x) x) x) x) x) x)), (o61, iA cI 8 z0)] rfl ?_
  exact b_ret (pc := 66) dX3_init_66 rfl ⟨(fun i => [o9, o19, o61, o9 + 1, o9 + 2, o9 + 3, o9 + 4, o9 + 5, o9 + 6, o9 + 7, o9 + 8].getD i 0), c5, rfl, rfl⟩
def wX4 (cI : ClassId) (h : Nat) : va_W → bT → Prop := fun w t => ∃ (q : Nat → Nat), w = [(h, .inr (4, [.int (Int32.ofInt 0), .int (Int32.ofInt 0), .int (Int32.ofInt 0), .int (Int32.ofInt 1), .int (Int32.ofInt 0), .int (Int32.ofInt 0), .int (Int32.ofInt 0), .ref (q 0), .ref (q 1), .ref (q 2), .ref (q 3)])), (q 0, iA cI 7 z0), (q 1, iA cI 7 z0), (q 2, iA cI 7 z0), (q 3, .inr (5, [.ref (q 4), .ref (q 5)])), (q 4, iA cI 3 z0), (q 5, iA cI 3 z0)] ∧ t = []
set_option maxRecDepth 20000 in
set_option maxHeartbeats 4000000 in
theorem n_X4 : bE l D cI mX4_init (d + 2) 6 29 0 h [] w0 [(h, .inr (4, [.int (Int32.ofInt 0), .int (Int32.ofInt 0), .int (Int32.ofInt 0), .int (Int32.ofInt 0), .int (Int32.ofInt 0), .int (Int32.ofInt 0), .int (Int32.ofInt 0), .null, .null, .null, .null]))] [] (wX4 cI h) := by
  refine b_this (pc := 0) dX4_init_0 ?_
  refine b_obj (pc := 1) dX4_init_1 (tb_at 116 (by decide +kernel) (by decide +kernel)) (Nat.le_of_ble_eq_true rfl) (by omega) ?_
  refine b_this (pc := 4) dX4_init_4 ?_
  refine b_iconst (pc := 5) dX4_init_5 ?_
  refine b_putI (pc := 6) 0 dX4_init_6 wX4_9 rfl (Nat.le_of_ble_eq_true rfl) ?_
  refine b_eqw [(h, .inr (4, [.int (Int32.ofInt 0), .int (Int32.ofInt 0), .int (Int32.ofInt 0), .int (Int32.ofInt 1), .int (Int32.ofInt 0), .int (Int32.ofInt 0), .int (Int32.ofInt 0), .null, .null, .null, .null]))] rfl ?_
  refine b_this (pc := 9) dX4_init_9 ?_
  refine b_bipush (pc := 10) dX4_init_10 (by decide +kernel) ?_
  refine b_newa (pc := 12) (rc := 5) (rs := 22) (N := 7) rfl dX4_init_12 (by decide) (fun o12 => ?_)
  refine b_putF (pc := 14) 0 dX4_init_14 qC4 (i := 7) (by decide) (tb_at 157 (by decide +kernel) (by decide +kernel)) rfl rfl rfl (tyX4_ok 7 (by decide)) rfl rfl (Nat.le_of_ble_eq_true rfl) ?_
  refine b_eqw [(h, .inr (4, [.int (Int32.ofInt 0), .int (Int32.ofInt 0), .int (Int32.ofInt 0), .int (Int32.ofInt 1), .int (Int32.ofInt 0), .int (Int32.ofInt 0), .int (Int32.ofInt 0), .ref (o12), .null, .null, .null])), (o12, iA cI 7 z0)] rfl ?_
  refine b_this (pc := 17) dX4_init_17 ?_
  refine b_bipush (pc := 18) dX4_init_18 (by decide +kernel) ?_
  refine b_newa (pc := 20) (rc := 4) (rs := 15) (N := 7) rfl dX4_init_20 (by decide) (fun o20 => ?_)
  refine b_putF (pc := 22) 0 dX4_init_22 qC4 (i := 8) (by decide) (tb_at 161 (by decide +kernel) (by decide +kernel)) rfl rfl rfl (tyX4_ok 8 (by decide)) rfl rfl (Nat.le_of_ble_eq_true rfl) ?_
  refine b_eqw [(h, .inr (4, [.int (Int32.ofInt 0), .int (Int32.ofInt 0), .int (Int32.ofInt 0), .int (Int32.ofInt 1), .int (Int32.ofInt 0), .int (Int32.ofInt 0), .int (Int32.ofInt 0), .ref (o12), .ref (o20), .null, .null])), (o12, iA cI 7 z0), (o20, iA cI 7 z0)] rfl ?_
  refine b_this (pc := 25) dX4_init_25 ?_
  refine b_bipush (pc := 26) dX4_init_26 (by decide +kernel) ?_
  refine b_newa (pc := 28) (rc := 3) (rs := 8) (N := 7) rfl dX4_init_28 (by decide) (fun o28 => ?_)
  refine b_putF (pc := 30) 0 dX4_init_30 qC4 (i := 9) (by decide) (tb_at 165 (by decide +kernel) (by decide +kernel)) rfl rfl rfl (tyX4_ok 9 (by decide)) rfl rfl (Nat.le_of_ble_eq_true rfl) ?_
  refine b_eqw [(h, .inr (4, [.int (Int32.ofInt 0), .int (Int32.ofInt 0), .int (Int32.ofInt 0), .int (Int32.ofInt 1), .int (Int32.ofInt 0), .int (Int32.ofInt 0), .int (Int32.ofInt 0), .ref (o12), .ref (o20), .ref (o28), .null])), (o12, iA cI 7 z0), (o20, iA cI 7 z0), (o28, iA cI 7 z0)] rfl ?_
  refine b_this (pc := 33) dX4_init_33 ?_
  refine b_new (pc := 34) (rc := 2) (rs := 6) (ci := 5) (fs := [.null, .null]) dX4_init_34 qC5 (tb_at 117 (by decide +kernel) (by decide +kernel)) (tb_at 118 (by decide +kernel) (by decide +kernel)) (tb_at 53 (by decide +kernel) (by decide +kernel)) dfX5 (fun o34 => ?_)
  refine b_dup (pc := 37) dX4_init_37 ?_
  refine b_call (pc := 38) (rc := 0) (rs := 0) (rc1 := 2) (rs1 := 6) (z := mX5_init) dX4_init_38 (by decide) bvX5 (Nat.le_of_ble_eq_true rfl) (fun w => n_X5) (fun w' t' hq => ?_)
  obtain ⟨q38, rfl, rfl⟩ := hq
  refine b_eqw [(h, .inr (4, [.int (Int32.ofInt 0), .int (Int32.ofInt 0), .int (Int32.ofInt 0), .int (Int32.ofInt 1), .int (Int32.ofInt 0), .int (Int32.ofInt 0), .int (Int32.ofInt 0), .ref (o12), .ref (o20), .ref (o28), .null])), (o12, iA cI 7 z0), (o20, iA cI 7 z0), (o28, iA cI 7 z0), (o34, .inr (5, [.ref (q38 0), .ref (q38 1)])), (q38 0, iA cI 3 z0), (q38 1, iA cI 3 z0)] rfl ?_
  refine b_putF (pc := 41) 0 dX4_init_41 qC4 (i := 10) (by decide) (tb_at 169 (by decide +kernel) (by decide +kernel)) rfl rfl rfl (tyX4_ok 10 (by decide)) rfl rfl (Nat.le_of_ble_eq_true rfl) ?_
  refine b_eqw [(h, .inr (4, [.int (Int32.ofInt 0), .int (Int32.ofInt 0), .int (Int32.ofInt 0), .int (Int32.ofInt 1), .int (Int32.ofInt 0), .int (Int32.ofInt 0), .int (Int32.ofInt 0), .ref (o12), .ref (o20), .ref (o28), .ref (o34)])), (o12, iA cI 7 z0), (o20, iA cI 7 z0), (o28, iA cI 7 z0), (o34, .inr (5, [.ref (q38 0), .ref (q38 1)])), (q38 0, iA cI 3 z0), (q38 1, iA cI 3 z0)] rfl ?_
  exact b_ret (pc := 44) dX4_init_44 rfl ⟨(fun i => [o12, o20, o28, o34, q38 0, q38 1].getD i 0), rfl, rfl⟩
end CT
