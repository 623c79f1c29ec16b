abbrev rmX7_init : Room := { frames := 1, cells := 0, slots := 0, locals := 40 }
theorem w_X7_init_oi1 : Cond.methodLink RX7 1 Lib.objectInit ∈ wsX7_init := by decide +kernel
theorem w_X7_init_oi2 : Cond.instanceMethod Lib.objectInit ∈ wsX7_init := by decide +kernel
theorem w_X7_init_oi3 : Cond.code Lib.objectInit ⟨#[0xb1]⟩ 1 none ∈ wsX7_init := by decide +kernel
theorem in_X7_init_X7 : ∀ w ∈ wsX70, w ∈ wsX7_init := by decide +kernel
theorem w_X7_init_f7 : Cond.fieldLink RX7 7 "DeltaNights$Marks" "bits" "I" ∈ wsX7_init := by decide +kernel
theorem w_X7_init_f13 : Cond.fieldLink RX7 13 "DeltaNights$Marks" "least" "I" ∈ wsX7_init := by decide +kernel
theorem w_X7_init_f16 : Cond.fieldLink RX7 16 "DeltaNights$Marks" "most" "I" ∈ wsX7_init := by decide +kernel
set_option maxHeartbeats 4000000 in
set_option maxRecDepth 100000 in
theorem ct_X7_init (l : Launch) (g : GG) (sz0 : Nat) {h : AH} {a : Nat} (ha0 : h a = some (oE 7 [.int (iI 0), .int (iI 0), .int (iI 0)]))  : CT l yX7_init wsX7_init rmX7_init g sz0 [.ref a] h (fun v h' => v = none ∧ h' a = some (oE 7 [.int (iI 2), .int (iI 3), .int (iI 12)]) ∧ ∀ b : Nat, b ≠ a → h' b = h b) := by
  refine CT.of (by decide +kernel) rfl [some (.ref a)] rfl (Nat.le_of_ble_eq_true rfl) ?_
  intro p e s m args below meth c B hr hlk hnm
  have hX : h a = some (oE 7 [.int (iI 0), .int (iI 0), .int (iI 0)]) ∧ (∀ b : Nat, b ≠ a → h b = h b) := ⟨ha0, fun _ _ => rfl⟩
  refine r_aload_n B dX7_init_0 rfl rfl ?_
  refine r_objInit B dX7_init_1 w_X7_init_oi1 w_X7_init_oi2 w_X7_init_oi3 (Nat.le_of_ble_eq_true rfl) (Nat.le_of_ble_eq_true rfl) ?_
  refine r_aload_n B dX7_init_4 rfl rfl ?_
  refine r_iconst B dX7_init_5 ?_
  refine r_put (C := RX7) (T := TX7) (N := 3) (ci := 7) B dX7_init_6 in_X7_init_X7 tyX7 tyX7_ok nmX7 rfl 0 (by decide) w_X7_init_f7 rfl rfl (ty := .int) (by decide +kernel) rfl rfl hX.1 (by show 0 < 3; decide) ?_
  refine k_next (P := fun x => x a = some (oE 7 [.int (iI 2), .int (iI 0), .int (iI 0)]) ∧ (∀ b : Nat, b ≠ a → x b = h b)) ⟨if_pos rfl, fun b b0 => (if_neg b0).trans (hX.2 b b0)⟩ (fun h2 hX => ?_)
  refine r_aload_n B dX7_init_9 rfl rfl ?_
  refine r_iconst B dX7_init_10 ?_
  refine r_put (C := RX7) (T := TX7) (N := 3) (ci := 7) B dX7_init_11 in_X7_init_X7 tyX7 tyX7_ok nmX7 rfl 1 (by decide) w_X7_init_f13 rfl rfl (ty := .int) (by decide +kernel) rfl rfl hX.1 (by show 1 < 3; decide) ?_
  refine k_next (P := fun x => x a = some (oE 7 [.int (iI 2), .int (iI 3), .int (iI 0)]) ∧ (∀ b : Nat, b ≠ a → x b = h b)) ⟨if_pos rfl, fun b b0 => (if_neg b0).trans (hX.2 b b0)⟩ (fun h3 hX => ?_)
  refine r_aload_n B dX7_init_14 rfl rfl ?_
  refine r_bipush B dX7_init_15 (by decide) ?_
  refine r_put (C := RX7) (T := TX7) (N := 3) (ci := 7) B dX7_init_17 in_X7_init_X7 tyX7 tyX7_ok nmX7 rfl 2 (by decide) w_X7_init_f16 rfl rfl (ty := .int) (by decide +kernel) rfl rfl hX.1 (by show 2 < 3; decide) ?_
  refine k_next (P := fun x => x a = some (oE 7 [.int (iI 2), .int (iI 3), .int (iI 12)]) ∧ (∀ b : Nat, b ≠ a → x b = h b)) ⟨if_pos rfl, fun b b0 => (if_neg b0).trans (hX.2 b b0)⟩ (fun h4 hX => ?_)
  exact r_vret B hr hlk dX7_init_20 (Nat.le_of_ble_eq_true rfl) (Nat.le_of_ble_eq_true rfl) ⟨rfl, hX⟩
abbrev rmX8_init : Room := { frames := 1, cells := 0, slots := 0, locals := 40 }
theorem w_X8_init_oi1 : Cond.methodLink RX8 1 Lib.objectInit ∈ wsX8_init := by decide +kernel
theorem w_X8_init_oi2 : Cond.instanceMethod Lib.objectInit ∈ wsX8_init := by decide +kernel
theorem w_X8_init_oi3 : Cond.code Lib.objectInit ⟨#[0xb1]⟩ 1 none ∈ wsX8_init := by decide +kernel
theorem in_X8_init_X8 : ∀ w ∈ wsX80, w ∈ wsX8_init := by decide +kernel
theorem w_X8_init_f7 : Cond.fieldLink RX8 7 "DeltaNights$Recovery" "mount" "I" ∈ wsX8_init := by decide +kernel
theorem w_X8_init_f13 : Cond.fieldLink RX8 13 "DeltaNights$Recovery" "speed" "I" ∈ wsX8_init := by decide +kernel
set_option maxHeartbeats 4000000 in
set_option maxRecDepth 100000 in
theorem ct_X8_init (l : Launch) (g : GG) (sz0 : Nat) {h : AH} {a : Nat} (ha0 : h a = some (oE 8 [.int (iI 0), .int (iI 0)]))  : CT l yX8_init wsX8_init rmX8_init g sz0 [.ref a] h (fun v h' => v = none ∧ h' a = some (oE 8 [.int (iI 5), .int (iI 4)]) ∧ ∀ b : Nat, b ≠ a → h' b = h b) := by
  refine CT.of (by decide +kernel) rfl [some (.ref a)] rfl (Nat.le_of_ble_eq_true rfl) ?_
  intro p e s m args below meth c B hr hlk hnm
  have hX : h a = some (oE 8 [.int (iI 0), .int (iI 0)]) ∧ (∀ b : Nat, b ≠ a → h b = h b) := ⟨ha0, fun _ _ => rfl⟩
  refine r_aload_n B dX8_init_0 rfl rfl ?_
  refine r_objInit B dX8_init_1 w_X8_init_oi1 w_X8_init_oi2 w_X8_init_oi3 (Nat.le_of_ble_eq_true rfl) (Nat.le_of_ble_eq_true rfl) ?_
  refine r_aload_n B dX8_init_4 rfl rfl ?_
  refine r_iconst B dX8_init_5 ?_
  refine r_put (C := RX8) (T := TX8) (N := 2) (ci := 8) B dX8_init_6 in_X8_init_X8 tyX8 tyX8_ok nmX8 rfl 0 (by decide) w_X8_init_f7 rfl rfl (ty := .int) (by decide +kernel) rfl rfl hX.1 (by show 0 < 2; decide) ?_
  refine k_next (P := fun x => x a = some (oE 8 [.int (iI 5), .int (iI 0)]) ∧ (∀ b : Nat, b ≠ a → x b = h b)) ⟨if_pos rfl, fun b b0 => (if_neg b0).trans (hX.2 b b0)⟩ (fun h2 hX => ?_)
  refine r_aload_n B dX8_init_9 rfl rfl ?_
  refine r_iconst B dX8_init_10 ?_
  refine r_put (C := RX8) (T := TX8) (N := 2) (ci := 8) B dX8_init_11 in_X8_init_X8 tyX8 tyX8_ok nmX8 rfl 1 (by decide) w_X8_init_f13 rfl rfl (ty := .int) (by decide +kernel) rfl rfl hX.1 (by show 1 < 2; decide) ?_
  refine k_next (P := fun x => x a = some (oE 8 [.int (iI 5), .int (iI 4)]) ∧ (∀ b : Nat, b ≠ a → x b = h b)) ⟨if_pos rfl, fun b b0 => (if_neg b0).trans (hX.2 b b0)⟩ (fun h3 hX => ?_)
  exact r_vret B hr hlk dX8_init_14 (Nat.le_of_ble_eq_true rfl) (Nat.le_of_ble_eq_true rfl) ⟨rfl, hX⟩
abbrev rmX4_init : Room := { frames := 1, cells := 0, slots := 0, locals := 40 }
theorem w_X4_init_oi1 : Cond.methodLink RX4 1 Lib.objectInit ∈ wsX4_init := by decide +kernel
theorem w_X4_init_oi2 : Cond.instanceMethod Lib.objectInit ∈ wsX4_init := by decide +kernel
theorem w_X4_init_oi3 : Cond.code Lib.objectInit ⟨#[0xb1]⟩ 1 none ∈ wsX4_init := by decide +kernel
theorem in_X4_init_X4 : ∀ w ∈ wsX40, w ∈ wsX4_init := by decide +kernel
theorem w_X4_init_f7 : Cond.fieldLink RX4 7 "DeltaNights$House" "latest" "LDeltaNights$Chunk;" ∈ wsX4_init := by decide +kernel
theorem w_X4_init_f13 : Cond.fieldLink RX4 13 "DeltaNights$House" "kept" "I" ∈ wsX4_init := by decide +kernel
set_option maxHeartbeats 4000000 in
set_option maxRecDepth 100000 in
theorem ct_X4_init (l : Launch) (g : GG) (sz0 : Nat) {h : AH} {a : Nat} (ha0 : h a = some (oE 4 [.null, .int (iI 0)]))  : CT l yX4_init wsX4_init rmX4_init g sz0 [.ref a] h (fun v h' => v = none ∧ h' a = some (oE 4 [.null, .int (iI 0)]) ∧ ∀ b : Nat, b ≠ a → h' b = h b) := by
  refine CT.of (by decide +kernel) rfl [some (.ref a)] rfl (Nat.le_of_ble_eq_true rfl) ?_
  intro p e s m args below meth c B hr hlk hnm
  have hX : h a = some (oE 4 [.null, .int (iI 0)]) ∧ (∀ b : Nat, b ≠ a → h b = h b) := ⟨ha0, fun _ _ => rfl⟩
  refine r_aload_n B dX4_init_0 rfl rfl ?_
  refine r_objInit B dX4_init_1 w_X4_init_oi1 w_X4_init_oi2 w_X4_init_oi3 (Nat.le_of_ble_eq_true rfl) (Nat.le_of_ble_eq_true rfl) ?_
  refine r_aload_n B dX4_init_4 rfl rfl ?_
  refine r_null B dX4_init_5 ?_
  refine r_put (C := RX4) (T := TX4) (N := 2) (ci := 4) B dX4_init_6 in_X4_init_X4 tyX4 tyX4_ok nmX4 rfl 0 (by decide) w_X4_init_f7 rfl rfl (ty := .object "DeltaNights$Chunk") (by decide +kernel) rfl rfl hX.1 (by show 0 < 2; decide) ?_
  refine k_next (P := fun x => x a = some (oE 4 [.null, .int (iI 0)]) ∧ (∀ b : Nat, b ≠ a → x b = h b)) ⟨if_pos rfl, fun b b0 => (if_neg b0).trans (hX.2 b b0)⟩ (fun h2 hX => ?_)
  refine r_aload_n B dX4_init_9 rfl rfl ?_
  refine r_iconst B dX4_init_10 ?_
  refine r_put (C := RX4) (T := TX4) (N := 2) (ci := 4) B dX4_init_11 in_X4_init_X4 tyX4 tyX4_ok nmX4 rfl 1 (by decide) w_X4_init_f13 rfl rfl (ty := .int) (by decide +kernel) rfl rfl hX.1 (by show 1 < 2; decide) ?_
  refine k_next (P := fun x => x a = some (oE 4 [.null, .int (iI 0)]) ∧ (∀ b : Nat, b ≠ a → x b = h b)) ⟨if_pos rfl, fun b b0 => (if_neg b0).trans (hX.2 b b0)⟩ (fun h3 hX => ?_)
  exact r_vret B hr hlk dX4_init_14 (Nat.le_of_ble_eq_true rfl) (Nat.le_of_ble_eq_true rfl) ⟨rfl, hX⟩
