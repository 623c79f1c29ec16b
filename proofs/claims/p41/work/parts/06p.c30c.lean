abbrev rmX6_init : Room := { frames := 1, cells := 1, slots := 4, locals := 40 }
theorem w_X6_init_oi1 : Cond.methodLink RX6 3 Lib.objectInit ∈ wsX6_init := by decide +kernel
theorem w_X6_init_oi2 : Cond.instanceMethod Lib.objectInit ∈ wsX6_init := by decide +kernel
theorem w_X6_init_oi3 : Cond.code Lib.objectInit ⟨#[0xb1]⟩ 1 none ∈ wsX6_init := by decide +kernel
theorem in_X6_init_X6 : ∀ w ∈ wsX60, w ∈ wsX6_init := by decide +kernel
set_option maxHeartbeats 4000000 in
set_option maxRecDepth 100000 in
theorem ct_X6_init (l : Launch) (g : GG) (sz0 : Nat) {hI : AH} {a : Nat} (ha0 : hI a = some (oE 6 [.null, .int (iI 0), .int (iI 0)]))  : CT l yX6_init wsX6_init rmX6_init g sz0 [.ref a] hI (fun v h' => v = none ∧ ∃ tu : Nat, (hI tu = none) ∧ AL [(tu, qE g 5 4 (fun _ => none)), (a, oE 6 [.ref tu, .int (iI 200), .int (iI 1)])] hI h') := by
  refine CT.of (by decide +kernel) rfl [some (.ref a)] rfl (Nat.le_of_ble_eq_true rfl) ?_
  intro p e s m args below meth c B hr hlk hnm
  have hL := AL.one ha0
  refine r_aload_n B dX6_init_0 rfl rfl ?_
  refine r_objInit B dX6_init_1 w_X6_init_oi1 w_X6_init_oi2 w_X6_init_oi3 (Nat.le_of_ble_eq_true rfl) (Nat.le_of_ble_eq_true rfl) ?_
  refine r_aload_n B dX6_init_4 rfl rfl ?_
  refine r_iconst B dX6_init_5 ?_
  refine r_newq (C := RX3) (t0 := 5) B dX6_init_6 (by decide +kernel) B.2.2.2.2.2.1.2.2.2.1.2.1 rfl (by decide) (by decide) (Nat.le_of_ble_eq_true rfl) (Nat.le_of_ble_eq_true rfl) (fun tu stu ntu => ?_)
  have ftu := (hL.non ntu).2
  refine k_next (P := fun x9 => AL [(tu, qE g 5 4 (fun _ => none)), (a, oE 6 [.null, .int (iI 0), .int (iI 0)])] hI x9) (hL.new ntu) (fun h1 hL => ?_)
  refine r_putF (C := RX6) (T := TX6) (N := 3) (ci := 6) B dX6_init_9 in_X6_init_X6 tyX6 tyX6_ok nmX6 rfl 0 (by decide) (by decide +kernel : Cond.fieldLink RX6 11 "DeltaNights$Market" "turns" "[LDeltaNights$Client;" ∈ wsX6_init) rfl rfl hnm rfl (ty := .array (.object "DeltaNights$Client")) (by decide +kernel) rfl rfl (hL.at (i := 1) rfl) (by show 0 < 3; decide) ?_
  refine k_next (P := fun x9 => AL [(tu, qE g 5 4 (fun _ => none)), (a, oE 6 [.ref tu, .int (iI 0), .int (iI 0)])] hI x9) (hL.put (i := 1) rfl) (fun h2 hL => ?_)
  refine r_aload_n B dX6_init_12 rfl rfl ?_
  refine r_sipush B dX6_init_13 (by decide) ?_
  refine r_put (C := RX6) (T := TX6) (N := 3) (ci := 6) B dX6_init_16 in_X6_init_X6 tyX6 tyX6_ok nmX6 rfl 1 (by decide) (by decide +kernel : Cond.fieldLink RX6 17 "DeltaNights$Market" "room" "I" ∈ wsX6_init) rfl rfl (ty := .int) (by decide +kernel) rfl rfl (hL.at (i := 1) rfl) (by show 1 < 3; decide) ?_
  refine k_next (P := fun x9 => AL [(tu, qE g 5 4 (fun _ => none)), (a, oE 6 [.ref tu, .int (iI 200), .int (iI 0)])] hI x9) (hL.put (i := 1) rfl) (fun h3 hL => ?_)
  refine r_aload_n B dX6_init_19 rfl rfl ?_
  refine r_iconst B dX6_init_20 ?_
  refine r_put (C := RX6) (T := TX6) (N := 3) (ci := 6) B dX6_init_21 in_X6_init_X6 tyX6 tyX6_ok nmX6 rfl 2 (by decide) (by decide +kernel : Cond.fieldLink RX6 21 "DeltaNights$Market" "reserve" "I" ∈ wsX6_init) rfl rfl (ty := .int) (by decide +kernel) rfl rfl (hL.at (i := 1) rfl) (by show 2 < 3; decide) ?_
  refine k_next (P := fun x9 => AL [(tu, qE g 5 4 (fun _ => none)), (a, oE 6 [.ref tu, .int (iI 200), .int (iI 1)])] hI x9) (hL.put (i := 1) rfl) (fun h4 hL => ?_)
  exact r_vret B hr hlk dX6_init_24 (Nat.le_of_ble_eq_true rfl) (Nat.le_of_ble_eq_true rfl) ⟨rfl, tu, ftu, hL⟩
