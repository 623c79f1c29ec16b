abbrev rmX0_init : Room := { frames := 1, cells := 2, slots := 96, locals := 40 }
theorem w_X0_init_oi1 : Cond.methodLink RX0 3 Lib.objectInit ∈ wsX0_init := by decide +kernel
theorem w_X0_init_oi2 : Cond.instanceMethod Lib.objectInit ∈ wsX0_init := by decide +kernel
theorem w_X0_init_oi3 : Cond.code Lib.objectInit ⟨#[0xb1]⟩ 1 none ∈ wsX0_init := by decide +kernel
theorem in_X0_init_X0 : ∀ w ∈ wsX00, w ∈ wsX0_init := by decide +kernel
set_option maxHeartbeats 4000000 in
set_option maxRecDepth 100000 in
theorem ct_X0_init (l : Launch) (g : GG) (sz0 : Nat) {hI : AH} {a : Nat} (ha0 : hI a = some (oE 0 [.null, .null, .int (iI 0), .int (iI 0)]))  : CT l yX0_init wsX0_init rmX0_init g sz0 [.ref a] hI (fun v h' => v = none ∧ ∃ ac ae : Nat, (hI ae = none ∧ hI ac = none) ∧ AL [(ae, iE g 48 (fun _ => 0)), (ac, iE g 48 (fun _ => 0)), (a, oE 0 [.ref ac, .ref ae, .int (iI 0), .int (iI 0)])] hI h') := by
  refine CT.of (by decide +kernel) rfl [some (.ref a)] rfl (Nat.le_of_ble_eq_true rfl) ?_
  intro p e s m args below meth c B hr hlk hnm
  have hL := AL.one ha0
  refine r_aload_n B dX0_init_0 rfl rfl ?_
  refine r_objInit B dX0_init_1 w_X0_init_oi1 w_X0_init_oi2 w_X0_init_oi3 (Nat.le_of_ble_eq_true rfl) (Nat.le_of_ble_eq_true rfl) ?_
  refine r_aload_n B dX0_init_4 rfl rfl ?_
  refine r_bipush B dX0_init_5 (by decide) ?_
  refine r_newi B dX0_init_7 (by decide +kernel) (by decide) (by decide) (Nat.le_of_ble_eq_true rfl) (Nat.le_of_ble_eq_true rfl) (fun ac sac nac => ?_)
  have fac := (hL.non nac).2
  refine k_next (P := fun x9 => AL [(ac, iE g 48 (fun _ => 0)), (a, oE 0 [.null, .null, .int (iI 0), .int (iI 0)])] hI x9) (hL.new nac) (fun h1 hL => ?_)
  refine r_putF (C := RX0) (T := TX0) (N := 4) (ci := 0) B dX0_init_9 in_X0_init_X0 tyX0 tyX0_ok nmX0 rfl 0 (by decide) (by decide +kernel : Cond.fieldLink RX0 9 "DeltaNights$ByteFile" "cells" "[I" ∈ wsX0_init) rfl rfl hnm rfl (ty := .array .int) (by decide +kernel) rfl rfl (hL.at (i := 1) rfl) (by show 0 < 4; decide) ?_
  refine k_next (P := fun x9 => AL [(ac, iE g 48 (fun _ => 0)), (a, oE 0 [.ref ac, .null, .int (iI 0), .int (iI 0)])] hI x9) (hL.put (i := 1) rfl) (fun h2 hL => ?_)
  refine r_aload_n B dX0_init_12 rfl rfl ?_
  refine r_bipush B dX0_init_13 (by decide) ?_
  refine r_newi B dX0_init_15 (by decide +kernel) (by decide) (by decide) (Nat.le_of_ble_eq_true rfl) (Nat.le_of_ble_eq_true rfl) (fun ae sae nae => ?_)
  have fae := (hL.non nae).2
  refine k_next (P := fun x9 => AL [(ae, iE g 48 (fun _ => 0)), (ac, iE g 48 (fun _ => 0)), (a, oE 0 [.ref ac, .null, .int (iI 0), .int (iI 0)])] hI x9) (hL.new nae) (fun h3 hL => ?_)
  refine r_putF (C := RX0) (T := TX0) (N := 4) (ci := 0) B dX0_init_17 in_X0_init_X0 tyX0 tyX0_ok nmX0 rfl 1 (by decide) (by decide +kernel : Cond.fieldLink RX0 15 "DeltaNights$ByteFile" "ends" "[I" ∈ wsX0_init) rfl rfl hnm rfl (ty := .array .int) (by decide +kernel) rfl rfl (hL.at (i := 2) rfl) (by show 1 < 4; decide) ?_
  refine k_next (P := fun x9 => AL [(ae, iE g 48 (fun _ => 0)), (ac, iE g 48 (fun _ => 0)), (a, oE 0 [.ref ac, .ref ae, .int (iI 0), .int (iI 0)])] hI x9) (hL.put (i := 2) rfl) (fun h4 hL => ?_)
  refine r_aload_n B dX0_init_20 rfl rfl ?_
  refine r_iconst B dX0_init_21 ?_
  refine r_put (C := RX0) (T := TX0) (N := 4) (ci := 0) B dX0_init_22 in_X0_init_X0 tyX0 tyX0_ok nmX0 rfl 2 (by decide) (by decide +kernel : Cond.fieldLink RX0 18 "DeltaNights$ByteFile" "size" "I" ∈ wsX0_init) rfl rfl (ty := .int) (by decide +kernel) rfl rfl (hL.at (i := 2) rfl) (by show 2 < 4; decide) ?_
  refine k_next (P := fun x9 => AL [(ae, iE g 48 (fun _ => 0)), (ac, iE g 48 (fun _ => 0)), (a, oE 0 [.ref ac, .ref ae, .int (iI 0), .int (iI 0)])] hI x9) (hL.put (i := 2) rfl) (fun h5 hL => ?_)
  refine r_aload_n B dX0_init_25 rfl rfl ?_
  refine r_iconst B dX0_init_26 ?_
  refine r_put (C := RX0) (T := TX0) (N := 4) (ci := 0) B dX0_init_27 in_X0_init_X0 tyX0 tyX0_ok nmX0 rfl 3 (by decide) (by decide +kernel : Cond.fieldLink RX0 22 "DeltaNights$ByteFile" "parts" "I" ∈ wsX0_init) rfl rfl (ty := .int) (by decide +kernel) rfl rfl (hL.at (i := 2) rfl) (by show 3 < 4; decide) ?_
  refine k_next (P := fun x9 => AL [(ae, iE g 48 (fun _ => 0)), (ac, iE g 48 (fun _ => 0)), (a, oE 0 [.ref ac, .ref ae, .int (iI 0), .int (iI 0)])] hI x9) (hL.put (i := 2) rfl) (fun h6 hL => ?_)
  exact r_vret B hr hlk dX0_init_30 (Nat.le_of_ble_eq_true rfl) (Nat.le_of_ble_eq_true rfl) ⟨rfl, ac, ae, ⟨fae, fac⟩, hL⟩
