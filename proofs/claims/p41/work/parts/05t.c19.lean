abbrev rmX3_addLink : Room := { frames := 0, cells := 0, slots := 0, locals := 0 }
theorem in_X3_addLink_X3 : ∀ w ∈ wsX30, w ∈ wsX3_addLink := by decide +kernel
theorem w_X3_addLink_f20 : Cond.fieldLink RX3 20 "DeltaNights$Client" "links" "[LDeltaNights$Link;" ∈ wsX3_addLink := by decide +kernel
theorem w_X3_addLink_f24 : Cond.fieldLink RX3 24 "DeltaNights$Client" "latest" "LDeltaNights$Link;" ∈ wsX3_addLink := by decide +kernel
set_option maxHeartbeats 4000000 in
set_option maxRecDepth 100000 in
theorem ct_X3_addLink (l : Launch) (g : GG) (sz0 : Nat) {h : AH} {c0 fi lk : Nat} {lt : Option Nat} {bd bo cp pr co pa ow wt gt pc : Int} (hCL : h c0 = some (oE 3 [.ref fi, .ref lk, va_rf lt, .int (iI bd), .int (iI bo), .int (iI cp), .int (iI pr), .int (iI co), .int (iI pa), .int (iI ow), .int (iI wt), .int (iI gt), .int (iI pc)])) {ln : Int → Option Nat} (hLN : h lk = some (qE g 6 60 ln)) (x : Int) (z : Nat) {vs : List Value} (hx : 0 ≤ x ∧ x < 60) (hz : h z = some (oE 5 vs)) : CT l yX3_addLink wsX3_addLink rmX3_addLink g sz0 [.ref c0, .int (iI (x)), .ref z] h (fun v h' => v = none ∧ h' c0 = some (oE 3 [.ref fi, .ref lk, va_rf (some z), .int (iI bd), .int (iI bo), .int (iI cp), .int (iI pr), .int (iI co), .int (iI pa), .int (iI ow), .int (iI wt), .int (iI gt), .int (iI pc)]) ∧ h' lk = some (qE g 6 60 (upQ ln x (some z))) ∧ ∀ b : Nat, b ≠ c0 → b ≠ lk → h' b = h b) := by
  refine CT.of (by decide +kernel) rfl [some (.ref c0), some (.int (iI (x))), some (.ref z)] rfl (Nat.le_of_ble_eq_true rfl) ?_
  intro p e s m args below meth c B hr hlk hnm
  have n1 : c0 ≠ lk := qoe_ne hCL hLN
  refine r_iload_n B dX3_addLink_0 rfl ?_
  refine r_if_lt B dX3_addLink_1 (tgt := 25) (by decide) (by omega) (fun c1 => ?_) (fun c1 => ?_)
  · exact r_vret B hr hlk dX3_addLink_25 (Nat.le_of_ble_eq_true rfl) (Nat.le_of_ble_eq_true rfl) (by exfalso; omega)
  · refine r_iload_n B dX3_addLink_4 rfl ?_
    refine r_aload_n B dX3_addLink_5 rfl rfl ?_
    refine r_get (C := RX3) (T := TX3) (N := 13) (ci := 3) B dX3_addLink_6 in_X3_addLink_X3 rfl 1 (by decide) w_X3_addLink_f20 rfl hCL rfl ?_
    refine r_alen_q B dX3_addLink_9 rfl hLN ?_
    refine r_icmp_ge B dX3_addLink_10 (tgt := 25) (by decide) (by omega) (by omega) (fun c10 => ?_) (fun c10 => ?_)
    · exact r_vret B hr hlk dX3_addLink_25 (Nat.le_of_ble_eq_true rfl) (Nat.le_of_ble_eq_true rfl) (by exfalso; omega)
    · refine r_aload_n B dX3_addLink_13 rfl rfl ?_
      refine r_get (C := RX3) (T := TX3) (N := 13) (ci := 3) B dX3_addLink_14 in_X3_addLink_X3 rfl 1 (by decide) w_X3_addLink_f20 rfl hCL rfl ?_
      refine r_iload_n B dX3_addLink_17 rfl ?_
      refine r_aload_n B dX3_addLink_18 rfl rfl ?_
      refine r_aast B dX3_addLink_19 rfl rfl hLN hz (by decide) (by omega) (by omega) ?_
      refine k_next (P := fun x9 => x9 c0 = some (oE 3 [.ref fi, .ref lk, va_rf lt, .int (iI bd), .int (iI bo), .int (iI cp), .int (iI pr), .int (iI co), .int (iI pa), .int (iI ow), .int (iI wt), .int (iI gt), .int (iI pc)]) ∧ x9 lk = some (qE g 6 60 (upQ ln x (some z))) ∧ ∀ b : Nat, b ≠ c0 → b ≠ lk → x9 b = h b) ⟨(if_neg n1).trans hCL, if_pos rfl, fun b b0 b1 => if_neg b1⟩ (fun h1 hX => ?_)
      have hCL1 := hX.1
      refine r_aload_n B dX3_addLink_20 rfl rfl ?_
      refine r_aload_n B dX3_addLink_21 rfl rfl ?_
      refine r_put (C := RX3) (T := TX3) (N := 13) (ci := 3) B dX3_addLink_22 in_X3_addLink_X3 tyX3 tyX3_ok nmX3 rfl 2 (by decide) w_X3_addLink_f24 rfl rfl (ty := .object "DeltaNights$Link") (by decide +kernel) rfl rfl hCL1 (by show 2 < 13; decide) ?_
      refine k_next (P := fun x9 => x9 c0 = some (oE 3 [.ref fi, .ref lk, va_rf (some z), .int (iI bd), .int (iI bo), .int (iI cp), .int (iI pr), .int (iI co), .int (iI pa), .int (iI ow), .int (iI wt), .int (iI gt), .int (iI pc)]) ∧ x9 lk = some (qE g 6 60 (upQ ln x (some z))) ∧ ∀ b : Nat, b ≠ c0 → b ≠ lk → x9 b = h b) ⟨if_pos rfl, (if_neg (fun y => n1 y.symm)).trans hX.2.1, fun b b0 b1 => (if_neg b0).trans (hX.2.2 b b0 b1)⟩ (fun h2 hX => ?_)
      exact r_vret B hr hlk dX3_addLink_25 (Nat.le_of_ble_eq_true rfl) (Nat.le_of_ble_eq_true rfl) ⟨rfl, hX⟩
