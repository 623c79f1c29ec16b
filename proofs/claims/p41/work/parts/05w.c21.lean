abbrev rmX9_needRange : Room := { frames := 6, cells := 1, slots := 6, locals := 100 }
theorem w_X9_needRange_k263 : Cond.classLink RX9 263 "java/lang/IllegalArgumentException" ∈ wsX9_needRange := by decide +kernel
theorem w_X9_needRange_ii263 : Cond.initialized "java/lang/IllegalArgumentException" ∈ wsX9_needRange := by decide +kernel
theorem xg_X9_needRange_267 : ∀ w ∈ (vx_atS RX9 267 "java/lang/IllegalArgumentException" xnm).filter goodWord, w ∈ wsX9_needRange := by decide +kernel
set_option maxHeartbeats 4000000 in
set_option maxRecDepth 100000 in
theorem ct_X9_needRange (l : Launch) (g : GG) (sz0 : Nat) {h : AH} (x y z : Int) (hl0 : l.stackTraces = false) (qx : -2147483648 ≤ x ∧ x < 2147483648) (qy : -2147483648 ≤ y ∧ y < 2147483648) (qz : -2147483648 ≤ z ∧ z < 2147483648)  : CTX l yX9_needRange wsX9_needRange rmX9_needRange g sz0 [.int (iI x), .int (iI y), .int (iI z)] h (fun v h' => v = none ∧ h' = h ∧ (y ≤ x ∧ x ≤ z)) (fun E h' => E = "java/lang/IllegalArgumentException" ∧ h' = h ∧ ¬ (y ≤ x ∧ x ≤ z)) := by
  refine CTX.of (by decide +kernel) rfl [some (.int (iI (x))), some (.int (iI (y))), some (.int (iI (z)))] rfl (Nat.le_of_ble_eq_true rfl) ?_
  intro p e s m args below meth c B hr hlk hout
  refine r_iload_n B dX9_needRange_0 rfl ?_
  refine r_iload_n B dX9_needRange_1 rfl ?_
  refine r_icmp_lt B dX9_needRange_2 (tgt := 10) (by decide) (by omega) (by omega) (fun c2 => ?_) (fun c2 => ?_)
  · exact r_throwSW (text := "out of range") B hl0 xat_IA w_X9_needRange_k263 w_X9_needRange_ii263 xg_X9_needRange_267 (by decide +kernel) dX9_needRange_10 dX9_needRange_13 dX9_needRange_14 dX9_needRange_17 dX9_needRange_20 hout hlk (Nat.le_of_ble_eq_true rfl) (Nat.le_of_ble_eq_true rfl) (Nat.le_of_ble_eq_true rfl) (Nat.le_of_ble_eq_true rfl) (Nat.le_of_ble_eq_true rfl) (Nat.le_of_ble_eq_true rfl) ⟨rfl, rfl, by omega⟩
  · refine r_iload_n B dX9_needRange_5 rfl ?_
    refine r_iload_n B dX9_needRange_6 rfl ?_
    refine r_icmp_le B dX9_needRange_7 (tgt := 21) (by decide) (by omega) (by omega) (fun c7 => ?_) (fun c7 => ?_)
    · exact x_ret (r_vret B hr hlk dX9_needRange_21 (Nat.le_of_ble_eq_true rfl) (Nat.le_of_ble_eq_true rfl) ⟨rfl, rfl, by omega⟩)
    · exact r_throwSW (text := "out of range") B hl0 xat_IA w_X9_needRange_k263 w_X9_needRange_ii263 xg_X9_needRange_267 (by decide +kernel) dX9_needRange_10 dX9_needRange_13 dX9_needRange_14 dX9_needRange_17 dX9_needRange_20 hout hlk (Nat.le_of_ble_eq_true rfl) (Nat.le_of_ble_eq_true rfl) (Nat.le_of_ble_eq_true rfl) (Nat.le_of_ble_eq_true rfl) (Nat.le_of_ble_eq_true rfl) (Nat.le_of_ble_eq_true rfl) ⟨rfl, rfl, by omega⟩
