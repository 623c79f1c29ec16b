abbrev rmX9_clientOf : Room := { frames := 6, cells := 1, slots := 6, locals := 100 }
theorem w_X9_clientOf_k263 : Cond.classLink RX9 263 "java/lang/IllegalArgumentException" ∈ wsX9_clientOf := by decide +kernel
theorem w_X9_clientOf_ii263 : Cond.initialized "java/lang/IllegalArgumentException" ∈ wsX9_clientOf := by decide +kernel
theorem xg_X9_clientOf_267 : ∀ w ∈ (vx_atS RX9 267 "java/lang/IllegalArgumentException" xnm).filter goodWord, w ∈ wsX9_clientOf := by decide +kernel
theorem in_X9_clientOf_X9 : ∀ w ∈ wsX90, w ∈ wsX9_clientOf := by decide +kernel
theorem w_X9_clientOf_f11 : Cond.fieldLink RX9 11 "DeltaNights" "clients" "[LDeltaNights$Client;" ∈ wsX9_clientOf := by decide +kernel
set_option maxHeartbeats 4000000 in
set_option maxRecDepth 100000 in
theorem ct_X9_clientOf (l : Launch) (g : GG) (sz0 : Nat) {h : AH} {ro qc mk ho mt rc : Nat} {ng : Int} {fc : Int → Option Nat} {cl : Int → Nat} (hRO : h ro = some (oE 9 [.ref qc, .ref mk, .ref ho, .ref mt, .ref rc, .int (iI ng)])) (hQC : h qc = some (qE g 5 4 fc)) (hfc : ∀ i : Int, 0 ≤ i → i < 4 → fc i = some (cl i)) (x : Int) (hl0 : l.stackTraces = false) (qx : -2147483648 ≤ x ∧ x < 2147483648)  : CTX l yX9_clientOf wsX9_clientOf rmX9_clientOf g sz0 [.ref ro, .int (iI x)] h (fun v h' => v = some (.ref (cl x)) ∧ h' = h ∧ (0 ≤ x ∧ x ≤ 3)) (fun E h' => E = "java/lang/IllegalArgumentException" ∧ h' = h ∧ ¬ (0 ≤ x ∧ x ≤ 3)) := by
  refine CTX.of (by decide +kernel) rfl [some (.ref ro), some (.int (iI (x))), none] rfl (Nat.le_of_ble_eq_true rfl) ?_
  intro p e s m args below meth c B hr hlk hout
  refine r_iload_n B dX9_clientOf_0 rfl ?_
  refine r_if_lt B dX9_clientOf_1 (tgt := 22) (by decide) (by omega) (fun c1 => ?_) (fun c1 => ?_)
  · refine r_null B dX9_clientOf_22 ?_
    refine r_topn ?_
    refine r_astore_n B dX9_clientOf_23 rfl (va_rf_isRef _) (by decide) (lcat_v rfl rfl) ?_
    refine r_aload_n B dX9_clientOf_24 rfl (va_rf_isRef _) ?_
    refine r_ifnonnull B dX9_clientOf_25 (tgt := 39) (by decide) (fun a25 c25 => ?_) (fun c25 => ?_)
    · cases c25
    · exact r_throwSW (text := "no such client") B hl0 xat_IA w_X9_clientOf_k263 w_X9_clientOf_ii263 xg_X9_clientOf_267 (by decide +kernel) dX9_clientOf_28 dX9_clientOf_31 dX9_clientOf_32 dX9_clientOf_35 dX9_clientOf_38 hout hlk (Nat.le_of_ble_eq_true rfl) (Nat.le_of_ble_eq_true rfl) (Nat.le_of_ble_eq_true rfl) (Nat.le_of_ble_eq_true rfl) (Nat.le_of_ble_eq_true rfl) (Nat.le_of_ble_eq_true rfl) ⟨rfl, rfl, by omega⟩
  · refine r_iload_n B dX9_clientOf_4 rfl ?_
    refine r_aload_n B dX9_clientOf_5 rfl rfl ?_
    refine r_get (C := RX9) (T := TX9) (N := 6) (ci := 9) B dX9_clientOf_6 in_X9_clientOf_X9 rfl 0 (by decide) w_X9_clientOf_f11 rfl hRO rfl ?_
    refine r_alen_q B dX9_clientOf_9 rfl hQC ?_
    refine r_icmp_ge B dX9_clientOf_10 (tgt := 22) (by decide) (by omega) (by omega) (fun c10 => ?_) (fun c10 => ?_)
    · refine r_null B dX9_clientOf_22 ?_
      refine r_topn ?_
      refine r_astore_n B dX9_clientOf_23 rfl (va_rf_isRef _) (by decide) (lcat_v rfl rfl) ?_
      refine r_aload_n B dX9_clientOf_24 rfl (va_rf_isRef _) ?_
      refine r_ifnonnull B dX9_clientOf_25 (tgt := 39) (by decide) (fun a25 c25 => ?_) (fun c25 => ?_)
      · cases c25
      · exact r_throwSW (text := "no such client") B hl0 xat_IA w_X9_clientOf_k263 w_X9_clientOf_ii263 xg_X9_clientOf_267 (by decide +kernel) dX9_clientOf_28 dX9_clientOf_31 dX9_clientOf_32 dX9_clientOf_35 dX9_clientOf_38 hout hlk (Nat.le_of_ble_eq_true rfl) (Nat.le_of_ble_eq_true rfl) (Nat.le_of_ble_eq_true rfl) (Nat.le_of_ble_eq_true rfl) (Nat.le_of_ble_eq_true rfl) (Nat.le_of_ble_eq_true rfl) ⟨rfl, rfl, by omega⟩
    · refine r_aload_n B dX9_clientOf_13 rfl rfl ?_
      refine r_get (C := RX9) (T := TX9) (N := 6) (ci := 9) B dX9_clientOf_14 in_X9_clientOf_X9 rfl 0 (by decide) w_X9_clientOf_f11 rfl hRO rfl ?_
      refine r_iload_n B dX9_clientOf_17 rfl ?_
      refine r_aald B dX9_clientOf_18 rfl hQC (by decide) (by omega) (by omega) ?_
      refine r_topr (hfc x (by omega) (by omega)) ?_
      refine r_goto B dX9_clientOf_19 (tgt := 23) (by decide) ?_
      refine r_astore_n B dX9_clientOf_23 rfl rfl (by decide) (lcat_v rfl rfl) ?_
      refine r_aload_n B dX9_clientOf_24 rfl rfl ?_
      refine r_ifnonnull_r B dX9_clientOf_25 (tgt := 39) (by decide) ?_
      refine r_aload_n B dX9_clientOf_39 rfl rfl ?_
      exact x_ret (r_aret B hr hlk dX9_clientOf_40 rfl (Nat.le_of_ble_eq_true rfl) (Nat.le_of_ble_eq_true rfl) ⟨rfl, rfl, by omega⟩)
