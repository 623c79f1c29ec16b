abbrev rmX9_setMarks : Room := { frames := 7, cells := 3, slots := 18, locals := 122 }
theorem in_X9_setMarks_X9 : ∀ w ∈ wsX90, w ∈ wsX9_setMarks := by decide +kernel
theorem w_X9_setMarks_f18 : Cond.fieldLink RX9 18 "DeltaNights" "marks" "LDeltaNights$Marks;" ∈ wsX9_setMarks := by decide +kernel
theorem in_X9_setMarks_X7 : ∀ w ∈ wsX70, w ∈ wsX9_setMarks := by decide +kernel
theorem w_X9_setMarks_f113 : Cond.fieldLink RX9 113 "DeltaNights$Marks" "bits" "I" ∈ wsX9_setMarks := by decide +kernel
theorem w_X9_setMarks_f116 : Cond.fieldLink RX9 116 "DeltaNights$Marks" "least" "I" ∈ wsX9_setMarks := by decide +kernel
theorem w_X9_setMarks_f119 : Cond.fieldLink RX9 119 "DeltaNights$Marks" "most" "I" ∈ wsX9_setMarks := by decide +kernel
set_option maxHeartbeats 4000000 in
set_option maxRecDepth 100000 in
theorem ct_X9_setMarks (l : Launch) (g : GG) (sz0 : Nat) {A : Nat → Nat} {Z : Nat → Prop} (hA : AOK A) {hZ : AH} {mnights mbits mleast mmost mroom mreserve mmount mspeed : Int} {mdata msize mends mmany mkind mchain mholds mbid mbound mcheap mpromised mcoin mpaid mowed : Int → Int} (hT : ST g A Z hZ mdata msize mends mmany mkind mchain mholds mnights mbits mleast mmost mroom mreserve mmount mspeed mbid mbound mcheap mpromised mcoin mpaid mowed hZ) (hG : RGm mnights mbits mleast mmost mroom mreserve mmount mspeed msize mbid mbound mcheap mpromised mcoin mpaid mowed) (x y z : Int) (hl0 : l.stackTraces = false) (qx : -2147483648 ≤ x ∧ x < 2147483648) (qy : -2147483648 ≤ y ∧ y < 2147483648) (qz : -2147483648 ≤ z ∧ z < 2147483648)  : CTX l yX9_setMarks wsX9_setMarks rmX9_setMarks g sz0 [.ref (A 0), .int (iI (x)), .int (iI (y)), .int (iI (z))] hZ (fun v h' => tB ((0 ≤ x ∧ x ≤ 8) ∧ (1 ≤ y ∧ y ≤ 16) ∧ (y ≤ z ∧ z ≤ 24)) = 0 ∧ v = none ∧ ST g A Z hZ mdata msize mends mmany mkind mchain mholds mnights x y z mroom mreserve mmount mspeed mbid mbound mcheap mpromised mcoin mpaid mowed h') (fun E h' => ((E = "java/lang/IllegalArgumentException" ∧ tB ((0 ≤ x ∧ x ≤ 8) ∧ (1 ≤ y ∧ y ≤ 16) ∧ (y ≤ z ∧ z ≤ 24)) = 1)) ∧ ST g A Z hZ mdata msize mends mmany mkind mchain mholds mnights mbits mleast mmost mroom mreserve mmount mspeed mbid mbound mcheap mpromised mcoin mpaid mowed h') := by
  refine CTX.of (by decide +kernel) rfl [some (.ref (A 0)), some (.int (iI (x))), some (.int (iI (y))), some (.int (iI (z)))] rfl (Nat.le_of_ble_eq_true rfl) ?_
  intro p e s m args below meth c B hr hlk hout
  have hT0 := hT
  obtain ⟨hK, LE, RK1, RN, HK1, HN, CA, PV, CF, CN, Ha, hN, tq, G, Eg, sz, pt, wt, gt, pc, LN, lt, hC, hSub, hZn, hX, hM⟩ := hT
  have hN0 := hG.1
  obtain ⟨fc, hQC, hfc⟩ := hC.qc
  refine r_iload_n B dX9_setMarks_0 rfl ?_
  refine r_iconst B dX9_setMarks_1 ?_
  refine r_bipush B dX9_setMarks_2 (by decide) ?_
  refine r_callSX (n := 3) B dX9_setMarks_4 (ct_X9_needRange l g sz0 _ _ _ hl0 (by omega) (by omega) (by omega)) gX9_setMarks_X9_needRange rfl (by decide +kernel) ⟨Nat.le_of_ble_eq_true rfl, Nat.le_of_ble_eq_true rfl⟩ rfl rfl (Nat.le_of_ble_eq_true rfl) (Nat.le_of_ble_eq_true rfl) (Nat.le_of_ble_eq_true rfl) (fun E h' hp => wx_out hout hlk ?_ (Nat.le_of_ble_eq_true rfl) (Nat.le_of_ble_eq_true rfl)) (fun v h' hp => ?_)
  · have hx9 := hp.2.2
    exact ⟨⟨hp.1, (tB_f (by omega))⟩, by rw [hp.2.1]; exact hT0⟩
  obtain ⟨hv, hh, hb1⟩ := hp
  subst v
  subst h'
  dsimp only [Option.toList, List.cons_append, List.nil_append]
  refine r_iload_n B dX9_setMarks_7 rfl ?_
  refine r_iconst B dX9_setMarks_8 ?_
  refine r_bipush B dX9_setMarks_9 (by decide) ?_
  refine r_callSX (n := 3) B dX9_setMarks_11 (ct_X9_needRange l g sz0 _ _ _ hl0 (by omega) (by omega) (by omega)) gX9_setMarks_X9_needRange rfl (by decide +kernel) ⟨Nat.le_of_ble_eq_true rfl, Nat.le_of_ble_eq_true rfl⟩ rfl rfl (Nat.le_of_ble_eq_true rfl) (Nat.le_of_ble_eq_true rfl) (Nat.le_of_ble_eq_true rfl) (fun E h' hp => wx_out hout hlk ?_ (Nat.le_of_ble_eq_true rfl) (Nat.le_of_ble_eq_true rfl)) (fun v h' hp => ?_)
  · have hx9 := hp.2.2
    exact ⟨⟨hp.1, (tB_f (by omega))⟩, by rw [hp.2.1]; exact hT0⟩
  obtain ⟨hv, hh, hb2⟩ := hp
  subst v
  subst h'
  dsimp only [Option.toList, List.cons_append, List.nil_append]
  refine r_iload_n B dX9_setMarks_14 rfl ?_
  refine r_iload_n B dX9_setMarks_15 rfl ?_
  refine r_bipush B dX9_setMarks_16 (by decide) ?_
  refine r_callSX (n := 3) B dX9_setMarks_18 (ct_X9_needRange l g sz0 _ _ _ hl0 (by omega) (by omega) (by omega)) gX9_setMarks_X9_needRange rfl (by decide +kernel) ⟨Nat.le_of_ble_eq_true rfl, Nat.le_of_ble_eq_true rfl⟩ rfl rfl (Nat.le_of_ble_eq_true rfl) (Nat.le_of_ble_eq_true rfl) (Nat.le_of_ble_eq_true rfl) (fun E h' hp => wx_out hout hlk ?_ (Nat.le_of_ble_eq_true rfl) (Nat.le_of_ble_eq_true rfl)) (fun v h' hp => ?_)
  · have hx9 := hp.2.2
    exact ⟨⟨hp.1, (tB_f (by omega))⟩, by rw [hp.2.1]; exact hT0⟩
  obtain ⟨hv, hh, hb3⟩ := hp
  subst v
  subst h'
  dsimp only [Option.toList, List.cons_append, List.nil_append]
  refine r_aload_n B dX9_setMarks_21 rfl rfl ?_
  refine r_get (C := RX9) (T := TX9) (N := 6) (ci := 9) B dX9_setMarks_22 in_X9_setMarks_X9 rfl 1 (by decide) w_X9_setMarks_f18 rfl hC.ro rfl ?_
  refine r_iload_n B dX9_setMarks_25 rfl ?_
  refine r_put (C := RX7) (T := TX7) (N := 3) (ci := 7) B dX9_setMarks_26 in_X9_setMarks_X7 tyX7 tyX7_ok nmX7 rfl 0 (by decide) w_X9_setMarks_f113 rfl rfl (ty := .int) (by decide +kernel) rfl rfl hC.mk (by show 0 < 3; decide) ?_
  refine k_next (P := fun x9 => CW g A hZ mnights x mleast mmost mroom mreserve mmount mspeed hN (ptr Ha hN 0) tq G Eg sz pt mbid mbound mcheap mpromised mcoin mpaid mowed wt gt pc LN lt x9) (hC.s_bt hA) (fun h hC => ?_)
  refine r_aload_n B dX9_setMarks_29 rfl rfl ?_
  refine r_get (C := RX9) (T := TX9) (N := 6) (ci := 9) B dX9_setMarks_30 in_X9_setMarks_X9 rfl 1 (by decide) w_X9_setMarks_f18 rfl hC.ro rfl ?_
  refine r_iload_n B dX9_setMarks_33 rfl ?_
  refine r_put (C := RX7) (T := TX7) (N := 3) (ci := 7) B dX9_setMarks_34 in_X9_setMarks_X7 tyX7 tyX7_ok nmX7 rfl 1 (by decide) w_X9_setMarks_f116 rfl rfl (ty := .int) (by decide +kernel) rfl rfl hC.mk (by show 1 < 3; decide) ?_
  refine k_next (P := fun x9 => CW g A hZ mnights x y mmost mroom mreserve mmount mspeed hN (ptr Ha hN 0) tq G Eg sz pt mbid mbound mcheap mpromised mcoin mpaid mowed wt gt pc LN lt x9) (hC.s_ls hA) (fun h hC => ?_)
  refine r_aload_n B dX9_setMarks_37 rfl rfl ?_
  refine r_get (C := RX9) (T := TX9) (N := 6) (ci := 9) B dX9_setMarks_38 in_X9_setMarks_X9 rfl 1 (by decide) w_X9_setMarks_f18 rfl hC.ro rfl ?_
  refine r_iload_n B dX9_setMarks_41 rfl ?_
  refine r_put (C := RX7) (T := TX7) (N := 3) (ci := 7) B dX9_setMarks_42 in_X9_setMarks_X7 tyX7 tyX7_ok nmX7 rfl 2 (by decide) w_X9_setMarks_f119 rfl rfl (ty := .int) (by decide +kernel) rfl rfl hC.mk (by show 2 < 3; decide) ?_
  refine k_next (P := fun x9 => CW g A hZ mnights x y z mroom mreserve mmount mspeed hN (ptr Ha hN 0) tq G Eg sz pt mbid mbound mcheap mpromised mcoin mpaid mowed wt gt pc LN lt x9) (hC.s_ms hA) (fun h hC => ?_)
  exact x_ret (r_vret B hr hlk dX9_setMarks_45 (Nat.le_of_ble_eq_true rfl) (Nat.le_of_ble_eq_true rfl) ⟨(tB_t (by omega)), rfl, ⟨hK, LE, RK1, RN, HK1, HN, CA, PV, CF, CN, Ha, hN, _, _, _, _, _, _, _, _, _, _, hC, (hC.sub2 hSub), hZn, hX, hM⟩⟩)
abbrev rmX9_setNight : Room := { frames := 7, cells := 2, slots := 12, locals := 122 }
theorem in_X9_setNight_X9 : ∀ w ∈ wsX90, w ∈ wsX9_setNight := by decide +kernel
theorem w_X9_setNight_f32 : Cond.fieldLink RX9 32 "DeltaNights" "market" "LDeltaNights$Market;" ∈ wsX9_setNight := by decide +kernel
theorem in_X9_setNight_X6 : ∀ w ∈ wsX60, w ∈ wsX9_setNight := by decide +kernel
theorem w_X9_setNight_f141 : Cond.fieldLink RX9 141 "DeltaNights$Market" "room" "I" ∈ wsX9_setNight := by decide +kernel
theorem w_X9_setNight_f144 : Cond.fieldLink RX9 144 "DeltaNights$Market" "reserve" "I" ∈ wsX9_setNight := by decide +kernel
set_option maxHeartbeats 4000000 in
set_option maxRecDepth 100000 in
theorem ct_X9_setNight (l : Launch) (g : GG) (sz0 : Nat) {A : Nat → Nat} {Z : Nat → Prop} (hA : AOK A) {hZ : AH} {mnights mbits mleast mmost mroom mreserve mmount mspeed : Int} {mdata msize mends mmany mkind mchain mholds mbid mbound mcheap mpromised mcoin mpaid mowed : Int → Int} (hT : ST g A Z hZ mdata msize mends mmany mkind mchain mholds mnights mbits mleast mmost mroom mreserve mmount mspeed mbid mbound mcheap mpromised mcoin mpaid mowed hZ) (hG : RGm mnights mbits mleast mmost mroom mreserve mmount mspeed msize mbid mbound mcheap mpromised mcoin mpaid mowed) (x y : Int) (hl0 : l.stackTraces = false) (qx : -2147483648 ≤ x ∧ x < 2147483648) (qy : -2147483648 ≤ y ∧ y < 2147483648)  : CTX l yX9_setNight wsX9_setNight rmX9_setNight g sz0 [.ref (A 0), .int (iI (x)), .int (iI (y))] hZ (fun v h' => tB ((0 ≤ x ∧ x ≤ 500) ∧ (0 ≤ y ∧ y ≤ 50)) = 0 ∧ v = none ∧ ST g A Z hZ mdata msize mends mmany mkind mchain mholds mnights mbits mleast mmost x y mmount mspeed mbid mbound mcheap mpromised mcoin mpaid mowed h') (fun E h' => ((E = "java/lang/IllegalArgumentException" ∧ tB ((0 ≤ x ∧ x ≤ 500) ∧ (0 ≤ y ∧ y ≤ 50)) = 1)) ∧ ST g A Z hZ mdata msize mends mmany mkind mchain mholds mnights mbits mleast mmost mroom mreserve mmount mspeed mbid mbound mcheap mpromised mcoin mpaid mowed h') := by
  refine CTX.of (by decide +kernel) rfl [some (.ref (A 0)), some (.int (iI (x))), some (.int (iI (y)))] rfl (Nat.le_of_ble_eq_true rfl) ?_
  intro p e s m args below meth c B hr hlk hout
  have hT0 := hT
  obtain ⟨hK, LE, RK1, RN, HK1, HN, CA, PV, CF, CN, Ha, hN, tq, G, Eg, sz, pt, wt, gt, pc, LN, lt, hC, hSub, hZn, hX, hM⟩ := hT
  have hN0 := hG.1
  obtain ⟨fc, hQC, hfc⟩ := hC.qc
  refine r_iload_n B dX9_setNight_0 rfl ?_
  refine r_iconst B dX9_setNight_1 ?_
  refine r_sipush B dX9_setNight_2 (by decide) ?_
  refine r_callSX (n := 3) B dX9_setNight_5 (ct_X9_needRange l g sz0 _ _ _ hl0 (by omega) (by omega) (by omega)) gX9_setNight_X9_needRange rfl (by decide +kernel) ⟨Nat.le_of_ble_eq_true rfl, Nat.le_of_ble_eq_true rfl⟩ rfl rfl (Nat.le_of_ble_eq_true rfl) (Nat.le_of_ble_eq_true rfl) (Nat.le_of_ble_eq_true rfl) (fun E h' hp => wx_out hout hlk ?_ (Nat.le_of_ble_eq_true rfl) (Nat.le_of_ble_eq_true rfl)) (fun v h' hp => ?_)
  · have hx9 := hp.2.2
    exact ⟨⟨hp.1, (tB_f (by omega))⟩, by rw [hp.2.1]; exact hT0⟩
  obtain ⟨hv, hh, hb1⟩ := hp
  subst v
  subst h'
  dsimp only [Option.toList, List.cons_append, List.nil_append]
  refine r_iload_n B dX9_setNight_8 rfl ?_
  refine r_iconst B dX9_setNight_9 ?_
  refine r_bipush B dX9_setNight_10 (by decide) ?_
  refine r_callSX (n := 3) B dX9_setNight_12 (ct_X9_needRange l g sz0 _ _ _ hl0 (by omega) (by omega) (by omega)) gX9_setNight_X9_needRange rfl (by decide +kernel) ⟨Nat.le_of_ble_eq_true rfl, Nat.le_of_ble_eq_true rfl⟩ rfl rfl (Nat.le_of_ble_eq_true rfl) (Nat.le_of_ble_eq_true rfl) (Nat.le_of_ble_eq_true rfl) (fun E h' hp => wx_out hout hlk ?_ (Nat.le_of_ble_eq_true rfl) (Nat.le_of_ble_eq_true rfl)) (fun v h' hp => ?_)
  · have hx9 := hp.2.2
    exact ⟨⟨hp.1, (tB_f (by omega))⟩, by rw [hp.2.1]; exact hT0⟩
  obtain ⟨hv, hh, hb2⟩ := hp
  subst v
  subst h'
  dsimp only [Option.toList, List.cons_append, List.nil_append]
  refine r_aload_n B dX9_setNight_15 rfl rfl ?_
  refine r_get (C := RX9) (T := TX9) (N := 6) (ci := 9) B dX9_setNight_16 in_X9_setNight_X9 rfl 3 (by decide) w_X9_setNight_f32 rfl hC.ro rfl ?_
  refine r_iload_n B dX9_setNight_19 rfl ?_
  refine r_put (C := RX6) (T := TX6) (N := 3) (ci := 6) B dX9_setNight_20 in_X9_setNight_X6 tyX6 tyX6_ok nmX6 rfl 1 (by decide) w_X9_setNight_f141 rfl rfl (ty := .int) (by decide +kernel) rfl rfl hC.mt (by show 1 < 3; decide) ?_
  refine k_next (P := fun x9 => CW g A hZ mnights mbits mleast mmost x mreserve mmount mspeed hN (ptr Ha hN 0) tq G Eg sz pt mbid mbound mcheap mpromised mcoin mpaid mowed wt gt pc LN lt x9) (hC.s_rm hA) (fun h hC => ?_)
  refine r_aload_n B dX9_setNight_23 rfl rfl ?_
  refine r_get (C := RX9) (T := TX9) (N := 6) (ci := 9) B dX9_setNight_24 in_X9_setNight_X9 rfl 3 (by decide) w_X9_setNight_f32 rfl hC.ro rfl ?_
  refine r_iload_n B dX9_setNight_27 rfl ?_
  refine r_put (C := RX6) (T := TX6) (N := 3) (ci := 6) B dX9_setNight_28 in_X9_setNight_X6 tyX6 tyX6_ok nmX6 rfl 2 (by decide) w_X9_setNight_f144 rfl rfl (ty := .int) (by decide +kernel) rfl rfl hC.mt (by show 2 < 3; decide) ?_
  refine k_next (P := fun x9 => CW g A hZ mnights mbits mleast mmost x y mmount mspeed hN (ptr Ha hN 0) tq G Eg sz pt mbid mbound mcheap mpromised mcoin mpaid mowed wt gt pc LN lt x9) (hC.s_rs hA) (fun h hC => ?_)
  exact x_ret (r_vret B hr hlk dX9_setNight_31 (Nat.le_of_ble_eq_true rfl) (Nat.le_of_ble_eq_true rfl) ⟨(tB_t (by omega)), rfl, ⟨hK, LE, RK1, RN, HK1, HN, CA, PV, CF, CN, Ha, hN, _, _, _, _, _, _, _, _, _, _, hC, (hC.sub2 hSub), hZn, hX, hM⟩⟩)
abbrev rmX9_setSpeed : Room := { frames := 7, cells := 2, slots := 12, locals := 122 }
theorem in_X9_setSpeed_X9 : ∀ w ∈ wsX90, w ∈ wsX9_setSpeed := by decide +kernel
theorem w_X9_setSpeed_f39 : Cond.fieldLink RX9 39 "DeltaNights" "recovery" "LDeltaNights$Recovery;" ∈ wsX9_setSpeed := by decide +kernel
theorem in_X9_setSpeed_X8 : ∀ w ∈ wsX80, w ∈ wsX9_setSpeed := by decide +kernel
theorem w_X9_setSpeed_f228 : Cond.fieldLink RX9 228 "DeltaNights$Recovery" "mount" "I" ∈ wsX9_setSpeed := by decide +kernel
theorem w_X9_setSpeed_f231 : Cond.fieldLink RX9 231 "DeltaNights$Recovery" "speed" "I" ∈ wsX9_setSpeed := by decide +kernel
set_option maxHeartbeats 4000000 in
set_option maxRecDepth 100000 in
theorem ct_X9_setSpeed (l : Launch) (g : GG) (sz0 : Nat) {A : Nat → Nat} {Z : Nat → Prop} (hA : AOK A) {hZ : AH} {mnights mbits mleast mmost mroom mreserve mmount mspeed : Int} {mdata msize mends mmany mkind mchain mholds mbid mbound mcheap mpromised mcoin mpaid mowed : Int → Int} (hT : ST g A Z hZ mdata msize mends mmany mkind mchain mholds mnights mbits mleast mmost mroom mreserve mmount mspeed mbid mbound mcheap mpromised mcoin mpaid mowed hZ) (hG : RGm mnights mbits mleast mmost mroom mreserve mmount mspeed msize mbid mbound mcheap mpromised mcoin mpaid mowed) (x y : Int) (hl0 : l.stackTraces = false) (qx : -2147483648 ≤ x ∧ x < 2147483648) (qy : -2147483648 ≤ y ∧ y < 2147483648)  : CTX l yX9_setSpeed wsX9_setSpeed rmX9_setSpeed g sz0 [.ref (A 0), .int (iI (x)), .int (iI (y))] hZ (fun v h' => tB ((0 ≤ x ∧ x ≤ 30) ∧ (1 ≤ y ∧ y ≤ 50)) = 0 ∧ v = none ∧ ST g A Z hZ mdata msize mends mmany mkind mchain mholds mnights mbits mleast mmost mroom mreserve x y mbid mbound mcheap mpromised mcoin mpaid mowed h') (fun E h' => ((E = "java/lang/IllegalArgumentException" ∧ tB ((0 ≤ x ∧ x ≤ 30) ∧ (1 ≤ y ∧ y ≤ 50)) = 1)) ∧ ST g A Z hZ mdata msize mends mmany mkind mchain mholds mnights mbits mleast mmost mroom mreserve mmount mspeed mbid mbound mcheap mpromised mcoin mpaid mowed h') := by
  refine CTX.of (by decide +kernel) rfl [some (.ref (A 0)), some (.int (iI (x))), some (.int (iI (y)))] rfl (Nat.le_of_ble_eq_true rfl) ?_
  intro p e s m args below meth c B hr hlk hout
  have hT0 := hT
  obtain ⟨hK, LE, RK1, RN, HK1, HN, CA, PV, CF, CN, Ha, hN, tq, G, Eg, sz, pt, wt, gt, pc, LN, lt, hC, hSub, hZn, hX, hM⟩ := hT
  have hN0 := hG.1
  obtain ⟨fc, hQC, hfc⟩ := hC.qc
  refine r_iload_n B dX9_setSpeed_0 rfl ?_
  refine r_iconst B dX9_setSpeed_1 ?_
  refine r_bipush B dX9_setSpeed_2 (by decide) ?_
  refine r_callSX (n := 3) B dX9_setSpeed_4 (ct_X9_needRange l g sz0 _ _ _ hl0 (by omega) (by omega) (by omega)) gX9_setSpeed_X9_needRange rfl (by decide +kernel) ⟨Nat.le_of_ble_eq_true rfl, Nat.le_of_ble_eq_true rfl⟩ rfl rfl (Nat.le_of_ble_eq_true rfl) (Nat.le_of_ble_eq_true rfl) (Nat.le_of_ble_eq_true rfl) (fun E h' hp => wx_out hout hlk ?_ (Nat.le_of_ble_eq_true rfl) (Nat.le_of_ble_eq_true rfl)) (fun v h' hp => ?_)
  · have hx9 := hp.2.2
    exact ⟨⟨hp.1, (tB_f (by omega))⟩, by rw [hp.2.1]; exact hT0⟩
  obtain ⟨hv, hh, hb1⟩ := hp
  subst v
  subst h'
  dsimp only [Option.toList, List.cons_append, List.nil_append]
  refine r_iload_n B dX9_setSpeed_7 rfl ?_
  refine r_iconst B dX9_setSpeed_8 ?_
  refine r_bipush B dX9_setSpeed_9 (by decide) ?_
  refine r_callSX (n := 3) B dX9_setSpeed_11 (ct_X9_needRange l g sz0 _ _ _ hl0 (by omega) (by omega) (by omega)) gX9_setSpeed_X9_needRange rfl (by decide +kernel) ⟨Nat.le_of_ble_eq_true rfl, Nat.le_of_ble_eq_true rfl⟩ rfl rfl (Nat.le_of_ble_eq_true rfl) (Nat.le_of_ble_eq_true rfl) (Nat.le_of_ble_eq_true rfl) (fun E h' hp => wx_out hout hlk ?_ (Nat.le_of_ble_eq_true rfl) (Nat.le_of_ble_eq_true rfl)) (fun v h' hp => ?_)
  · have hx9 := hp.2.2
    exact ⟨⟨hp.1, (tB_f (by omega))⟩, by rw [hp.2.1]; exact hT0⟩
  obtain ⟨hv, hh, hb2⟩ := hp
  subst v
  subst h'
  dsimp only [Option.toList, List.cons_append, List.nil_append]
  refine r_aload_n B dX9_setSpeed_14 rfl rfl ?_
  refine r_get (C := RX9) (T := TX9) (N := 6) (ci := 9) B dX9_setSpeed_15 in_X9_setSpeed_X9 rfl 4 (by decide) w_X9_setSpeed_f39 rfl hC.ro rfl ?_
  refine r_iload_n B dX9_setSpeed_18 rfl ?_
  refine r_put (C := RX8) (T := TX8) (N := 2) (ci := 8) B dX9_setSpeed_19 in_X9_setSpeed_X8 tyX8 tyX8_ok nmX8 rfl 0 (by decide) w_X9_setSpeed_f228 rfl rfl (ty := .int) (by decide +kernel) rfl rfl hC.rc (by show 0 < 2; decide) ?_
  refine k_next (P := fun x9 => CW g A hZ mnights mbits mleast mmost mroom mreserve x mspeed hN (ptr Ha hN 0) tq G Eg sz pt mbid mbound mcheap mpromised mcoin mpaid mowed wt gt pc LN lt x9) (hC.s_mo hA) (fun h hC => ?_)
  refine r_aload_n B dX9_setSpeed_22 rfl rfl ?_
  refine r_get (C := RX9) (T := TX9) (N := 6) (ci := 9) B dX9_setSpeed_23 in_X9_setSpeed_X9 rfl 4 (by decide) w_X9_setSpeed_f39 rfl hC.ro rfl ?_
  refine r_iload_n B dX9_setSpeed_26 rfl ?_
  refine r_put (C := RX8) (T := TX8) (N := 2) (ci := 8) B dX9_setSpeed_27 in_X9_setSpeed_X8 tyX8 tyX8_ok nmX8 rfl 1 (by decide) w_X9_setSpeed_f231 rfl rfl (ty := .int) (by decide +kernel) rfl rfl hC.rc (by show 1 < 2; decide) ?_
  refine k_next (P := fun x9 => CW g A hZ mnights mbits mleast mmost mroom mreserve x y hN (ptr Ha hN 0) tq G Eg sz pt mbid mbound mcheap mpromised mcoin mpaid mowed wt gt pc LN lt x9) (hC.s_sp hA) (fun h hC => ?_)
  exact x_ret (r_vret B hr hlk dX9_setSpeed_30 (Nat.le_of_ble_eq_true rfl) (Nat.le_of_ble_eq_true rfl) ⟨(tB_t (by omega)), rfl, ⟨hK, LE, RK1, RN, HK1, HN, CA, PV, CF, CN, Ha, hN, _, _, _, _, _, _, _, _, _, _, hC, (hC.sub2 hSub), hZn, hX, hM⟩⟩)
abbrev rmX9_bid : Room := { frames := 7, cells := 2, slots := 12, locals := 122 }
theorem in_X9_bid_X3 : ∀ w ∈ wsX30, w ∈ wsX9_bid := by decide +kernel
theorem w_X9_bid_f147 : Cond.fieldLink RX9 147 "DeltaNights$Client" "bid" "I" ∈ wsX9_bid := by decide +kernel
set_option maxHeartbeats 4000000 in
set_option maxRecDepth 100000 in
theorem ct_X9_bid (l : Launch) (g : GG) (sz0 : Nat) {A : Nat → Nat} {Z : Nat → Prop} (hA : AOK A) {hZ : AH} {mnights mbits mleast mmost mroom mreserve mmount mspeed : Int} {mdata msize mends mmany mkind mchain mholds mbid mbound mcheap mpromised mcoin mpaid mowed : Int → Int} (hT : ST g A Z hZ mdata msize mends mmany mkind mchain mholds mnights mbits mleast mmost mroom mreserve mmount mspeed mbid mbound mcheap mpromised mcoin mpaid mowed hZ) (hG : RGm mnights mbits mleast mmost mroom mreserve mmount mspeed msize mbid mbound mcheap mpromised mcoin mpaid mowed) (x y : Int) (hl0 : l.stackTraces = false) (qx : -2147483648 ≤ x ∧ x < 2147483648) (qy : -2147483648 ≤ y ∧ y < 2147483648)  : CTX l yX9_bid wsX9_bid rmX9_bid g sz0 [.ref (A 0), .int (iI (x)), .int (iI (y))] hZ (fun v h' => tB ((0 ≤ x ∧ x ≤ 3) ∧ (0 ≤ y ∧ y ≤ 100)) = 0 ∧ v = some (.int (iI (mbid x))) ∧ ST g A Z hZ mdata msize mends mmany mkind mchain mholds mnights mbits mleast mmost mroom mreserve mmount mspeed (upZ mbid x y) mbound mcheap mpromised mcoin mpaid mowed h') (fun E h' => ((E = "java/lang/IllegalArgumentException" ∧ tB ((0 ≤ x ∧ x ≤ 3) ∧ (0 ≤ y ∧ y ≤ 100)) = 1)) ∧ ST g A Z hZ mdata msize mends mmany mkind mchain mholds mnights mbits mleast mmost mroom mreserve mmount mspeed mbid mbound mcheap mpromised mcoin mpaid mowed h') := by
  refine CTX.of (by decide +kernel) rfl [some (.ref (A 0)), some (.int (iI (x))), some (.int (iI (y))), none, none] rfl (Nat.le_of_ble_eq_true rfl) ?_
  intro p e s m args below meth c B hr hlk hout
  have hT0 := hT
  obtain ⟨hK, LE, RK1, RN, HK1, HN, CA, PV, CF, CN, Ha, hN, tq, G, Eg, sz, pt, wt, gt, pc, LN, lt, hC, hSub, hZn, hX, hM⟩ := hT
  have hN0 := hG.1
  obtain ⟨fc, hQC, hfc⟩ := hC.qc
  refine r_aload_n B dX9_bid_0 rfl rfl ?_
  refine r_iload_n B dX9_bid_1 rfl ?_
  refine r_callVX (n := 1) B dX9_bid_2 (ct_X9_clientOf l g sz0 hC.ro hQC hfc _ hl0 (by omega)) gX9_bid_X9_clientOf rfl (by decide +kernel) ⟨Nat.le_of_ble_eq_true rfl, Nat.le_of_ble_eq_true rfl⟩ hC.ro rfl rfl rfl (Nat.le_of_ble_eq_true rfl) (Nat.le_of_ble_eq_true rfl) (Nat.le_of_ble_eq_true rfl) (fun E h' hp => wx_out hout hlk ?_ (Nat.le_of_ble_eq_true rfl) (Nat.le_of_ble_eq_true rfl)) (fun v h' hp => ?_)
  · have hx9 := hp.2.2
    exact ⟨⟨hp.1, (tB_f (by omega))⟩, by rw [hp.2.1]; exact hT0⟩
  obtain ⟨hv, hh, hb1⟩ := hp
  subst v
  subst h'
  dsimp only [Option.toList, List.cons_append, List.nil_append]
  refine r_astore_n B dX9_bid_5 rfl rfl (by decide) (lcat_v rfl rfl) ?_
  refine r_iload_n B dX9_bid_6 rfl ?_
  refine r_iconst B dX9_bid_7 ?_
  refine r_bipush B dX9_bid_8 (by decide) ?_
  refine r_callSX (n := 3) B dX9_bid_10 (ct_X9_needRange l g sz0 _ _ _ hl0 (by omega) (by omega) (by omega)) gX9_bid_X9_needRange rfl (by decide +kernel) ⟨Nat.le_of_ble_eq_true rfl, Nat.le_of_ble_eq_true rfl⟩ rfl rfl (Nat.le_of_ble_eq_true rfl) (Nat.le_of_ble_eq_true rfl) (Nat.le_of_ble_eq_true rfl) (fun E h' hp => wx_out hout hlk ?_ (Nat.le_of_ble_eq_true rfl) (Nat.le_of_ble_eq_true rfl)) (fun v h' hp => ?_)
  · have hx9 := hp.2.2
    exact ⟨⟨hp.1, (tB_f (by omega))⟩, by rw [hp.2.1]; exact hT0⟩
  obtain ⟨hv, hh, hb2⟩ := hp
  subst v
  subst h'
  dsimp only [Option.toList, List.cons_append, List.nil_append]
  refine r_aload_n B dX9_bid_13 rfl rfl ?_
  have hbd9 := (hG.2.2.2.2.1 x hb1.1 hb1.2).1
  refine r_get (C := RX3) (T := TX3) (N := 13) (ci := 3) B dX9_bid_14 in_X9_bid_X3 rfl 3 (by decide) w_X9_bid_f147 rfl (hC.cl hb1.1 hb1.2) rfl ?_
  refine r_istore B dX9_bid_17 (by decide) (lcat_v rfl rfl) ?_
  refine r_aload_n B dX9_bid_19 rfl rfl ?_
  refine r_iload_n B dX9_bid_20 rfl ?_
  refine r_put (C := RX3) (T := TX3) (N := 13) (ci := 3) B dX9_bid_21 in_X9_bid_X3 tyX3 tyX3_ok nmX3 rfl 3 (by decide) w_X9_bid_f147 rfl rfl (ty := .int) (by decide +kernel) rfl rfl (hC.cl hb1.1 hb1.2) (by show 3 < 13; decide) ?_
  refine k_next (P := fun x9 => CW g A hZ mnights mbits mleast mmost mroom mreserve mmount mspeed hN (ptr Ha hN 0) tq G Eg sz pt (upZ mbid x y) mbound mcheap mpromised mcoin mpaid mowed wt gt pc LN lt x9) (hC.s_bd hA hb1.1 hb1.2) (fun h hC => ?_)
  refine r_iload B dX9_bid_24 rfl ?_
  exact x_ret (r_iret B hr hlk dX9_bid_26 (Nat.le_of_ble_eq_true rfl) (Nat.le_of_ble_eq_true rfl) ⟨(tB_t (by omega)), rfl, ⟨hK, LE, RK1, RN, HK1, HN, CA, PV, CF, CN, Ha, hN, _, _, _, _, _, _, _, _, _, _, hC, (hC.sub2 hSub), hZn, hX, hM⟩⟩)
abbrev rmX9_setChain : Room := { frames := 7, cells := 3, slots := 18, locals := 122 }
theorem in_X9_setChain_X3 : ∀ w ∈ wsX30, w ∈ wsX9_setChain := by decide +kernel
theorem w_X9_setChain_f150 : Cond.fieldLink RX9 150 "DeltaNights$Client" "bound" "I" ∈ wsX9_setChain := by decide +kernel
theorem w_X9_setChain_f153 : Cond.fieldLink RX9 153 "DeltaNights$Client" "cheap" "I" ∈ wsX9_setChain := by decide +kernel
set_option maxHeartbeats 4000000 in
set_option maxRecDepth 100000 in
theorem ct_X9_setChain (l : Launch) (g : GG) (sz0 : Nat) {A : Nat → Nat} {Z : Nat → Prop} (hA : AOK A) {hZ : AH} {mnights mbits mleast mmost mroom mreserve mmount mspeed : Int} {mdata msize mends mmany mkind mchain mholds mbid mbound mcheap mpromised mcoin mpaid mowed : Int → Int} (hT : ST g A Z hZ mdata msize mends mmany mkind mchain mholds mnights mbits mleast mmost mroom mreserve mmount mspeed mbid mbound mcheap mpromised mcoin mpaid mowed hZ) (hG : RGm mnights mbits mleast mmost mroom mreserve mmount mspeed msize mbid mbound mcheap mpromised mcoin mpaid mowed) (x y z : Int) (hl0 : l.stackTraces = false) (qx : -2147483648 ≤ x ∧ x < 2147483648) (qy : -2147483648 ≤ y ∧ y < 2147483648) (qz : -2147483648 ≤ z ∧ z < 2147483648)  : CTX l yX9_setChain wsX9_setChain rmX9_setChain g sz0 [.ref (A 0), .int (iI (x)), .int (iI (y)), .int (iI (z))] hZ (fun v h' => tB ((0 ≤ x ∧ x ≤ 3) ∧ (0 ≤ y ∧ y ≤ 30) ∧ (0 ≤ z ∧ z ≤ 50)) = 0 ∧ v = none ∧ ST g A Z hZ mdata msize mends mmany mkind mchain mholds mnights mbits mleast mmost mroom mreserve mmount mspeed mbid (upZ mbound x y) (upZ mcheap x z) mpromised mcoin mpaid mowed h') (fun E h' => ((E = "java/lang/IllegalArgumentException" ∧ tB ((0 ≤ x ∧ x ≤ 3) ∧ (0 ≤ y ∧ y ≤ 30) ∧ (0 ≤ z ∧ z ≤ 50)) = 1)) ∧ ST g A Z hZ mdata msize mends mmany mkind mchain mholds mnights mbits mleast mmost mroom mreserve mmount mspeed mbid mbound mcheap mpromised mcoin mpaid mowed h') := by
  refine CTX.of (by decide +kernel) rfl [some (.ref (A 0)), some (.int (iI (x))), some (.int (iI (y))), some (.int (iI (z))), none] rfl (Nat.le_of_ble_eq_true rfl) ?_
  intro p e s m args below meth c B hr hlk hout
  have hT0 := hT
  obtain ⟨hK, LE, RK1, RN, HK1, HN, CA, PV, CF, CN, Ha, hN, tq, G, Eg, sz, pt, wt, gt, pc, LN, lt, hC, hSub, hZn, hX, hM⟩ := hT
  have hN0 := hG.1
  obtain ⟨fc, hQC, hfc⟩ := hC.qc
  refine r_aload_n B dX9_setChain_0 rfl rfl ?_
  refine r_iload_n B dX9_setChain_1 rfl ?_
  refine r_callVX (n := 1) B dX9_setChain_2 (ct_X9_clientOf l g sz0 hC.ro hQC hfc _ hl0 (by omega)) gX9_setChain_X9_clientOf rfl (by decide +kernel) ⟨Nat.le_of_ble_eq_true rfl, Nat.le_of_ble_eq_true rfl⟩ hC.ro rfl rfl rfl (Nat.le_of_ble_eq_true rfl) (Nat.le_of_ble_eq_true rfl) (Nat.le_of_ble_eq_true rfl) (fun E h' hp => wx_out hout hlk ?_ (Nat.le_of_ble_eq_true rfl) (Nat.le_of_ble_eq_true rfl)) (fun v h' hp => ?_)
  · have hx9 := hp.2.2
    exact ⟨⟨hp.1, (tB_f (by omega))⟩, by rw [hp.2.1]; exact hT0⟩
  obtain ⟨hv, hh, hb1⟩ := hp
  subst v
  subst h'
  dsimp only [Option.toList, List.cons_append, List.nil_append]
  refine r_astore B dX9_setChain_5 rfl (by decide) (lcat_v rfl rfl) ?_
  refine r_iload_n B dX9_setChain_7 rfl ?_
  refine r_iconst B dX9_setChain_8 ?_
  refine r_bipush B dX9_setChain_9 (by decide) ?_
  refine r_callSX (n := 3) B dX9_setChain_11 (ct_X9_needRange l g sz0 _ _ _ hl0 (by omega) (by omega) (by omega)) gX9_setChain_X9_needRange rfl (by decide +kernel) ⟨Nat.le_of_ble_eq_true rfl, Nat.le_of_ble_eq_true rfl⟩ rfl rfl (Nat.le_of_ble_eq_true rfl) (Nat.le_of_ble_eq_true rfl) (Nat.le_of_ble_eq_true rfl) (fun E h' hp => wx_out hout hlk ?_ (Nat.le_of_ble_eq_true rfl) (Nat.le_of_ble_eq_true rfl)) (fun v h' hp => ?_)
  · have hx9 := hp.2.2
    exact ⟨⟨hp.1, (tB_f (by omega))⟩, by rw [hp.2.1]; exact hT0⟩
  obtain ⟨hv, hh, hb2⟩ := hp
  subst v
  subst h'
  dsimp only [Option.toList, List.cons_append, List.nil_append]
  refine r_iload_n B dX9_setChain_14 rfl ?_
  refine r_iconst B dX9_setChain_15 ?_
  refine r_bipush B dX9_setChain_16 (by decide) ?_
  refine r_callSX (n := 3) B dX9_setChain_18 (ct_X9_needRange l g sz0 _ _ _ hl0 (by omega) (by omega) (by omega)) gX9_setChain_X9_needRange rfl (by decide +kernel) ⟨Nat.le_of_ble_eq_true rfl, Nat.le_of_ble_eq_true rfl⟩ rfl rfl (Nat.le_of_ble_eq_true rfl) (Nat.le_of_ble_eq_true rfl) (Nat.le_of_ble_eq_true rfl) (fun E h' hp => wx_out hout hlk ?_ (Nat.le_of_ble_eq_true rfl) (Nat.le_of_ble_eq_true rfl)) (fun v h' hp => ?_)
  · have hx9 := hp.2.2
    exact ⟨⟨hp.1, (tB_f (by omega))⟩, by rw [hp.2.1]; exact hT0⟩
  obtain ⟨hv, hh, hb3⟩ := hp
  subst v
  subst h'
  dsimp only [Option.toList, List.cons_append, List.nil_append]
  refine r_aload B dX9_setChain_21 rfl rfl ?_
  refine r_iload_n B dX9_setChain_23 rfl ?_
  refine r_put (C := RX3) (T := TX3) (N := 13) (ci := 3) B dX9_setChain_24 in_X9_setChain_X3 tyX3 tyX3_ok nmX3 rfl 4 (by decide) w_X9_setChain_f150 rfl rfl (ty := .int) (by decide +kernel) rfl rfl (hC.cl hb1.1 hb1.2) (by show 4 < 13; decide) ?_
  refine k_next (P := fun x9 => CW g A hZ mnights mbits mleast mmost mroom mreserve mmount mspeed hN (ptr Ha hN 0) tq G Eg sz pt mbid (upZ mbound x y) mcheap mpromised mcoin mpaid mowed wt gt pc LN lt x9) (hC.s_bo hA hb1.1 hb1.2) (fun h hC => ?_)
  refine r_aload B dX9_setChain_27 rfl rfl ?_
  refine r_iload_n B dX9_setChain_29 rfl ?_
  refine r_put (C := RX3) (T := TX3) (N := 13) (ci := 3) B dX9_setChain_30 in_X9_setChain_X3 tyX3 tyX3_ok nmX3 rfl 5 (by decide) w_X9_setChain_f153 rfl rfl (ty := .int) (by decide +kernel) rfl rfl (hC.cl hb1.1 hb1.2) (by show 5 < 13; decide) ?_
  refine k_next (P := fun x9 => CW g A hZ mnights mbits mleast mmost mroom mreserve mmount mspeed hN (ptr Ha hN 0) tq G Eg sz pt mbid (upZ mbound x y) (upZ mcheap x z) mpromised mcoin mpaid mowed wt gt pc LN lt x9) (hC.s_cp hA hb1.1 hb1.2) (fun h hC => ?_)
  exact x_ret (r_vret B hr hlk dX9_setChain_33 (Nat.le_of_ble_eq_true rfl) (Nat.le_of_ble_eq_true rfl) ⟨(tB_t (by omega)), rfl, ⟨hK, LE, RK1, RN, HK1, HN, CA, PV, CF, CN, Ha, hN, _, _, _, _, _, _, _, _, _, _, hC, (hC.sub2 hSub), hZn, hX, hM⟩⟩)
abbrev rmX9_promise : Room := { frames := 7, cells := 3, slots := 18, locals := 122 }
theorem in_X9_promise_X3 : ∀ w ∈ wsX30, w ∈ wsX9_promise := by decide +kernel
theorem w_X9_promise_f246 : Cond.fieldLink RX9 246 "DeltaNights$Client" "promised" "I" ∈ wsX9_promise := by decide +kernel
theorem w_X9_promise_f249 : Cond.fieldLink RX9 249 "DeltaNights$Client" "coin" "I" ∈ wsX9_promise := by decide +kernel
set_option maxHeartbeats 4000000 in
set_option maxRecDepth 100000 in
theorem ct_X9_promise (l : Launch) (g : GG) (sz0 : Nat) {A : Nat → Nat} {Z : Nat → Prop} (hA : AOK A) {hZ : AH} {mnights mbits mleast mmost mroom mreserve mmount mspeed : Int} {mdata msize mends mmany mkind mchain mholds mbid mbound mcheap mpromised mcoin mpaid mowed : Int → Int} (hT : ST g A Z hZ mdata msize mends mmany mkind mchain mholds mnights mbits mleast mmost mroom mreserve mmount mspeed mbid mbound mcheap mpromised mcoin mpaid mowed hZ) (hG : RGm mnights mbits mleast mmost mroom mreserve mmount mspeed msize mbid mbound mcheap mpromised mcoin mpaid mowed) (x y z : Int) (hl0 : l.stackTraces = false) (qx : -2147483648 ≤ x ∧ x < 2147483648) (qy : -2147483648 ≤ y ∧ y < 2147483648) (qz : -2147483648 ≤ z ∧ z < 2147483648)  : CTX l yX9_promise wsX9_promise rmX9_promise g sz0 [.ref (A 0), .int (iI (x)), .int (iI (y)), .int (iI (z))] hZ (fun v h' => tB ((0 ≤ x ∧ x ≤ 3) ∧ (0 ≤ y ∧ y ≤ 600) ∧ (0 ≤ z ∧ z ≤ 100)) = 0 ∧ v = none ∧ ST g A Z hZ mdata msize mends mmany mkind mchain mholds mnights mbits mleast mmost mroom mreserve mmount mspeed mbid mbound mcheap (upZ mpromised x y) (upZ mcoin x z) mpaid mowed h') (fun E h' => ((E = "java/lang/IllegalArgumentException" ∧ tB ((0 ≤ x ∧ x ≤ 3) ∧ (0 ≤ y ∧ y ≤ 600) ∧ (0 ≤ z ∧ z ≤ 100)) = 1)) ∧ ST g A Z hZ mdata msize mends mmany mkind mchain mholds mnights mbits mleast mmost mroom mreserve mmount mspeed mbid mbound mcheap mpromised mcoin mpaid mowed h') := by
  refine CTX.of (by decide +kernel) rfl [some (.ref (A 0)), some (.int (iI (x))), some (.int (iI (y))), some (.int (iI (z))), none] rfl (Nat.le_of_ble_eq_true rfl) ?_
  intro p e s m args below meth c B hr hlk hout
  have hT0 := hT
  obtain ⟨hK, LE, RK1, RN, HK1, HN, CA, PV, CF, CN, Ha, hN, tq, G, Eg, sz, pt, wt, gt, pc, LN, lt, hC, hSub, hZn, hX, hM⟩ := hT
  have hN0 := hG.1
  obtain ⟨fc, hQC, hfc⟩ := hC.qc
  refine r_aload_n B dX9_promise_0 rfl rfl ?_
  refine r_iload_n B dX9_promise_1 rfl ?_
  refine r_callVX (n := 1) B dX9_promise_2 (ct_X9_clientOf l g sz0 hC.ro hQC hfc _ hl0 (by omega)) gX9_promise_X9_clientOf rfl (by decide +kernel) ⟨Nat.le_of_ble_eq_true rfl, Nat.le_of_ble_eq_true rfl⟩ hC.ro rfl rfl rfl (Nat.le_of_ble_eq_true rfl) (Nat.le_of_ble_eq_true rfl) (Nat.le_of_ble_eq_true rfl) (fun E h' hp => wx_out hout hlk ?_ (Nat.le_of_ble_eq_true rfl) (Nat.le_of_ble_eq_true rfl)) (fun v h' hp => ?_)
  · have hx9 := hp.2.2
    exact ⟨⟨hp.1, (tB_f (by omega))⟩, by rw [hp.2.1]; exact hT0⟩
  obtain ⟨hv, hh, hb1⟩ := hp
  subst v
  subst h'
  dsimp only [Option.toList, List.cons_append, List.nil_append]
  refine r_astore B dX9_promise_5 rfl (by decide) (lcat_v rfl rfl) ?_
  refine r_iload_n B dX9_promise_7 rfl ?_
  refine r_iconst B dX9_promise_8 ?_
  refine r_sipush B dX9_promise_9 (by decide) ?_
  refine r_callSX (n := 3) B dX9_promise_12 (ct_X9_needRange l g sz0 _ _ _ hl0 (by omega) (by omega) (by omega)) gX9_promise_X9_needRange rfl (by decide +kernel) ⟨Nat.le_of_ble_eq_true rfl, Nat.le_of_ble_eq_true rfl⟩ rfl rfl (Nat.le_of_ble_eq_true rfl) (Nat.le_of_ble_eq_true rfl) (Nat.le_of_ble_eq_true rfl) (fun E h' hp => wx_out hout hlk ?_ (Nat.le_of_ble_eq_true rfl) (Nat.le_of_ble_eq_true rfl)) (fun v h' hp => ?_)
  · have hx9 := hp.2.2
    exact ⟨⟨hp.1, (tB_f (by omega))⟩, by rw [hp.2.1]; exact hT0⟩
  obtain ⟨hv, hh, hb2⟩ := hp
  subst v
  subst h'
  dsimp only [Option.toList, List.cons_append, List.nil_append]
  refine r_iload_n B dX9_promise_15 rfl ?_
  refine r_iconst B dX9_promise_16 ?_
  refine r_bipush B dX9_promise_17 (by decide) ?_
  refine r_callSX (n := 3) B dX9_promise_19 (ct_X9_needRange l g sz0 _ _ _ hl0 (by omega) (by omega) (by omega)) gX9_promise_X9_needRange rfl (by decide +kernel) ⟨Nat.le_of_ble_eq_true rfl, Nat.le_of_ble_eq_true rfl⟩ rfl rfl (Nat.le_of_ble_eq_true rfl) (Nat.le_of_ble_eq_true rfl) (Nat.le_of_ble_eq_true rfl) (fun E h' hp => wx_out hout hlk ?_ (Nat.le_of_ble_eq_true rfl) (Nat.le_of_ble_eq_true rfl)) (fun v h' hp => ?_)
  · have hx9 := hp.2.2
    exact ⟨⟨hp.1, (tB_f (by omega))⟩, by rw [hp.2.1]; exact hT0⟩
  obtain ⟨hv, hh, hb3⟩ := hp
  subst v
  subst h'
  dsimp only [Option.toList, List.cons_append, List.nil_append]
  refine r_aload B dX9_promise_22 rfl rfl ?_
  refine r_iload_n B dX9_promise_24 rfl ?_
  refine r_put (C := RX3) (T := TX3) (N := 13) (ci := 3) B dX9_promise_25 in_X9_promise_X3 tyX3 tyX3_ok nmX3 rfl 6 (by decide) w_X9_promise_f246 rfl rfl (ty := .int) (by decide +kernel) rfl rfl (hC.cl hb1.1 hb1.2) (by show 6 < 13; decide) ?_
  refine k_next (P := fun x9 => CW g A hZ mnights mbits mleast mmost mroom mreserve mmount mspeed hN (ptr Ha hN 0) tq G Eg sz pt mbid mbound mcheap (upZ mpromised x y) mcoin mpaid mowed wt gt pc LN lt x9) (hC.s_pr hA hb1.1 hb1.2) (fun h hC => ?_)
  refine r_aload B dX9_promise_28 rfl rfl ?_
  refine r_iload_n B dX9_promise_30 rfl ?_
  refine r_put (C := RX3) (T := TX3) (N := 13) (ci := 3) B dX9_promise_31 in_X9_promise_X3 tyX3 tyX3_ok nmX3 rfl 7 (by decide) w_X9_promise_f249 rfl rfl (ty := .int) (by decide +kernel) rfl rfl (hC.cl hb1.1 hb1.2) (by show 7 < 13; decide) ?_
  refine k_next (P := fun x9 => CW g A hZ mnights mbits mleast mmost mroom mreserve mmount mspeed hN (ptr Ha hN 0) tq G Eg sz pt mbid mbound mcheap (upZ mpromised x y) (upZ mcoin x z) mpaid mowed wt gt pc LN lt x9) (hC.s_co hA hb1.1 hb1.2) (fun h hC => ?_)
  exact x_ret (r_vret B hr hlk dX9_promise_34 (Nat.le_of_ble_eq_true rfl) (Nat.le_of_ble_eq_true rfl) ⟨(tB_t (by omega)), rfl, ⟨hK, LE, RK1, RN, HK1, HN, CA, PV, CF, CN, Ha, hN, _, _, _, _, _, _, _, _, _, _, hC, (hC.sub2 hSub), hZn, hX, hM⟩⟩)
