abbrev rmX9_length : Room := { frames := 7, cells := 1, slots := 6, locals := 122 }
theorem in_X9_length_X3 : ∀ w ∈ wsX30, w ∈ wsX9_length := by decide +kernel
theorem w_X9_length_f52 : Cond.fieldLink RX9 52 "DeltaNights$Client" "file" "LDeltaNights$ByteFile;" ∈ wsX9_length := by decide +kernel
theorem in_X9_length_X0 : ∀ w ∈ wsX00, w ∈ wsX9_length := by decide +kernel
theorem w_X9_length_f60 : Cond.fieldLink RX9 60 "DeltaNights$ByteFile" "size" "I" ∈ wsX9_length := by decide +kernel
set_option maxHeartbeats 4000000 in
set_option maxRecDepth 100000 in
theorem ct_X9_length (l : Launch) (g : GG) (sz0 : Nat) {A : Nat → Nat} {Z : Nat → Prop} (hA : AOK A) {h : AH} {mnights mbits mleast mmost mroom mreserve mmount mspeed : Int} {mdata msize mends mmany mkind mchain mholds mbid mbound mcheap mpromised mcoin mpaid mowed : Int → Int} (hT : ST g A Z h mdata msize mends mmany mkind mchain mholds mnights mbits mleast mmost mroom mreserve mmount mspeed mbid mbound mcheap mpromised mcoin mpaid mowed h) (hG : RGm mnights mbits mleast mmost mroom mreserve mmount mspeed msize mbid mbound mcheap mpromised mcoin mpaid mowed) (x : Int) (hl0 : l.stackTraces = false) (qx : -2147483648 ≤ x ∧ x < 2147483648)  : CTX l yX9_length wsX9_length rmX9_length g sz0 [.ref (A 0), .int (iI (x))] h (fun v h' => tCl x = 0 ∧ v = some (.int (iI (msize (240 + x)))) ∧ ST g A Z h mdata msize mends mmany mkind mchain mholds mnights mbits mleast mmost mroom mreserve mmount mspeed mbid mbound mcheap mpromised mcoin mpaid mowed h') (fun E h' => ((E = "java/lang/IllegalArgumentException" ∧ tCl x = 1)) ∧ ST g A Z h mdata msize mends mmany mkind mchain mholds mnights mbits mleast mmost mroom mreserve mmount mspeed mbid mbound mcheap mpromised mcoin mpaid mowed h') := by
  refine CTX.of (by decide +kernel) rfl [some (.ref (A 0)), some (.int (iI (x)))] rfl (Nat.le_of_ble_eq_true rfl) ?_
  intro p e s m args below meth c B hr hlk hout
  have hT0 := hT
  obtain ⟨hK, LE, RK1, RN, HK1, HN, CA, PV, CF, CN, Ha, hN, tq, G, Eg, sz, pt, wt, gt, pc, LN, lt, hC, hSub, hZn, hX, hM⟩ := hT
  have hN0 := hG.1
  obtain ⟨fc, hQC, hfc⟩ := hC.qc
  refine r_aload_n B dX9_length_0 rfl rfl ?_
  refine r_iload_n B dX9_length_1 rfl ?_
  refine r_callVX (n := 1) B dX9_length_2 (ct_X9_clientOf l g sz0 hC.ro hQC hfc _ hl0 (by omega)) gX9_length_X9_clientOf rfl (by decide +kernel) ⟨Nat.le_of_ble_eq_true rfl, Nat.le_of_ble_eq_true rfl⟩ hC.ro rfl rfl rfl (Nat.le_of_ble_eq_true rfl) (Nat.le_of_ble_eq_true rfl) (Nat.le_of_ble_eq_true rfl) (fun E h' hp => wx_out hout hlk ?_ (Nat.le_of_ble_eq_true rfl) (Nat.le_of_ble_eq_true rfl)) (fun v h' hp => ?_)
  · have hx9 := hp.2.2
    exact ⟨⟨hp.1, (by unfold tCl; (repeat' split) <;> omega)⟩, by rw [hp.2.1]; exact hT0⟩
  obtain ⟨hv, hh, hb1⟩ := hp
  subst v
  subst h'
  dsimp only [Option.toList, List.cons_append, List.nil_append]
  refine r_get (C := RX3) (T := TX3) (N := 13) (ci := 3) B dX9_length_5 in_X9_length_X3 rfl 0 (by decide) w_X9_length_f52 rfl (hC.cl hb1.1 hb1.2) rfl ?_
  refine r_get (C := RX0) (T := TX0) (N := 4) (ci := 0) B dX9_length_8 in_X9_length_X0 rfl 2 (by decide) w_X9_length_f60 rfl (hC.fl hb1.1 hb1.2).1 rfl ?_
  exact x_ret (r_iret B hr hlk dX9_length_11 (Nat.le_of_ble_eq_true rfl) (Nat.le_of_ble_eq_true rfl) ⟨(by unfold tCl; (repeat' split) <;> omega), by rw [(hM.1 x hb1.1 hb1.2).1], hT0⟩)
abbrev rmX9_paid : Room := { frames := 7, cells := 1, slots := 6, locals := 122 }
theorem in_X9_paid_X3 : ∀ w ∈ wsX30, w ∈ wsX9_paid := by decide +kernel
theorem w_X9_paid_f260 : Cond.fieldLink RX9 260 "DeltaNights$Client" "paid" "I" ∈ wsX9_paid := by decide +kernel
set_option maxHeartbeats 4000000 in
set_option maxRecDepth 100000 in
theorem ct_X9_paid (l : Launch) (g : GG) (sz0 : Nat) {A : Nat → Nat} {Z : Nat → Prop} (hA : AOK A) {h : AH} {mnights mbits mleast mmost mroom mreserve mmount mspeed : Int} {mdata msize mends mmany mkind mchain mholds mbid mbound mcheap mpromised mcoin mpaid mowed : Int → Int} (hT : ST g A Z h mdata msize mends mmany mkind mchain mholds mnights mbits mleast mmost mroom mreserve mmount mspeed mbid mbound mcheap mpromised mcoin mpaid mowed h) (hG : RGm mnights mbits mleast mmost mroom mreserve mmount mspeed msize mbid mbound mcheap mpromised mcoin mpaid mowed) (x : Int) (hl0 : l.stackTraces = false) (qx : -2147483648 ≤ x ∧ x < 2147483648)  : CTX l yX9_paid wsX9_paid rmX9_paid g sz0 [.ref (A 0), .int (iI (x))] h (fun v h' => tCl x = 0 ∧ v = some (.int (iI (mpaid x))) ∧ ST g A Z h mdata msize mends mmany mkind mchain mholds mnights mbits mleast mmost mroom mreserve mmount mspeed mbid mbound mcheap mpromised mcoin mpaid mowed h') (fun E h' => ((E = "java/lang/IllegalArgumentException" ∧ tCl x = 1)) ∧ ST g A Z h mdata msize mends mmany mkind mchain mholds mnights mbits mleast mmost mroom mreserve mmount mspeed mbid mbound mcheap mpromised mcoin mpaid mowed h') := by
  refine CTX.of (by decide +kernel) rfl [some (.ref (A 0)), some (.int (iI (x)))] rfl (Nat.le_of_ble_eq_true rfl) ?_
  intro p e s m args below meth c B hr hlk hout
  have hT0 := hT
  obtain ⟨hK, LE, RK1, RN, HK1, HN, CA, PV, CF, CN, Ha, hN, tq, G, Eg, sz, pt, wt, gt, pc, LN, lt, hC, hSub, hZn, hX, hM⟩ := hT
  have hN0 := hG.1
  obtain ⟨fc, hQC, hfc⟩ := hC.qc
  refine r_aload_n B dX9_paid_0 rfl rfl ?_
  refine r_iload_n B dX9_paid_1 rfl ?_
  refine r_callVX (n := 1) B dX9_paid_2 (ct_X9_clientOf l g sz0 hC.ro hQC hfc _ hl0 (by omega)) gX9_paid_X9_clientOf rfl (by decide +kernel) ⟨Nat.le_of_ble_eq_true rfl, Nat.le_of_ble_eq_true rfl⟩ hC.ro rfl rfl rfl (Nat.le_of_ble_eq_true rfl) (Nat.le_of_ble_eq_true rfl) (Nat.le_of_ble_eq_true rfl) (fun E h' hp => wx_out hout hlk ?_ (Nat.le_of_ble_eq_true rfl) (Nat.le_of_ble_eq_true rfl)) (fun v h' hp => ?_)
  · have hx9 := hp.2.2
    exact ⟨⟨hp.1, (by unfold tCl; (repeat' split) <;> omega)⟩, by rw [hp.2.1]; exact hT0⟩
  obtain ⟨hv, hh, hb1⟩ := hp
  subst v
  subst h'
  dsimp only [Option.toList, List.cons_append, List.nil_append]
  refine r_get (C := RX3) (T := TX3) (N := 13) (ci := 3) B dX9_paid_5 in_X9_paid_X3 rfl 8 (by decide) w_X9_paid_f260 rfl (hC.cl hb1.1 hb1.2) rfl ?_
  exact x_ret (r_iret B hr hlk dX9_paid_8 (Nat.le_of_ble_eq_true rfl) (Nat.le_of_ble_eq_true rfl) ⟨(by unfold tCl; (repeat' split) <;> omega), rfl, hT0⟩)
abbrev rmX9_owed : Room := { frames := 7, cells := 1, slots := 6, locals := 122 }
theorem in_X9_owed_X3 : ∀ w ∈ wsX30, w ∈ wsX9_owed := by decide +kernel
theorem w_X9_owed_f257 : Cond.fieldLink RX9 257 "DeltaNights$Client" "owed" "I" ∈ wsX9_owed := by decide +kernel
set_option maxHeartbeats 4000000 in
set_option maxRecDepth 100000 in
theorem ct_X9_owed (l : Launch) (g : GG) (sz0 : Nat) {A : Nat → Nat} {Z : Nat → Prop} (hA : AOK A) {h : AH} {mnights mbits mleast mmost mroom mreserve mmount mspeed : Int} {mdata msize mends mmany mkind mchain mholds mbid mbound mcheap mpromised mcoin mpaid mowed : Int → Int} (hT : ST g A Z h mdata msize mends mmany mkind mchain mholds mnights mbits mleast mmost mroom mreserve mmount mspeed mbid mbound mcheap mpromised mcoin mpaid mowed h) (hG : RGm mnights mbits mleast mmost mroom mreserve mmount mspeed msize mbid mbound mcheap mpromised mcoin mpaid mowed) (x : Int) (hl0 : l.stackTraces = false) (qx : -2147483648 ≤ x ∧ x < 2147483648)  : CTX l yX9_owed wsX9_owed rmX9_owed g sz0 [.ref (A 0), .int (iI (x))] h (fun v h' => tCl x = 0 ∧ v = some (.int (iI (mowed x))) ∧ ST g A Z h mdata msize mends mmany mkind mchain mholds mnights mbits mleast mmost mroom mreserve mmount mspeed mbid mbound mcheap mpromised mcoin mpaid mowed h') (fun E h' => ((E = "java/lang/IllegalArgumentException" ∧ tCl x = 1)) ∧ ST g A Z h mdata msize mends mmany mkind mchain mholds mnights mbits mleast mmost mroom mreserve mmount mspeed mbid mbound mcheap mpromised mcoin mpaid mowed h') := by
  refine CTX.of (by decide +kernel) rfl [some (.ref (A 0)), some (.int (iI (x)))] rfl (Nat.le_of_ble_eq_true rfl) ?_
  intro p e s m args below meth c B hr hlk hout
  have hT0 := hT
  obtain ⟨hK, LE, RK1, RN, HK1, HN, CA, PV, CF, CN, Ha, hN, tq, G, Eg, sz, pt, wt, gt, pc, LN, lt, hC, hSub, hZn, hX, hM⟩ := hT
  have hN0 := hG.1
  obtain ⟨fc, hQC, hfc⟩ := hC.qc
  refine r_aload_n B dX9_owed_0 rfl rfl ?_
  refine r_iload_n B dX9_owed_1 rfl ?_
  refine r_callVX (n := 1) B dX9_owed_2 (ct_X9_clientOf l g sz0 hC.ro hQC hfc _ hl0 (by omega)) gX9_owed_X9_clientOf rfl (by decide +kernel) ⟨Nat.le_of_ble_eq_true rfl, Nat.le_of_ble_eq_true rfl⟩ hC.ro rfl rfl rfl (Nat.le_of_ble_eq_true rfl) (Nat.le_of_ble_eq_true rfl) (Nat.le_of_ble_eq_true rfl) (fun E h' hp => wx_out hout hlk ?_ (Nat.le_of_ble_eq_true rfl) (Nat.le_of_ble_eq_true rfl)) (fun v h' hp => ?_)
  · have hx9 := hp.2.2
    exact ⟨⟨hp.1, (by unfold tCl; (repeat' split) <;> omega)⟩, by rw [hp.2.1]; exact hT0⟩
  obtain ⟨hv, hh, hb1⟩ := hp
  subst v
  subst h'
  dsimp only [Option.toList, List.cons_append, List.nil_append]
  refine r_get (C := RX3) (T := TX3) (N := 13) (ci := 3) B dX9_owed_5 in_X9_owed_X3 rfl 9 (by decide) w_X9_owed_f257 rfl (hC.cl hb1.1 hb1.2) rfl ?_
  exact x_ret (r_iret B hr hlk dX9_owed_8 (Nat.le_of_ble_eq_true rfl) (Nat.le_of_ble_eq_true rfl) ⟨(by unfold tCl; (repeat' split) <;> omega), rfl, hT0⟩)
abbrev rmX9_digest : Room := { frames := 7, cells := 1, slots := 6, locals := 122 }
theorem in_X9_digest_X3 : ∀ w ∈ wsX30, w ∈ wsX9_digest := by decide +kernel
theorem w_X9_digest_f52 : Cond.fieldLink RX9 52 "DeltaNights$Client" "file" "LDeltaNights$ByteFile;" ∈ wsX9_digest := by decide +kernel
set_option maxHeartbeats 4000000 in
set_option maxRecDepth 100000 in
theorem ct_X9_digest (l : Launch) (g : GG) (sz0 : Nat) {A : Nat → Nat} {Z : Nat → Prop} (hA : AOK A) {h : AH} {mnights mbits mleast mmost mroom mreserve mmount mspeed : Int} {mdata msize mends mmany mkind mchain mholds mbid mbound mcheap mpromised mcoin mpaid mowed : Int → Int} (hT : ST g A Z h mdata msize mends mmany mkind mchain mholds mnights mbits mleast mmost mroom mreserve mmount mspeed mbid mbound mcheap mpromised mcoin mpaid mowed h) (hG : RGm mnights mbits mleast mmost mroom mreserve mmount mspeed msize mbid mbound mcheap mpromised mcoin mpaid mowed) (x : Int) (hl0 : l.stackTraces = false) (qx : -2147483648 ≤ x ∧ x < 2147483648)  : CTX l yX9_digest wsX9_digest rmX9_digest g sz0 [.ref (A 0), .int (iI (x))] h (fun v h' => tCl x = 0 ∧ v = some (.long (dig (rowF mdata (240 + x)) (msize (240 + x)).toNat)) ∧ ST g A Z h mdata msize mends mmany mkind mchain mholds mnights mbits mleast mmost mroom mreserve mmount mspeed mbid mbound mcheap mpromised mcoin mpaid mowed h') (fun E h' => ((E = "java/lang/IllegalArgumentException" ∧ tCl x = 1)) ∧ ST g A Z h mdata msize mends mmany mkind mchain mholds mnights mbits mleast mmost mroom mreserve mmount mspeed mbid mbound mcheap mpromised mcoin mpaid mowed h') := by
  refine CTX.of (by decide +kernel) rfl [some (.ref (A 0)), some (.int (iI (x)))] rfl (Nat.le_of_ble_eq_true rfl) ?_
  intro p e s m args below meth c B hr hlk hout
  have hT0 := hT
  obtain ⟨hK, LE, RK1, RN, HK1, HN, CA, PV, CF, CN, Ha, hN, tq, G, Eg, sz, pt, wt, gt, pc, LN, lt, hC, hSub, hZn, hX, hM⟩ := hT
  have hN0 := hG.1
  obtain ⟨fc, hQC, hfc⟩ := hC.qc
  refine r_aload_n B dX9_digest_0 rfl rfl ?_
  refine r_iload_n B dX9_digest_1 rfl ?_
  refine r_callVX (n := 1) B dX9_digest_2 (ct_X9_clientOf l g sz0 hC.ro hQC hfc _ hl0 (by omega)) gX9_digest_X9_clientOf rfl (by decide +kernel) ⟨Nat.le_of_ble_eq_true rfl, Nat.le_of_ble_eq_true rfl⟩ hC.ro rfl rfl rfl (Nat.le_of_ble_eq_true rfl) (Nat.le_of_ble_eq_true rfl) (Nat.le_of_ble_eq_true rfl) (fun E h' hp => wx_out hout hlk ?_ (Nat.le_of_ble_eq_true rfl) (Nat.le_of_ble_eq_true rfl)) (fun v h' hp => ?_)
  · have hx9 := hp.2.2
    exact ⟨⟨hp.1, (by unfold tCl; (repeat' split) <;> omega)⟩, by rw [hp.2.1]; exact hT0⟩
  obtain ⟨hv, hh, hb1⟩ := hp
  subst v
  subst h'
  dsimp only [Option.toList, List.cons_append, List.nil_append]
  refine r_get (C := RX3) (T := TX3) (N := 13) (ci := 3) B dX9_digest_5 in_X9_digest_X3 rfl 0 (by decide) w_X9_digest_f52 rfl (hC.cl hb1.1 hb1.2) rfl ?_
  refine r_callV (n := 0) B dX9_digest_8 (ct_X0_fingerprint l g sz0 (hC.fl hb1.1 hb1.2)) gX9_digest_X0_fingerprint rfl (by decide +kernel) ⟨Nat.le_of_ble_eq_true rfl, Nat.le_of_ble_eq_true rfl⟩ (hC.fl hb1.1 hb1.2).1 rfl rfl rfl (Nat.le_of_ble_eq_true rfl) (Nat.le_of_ble_eq_true rfl) (Nat.le_of_ble_eq_true rfl) (fun v h' hp => ?_)
  obtain ⟨hv, hh⟩ := hp
  subst v
  subst h'
  dsimp only [Option.toList, List.cons_append, List.nil_append]
  exact x_ret (r_lret B hr hlk dX9_digest_11 (Nat.le_of_ble_eq_true rfl) (Nat.le_of_ble_eq_true rfl) ⟨(by unfold tCl; (repeat' split) <;> omega), by rw [(hM.1 x hb1.1 hb1.2).1, dig_congr (G' := rowF mdata (240 + x)) (fun j j0 j1 => (hM.1 x hb1.1 hb1.2).2.2 j j0 (by have := hG.2.2.2.2.2 (240 + x) (by omega) (by omega); omega))], hT0⟩)
abbrev rmX9_at : Room := { frames := 7, cells := 2, slots := 12, locals := 122 }
theorem in_X9_at_X3 : ∀ w ∈ wsX30, w ∈ wsX9_at := by decide +kernel
theorem w_X9_at_f52 : Cond.fieldLink RX9 52 "DeltaNights$Client" "file" "LDeltaNights$ByteFile;" ∈ wsX9_at := by decide +kernel
set_option maxHeartbeats 4000000 in
set_option maxRecDepth 100000 in
theorem ct_X9_at (l : Launch) (g : GG) (sz0 : Nat) {A : Nat → Nat} {Z : Nat → Prop} (hA : AOK A) {h : AH} {mnights mbits mleast mmost mroom mreserve mmount mspeed : Int} {mdata msize mends mmany mkind mchain mholds mbid mbound mcheap mpromised mcoin mpaid mowed : Int → Int} (hT : ST g A Z h mdata msize mends mmany mkind mchain mholds mnights mbits mleast mmost mroom mreserve mmount mspeed mbid mbound mcheap mpromised mcoin mpaid mowed h) (hG : RGm mnights mbits mleast mmost mroom mreserve mmount mspeed msize mbid mbound mcheap mpromised mcoin mpaid mowed) (x k : Int) (hl0 : l.stackTraces = false) (qx : -2147483648 ≤ x ∧ x < 2147483648) (qk : -2147483648 ≤ k ∧ k < 2147483648)  : CTX l yX9_at wsX9_at rmX9_at g sz0 [.ref (A 0), .int (iI (x)), .int (iI (k))] h (fun v h' => tAt x k (msize (240 + x)) = 0 ∧ v = some (.int (iI (mdata (48 * (240 + x) + k)))) ∧ ST g A Z h mdata msize mends mmany mkind mchain mholds mnights mbits mleast mmost mroom mreserve mmount mspeed mbid mbound mcheap mpromised mcoin mpaid mowed h') (fun E h' => ((E = "java/lang/IllegalArgumentException" ∧ tAt x k (msize (240 + x)) = 1) ∨ (E = "java/lang/IndexOutOfBoundsException" ∧ tAt x k (msize (240 + x)) = 2)) ∧ ST g A Z h mdata msize mends mmany mkind mchain mholds mnights mbits mleast mmost mroom mreserve mmount mspeed mbid mbound mcheap mpromised mcoin mpaid mowed h') := by
  refine CTX.of (by decide +kernel) rfl [some (.ref (A 0)), some (.int (iI (x))), some (.int (iI (k))), none] rfl (Nat.le_of_ble_eq_true rfl) ?_
  intro p e s m args below meth c B hr hlk hout
  have hT0 := hT
  obtain ⟨hK, LE, RK1, RN, HK1, HN, CA, PV, CF, CN, Ha, hN, tq, G, Eg, sz, pt, wt, gt, pc, LN, lt, hC, hSub, hZn, hX, hM⟩ := hT
  have hN0 := hG.1
  obtain ⟨fc, hQC, hfc⟩ := hC.qc
  refine r_aload_n B dX9_at_0 rfl rfl ?_
  refine r_iload_n B dX9_at_1 rfl ?_
  refine r_callVX (n := 1) B dX9_at_2 (ct_X9_clientOf l g sz0 hC.ro hQC hfc _ hl0 (by omega)) gX9_at_X9_clientOf rfl (by decide +kernel) ⟨Nat.le_of_ble_eq_true rfl, Nat.le_of_ble_eq_true rfl⟩ hC.ro rfl rfl rfl (Nat.le_of_ble_eq_true rfl) (Nat.le_of_ble_eq_true rfl) (Nat.le_of_ble_eq_true rfl) (fun E h' hp => wx_out hout hlk ?_ (Nat.le_of_ble_eq_true rfl) (Nat.le_of_ble_eq_true rfl)) (fun v h' hp => ?_)
  · have hx9 := hp.2.2
    exact ⟨(Or.inl ⟨hp.1, (by unfold tAt; (repeat' split) <;> omega)⟩), by rw [hp.2.1]; exact hT0⟩
  obtain ⟨hv, hh, hb1⟩ := hp
  subst v
  subst h'
  dsimp only [Option.toList, List.cons_append, List.nil_append]
  have hsz := (hM.1 x hb1.1 hb1.2).1
  have hs8 := hG.2.2.2.2.2 (240 + x) (by omega) (by omega)
  refine r_get (C := RX3) (T := TX3) (N := 13) (ci := 3) B dX9_at_5 in_X9_at_X3 rfl 0 (by decide) w_X9_at_f52 rfl (hC.cl hb1.1 hb1.2) rfl ?_
  refine r_astore_n B dX9_at_8 rfl rfl (by decide) (lcat_v rfl rfl) ?_
  refine r_aload_n B dX9_at_9 rfl rfl ?_
  refine r_iload_n B dX9_at_10 rfl ?_
  refine r_callSX (n := 2) B dX9_at_11 (ct_X9_needByte l g sz0 (hC.fl hb1.1 hb1.2) _ hl0 (by omega)) gX9_at_X9_needByte rfl (by decide +kernel) ⟨Nat.le_of_ble_eq_true rfl, Nat.le_of_ble_eq_true rfl⟩ rfl rfl (Nat.le_of_ble_eq_true rfl) (Nat.le_of_ble_eq_true rfl) (Nat.le_of_ble_eq_true rfl) (fun E h' hp => wx_out hout hlk ?_ (Nat.le_of_ble_eq_true rfl) (Nat.le_of_ble_eq_true rfl)) (fun v h' hp => ?_)
  · have hx9 := hp.2.2
    exact ⟨(Or.inr ⟨hp.1, (by unfold tAt; (repeat' split) <;> omega)⟩), by rw [hp.2.1]; exact hT0⟩
  obtain ⟨hv, hh, hb2⟩ := hp
  subst v
  subst h'
  dsimp only [Option.toList, List.cons_append, List.nil_append]
  refine r_aload_n B dX9_at_14 rfl rfl ?_
  refine r_iload_n B dX9_at_15 rfl ?_
  refine r_callV (n := 1) B dX9_at_16 (ct_X0_byteAt l g sz0 (hC.fl hb1.1 hb1.2) _ (by omega)) gX9_at_X0_byteAt rfl (by decide +kernel) ⟨Nat.le_of_ble_eq_true rfl, Nat.le_of_ble_eq_true rfl⟩ (hC.fl hb1.1 hb1.2).1 rfl rfl rfl (Nat.le_of_ble_eq_true rfl) (Nat.le_of_ble_eq_true rfl) (Nat.le_of_ble_eq_true rfl) (fun v h' hp => ?_)
  obtain ⟨hv, hh⟩ := hp
  subst v
  subst h'
  dsimp only [Option.toList, List.cons_append, List.nil_append]
  rw [byF_in (by omega)]
  exact x_ret (r_iret B hr hlk dX9_at_19 (Nat.le_of_ble_eq_true rfl) (Nat.le_of_ble_eq_true rfl) ⟨(by unfold tAt; (repeat' split) <;> omega), by rw [(hM.1 x hb1.1 hb1.2).2.2 k (by omega) (by omega)], hT0⟩)
abbrev rmX9_nights : Room := { frames := 0, cells := 0, slots := 0, locals := 0 }
theorem in_X9_nights_X9 : ∀ w ∈ wsX90, w ∈ wsX9_nights := by decide +kernel
theorem w_X9_nights_f43 : Cond.fieldLink RX9 43 "DeltaNights" "nightsGone" "I" ∈ wsX9_nights := by decide +kernel
set_option maxHeartbeats 4000000 in
set_option maxRecDepth 100000 in
theorem ct_X9_nights (l : Launch) (g : GG) (sz0 : Nat) {A : Nat → Nat} {Z : Nat → Prop} (hA : AOK A) {h : AH} {mnights mbits mleast mmost mroom mreserve mmount mspeed : Int} {mdata msize mends mmany mkind mchain mholds mbid mbound mcheap mpromised mcoin mpaid mowed : Int → Int} (hT : ST g A Z h mdata msize mends mmany mkind mchain mholds mnights mbits mleast mmost mroom mreserve mmount mspeed mbid mbound mcheap mpromised mcoin mpaid mowed h) (hG : RGm mnights mbits mleast mmost mroom mreserve mmount mspeed msize mbid mbound mcheap mpromised mcoin mpaid mowed)   : CT l yX9_nights wsX9_nights rmX9_nights g sz0 [.ref (A 0)] h (fun v h' => v = some (.int (iI (mnights))) ∧ ST g A Z h mdata msize mends mmany mkind mchain mholds mnights mbits mleast mmost mroom mreserve mmount mspeed mbid mbound mcheap mpromised mcoin mpaid mowed h') := by
  refine CT.of (by decide +kernel) rfl [some (.ref (A 0))] rfl (Nat.le_of_ble_eq_true rfl) ?_
  intro p e s m args below meth c B hr hlk hnm
  have hT0 := hT
  obtain ⟨hK, LE, RK1, RN, HK1, HN, CA, PV, CF, CN, Ha, hN, tq, G, Eg, sz, pt, wt, gt, pc, LN, lt, hC, hSub, hZn, hX, hM⟩ := hT
  have hN0 := hG.1
  obtain ⟨fc, hQC, hfc⟩ := hC.qc
  refine r_aload_n B dX9_nights_0 rfl rfl ?_
  refine r_get (C := RX9) (T := TX9) (N := 6) (ci := 9) B dX9_nights_1 in_X9_nights_X9 rfl 5 (by decide) w_X9_nights_f43 rfl hC.ro rfl ?_
  exact r_iret B hr hlk dX9_nights_4 (Nat.le_of_ble_eq_true rfl) (Nat.le_of_ble_eq_true rfl) ⟨rfl, hT0⟩
