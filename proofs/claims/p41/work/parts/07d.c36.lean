abbrev rmX9_put : Room := { frames := 7, cells := 4, slots := 24, locals := 122 }
theorem in_X9_put_X3 : ∀ w ∈ wsX30, w ∈ wsX9_put := by decide +kernel
theorem w_X9_put_f52 : Cond.fieldLink RX9 52 "DeltaNights$Client" "file" "LDeltaNights$ByteFile;" ∈ wsX9_put := by decide +kernel
theorem w_X9_put_k65 : Cond.classLink RX9 65 "java/lang/IndexOutOfBoundsException" ∈ wsX9_put := by decide +kernel
theorem w_X9_put_ii65 : Cond.initialized "java/lang/IndexOutOfBoundsException" ∈ wsX9_put := by decide +kernel
theorem xg_X9_put_69 : ∀ w ∈ (vx_atS RX9 69 "java/lang/IndexOutOfBoundsException" xnm).filter goodWord, w ∈ wsX9_put := by decide +kernel
theorem in_X9_put_X0 : ∀ w ∈ wsX00, w ∈ wsX9_put := by decide +kernel
theorem w_X9_put_f60 : Cond.fieldLink RX9 60 "DeltaNights$ByteFile" "size" "I" ∈ wsX9_put := by decide +kernel
theorem w_X9_put_k76 : Cond.classLink RX9 76 "java/lang/IllegalStateException" ∈ wsX9_put := by decide +kernel
theorem w_X9_put_ii76 : Cond.initialized "java/lang/IllegalStateException" ∈ wsX9_put := by decide +kernel
theorem xg_X9_put_80 : ∀ w ∈ (vx_atS RX9 80 "java/lang/IllegalStateException" xnm).filter goodWord, w ∈ wsX9_put := by decide +kernel
set_option maxHeartbeats 4000000 in
set_option maxRecDepth 100000 in
theorem ct_X9_put (l : Launch) (g : GG) (sz0 : Nat) {A : Nat → Nat} {Z : Nat → Prop} (hA : AOK A) {hZ : AH} {mnights mbits mleast mmost mroom mreserve mmount mspeed : Int} {mdata msize mends mmany mkind mchain mholds mbid mbound mcheap mpromised mcoin mpaid mowed : Int → Int} (hT : ST g A Z hZ mdata msize mends mmany mkind mchain mholds mnights mbits mleast mmost mroom mreserve mmount mspeed mbid mbound mcheap mpromised mcoin mpaid mowed hZ) (hG : RGm mnights mbits mleast mmost mroom mreserve mmount mspeed msize mbid mbound mcheap mpromised mcoin mpaid mowed) (x k b : Int) (hl0 : l.stackTraces = false) (qx : -2147483648 ≤ x ∧ x < 2147483648) (qk : -2147483648 ≤ k ∧ k < 2147483648) (qb : -2147483648 ≤ b ∧ b < 2147483648)  : CTX l yX9_put wsX9_put rmX9_put g sz0 [.ref (A 0), .int (iI (x)), .int (iI (k)), .int (iI (b))] hZ (fun v h' => tPut x k b (msize (240 + x)) = 0 ∧ v = some (.int (iI (msize (240 + x) + 1))) ∧ ST g A Z hZ (insF mdata (48 * (240 + x)) (msize (240 + x)) k b) (upZ msize (240 + x) (msize (240 + x) + 1)) mends mmany mkind mchain mholds mnights mbits mleast mmost mroom mreserve mmount mspeed mbid mbound mcheap mpromised mcoin mpaid mowed h') (fun E h' => ((E = "java/lang/IllegalArgumentException" ∧ tPut x k b (msize (240 + x)) = 1) ∨ (E = "java/lang/IndexOutOfBoundsException" ∧ tPut x k b (msize (240 + x)) = 2) ∨ (E = "java/lang/IllegalStateException" ∧ tPut x k b (msize (240 + x)) = 3)) ∧ ST g A Z hZ mdata msize mends mmany mkind mchain mholds mnights mbits mleast mmost mroom mreserve mmount mspeed mbid mbound mcheap mpromised mcoin mpaid mowed h') := by
  refine CTX.of (by decide +kernel) rfl [some (.ref (A 0)), some (.int (iI (x))), some (.int (iI (k))), some (.int (iI (b))), none] rfl (Nat.le_of_ble_eq_true rfl) ?_
  intro p e s m args below meth c B hr hlk hout
  have hT0 := hT
  obtain ⟨hK, LE, RK1, RN, HK1, HN, CA, PV, CF, CN, Ha, hN, tq, G, Eg, sz, pt, wt, gt, pc, LN, lt, hC, hSub, hZn, hX, hM⟩ := hT
  have hN0 := hG.1
  obtain ⟨fc, hQC, hfc⟩ := hC.qc
  refine r_aload_n B dX9_put_0 rfl rfl ?_
  refine r_iload_n B dX9_put_1 rfl ?_
  refine r_callVX (n := 1) B dX9_put_2 (ct_X9_clientOf l g sz0 hC.ro hQC hfc _ hl0 (by omega)) gX9_put_X9_clientOf rfl (by decide +kernel) ⟨Nat.le_of_ble_eq_true rfl, Nat.le_of_ble_eq_true rfl⟩ hC.ro rfl rfl rfl (Nat.le_of_ble_eq_true rfl) (Nat.le_of_ble_eq_true rfl) (Nat.le_of_ble_eq_true rfl) (fun E h' hp => wx_out hout hlk ?_ (Nat.le_of_ble_eq_true rfl) (Nat.le_of_ble_eq_true rfl)) (fun v h' hp => ?_)
  · have hx9 := hp.2.2
    exact ⟨(Or.inl ⟨hp.1, (by unfold tPut; (repeat' split) <;> omega)⟩), by rw [hp.2.1]; exact hT0⟩
  obtain ⟨hv, hh, hb1⟩ := hp
  subst v
  subst h'
  dsimp only [Option.toList, List.cons_append, List.nil_append]
  have hsz := (hM.1 x hb1.1 hb1.2).1
  have hs8 := hG.2.2.2.2.2 (240 + x) (by omega) (by omega)
  refine r_get (C := RX3) (T := TX3) (N := 13) (ci := 3) B dX9_put_5 in_X9_put_X3 rfl 0 (by decide) w_X9_put_f52 rfl (hC.cl hb1.1 hb1.2) rfl ?_
  refine r_astore B dX9_put_8 rfl (by decide) (lcat_v rfl rfl) ?_
  refine r_iload_n B dX9_put_10 rfl ?_
  refine r_iconst B dX9_put_11 ?_
  refine r_sipush B dX9_put_12 (by decide) ?_
  refine r_callSX (n := 3) B dX9_put_15 (ct_X9_needRange l g sz0 _ _ _ hl0 (by omega) (by omega) (by omega)) gX9_put_X9_needRange rfl (by decide +kernel) ⟨Nat.le_of_ble_eq_true rfl, Nat.le_of_ble_eq_true rfl⟩ rfl rfl (Nat.le_of_ble_eq_true rfl) (Nat.le_of_ble_eq_true rfl) (Nat.le_of_ble_eq_true rfl) (fun E h' hp => wx_out hout hlk ?_ (Nat.le_of_ble_eq_true rfl) (Nat.le_of_ble_eq_true rfl)) (fun v h' hp => ?_)
  · have hx9 := hp.2.2
    exact ⟨(Or.inl ⟨hp.1, (by unfold tPut; (repeat' split) <;> omega)⟩), by rw [hp.2.1]; exact hT0⟩
  obtain ⟨hv, hh, hb2⟩ := hp
  subst v
  subst h'
  dsimp only [Option.toList, List.cons_append, List.nil_append]
  refine r_iload_n B dX9_put_18 rfl ?_
  refine r_if_lt B dX9_put_19 (tgt := 31) (by decide) (by omega) (fun c19 => ?_) (fun c19 => ?_)
  · exact r_throwS (text := "no such place") B hl0 xat_IO w_X9_put_k65 w_X9_put_ii65 xg_X9_put_69 (by decide +kernel) dX9_put_31 dX9_put_34 dX9_put_35 dX9_put_37 dX9_put_40 hout hlk (Nat.le_of_ble_eq_true rfl) (Nat.le_of_ble_eq_true rfl) (Nat.le_of_ble_eq_true rfl) (Nat.le_of_ble_eq_true rfl) (Nat.le_of_ble_eq_true rfl) (Nat.le_of_ble_eq_true rfl) ⟨(Or.inr (Or.inl ⟨rfl, (by unfold tPut; (repeat' split) <;> omega)⟩)), hT0⟩
  · refine r_iload_n B dX9_put_22 rfl ?_
    refine r_aload B dX9_put_23 rfl rfl ?_
    refine r_get (C := RX0) (T := TX0) (N := 4) (ci := 0) B dX9_put_25 in_X9_put_X0 rfl 2 (by decide) w_X9_put_f60 rfl (hC.fl hb1.1 hb1.2).1 rfl ?_
    refine r_icmp_le B dX9_put_28 (tgt := 41) (by decide) (by omega) (by omega) (fun c28 => ?_) (fun c28 => ?_)
    · refine r_aload B dX9_put_41 rfl rfl ?_
      refine r_iconst B dX9_put_43 ?_
      refine r_callV (n := 1) B dX9_put_44 (ct_X0_hasSpaceFor l g sz0 (hC.fl hb1.1 hb1.2) _ (by omega)) gX9_put_X0_hasSpaceFor rfl (by decide +kernel) ⟨Nat.le_of_ble_eq_true rfl, Nat.le_of_ble_eq_true rfl⟩ (hC.fl hb1.1 hb1.2).1 rfl rfl rfl (Nat.le_of_ble_eq_true rfl) (Nat.le_of_ble_eq_true rfl) (Nat.le_of_ble_eq_true rfl) (fun v h' hp => ?_)
      obtain ⟨hv, hh⟩ := hp
      subst v
      subst h'
      dsimp only [Option.toList, List.cons_append, List.nil_append]
      refine r_if_ne B dX9_put_47 (tgt := 60) (by decide) (bI_rng _) (fun c47 => ?_) (fun c47 => ?_)
      · replace c47 := bI_n0.mp c47
        refine r_aload B dX9_put_60 rfl rfl ?_
        refine r_iload_n B dX9_put_62 rfl ?_
        refine r_iload_n B dX9_put_63 rfl ?_
        refine r_callV (n := 2) B dX9_put_64 (ct_X0_insert l g sz0 (hC.fl hb1.1 hb1.2) _ _ (by omega) (by omega) (by omega)) gX9_put_X0_insert rfl (by decide +kernel) ⟨Nat.le_of_ble_eq_true rfl, Nat.le_of_ble_eq_true rfl⟩ (hC.fl hb1.1 hb1.2).1 rfl rfl rfl (Nat.le_of_ble_eq_true rfl) (Nat.le_of_ble_eq_true rfl) (Nat.le_of_ble_eq_true rfl) (fun v h1 hp => ?_)
        obtain ⟨hv, hF1⟩ := hp
        subst v
        dsimp only [Option.toList, List.cons_append, List.nil_append]
        refine k_next (P := fun x9 => CW g A hZ mnights mbits mleast mmost mroom mreserve mmount mspeed hN (ptr Ha hN 0) tq (upG G x (insF (G x) 0 (sz x) k b)) (upG Eg x (Eg x)) (upZ sz x (sz x + 1)) (upZ pt x (pt x)) mbid mbound mcheap mpromised mcoin mpaid mowed wt gt pc LN lt x9) (hC.file hA hb1.1 hb1.2 hF1) (fun h hC => ?_)
        refine r_aload B dX9_put_67 rfl rfl ?_
        refine r_get (C := RX0) (T := TX0) (N := 4) (ci := 0) B dX9_put_69 in_X9_put_X0 rfl 2 (by decide) w_X9_put_f60 rfl (hC.fl hb1.1 hb1.2).1 rfl ?_
        exact x_ret (r_iret B hr hlk dX9_put_72 (Nat.le_of_ble_eq_true rfl) (Nat.le_of_ble_eq_true rfl) ⟨(by unfold tPut; (repeat' split) <;> omega), by rw [upZ_at, hsz], ⟨hK, LE, RK1, RN, HK1, HN, CA, PV, CF, CN, Ha, hN, _, _, _, _, _, _, _, _, _, _, hC, (hC.sub2 hSub), hZn, (hX.cg hN0 (rowE.fil (fun i i0 i1 => (by unfold insF; rw [if_neg (by omega), if_neg (by omega)])) (fun i i0 i1 => (upZ_ne _ _ (by omega)).symm))), (hM.put hb1.1 hb1.2 (by omega) (by omega) (by omega))⟩⟩)
      · replace c47 := bI_0.mp c47
        exact r_throwS (text := "the file is full") B hl0 xat_IS w_X9_put_k76 w_X9_put_ii76 xg_X9_put_80 (by decide +kernel) dX9_put_50 dX9_put_53 dX9_put_54 dX9_put_56 dX9_put_59 hout hlk (Nat.le_of_ble_eq_true rfl) (Nat.le_of_ble_eq_true rfl) (Nat.le_of_ble_eq_true rfl) (Nat.le_of_ble_eq_true rfl) (Nat.le_of_ble_eq_true rfl) (Nat.le_of_ble_eq_true rfl) ⟨(Or.inr (Or.inr ⟨rfl, (by unfold tPut; (repeat' split) <;> omega)⟩)), hT0⟩
    · exact r_throwS (text := "no such place") B hl0 xat_IO w_X9_put_k65 w_X9_put_ii65 xg_X9_put_69 (by decide +kernel) dX9_put_31 dX9_put_34 dX9_put_35 dX9_put_37 dX9_put_40 hout hlk (Nat.le_of_ble_eq_true rfl) (Nat.le_of_ble_eq_true rfl) (Nat.le_of_ble_eq_true rfl) (Nat.le_of_ble_eq_true rfl) (Nat.le_of_ble_eq_true rfl) (Nat.le_of_ble_eq_true rfl) ⟨(Or.inr (Or.inl ⟨rfl, (by unfold tPut; (repeat' split) <;> omega)⟩)), hT0⟩
abbrev rmX9_set : Room := { frames := 7, cells := 3, slots := 18, locals := 122 }
theorem in_X9_set_X3 : ∀ w ∈ wsX30, w ∈ wsX9_set := by decide +kernel
theorem w_X9_set_f52 : Cond.fieldLink RX9 52 "DeltaNights$Client" "file" "LDeltaNights$ByteFile;" ∈ wsX9_set := by decide +kernel
set_option maxHeartbeats 4000000 in
set_option maxRecDepth 100000 in
theorem ct_X9_set (l : Launch) (g : GG) (sz0 : Nat) {A : Nat → Nat} {Z : Nat → Prop} (hA : AOK A) {hZ : AH} {mnights mbits mleast mmost mroom mreserve mmount mspeed : Int} {mdata msize mends mmany mkind mchain mholds mbid mbound mcheap mpromised mcoin mpaid mowed : Int → Int} (hT : ST g A Z hZ mdata msize mends mmany mkind mchain mholds mnights mbits mleast mmost mroom mreserve mmount mspeed mbid mbound mcheap mpromised mcoin mpaid mowed hZ) (hG : RGm mnights mbits mleast mmost mroom mreserve mmount mspeed msize mbid mbound mcheap mpromised mcoin mpaid mowed) (x k b : Int) (hl0 : l.stackTraces = false) (qx : -2147483648 ≤ x ∧ x < 2147483648) (qk : -2147483648 ≤ k ∧ k < 2147483648) (qb : -2147483648 ≤ b ∧ b < 2147483648)  : CTX l yX9_set wsX9_set rmX9_set g sz0 [.ref (A 0), .int (iI (x)), .int (iI (k)), .int (iI (b))] hZ (fun v h' => tSet x k b (msize (240 + x)) = 0 ∧ v = some (.int (iI (mdata (48 * (240 + x) + k)))) ∧ ST g A Z hZ (upZ mdata (48 * (240 + x) + k) b) msize mends mmany mkind mchain mholds mnights mbits mleast mmost mroom mreserve mmount mspeed mbid mbound mcheap mpromised mcoin mpaid mowed h') (fun E h' => ((E = "java/lang/IllegalArgumentException" ∧ tSet x k b (msize (240 + x)) = 1) ∨ (E = "java/lang/IndexOutOfBoundsException" ∧ tSet x k b (msize (240 + x)) = 2)) ∧ ST g A Z hZ mdata msize mends mmany mkind mchain mholds mnights mbits mleast mmost mroom mreserve mmount mspeed mbid mbound mcheap mpromised mcoin mpaid mowed h') := by
  refine CTX.of (by decide +kernel) rfl [some (.ref (A 0)), some (.int (iI (x))), some (.int (iI (k))), some (.int (iI (b))), none] rfl (Nat.le_of_ble_eq_true rfl) ?_
  intro p e s m args below meth c B hr hlk hout
  have hT0 := hT
  obtain ⟨hK, LE, RK1, RN, HK1, HN, CA, PV, CF, CN, Ha, hN, tq, G, Eg, sz, pt, wt, gt, pc, LN, lt, hC, hSub, hZn, hX, hM⟩ := hT
  have hN0 := hG.1
  obtain ⟨fc, hQC, hfc⟩ := hC.qc
  refine r_aload_n B dX9_set_0 rfl rfl ?_
  refine r_iload_n B dX9_set_1 rfl ?_
  refine r_callVX (n := 1) B dX9_set_2 (ct_X9_clientOf l g sz0 hC.ro hQC hfc _ hl0 (by omega)) gX9_set_X9_clientOf rfl (by decide +kernel) ⟨Nat.le_of_ble_eq_true rfl, Nat.le_of_ble_eq_true rfl⟩ hC.ro rfl rfl rfl (Nat.le_of_ble_eq_true rfl) (Nat.le_of_ble_eq_true rfl) (Nat.le_of_ble_eq_true rfl) (fun E h' hp => wx_out hout hlk ?_ (Nat.le_of_ble_eq_true rfl) (Nat.le_of_ble_eq_true rfl)) (fun v h' hp => ?_)
  · have hx9 := hp.2.2
    exact ⟨(Or.inl ⟨hp.1, (by unfold tSet; (repeat' split) <;> omega)⟩), by rw [hp.2.1]; exact hT0⟩
  obtain ⟨hv, hh, hb1⟩ := hp
  subst v
  subst h'
  dsimp only [Option.toList, List.cons_append, List.nil_append]
  have hsz := (hM.1 x hb1.1 hb1.2).1
  have hs8 := hG.2.2.2.2.2 (240 + x) (by omega) (by omega)
  refine r_get (C := RX3) (T := TX3) (N := 13) (ci := 3) B dX9_set_5 in_X9_set_X3 rfl 0 (by decide) w_X9_set_f52 rfl (hC.cl hb1.1 hb1.2) rfl ?_
  refine r_astore B dX9_set_8 rfl (by decide) (lcat_v rfl rfl) ?_
  refine r_iload_n B dX9_set_10 rfl ?_
  refine r_iconst B dX9_set_11 ?_
  refine r_sipush B dX9_set_12 (by decide) ?_
  refine r_callSX (n := 3) B dX9_set_15 (ct_X9_needRange l g sz0 _ _ _ hl0 (by omega) (by omega) (by omega)) gX9_set_X9_needRange rfl (by decide +kernel) ⟨Nat.le_of_ble_eq_true rfl, Nat.le_of_ble_eq_true rfl⟩ rfl rfl (Nat.le_of_ble_eq_true rfl) (Nat.le_of_ble_eq_true rfl) (Nat.le_of_ble_eq_true rfl) (fun E h' hp => wx_out hout hlk ?_ (Nat.le_of_ble_eq_true rfl) (Nat.le_of_ble_eq_true rfl)) (fun v h' hp => ?_)
  · have hx9 := hp.2.2
    exact ⟨(Or.inl ⟨hp.1, (by unfold tSet; (repeat' split) <;> omega)⟩), by rw [hp.2.1]; exact hT0⟩
  obtain ⟨hv, hh, hb2⟩ := hp
  subst v
  subst h'
  dsimp only [Option.toList, List.cons_append, List.nil_append]
  refine r_aload B dX9_set_18 rfl rfl ?_
  refine r_iload_n B dX9_set_20 rfl ?_
  refine r_callSX (n := 2) B dX9_set_21 (ct_X9_needByte l g sz0 (hC.fl hb1.1 hb1.2) _ hl0 (by omega)) gX9_set_X9_needByte rfl (by decide +kernel) ⟨Nat.le_of_ble_eq_true rfl, Nat.le_of_ble_eq_true rfl⟩ rfl rfl (Nat.le_of_ble_eq_true rfl) (Nat.le_of_ble_eq_true rfl) (Nat.le_of_ble_eq_true rfl) (fun E h' hp => wx_out hout hlk ?_ (Nat.le_of_ble_eq_true rfl) (Nat.le_of_ble_eq_true rfl)) (fun v h' hp => ?_)
  · have hx9 := hp.2.2
    exact ⟨(Or.inr ⟨hp.1, (by unfold tSet; (repeat' split) <;> omega)⟩), by rw [hp.2.1]; exact hT0⟩
  obtain ⟨hv, hh, hb3⟩ := hp
  subst v
  subst h'
  dsimp only [Option.toList, List.cons_append, List.nil_append]
  refine r_aload B dX9_set_24 rfl rfl ?_
  refine r_iload_n B dX9_set_26 rfl ?_
  refine r_iload_n B dX9_set_27 rfl ?_
  refine r_callV (n := 2) B dX9_set_28 (ct_X0_replace l g sz0 (hC.fl hb1.1 hb1.2) _ _ (by omega) (by omega)) gX9_set_X0_replace rfl (by decide +kernel) ⟨Nat.le_of_ble_eq_true rfl, Nat.le_of_ble_eq_true rfl⟩ (hC.fl hb1.1 hb1.2).1 rfl rfl rfl (Nat.le_of_ble_eq_true rfl) (Nat.le_of_ble_eq_true rfl) (Nat.le_of_ble_eq_true rfl) (fun v h1 hp => ?_)
  obtain ⟨hv, hF1⟩ := hp
  subst v
  dsimp only [Option.toList, List.cons_append, List.nil_append]
  refine k_next (P := fun x9 => CW g A hZ mnights mbits mleast mmost mroom mreserve mmount mspeed hN (ptr Ha hN 0) tq (upG G x (upZ (G x) k b)) (upG Eg x (Eg x)) (upZ sz x (sz x)) (upZ pt x (pt x)) mbid mbound mcheap mpromised mcoin mpaid mowed wt gt pc LN lt x9) (hC.file hA hb1.1 hb1.2 hF1) (fun h hC => ?_)
  exact x_ret (r_iret B hr hlk dX9_set_31 (Nat.le_of_ble_eq_true rfl) (Nat.le_of_ble_eq_true rfl) ⟨(by unfold tSet; (repeat' split) <;> omega), by rw [(hM.1 x hb1.1 hb1.2).2.2 k (by omega) (by omega)], ⟨hK, LE, RK1, RN, HK1, HN, CA, PV, CF, CN, Ha, hN, _, _, _, _, _, _, _, _, _, _, hC, (hC.sub2 hSub), hZn, (hX.cg hN0 (rowE.fil (fun i i0 i1 => (upZ_ne _ _ (by omega)).symm) (fun i i0 i1 => rfl))), (hM.set hb1.1 hb1.2 (by omega) (by omega))⟩⟩)
abbrev rmX9_cut : Room := { frames := 7, cells := 2, slots := 12, locals := 122 }
theorem in_X9_cut_X3 : ∀ w ∈ wsX30, w ∈ wsX9_cut := by decide +kernel
theorem w_X9_cut_f52 : Cond.fieldLink RX9 52 "DeltaNights$Client" "file" "LDeltaNights$ByteFile;" ∈ wsX9_cut := by decide +kernel
theorem in_X9_cut_X0 : ∀ w ∈ wsX00, w ∈ wsX9_cut := by decide +kernel
theorem w_X9_cut_f60 : Cond.fieldLink RX9 60 "DeltaNights$ByteFile" "size" "I" ∈ wsX9_cut := by decide +kernel
set_option maxHeartbeats 4000000 in
set_option maxRecDepth 100000 in
theorem ct_X9_cut (l : Launch) (g : GG) (sz0 : Nat) {A : Nat → Nat} {Z : Nat → Prop} (hA : AOK A) {hZ : AH} {mnights mbits mleast mmost mroom mreserve mmount mspeed : Int} {mdata msize mends mmany mkind mchain mholds mbid mbound mcheap mpromised mcoin mpaid mowed : Int → Int} (hT : ST g A Z hZ mdata msize mends mmany mkind mchain mholds mnights mbits mleast mmost mroom mreserve mmount mspeed mbid mbound mcheap mpromised mcoin mpaid mowed hZ) (hG : RGm mnights mbits mleast mmost mroom mreserve mmount mspeed msize mbid mbound mcheap mpromised mcoin mpaid mowed) (x k w : Int) (hl0 : l.stackTraces = false) (qx : -2147483648 ≤ x ∧ x < 2147483648) (qk : -2147483648 ≤ k ∧ k < 2147483648) (qw : -2147483648 ≤ w ∧ w < 2147483648)  : CTX l yX9_cut wsX9_cut rmX9_cut g sz0 [.ref (A 0), .int (iI (x)), .int (iI (k)), .int (iI (w))] hZ (fun v h' => tCut x k w (msize (240 + x)) = 0 ∧ v = some (.int (iI (msize (240 + x) - w))) ∧ ST g A Z hZ (cutF mdata (48 * (240 + x)) k w (msize (240 + x) - w)) (upZ msize (240 + x) (msize (240 + x) - w)) mends mmany mkind mchain mholds mnights mbits mleast mmost mroom mreserve mmount mspeed mbid mbound mcheap mpromised mcoin mpaid mowed h') (fun E h' => ((E = "java/lang/IllegalArgumentException" ∧ tCut x k w (msize (240 + x)) = 1) ∨ (E = "java/lang/IndexOutOfBoundsException" ∧ tCut x k w (msize (240 + x)) = 2)) ∧ ST g A Z hZ mdata msize mends mmany mkind mchain mholds mnights mbits mleast mmost mroom mreserve mmount mspeed mbid mbound mcheap mpromised mcoin mpaid mowed h') := by
  refine CTX.of (by decide +kernel) rfl [some (.ref (A 0)), some (.int (iI (x))), some (.int (iI (k))), some (.int (iI (w))), none] rfl (Nat.le_of_ble_eq_true rfl) ?_
  intro p e s m args below meth c B hr hlk hout
  have hT0 := hT
  obtain ⟨hK, LE, RK1, RN, HK1, HN, CA, PV, CF, CN, Ha, hN, tq, G, Eg, sz, pt, wt, gt, pc, LN, lt, hC, hSub, hZn, hX, hM⟩ := hT
  have hN0 := hG.1
  obtain ⟨fc, hQC, hfc⟩ := hC.qc
  refine r_aload_n B dX9_cut_0 rfl rfl ?_
  refine r_iload_n B dX9_cut_1 rfl ?_
  refine r_callVX (n := 1) B dX9_cut_2 (ct_X9_clientOf l g sz0 hC.ro hQC hfc _ hl0 (by omega)) gX9_cut_X9_clientOf rfl (by decide +kernel) ⟨Nat.le_of_ble_eq_true rfl, Nat.le_of_ble_eq_true rfl⟩ hC.ro rfl rfl rfl (Nat.le_of_ble_eq_true rfl) (Nat.le_of_ble_eq_true rfl) (Nat.le_of_ble_eq_true rfl) (fun E h' hp => wx_out hout hlk ?_ (Nat.le_of_ble_eq_true rfl) (Nat.le_of_ble_eq_true rfl)) (fun v h' hp => ?_)
  · have hx9 := hp.2.2
    exact ⟨(Or.inl ⟨hp.1, (by unfold tCut; (repeat' split) <;> omega)⟩), by rw [hp.2.1]; exact hT0⟩
  obtain ⟨hv, hh, hb1⟩ := hp
  subst v
  subst h'
  dsimp only [Option.toList, List.cons_append, List.nil_append]
  have hsz := (hM.1 x hb1.1 hb1.2).1
  have hs8 := hG.2.2.2.2.2 (240 + x) (by omega) (by omega)
  refine r_get (C := RX3) (T := TX3) (N := 13) (ci := 3) B dX9_cut_5 in_X9_cut_X3 rfl 0 (by decide) w_X9_cut_f52 rfl (hC.cl hb1.1 hb1.2) rfl ?_
  refine r_astore B dX9_cut_8 rfl (by decide) (lcat_v rfl rfl) ?_
  refine r_aload B dX9_cut_10 rfl rfl ?_
  refine r_iload_n B dX9_cut_12 rfl ?_
  refine r_iload_n B dX9_cut_13 rfl ?_
  refine r_callSX (n := 3) B dX9_cut_14 (ct_X9_needRun l g sz0 (hC.fl hb1.1 hb1.2) _ _ hl0 (by omega) (by omega)) gX9_cut_X9_needRun rfl (by decide +kernel) ⟨Nat.le_of_ble_eq_true rfl, Nat.le_of_ble_eq_true rfl⟩ rfl rfl (Nat.le_of_ble_eq_true rfl) (Nat.le_of_ble_eq_true rfl) (Nat.le_of_ble_eq_true rfl) (fun E h' hp => wx_out hout hlk ?_ (Nat.le_of_ble_eq_true rfl) (Nat.le_of_ble_eq_true rfl)) (fun v h' hp => ?_)
  · have hx9 := hp.2.2
    exact ⟨(Or.inr ⟨hp.1, (by unfold tCut; (repeat' split) <;> omega)⟩), by rw [hp.2.1]; exact hT0⟩
  obtain ⟨hv, hh, hb2⟩ := hp
  subst v
  subst h'
  dsimp only [Option.toList, List.cons_append, List.nil_append]
  refine r_aload B dX9_cut_17 rfl rfl ?_
  refine r_iload_n B dX9_cut_19 rfl ?_
  refine r_iload_n B dX9_cut_20 rfl ?_
  refine r_callV (n := 2) B dX9_cut_21 (ct_X0_remove l g sz0 (hC.fl hb1.1 hb1.2) _ _ (by omega)) gX9_cut_X0_remove rfl (by decide +kernel) ⟨Nat.le_of_ble_eq_true rfl, Nat.le_of_ble_eq_true rfl⟩ (hC.fl hb1.1 hb1.2).1 rfl rfl rfl (Nat.le_of_ble_eq_true rfl) (Nat.le_of_ble_eq_true rfl) (Nat.le_of_ble_eq_true rfl) (fun v h1 hp => ?_)
  obtain ⟨hv, hF1⟩ := hp
  subst v
  dsimp only [Option.toList, List.cons_append, List.nil_append]
  refine k_next (P := fun x9 => CW g A hZ mnights mbits mleast mmost mroom mreserve mmount mspeed hN (ptr Ha hN 0) tq (upG G x (cutF (G x) 0 k w (sz x - w))) (upG Eg x (Eg x)) (upZ sz x (sz x - w)) (upZ pt x (pt x)) mbid mbound mcheap mpromised mcoin mpaid mowed wt gt pc LN lt x9) (hC.file hA hb1.1 hb1.2 hF1) (fun h hC => ?_)
  refine r_aload B dX9_cut_24 rfl rfl ?_
  refine r_get (C := RX0) (T := TX0) (N := 4) (ci := 0) B dX9_cut_26 in_X9_cut_X0 rfl 2 (by decide) w_X9_cut_f60 rfl (hC.fl hb1.1 hb1.2).1 rfl ?_
  exact x_ret (r_iret B hr hlk dX9_cut_29 (Nat.le_of_ble_eq_true rfl) (Nat.le_of_ble_eq_true rfl) ⟨(by unfold tCut; (repeat' split) <;> omega), by rw [upZ_at, hsz], ⟨hK, LE, RK1, RN, HK1, HN, CA, PV, CF, CN, Ha, hN, _, _, _, _, _, _, _, _, _, _, hC, (hC.sub2 hSub), hZn, (hX.cg hN0 (rowE.fil (fun i i0 i1 => (by unfold cutF; rw [if_neg (by omega)])) (fun i i0 i1 => (upZ_ne _ _ (by omega)).symm))), (hM.cut hb1.1 hb1.2 (by omega) (by omega))⟩⟩)
abbrev rmX9_copy : Room := { frames := 7, cells := 4, slots := 24, locals := 122 }
theorem in_X9_copy_X3 : ∀ w ∈ wsX30, w ∈ wsX9_copy := by decide +kernel
theorem w_X9_copy_f52 : Cond.fieldLink RX9 52 "DeltaNights$Client" "file" "LDeltaNights$ByteFile;" ∈ wsX9_copy := by decide +kernel
theorem in_X9_copy_X0 : ∀ w ∈ wsX00, w ∈ wsX9_copy := by decide +kernel
theorem w_X9_copy_f60 : Cond.fieldLink RX9 60 "DeltaNights$ByteFile" "size" "I" ∈ wsX9_copy := by decide +kernel
theorem w_X9_copy_k76 : Cond.classLink RX9 76 "java/lang/IllegalStateException" ∈ wsX9_copy := by decide +kernel
theorem w_X9_copy_ii76 : Cond.initialized "java/lang/IllegalStateException" ∈ wsX9_copy := by decide +kernel
theorem xg_X9_copy_80 : ∀ w ∈ (vx_atS RX9 80 "java/lang/IllegalStateException" xnm).filter goodWord, w ∈ wsX9_copy := by decide +kernel
set_option maxHeartbeats 4000000 in
set_option maxRecDepth 100000 in
theorem ct_X9_copy (l : Launch) (g : GG) (sz0 : Nat) {A : Nat → Nat} {Z : Nat → Prop} (hA : AOK A) {hZ : AH} {mnights mbits mleast mmost mroom mreserve mmount mspeed : Int} {mdata msize mends mmany mkind mchain mholds mbid mbound mcheap mpromised mcoin mpaid mowed : Int → Int} (hT : ST g A Z hZ mdata msize mends mmany mkind mchain mholds mnights mbits mleast mmost mroom mreserve mmount mspeed mbid mbound mcheap mpromised mcoin mpaid mowed hZ) (hG : RGm mnights mbits mleast mmost mroom mreserve mmount mspeed msize mbid mbound mcheap mpromised mcoin mpaid mowed) (x k w y : Int) (hl0 : l.stackTraces = false) (qx : -2147483648 ≤ x ∧ x < 2147483648) (qk : -2147483648 ≤ k ∧ k < 2147483648) (qw : -2147483648 ≤ w ∧ w < 2147483648) (qy : -2147483648 ≤ y ∧ y < 2147483648)  : CTX l yX9_copy wsX9_copy rmX9_copy g sz0 [.ref (A 0), .int (iI (x)), .int (iI (k)), .int (iI (w)), .int (iI (y))] hZ (fun v h' => tCopy x k w y (msize (240 + x)) (msize (240 + y)) = 0 ∧ v = some (.int (iI (msize (240 + y) + w))) ∧ ST g A Z hZ (cpyF mdata (48 * (240 + y) + msize (240 + y)) (48 * (240 + x) + k) w) (upZ msize (240 + y) (msize (240 + y) + w)) mends mmany mkind mchain mholds mnights mbits mleast mmost mroom mreserve mmount mspeed mbid mbound mcheap mpromised mcoin mpaid mowed h') (fun E h' => ((E = "java/lang/IllegalArgumentException" ∧ tCopy x k w y (msize (240 + x)) (msize (240 + y)) = 1) ∨ (E = "java/lang/IndexOutOfBoundsException" ∧ tCopy x k w y (msize (240 + x)) (msize (240 + y)) = 2) ∨ (E = "java/lang/IllegalStateException" ∧ tCopy x k w y (msize (240 + x)) (msize (240 + y)) = 3)) ∧ ST g A Z hZ mdata msize mends mmany mkind mchain mholds mnights mbits mleast mmost mroom mreserve mmount mspeed mbid mbound mcheap mpromised mcoin mpaid mowed h') := by
  refine CTX.of (by decide +kernel) rfl [some (.ref (A 0)), some (.int (iI (x))), some (.int (iI (k))), some (.int (iI (w))), some (.int (iI (y))), none, none] rfl (Nat.le_of_ble_eq_true rfl) ?_
  intro p e s m args below meth c B hr hlk hout
  have hT0 := hT
  obtain ⟨hK, LE, RK1, RN, HK1, HN, CA, PV, CF, CN, Ha, hN, tq, G, Eg, sz, pt, wt, gt, pc, LN, lt, hC, hSub, hZn, hX, hM⟩ := hT
  have hN0 := hG.1
  obtain ⟨fc, hQC, hfc⟩ := hC.qc
  refine r_aload_n B dX9_copy_0 rfl rfl ?_
  refine r_iload_n B dX9_copy_1 rfl ?_
  refine r_callVX (n := 1) B dX9_copy_2 (ct_X9_clientOf l g sz0 hC.ro hQC hfc _ hl0 (by omega)) gX9_copy_X9_clientOf rfl (by decide +kernel) ⟨Nat.le_of_ble_eq_true rfl, Nat.le_of_ble_eq_true rfl⟩ hC.ro rfl rfl rfl (Nat.le_of_ble_eq_true rfl) (Nat.le_of_ble_eq_true rfl) (Nat.le_of_ble_eq_true rfl) (fun E h' hp => wx_out hout hlk ?_ (Nat.le_of_ble_eq_true rfl) (Nat.le_of_ble_eq_true rfl)) (fun v h' hp => ?_)
  · have hx9 := hp.2.2
    exact ⟨(Or.inl ⟨hp.1, (by unfold tCopy; (repeat' split) <;> omega)⟩), by rw [hp.2.1]; exact hT0⟩
  obtain ⟨hv, hh, hb1⟩ := hp
  subst v
  subst h'
  dsimp only [Option.toList, List.cons_append, List.nil_append]
  have hsz := (hM.1 x hb1.1 hb1.2).1
  have hs8 := hG.2.2.2.2.2 (240 + x) (by omega) (by omega)
  refine r_get (C := RX3) (T := TX3) (N := 13) (ci := 3) B dX9_copy_5 in_X9_copy_X3 rfl 0 (by decide) w_X9_copy_f52 rfl (hC.cl hb1.1 hb1.2) rfl ?_
  refine r_astore B dX9_copy_8 rfl (by decide) (lcat_v rfl rfl) ?_
  refine r_aload_n B dX9_copy_10 rfl rfl ?_
  refine r_iload B dX9_copy_11 rfl ?_
  refine r_callVX (n := 1) B dX9_copy_13 (ct_X9_clientOf l g sz0 hC.ro hQC hfc _ hl0 (by omega)) gX9_copy_X9_clientOf rfl (by decide +kernel) ⟨Nat.le_of_ble_eq_true rfl, Nat.le_of_ble_eq_true rfl⟩ hC.ro rfl rfl rfl (Nat.le_of_ble_eq_true rfl) (Nat.le_of_ble_eq_true rfl) (Nat.le_of_ble_eq_true rfl) (fun E h' hp => wx_out hout hlk ?_ (Nat.le_of_ble_eq_true rfl) (Nat.le_of_ble_eq_true rfl)) (fun v h' hp => ?_)
  · have hx9 := hp.2.2
    exact ⟨(Or.inl ⟨hp.1, (by unfold tCopy; (repeat' split) <;> omega)⟩), by rw [hp.2.1]; exact hT0⟩
  obtain ⟨hv, hh, hb3⟩ := hp
  subst v
  subst h'
  dsimp only [Option.toList, List.cons_append, List.nil_append]
  have hsy := (hM.1 y hb3.1 hb3.2).1
  have hs7 := hG.2.2.2.2.2 (240 + y) (by omega) (by omega)
  refine r_get (C := RX3) (T := TX3) (N := 13) (ci := 3) B dX9_copy_16 in_X9_copy_X3 rfl 0 (by decide) w_X9_copy_f52 rfl (hC.cl hb3.1 hb3.2) rfl ?_
  refine r_astore B dX9_copy_19 rfl (by decide) (lcat_v rfl rfl) ?_
  refine r_aload B dX9_copy_21 rfl rfl ?_
  refine r_iload_n B dX9_copy_23 rfl ?_
  refine r_iload_n B dX9_copy_24 rfl ?_
  refine r_callSX (n := 3) B dX9_copy_25 (ct_X9_needRun l g sz0 (hC.fl hb1.1 hb1.2) _ _ hl0 (by omega) (by omega)) gX9_copy_X9_needRun rfl (by decide +kernel) ⟨Nat.le_of_ble_eq_true rfl, Nat.le_of_ble_eq_true rfl⟩ rfl rfl (Nat.le_of_ble_eq_true rfl) (Nat.le_of_ble_eq_true rfl) (Nat.le_of_ble_eq_true rfl) (fun E h' hp => wx_out hout hlk ?_ (Nat.le_of_ble_eq_true rfl) (Nat.le_of_ble_eq_true rfl)) (fun v h' hp => ?_)
  · have hx9 := hp.2.2
    exact ⟨(Or.inr (Or.inl ⟨hp.1, (by unfold tCopy; (repeat' split) <;> omega)⟩)), by rw [hp.2.1]; exact hT0⟩
  obtain ⟨hv, hh, hb2⟩ := hp
  subst v
  subst h'
  dsimp only [Option.toList, List.cons_append, List.nil_append]
  refine r_aload B dX9_copy_28 rfl rfl ?_
  refine r_iload_n B dX9_copy_30 rfl ?_
  refine r_callV (n := 1) B dX9_copy_31 (ct_X0_hasSpaceFor l g sz0 (hC.fl hb3.1 hb3.2) _ (by omega)) gX9_copy_X0_hasSpaceFor rfl (by decide +kernel) ⟨Nat.le_of_ble_eq_true rfl, Nat.le_of_ble_eq_true rfl⟩ (hC.fl hb3.1 hb3.2).1 rfl rfl rfl (Nat.le_of_ble_eq_true rfl) (Nat.le_of_ble_eq_true rfl) (Nat.le_of_ble_eq_true rfl) (fun v h' hp => ?_)
  obtain ⟨hv, hh⟩ := hp
  subst v
  subst h'
  dsimp only [Option.toList, List.cons_append, List.nil_append]
  refine r_if_ne B dX9_copy_34 (tgt := 47) (by decide) (bI_rng _) (fun c34 => ?_) (fun c34 => ?_)
  · replace c34 := bI_n0.mp c34
    refine r_aload B dX9_copy_47 rfl rfl ?_
    refine r_aload B dX9_copy_49 rfl rfl ?_
    refine r_iload_n B dX9_copy_51 rfl ?_
    refine r_iload_n B dX9_copy_52 rfl ?_
    refine r_callV (n := 3) B dX9_copy_53 (ct_append2 l g sz0 hA hC hb1.1 hb1.2 hb3.1 hb3.2 _ _ (by omega)) gX9_copy_X0_append rfl (by decide +kernel) ⟨Nat.le_of_ble_eq_true rfl, Nat.le_of_ble_eq_true rfl⟩ (hC.fl hb3.1 hb3.2).1 rfl rfl rfl (Nat.le_of_ble_eq_true rfl) (Nat.le_of_ble_eq_true rfl) (Nat.le_of_ble_eq_true rfl) (fun v h1 hp => ?_)
    obtain ⟨hv, hF1⟩ := hp
    subst v
    dsimp only [Option.toList, List.cons_append, List.nil_append]
    refine k_next (P := fun x9 => CW g A hZ mnights mbits mleast mmost mroom mreserve mmount mspeed hN (ptr Ha hN 0) tq (upG G y (appF (G y) (G x) (sz y) k w)) (upG Eg y (Eg y)) (upZ sz y (sz y + w)) (upZ pt y (pt y)) mbid mbound mcheap mpromised mcoin mpaid mowed wt gt pc LN lt x9) (hC.file hA hb3.1 hb3.2 hF1) (fun h hC => ?_)
    refine r_aload B dX9_copy_56 rfl rfl ?_
    refine r_get (C := RX0) (T := TX0) (N := 4) (ci := 0) B dX9_copy_58 in_X9_copy_X0 rfl 2 (by decide) w_X9_copy_f60 rfl (hC.fl hb3.1 hb3.2).1 rfl ?_
    exact x_ret (r_iret B hr hlk dX9_copy_61 (Nat.le_of_ble_eq_true rfl) (Nat.le_of_ble_eq_true rfl) ⟨(by unfold tCopy; (repeat' split) <;> omega), by rw [upZ_at, hsy], ⟨hK, LE, RK1, RN, HK1, HN, CA, PV, CF, CN, Ha, hN, _, _, _, _, _, _, _, _, _, _, hC, (hC.sub2 hSub), hZn, (hX.cg hN0 (rowE.fil (fun i i0 i1 => (by unfold cpyF; rw [if_neg (by omega)])) (fun i i0 i1 => (upZ_ne _ _ (by omega)).symm))), (hM.app hb1.1 hb1.2 hb3.1 hb3.2 (by omega) (by omega) (by omega))⟩⟩)
  · replace c34 := bI_0.mp c34
    exact r_throwS (text := "the other file would be too long") B hl0 xat_IS w_X9_copy_k76 w_X9_copy_ii76 xg_X9_copy_80 (by decide +kernel) dX9_copy_37 dX9_copy_40 dX9_copy_41 dX9_copy_43 dX9_copy_46 hout hlk (Nat.le_of_ble_eq_true rfl) (Nat.le_of_ble_eq_true rfl) (Nat.le_of_ble_eq_true rfl) (Nat.le_of_ble_eq_true rfl) (Nat.le_of_ble_eq_true rfl) (Nat.le_of_ble_eq_true rfl) ⟨(Or.inr (Or.inr ⟨rfl, (by unfold tCopy; (repeat' split) <;> omega)⟩)), hT0⟩
