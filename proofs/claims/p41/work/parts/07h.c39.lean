abbrev rmX9_chunks : Room := { frames := 8, cells := 1, slots := 6, locals := 144 }
theorem in_X9_chunks_X0 : ∀ w ∈ wsX00, w ∈ wsX9_chunks := by decide +kernel
theorem w_X9_chunks_f130 : Cond.fieldLink RX9 130 "DeltaNights$ByteFile" "parts" "I" ∈ wsX9_chunks := by decide +kernel
set_option maxHeartbeats 4000000 in
set_option maxRecDepth 100000 in
theorem ct_X9_chunks (l : Launch) (g : GG) (sz0 : Nat) {A : Nat → Nat} {Z : Nat → Prop} (hA : AOK A) {hZ : AH} {mnights mbits mleast mmost mroom mreserve mmount mspeed : Int} {mdata msize mends mmany mkind mchain mholds mbid mbound mcheap mpromised mcoin mpaid mowed : Int → Int} (hT : ST g A Z hZ mdata msize mends mmany mkind mchain mholds mnights mbits mleast mmost mroom mreserve mmount mspeed mbid mbound mcheap mpromised mcoin mpaid mowed hZ) (hG : RGm mnights mbits mleast mmost mroom mreserve mmount mspeed msize mbid mbound mcheap mpromised mcoin mpaid mowed) (x : Int) (hl0 : l.stackTraces = false) (qx : -2147483648 ≤ x ∧ x < 2147483648)  : CTX l yX9_chunks wsX9_chunks rmX9_chunks g sz0 [.ref (A 0), .int (iI (x))] hZ (fun v h' => tCl x = 0 ∧ v = some (.int (iI ((cutR (rowF mdata (240 + x)) (msize (240 + x)) mbits mleast mmost).2.1))) ∧ ST g A Z hZ mdata msize mends mmany mkind mchain mholds mnights mbits mleast mmost mroom mreserve mmount mspeed mbid mbound mcheap mpromised mcoin mpaid mowed h') (fun E h' => ((E = "java/lang/IllegalArgumentException" ∧ tCl x = 1)) ∧ ST g A Z hZ mdata msize mends mmany mkind mchain mholds mnights mbits mleast mmost mroom mreserve mmount mspeed mbid mbound mcheap mpromised mcoin mpaid mowed h') := by
  refine CTX.of (by decide +kernel) rfl [some (.ref (A 0)), some (.int (iI (x)))] rfl (Nat.le_of_ble_eq_true rfl) ?_
  intro p e s m args below meth c B hr hlk hout
  have hT0 := hT
  obtain ⟨hK, LE, RK1, RN, HK1, HN, CA, PV, CF, CN, Ha, hN, tq, G, Eg, sz, pt, wt, gt, pc, LN, lt, hC, hSub, hZn, hX, hM⟩ := hT
  have hN0 := hG.1
  obtain ⟨fc, hQC, hfc⟩ := hC.qc
  have hms9 : 1 ≤ mmost ∧ mmost ≤ 24 ∧ 0 ≤ mleast ∧ mleast < 100 := by have := hG.2.1; omega
  have hG255 : ∀ x : Int, 0 ≤ x → x ≤ 3 → ∀ j : Int, 0 ≤ G x j ∧ G x j ≤ 255 := fun x x0 x1 => (hM.1 x x0 x1).2.1
  refine r_aload_n B dX9_chunks_0 rfl rfl ?_
  refine r_iload_n B dX9_chunks_1 rfl ?_
  refine r_callVX (n := 1) B dX9_chunks_2 (ct_X9_freshlyCut l g sz0 hA hC _ hl0 (by omega) hG255 hms9) gX9_chunks_X9_freshlyCut rfl (by decide +kernel) ⟨Nat.le_of_ble_eq_true rfl, Nat.le_of_ble_eq_true rfl⟩ hC.ro rfl rfl rfl (Nat.le_of_ble_eq_true rfl) (Nat.le_of_ble_eq_true rfl) (Nat.le_of_ble_eq_true rfl) (fun E h' hp => wx_out hout hlk ?_ (Nat.le_of_ble_eq_true rfl) (Nat.le_of_ble_eq_true rfl)) (fun v h1 hp => ?_)
  · have hx9 := hp.2.2
    exact ⟨⟨hp.1, (by unfold tCl; (repeat' split) <;> omega)⟩, by rw [hp.2.1]; exact hT0⟩
  obtain ⟨hv, hb1, hC1⟩ := hp
  subst v
  dsimp only [Option.toList, List.cons_append, List.nil_append]
  refine k_next (P := fun x9 => CW g A hZ mnights mbits mleast mmost mroom mreserve mmount mspeed hN (ptr Ha hN 0) tq G (upG Eg x ((ctE Eg G sz mbits mleast mmost) x)) sz (upZ pt x ((ctN G sz mbits mleast mmost) x)) mbid mbound mcheap mpromised mcoin mpaid mowed wt gt pc LN lt x9) (hC1) (fun h hC => ?_)
  have hsz := (hM.1 x hb1.1 hb1.2).1
  have hs8 := hG.2.2.2.2.2 (240 + x) (by omega) (by omega)
  have hcr := hM.cr hb1.1 hb1.2 hs8 mbits mleast mmost
  have hE9 := ctE_ok Eg G sz mbits mleast mmost (x := x) (by rw [hsz]; exact hs8.1) (by rw [hsz]; exact hs8.2)
  have hFx := hC.fl hb1.1 hb1.2
  have e1 : upG Eg x ((ctE Eg G sz mbits mleast mmost) x) x = (ctE Eg G sz mbits mleast mmost) x := if_pos rfl
  rw [e1, upZ_at] at hFx
  refine r_get (C := RX0) (T := TX0) (N := 4) (ci := 0) B dX9_chunks_5 in_X9_chunks_X0 rfl 3 (by decide) w_X9_chunks_f130 rfl hFx.1 rfl ?_
  exact x_ret (r_iret B hr hlk dX9_chunks_8 (Nat.le_of_ble_eq_true rfl) (Nat.le_of_ble_eq_true rfl) ⟨(by unfold tCl; (repeat' split) <;> omega), by unfold ctN; rw [hcr], ⟨hK, LE, RK1, RN, HK1, HN, CA, PV, CF, CN, Ha, hN, _, _, _, _, _, _, _, _, _, _, hC, (hC.sub2 hSub), hZn, hX, hM⟩⟩)
abbrev rmX9_end : Room := { frames := 8, cells := 2, slots := 12, locals := 144 }
theorem w_X9_end_k65 : Cond.classLink RX9 65 "java/lang/IndexOutOfBoundsException" ∈ wsX9_end := by decide +kernel
theorem w_X9_end_ii65 : Cond.initialized "java/lang/IndexOutOfBoundsException" ∈ wsX9_end := by decide +kernel
theorem xg_X9_end_69 : ∀ w ∈ (vx_atS RX9 69 "java/lang/IndexOutOfBoundsException" xnm).filter goodWord, w ∈ wsX9_end := by decide +kernel
theorem in_X9_end_X0 : ∀ w ∈ wsX00, w ∈ wsX9_end := by decide +kernel
theorem w_X9_end_f130 : Cond.fieldLink RX9 130 "DeltaNights$ByteFile" "parts" "I" ∈ wsX9_end := by decide +kernel
set_option maxHeartbeats 4000000 in
set_option maxRecDepth 100000 in
theorem ct_X9_end (l : Launch) (g : GG) (sz0 : Nat) {A : Nat → Nat} {Z : Nat → Prop} (hA : AOK A) {hZ : AH} {mnights mbits mleast mmost mroom mreserve mmount mspeed : Int} {mdata msize mends mmany mkind mchain mholds mbid mbound mcheap mpromised mcoin mpaid mowed : Int → Int} (hT : ST g A Z hZ mdata msize mends mmany mkind mchain mholds mnights mbits mleast mmost mroom mreserve mmount mspeed mbid mbound mcheap mpromised mcoin mpaid mowed hZ) (hG : RGm mnights mbits mleast mmost mroom mreserve mmount mspeed msize mbid mbound mcheap mpromised mcoin mpaid mowed) (x y : Int) (hl0 : l.stackTraces = false) (qx : -2147483648 ≤ x ∧ x < 2147483648) (qy : -2147483648 ≤ y ∧ y < 2147483648)  : CTX l yX9_end wsX9_end rmX9_end g sz0 [.ref (A 0), .int (iI (x)), .int (iI (y))] hZ (fun v h' => tNi x y (cutR (rowF mdata (240 + x)) (msize (240 + x)) mbits mleast mmost).2.1 = 0 ∧ v = some (.int (iI ((cutR (rowF mdata (240 + x)) (msize (240 + x)) mbits mleast mmost).2.2 y))) ∧ ST g A Z hZ mdata msize mends mmany mkind mchain mholds mnights mbits mleast mmost mroom mreserve mmount mspeed mbid mbound mcheap mpromised mcoin mpaid mowed h') (fun E h' => ((E = "java/lang/IllegalArgumentException" ∧ tNi x y (cutR (rowF mdata (240 + x)) (msize (240 + x)) mbits mleast mmost).2.1 = 1) ∨ (E = "java/lang/IndexOutOfBoundsException" ∧ tNi x y (cutR (rowF mdata (240 + x)) (msize (240 + x)) mbits mleast mmost).2.1 = 2)) ∧ ST g A Z hZ mdata msize mends mmany mkind mchain mholds mnights mbits mleast mmost mroom mreserve mmount mspeed mbid mbound mcheap mpromised mcoin mpaid mowed h') := by
  refine CTX.of (by decide +kernel) rfl [some (.ref (A 0)), some (.int (iI (x))), some (.int (iI (y))), none] rfl (Nat.le_of_ble_eq_true rfl) ?_
  intro p e s m args below meth c B hr hlk hout
  have hT0 := hT
  obtain ⟨hK, LE, RK1, RN, HK1, HN, CA, PV, CF, CN, Ha, hN, tq, G, Eg, sz, pt, wt, gt, pc, LN, lt, hC, hSub, hZn, hX, hM⟩ := hT
  have hN0 := hG.1
  obtain ⟨fc, hQC, hfc⟩ := hC.qc
  have hms9 : 1 ≤ mmost ∧ mmost ≤ 24 ∧ 0 ≤ mleast ∧ mleast < 100 := by have := hG.2.1; omega
  have hG255 : ∀ x : Int, 0 ≤ x → x ≤ 3 → ∀ j : Int, 0 ≤ G x j ∧ G x j ≤ 255 := fun x x0 x1 => (hM.1 x x0 x1).2.1
  refine r_aload_n B dX9_end_0 rfl rfl ?_
  refine r_iload_n B dX9_end_1 rfl ?_
  refine r_callVX (n := 1) B dX9_end_2 (ct_X9_freshlyCut l g sz0 hA hC _ hl0 (by omega) hG255 hms9) gX9_end_X9_freshlyCut rfl (by decide +kernel) ⟨Nat.le_of_ble_eq_true rfl, Nat.le_of_ble_eq_true rfl⟩ hC.ro rfl rfl rfl (Nat.le_of_ble_eq_true rfl) (Nat.le_of_ble_eq_true rfl) (Nat.le_of_ble_eq_true rfl) (fun E h' hp => wx_out hout hlk ?_ (Nat.le_of_ble_eq_true rfl) (Nat.le_of_ble_eq_true rfl)) (fun v h1 hp => ?_)
  · have hx9 := hp.2.2
    exact ⟨(Or.inl ⟨hp.1, (by unfold tNi; (repeat' split) <;> omega)⟩), by rw [hp.2.1]; exact hT0⟩
  obtain ⟨hv, hb1, hC1⟩ := hp
  subst v
  dsimp only [Option.toList, List.cons_append, List.nil_append]
  refine k_next (P := fun x9 => CW g A hZ mnights mbits mleast mmost mroom mreserve mmount mspeed hN (ptr Ha hN 0) tq G (upG Eg x ((ctE Eg G sz mbits mleast mmost) x)) sz (upZ pt x ((ctN G sz mbits mleast mmost) x)) mbid mbound mcheap mpromised mcoin mpaid mowed wt gt pc LN lt x9) (hC1) (fun h hC => ?_)
  have hsz := (hM.1 x hb1.1 hb1.2).1
  have hs8 := hG.2.2.2.2.2 (240 + x) (by omega) (by omega)
  have hcr := hM.cr hb1.1 hb1.2 hs8 mbits mleast mmost
  have hE9 := ctE_ok Eg G sz mbits mleast mmost (x := x) (by rw [hsz]; exact hs8.1) (by rw [hsz]; exact hs8.2)
  have hFx := hC.fl hb1.1 hb1.2
  have e1 : upG Eg x ((ctE Eg G sz mbits mleast mmost) x) x = (ctE Eg G sz mbits mleast mmost) x := if_pos rfl
  rw [e1, upZ_at] at hFx
  have hn9 : (ctN G sz mbits mleast mmost) x = (cutR (rowF mdata (240 + x)) (msize (240 + x)) mbits mleast mmost).2.1 := by unfold ctN; rw [hcr]
  refine r_astore_n B dX9_end_5 rfl rfl (by decide) (lcat_v rfl rfl) ?_
  refine r_iload_n B dX9_end_6 rfl ?_
  refine r_if_lt B dX9_end_7 (tgt := 18) (by decide) (by omega) (fun c7 => ?_) (fun c7 => ?_)
  · exact r_throwS (text := "no such chunk") B hl0 xat_IO w_X9_end_k65 w_X9_end_ii65 xg_X9_end_69 (by decide +kernel) dX9_end_18 dX9_end_21 dX9_end_22 dX9_end_24 dX9_end_27 hout hlk (Nat.le_of_ble_eq_true rfl) (Nat.le_of_ble_eq_true rfl) (Nat.le_of_ble_eq_true rfl) (Nat.le_of_ble_eq_true rfl) (Nat.le_of_ble_eq_true rfl) (Nat.le_of_ble_eq_true rfl) ⟨(Or.inr ⟨rfl, (by unfold tNi; (repeat' split) <;> omega)⟩), ⟨hK, LE, RK1, RN, HK1, HN, CA, PV, CF, CN, Ha, hN, _, _, _, _, _, _, _, _, _, _, hC, (hC.sub2 hSub), hZn, hX, hM⟩⟩
  · refine r_iload_n B dX9_end_10 rfl ?_
    refine r_aload_n B dX9_end_11 rfl rfl ?_
    refine r_get (C := RX0) (T := TX0) (N := 4) (ci := 0) B dX9_end_12 in_X9_end_X0 rfl 3 (by decide) w_X9_end_f130 rfl hFx.1 rfl ?_
    refine r_icmp_lt B dX9_end_15 (tgt := 28) (by decide) (by omega) (by omega) (fun c15 => ?_) (fun c15 => ?_)
    · refine r_aload_n B dX9_end_28 rfl rfl ?_
      refine r_iload_n B dX9_end_29 rfl ?_
      refine r_callV (n := 1) B dX9_end_30 (ct_X0_partEnd l g sz0 hFx _ (by omega)) gX9_end_X0_partEnd rfl (by decide +kernel) ⟨Nat.le_of_ble_eq_true rfl, Nat.le_of_ble_eq_true rfl⟩ hFx.1 rfl rfl rfl (Nat.le_of_ble_eq_true rfl) (Nat.le_of_ble_eq_true rfl) (Nat.le_of_ble_eq_true rfl) (fun v h' hp => ?_)
      obtain ⟨hv, hh⟩ := hp
      subst v
      subst h'
      dsimp only [Option.toList, List.cons_append, List.nil_append]
      rw [ptF_in (by omega), ctE_at Eg G sz mbits mleast mmost (by omega) (by omega), hcr]
      exact x_ret (r_iret B hr hlk dX9_end_33 (Nat.le_of_ble_eq_true rfl) (Nat.le_of_ble_eq_true rfl) ⟨(by unfold tNi; (repeat' split) <;> omega), rfl, ⟨hK, LE, RK1, RN, HK1, HN, CA, PV, CF, CN, Ha, hN, _, _, _, _, _, _, _, _, _, _, hC, (hC.sub2 hSub), hZn, hX, hM⟩⟩)
    · exact r_throwS (text := "no such chunk") B hl0 xat_IO w_X9_end_k65 w_X9_end_ii65 xg_X9_end_69 (by decide +kernel) dX9_end_18 dX9_end_21 dX9_end_22 dX9_end_24 dX9_end_27 hout hlk (Nat.le_of_ble_eq_true rfl) (Nat.le_of_ble_eq_true rfl) (Nat.le_of_ble_eq_true rfl) (Nat.le_of_ble_eq_true rfl) (Nat.le_of_ble_eq_true rfl) (Nat.le_of_ble_eq_true rfl) ⟨(Or.inr ⟨rfl, (by unfold tNi; (repeat' split) <;> omega)⟩), ⟨hK, LE, RK1, RN, HK1, HN, CA, PV, CF, CN, Ha, hN, _, _, _, _, _, _, _, _, _, _, hC, (hC.sub2 hSub), hZn, hX, hM⟩⟩
abbrev rmX9_forBase : Room := { frames := 8, cells := 1, slots := 6, locals := 144 }
set_option maxHeartbeats 4000000 in
set_option maxRecDepth 100000 in
theorem ct_X9_forBase (l : Launch) (g : GG) (sz0 : Nat) {A : Nat → Nat} {Z : Nat → Prop} (hA : AOK A) {hZ : AH} {mnights mbits mleast mmost mroom mreserve mmount mspeed : Int} {mdata msize mends mmany mkind mchain mholds mbid mbound mcheap mpromised mcoin mpaid mowed : Int → Int} (hT : ST g A Z hZ mdata msize mends mmany mkind mchain mholds mnights mbits mleast mmost mroom mreserve mmount mspeed mbid mbound mcheap mpromised mcoin mpaid mowed hZ) (hG : RGm mnights mbits mleast mmost mroom mreserve mmount mspeed msize mbid mbound mcheap mpromised mcoin mpaid mowed) (x : Int) (hl0 : l.stackTraces = false) (qx : -2147483648 ≤ x ∧ x < 2147483648)  : CTX l yX9_forBase wsX9_forBase rmX9_forBase g sz0 [.ref (A 0), .int (iI (x))] hZ (fun v h' => tCl x = 0 ∧ v = some (.int (iI (baseB (rowF mdata (240 + x)) (cutR (rowF mdata (240 + x)) (msize (240 + x)) mbits mleast mmost).2.2 (cutR (rowF mdata (240 + x)) (msize (240 + x)) mbits mleast mmost).2.1))) ∧ ST g A Z hZ mdata msize mends mmany mkind mchain mholds mnights mbits mleast mmost mroom mreserve mmount mspeed mbid mbound mcheap mpromised mcoin mpaid mowed h') (fun E h' => ((E = "java/lang/IllegalArgumentException" ∧ tCl x = 1)) ∧ ST g A Z hZ mdata msize mends mmany mkind mchain mholds mnights mbits mleast mmost mroom mreserve mmount mspeed mbid mbound mcheap mpromised mcoin mpaid mowed h') := by
  refine CTX.of (by decide +kernel) rfl [some (.ref (A 0)), some (.int (iI (x)))] rfl (Nat.le_of_ble_eq_true rfl) ?_
  intro p e s m args below meth c B hr hlk hout
  have hT0 := hT
  obtain ⟨hK, LE, RK1, RN, HK1, HN, CA, PV, CF, CN, Ha, hN, tq, G, Eg, sz, pt, wt, gt, pc, LN, lt, hC, hSub, hZn, hX, hM⟩ := hT
  have hN0 := hG.1
  obtain ⟨fc, hQC, hfc⟩ := hC.qc
  have hms9 : 1 ≤ mmost ∧ mmost ≤ 24 ∧ 0 ≤ mleast ∧ mleast < 100 := by have := hG.2.1; omega
  have hG255 : ∀ x : Int, 0 ≤ x → x ≤ 3 → ∀ j : Int, 0 ≤ G x j ∧ G x j ≤ 255 := fun x x0 x1 => (hM.1 x x0 x1).2.1
  refine r_aload_n B dX9_forBase_0 rfl rfl ?_
  refine r_iload_n B dX9_forBase_1 rfl ?_
  refine r_callVX (n := 1) B dX9_forBase_2 (ct_X9_freshlyCut l g sz0 hA hC _ hl0 (by omega) hG255 hms9) gX9_forBase_X9_freshlyCut rfl (by decide +kernel) ⟨Nat.le_of_ble_eq_true rfl, Nat.le_of_ble_eq_true rfl⟩ hC.ro rfl rfl rfl (Nat.le_of_ble_eq_true rfl) (Nat.le_of_ble_eq_true rfl) (Nat.le_of_ble_eq_true rfl) (fun E h' hp => wx_out hout hlk ?_ (Nat.le_of_ble_eq_true rfl) (Nat.le_of_ble_eq_true rfl)) (fun v h1 hp => ?_)
  · have hx9 := hp.2.2
    exact ⟨⟨hp.1, (by unfold tCl; (repeat' split) <;> omega)⟩, by rw [hp.2.1]; exact hT0⟩
  obtain ⟨hv, hb1, hC1⟩ := hp
  subst v
  dsimp only [Option.toList, List.cons_append, List.nil_append]
  refine k_next (P := fun x9 => CW g A hZ mnights mbits mleast mmost mroom mreserve mmount mspeed hN (ptr Ha hN 0) tq G (upG Eg x ((ctE Eg G sz mbits mleast mmost) x)) sz (upZ pt x ((ctN G sz mbits mleast mmost) x)) mbid mbound mcheap mpromised mcoin mpaid mowed wt gt pc LN lt x9) (hC1) (fun h hC => ?_)
  have hsz := (hM.1 x hb1.1 hb1.2).1
  have hs8 := hG.2.2.2.2.2 (240 + x) (by omega) (by omega)
  have hcr := hM.cr hb1.1 hb1.2 hs8 mbits mleast mmost
  have hE9 := ctE_ok Eg G sz mbits mleast mmost (x := x) (by rw [hsz]; exact hs8.1) (by rw [hsz]; exact hs8.2)
  have hFx := hC.fl hb1.1 hb1.2
  have e1 : upG Eg x ((ctE Eg G sz mbits mleast mmost) x) x = (ctE Eg G sz mbits mleast mmost) x := if_pos rfl
  rw [e1, upZ_at] at hFx
  have hC00 : CHN g LE RK1 RN HK1 HN (fun _ => 0) 0 h := fun i i0 i1 => absurd i1 (by omega)
  have hH00 : ∀ i : Int, 0 ≤ i → i < 0 → RK g CA PV CF CN (HK1 0) (HN 0) h := fun i i0 i1 => absurd i1 (by omega)
  refine r_null B dX9_forBase_5 ?_
  refine r_topn ?_
  refine r_topv (o' := ptr (fun _ => 0) 0 0) rfl ?_
  refine r_callV (n := 1) B dX9_forBase_6 (ct_X0_linkBytes l g sz0 hFx hC00 hE9.1 hH00) gX9_forBase_X0_linkBytes rfl (by decide +kernel) ⟨Nat.le_of_ble_eq_true rfl, Nat.le_of_ble_eq_true rfl⟩ hFx.1 rfl rfl rfl (Nat.le_of_ble_eq_true rfl) (Nat.le_of_ble_eq_true rfl) (Nat.le_of_ble_eq_true rfl) (fun v h' hp => ?_)
  obtain ⟨hv, hh⟩ := hp
  subst v
  subst h'
  dsimp only [Option.toList, List.cons_append, List.nil_append]
  rw [lb_dif hE9.2.1 hH00 hE9.1, cut_base hM hG hb1.1 hb1.2 (fun c => chP_0 c)]
  exact x_ret (r_iret B hr hlk dX9_forBase_9 (Nat.le_of_ble_eq_true rfl) (Nat.le_of_ble_eq_true rfl) ⟨(by unfold tCl; (repeat' split) <;> omega), rfl, ⟨hK, LE, RK1, RN, HK1, HN, CA, PV, CF, CN, Ha, hN, _, _, _, _, _, _, _, _, _, _, hC, (hC.sub2 hSub), hZn, hX, hM⟩⟩)
abbrev rmX9_forDifference : Room := { frames := 8, cells := 3, slots := 18, locals := 144 }
theorem in_X9_forDifference_X3 : ∀ w ∈ wsX30, w ∈ wsX9_forDifference := by decide +kernel
theorem w_X9_forDifference_f160 : Cond.fieldLink RX9 160 "DeltaNights$Client" "latest" "LDeltaNights$Link;" ∈ wsX9_forDifference := by decide +kernel
theorem w_X9_forDifference_k76 : Cond.classLink RX9 76 "java/lang/IllegalStateException" ∈ wsX9_forDifference := by decide +kernel
theorem w_X9_forDifference_ii76 : Cond.initialized "java/lang/IllegalStateException" ∈ wsX9_forDifference := by decide +kernel
theorem xg_X9_forDifference_80 : ∀ w ∈ (vx_atS RX9 80 "java/lang/IllegalStateException" xnm).filter goodWord, w ∈ wsX9_forDifference := by decide +kernel
set_option maxHeartbeats 4000000 in
set_option maxRecDepth 100000 in
theorem ct_X9_forDifference (l : Launch) (g : GG) (sz0 : Nat) {A : Nat → Nat} {Z : Nat → Prop} (hA : AOK A) {hZ : AH} {mnights mbits mleast mmost mroom mreserve mmount mspeed : Int} {mdata msize mends mmany mkind mchain mholds mbid mbound mcheap mpromised mcoin mpaid mowed : Int → Int} (hT : ST g A Z hZ mdata msize mends mmany mkind mchain mholds mnights mbits mleast mmost mroom mreserve mmount mspeed mbid mbound mcheap mpromised mcoin mpaid mowed hZ) (hG : RGm mnights mbits mleast mmost mroom mreserve mmount mspeed msize mbid mbound mcheap mpromised mcoin mpaid mowed) (x : Int) (hl0 : l.stackTraces = false) (qx : -2147483648 ≤ x ∧ x < 2147483648)  : CTX l yX9_forDifference wsX9_forDifference rmX9_forDifference g sz0 [.ref (A 0), .int (iI (x))] hZ (fun v h' => tDif x (ltN (colF mkind x) mnights.toNat) = 0 ∧ v = some (.int (iI (difB (rowF mdata (240 + x)) (cutR (rowF mdata (240 + x)) (msize (240 + x)) mbits mleast mmost).2.2 (cutR (rowF mdata (240 + x)) (msize (240 + x)) mbits mleast mmost).2.1 (inCh mdata mends mmany mkind mchain mholds mnights x)))) ∧ ST g A Z hZ mdata msize mends mmany mkind mchain mholds mnights mbits mleast mmost mroom mreserve mmount mspeed mbid mbound mcheap mpromised mcoin mpaid mowed h') (fun E h' => ((E = "java/lang/IllegalArgumentException" ∧ tDif x (ltN (colF mkind x) mnights.toNat) = 1) ∨ (E = "java/lang/IllegalStateException" ∧ tDif x (ltN (colF mkind x) mnights.toNat) = 2)) ∧ ST g A Z hZ mdata msize mends mmany mkind mchain mholds mnights mbits mleast mmost mroom mreserve mmount mspeed mbid mbound mcheap mpromised mcoin mpaid mowed h') := by
  refine CTX.of (by decide +kernel) rfl [some (.ref (A 0)), some (.int (iI (x))), none, none] rfl (Nat.le_of_ble_eq_true rfl) ?_
  intro p e s m args below meth c B hr hlk hout
  have hT0 := hT
  obtain ⟨hK, LE, RK1, RN, HK1, HN, CA, PV, CF, CN, Ha, hN, tq, G, Eg, sz, pt, wt, gt, pc, LN, lt, hC, hSub, hZn, hX, hM⟩ := hT
  have hN0 := hG.1
  obtain ⟨fc, hQC, hfc⟩ := hC.qc
  have hms9 : 1 ≤ mmost ∧ mmost ≤ 24 ∧ 0 ≤ mleast ∧ mleast < 100 := by have := hG.2.1; omega
  have hG255 : ∀ x : Int, 0 ≤ x → x ≤ 3 → ∀ j : Int, 0 ≤ G x j ∧ G x j ≤ 255 := fun x x0 x1 => (hM.1 x x0 x1).2.1
  obtain ⟨La, nt, len, hchc, hlen, hchn⟩ := hX.chc hN0
  refine r_aload_n B dX9_forDifference_0 rfl rfl ?_
  refine r_iload_n B dX9_forDifference_1 rfl ?_
  refine r_callVX (n := 1) B dX9_forDifference_2 (ct_X9_freshlyCut l g sz0 hA hC _ hl0 (by omega) hG255 hms9) gX9_forDifference_X9_freshlyCut rfl (by decide +kernel) ⟨Nat.le_of_ble_eq_true rfl, Nat.le_of_ble_eq_true rfl⟩ hC.ro rfl rfl rfl (Nat.le_of_ble_eq_true rfl) (Nat.le_of_ble_eq_true rfl) (Nat.le_of_ble_eq_true rfl) (fun E h' hp => wx_out hout hlk ?_ (Nat.le_of_ble_eq_true rfl) (Nat.le_of_ble_eq_true rfl)) (fun v h1 hp => ?_)
  · have hx9 := hp.2.2
    exact ⟨(Or.inl ⟨hp.1, (by unfold tDif; (repeat' split) <;> omega)⟩), by rw [hp.2.1]; exact hT0⟩
  obtain ⟨hv, hb1, hC1⟩ := hp
  subst v
  dsimp only [Option.toList, List.cons_append, List.nil_append]
  refine k_next (P := fun x9 => CW g A hZ mnights mbits mleast mmost mroom mreserve mmount mspeed hN (ptr Ha hN 0) tq G (upG Eg x ((ctE Eg G sz mbits mleast mmost) x)) sz (upZ pt x ((ctN G sz mbits mleast mmost) x)) mbid mbound mcheap mpromised mcoin mpaid mowed wt gt pc LN lt x9) (hC1) (fun h hC => ?_)
  have hsz := (hM.1 x hb1.1 hb1.2).1
  have hs8 := hG.2.2.2.2.2 (240 + x) (by omega) (by omega)
  have hcr := hM.cr hb1.1 hb1.2 hs8 mbits mleast mmost
  have hE9 := ctE_ok Eg G sz mbits mleast mmost (x := x) (by rw [hsz]; exact hs8.1) (by rw [hsz]; exact hs8.2)
  have hFx := hC.fl hb1.1 hb1.2
  have e1 : upG Eg x ((ctE Eg G sz mbits mleast mmost) x) x = (ctE Eg G sz mbits mleast mmost) x := if_pos rfl
  rw [e1, upZ_at] at hFx
  have hdn9 := dfN_neg (K := colF mkind x) (n := mnights.toNat)
  have hl9 := (hlen x hb1.1 hb1.2).1
  have hchh := hchc.sub (hC.sub hSub) x hb1.1 hb1.2
  obtain ⟨fc2, hQC2, hfc2⟩ := hC.qc
  refine r_astore_n B dX9_forDifference_5 rfl rfl (by decide) (lcat_v rfl rfl) ?_
  refine r_aload_n B dX9_forDifference_6 rfl rfl ?_
  refine r_iload_n B dX9_forDifference_7 rfl ?_
  refine r_callVX (n := 1) B dX9_forDifference_8 (ct_X9_clientOf l g sz0 hC.ro hQC2 hfc2 _ hl0 (by omega)) gX9_forDifference_X9_clientOf rfl (by decide +kernel) ⟨Nat.le_of_ble_eq_true rfl, Nat.le_of_ble_eq_true rfl⟩ hC.ro rfl rfl rfl (Nat.le_of_ble_eq_true rfl) (Nat.le_of_ble_eq_true rfl) (Nat.le_of_ble_eq_true rfl) (fun E h' hp => wx_out hout hlk ?_ (Nat.le_of_ble_eq_true rfl) (Nat.le_of_ble_eq_true rfl)) (fun v h' hp => ?_)
  · exact absurd hb1 hp.2.2
  obtain ⟨hv, hh, hb2⟩ := hp
  subst v
  subst h'
  dsimp only [Option.toList, List.cons_append, List.nil_append]
  refine r_get (C := RX3) (T := TX3) (N := 13) (ci := 3) B dX9_forDifference_11 in_X9_forDifference_X3 rfl 2 (by decide) w_X9_forDifference_f160 rfl (hC.cl hb1.1 hb1.2) rfl ?_
  refine r_topv hchh.1 ?_
  refine r_astore_n B dX9_forDifference_14 rfl (va_rf_isRef _) (by decide) (lcat_v rfl rfl) ?_
  refine r_aload_n B dX9_forDifference_15 rfl (va_rf_isRef _) ?_
  refine r_ifnonnull B dX9_forDifference_16 (tgt := 29) (by decide) (fun a16 c16 => ?_) (fun c16 => ?_)
  · have hp9 := ptr_some c16
    refine r_aload_n B dX9_forDifference_29 rfl rfl ?_
    refine r_aload_n B dX9_forDifference_30 rfl (va_rf_isRef _) ?_
    refine r_callV (n := 1) B dX9_forDifference_31 (ct_X0_linkBytes l g sz0 hFx hchh.2.2.1 hE9.1 hchh.2.2.2.2) gX9_forDifference_X0_linkBytes rfl (by decide +kernel) ⟨Nat.le_of_ble_eq_true rfl, Nat.le_of_ble_eq_true rfl⟩ hFx.1 rfl rfl rfl (Nat.le_of_ble_eq_true rfl) (Nat.le_of_ble_eq_true rfl) (Nat.le_of_ble_eq_true rfl) (fun v h' hp => ?_)
    obtain ⟨hv, hh⟩ := hp
    subst v
    subst h'
    dsimp only [Option.toList, List.cons_append, List.nil_append]
    rw [lb_dif hE9.2.1 hchh.2.2.2.2 hE9.1, cut_dif hM hG hb1.1 hb1.2 (fun c => chain_in hX hN0 hlen hchn hb1.1 hb1.2 c)]
    exact x_ret (r_iret B hr hlk dX9_forDifference_34 (Nat.le_of_ble_eq_true rfl) (Nat.le_of_ble_eq_true rfl) ⟨(by unfold tDif; rw [if_neg (by omega), if_neg (by omega)]), rfl, ⟨hK, LE, RK1, RN, HK1, HN, CA, PV, CF, CN, Ha, hN, _, _, _, _, _, _, _, _, _, _, hC, (hC.sub2 hSub), hZn, hX, hM⟩⟩)
  · have hp9 := ptr_none c16
    exact r_throwS (text := "the client has no chain") B hl0 xat_IS w_X9_forDifference_k76 w_X9_forDifference_ii76 xg_X9_forDifference_80 (by decide +kernel) dX9_forDifference_19 dX9_forDifference_22 dX9_forDifference_23 dX9_forDifference_25 dX9_forDifference_28 hout hlk (Nat.le_of_ble_eq_true rfl) (Nat.le_of_ble_eq_true rfl) (Nat.le_of_ble_eq_true rfl) (Nat.le_of_ble_eq_true rfl) (Nat.le_of_ble_eq_true rfl) (Nat.le_of_ble_eq_true rfl) ⟨(Or.inr ⟨rfl, (by unfold tDif; (repeat' split) <;> omega)⟩), ⟨hK, LE, RK1, RN, HK1, HN, CA, PV, CF, CN, Ha, hN, _, _, _, _, _, _, _, _, _, _, hC, (hC.sub2 hSub), hZn, hX, hM⟩⟩
