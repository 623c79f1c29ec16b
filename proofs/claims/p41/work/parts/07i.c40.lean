abbrev rmX9_would : Room := { frames := 7, cells := 1, slots := 6, locals := 147 }
theorem in_X9_would_X9 : ∀ w ∈ wsX90, w ∈ wsX9_would := by decide +kernel
theorem w_X9_would_f32 : Cond.fieldLink RX9 32 "DeltaNights" "market" "LDeltaNights$Market;" ∈ wsX9_would := by decide +kernel
theorem w_X9_would_f11 : Cond.fieldLink RX9 11 "DeltaNights" "clients" "[LDeltaNights$Client;" ∈ wsX9_would := by decide +kernel
theorem w_X9_would_f18 : Cond.fieldLink RX9 18 "DeltaNights" "marks" "LDeltaNights$Marks;" ∈ wsX9_would := by decide +kernel
theorem in_X9_would_X3 : ∀ w ∈ wsX30, w ∈ wsX9_would := by decide +kernel
theorem w_X9_would_f170 : Cond.fieldLink RX9 170 "DeltaNights$Client" "gets" "I" ∈ wsX9_would := by decide +kernel
set_option maxHeartbeats 4000000 in
set_option maxRecDepth 100000 in
theorem ct_X9_would (l : Launch) (g : GG) (sz0 : Nat) {A : Nat → Nat} {Z : Nat → Prop} (hA : AOK A) {hZ : AH} {mnights mbits mleast mmost mroom mreserve mmount mspeed : Int} {mdata msize mends mmany mkind mchain mholds mbid mbound mcheap mpromised mcoin mpaid mowed : Int → Int} (hT : ST g A Z hZ mdata msize mends mmany mkind mchain mholds mnights mbits mleast mmost mroom mreserve mmount mspeed mbid mbound mcheap mpromised mcoin mpaid mowed hZ) (hG : RGm mnights mbits mleast mmost mroom mreserve mmount mspeed msize mbid mbound mcheap mpromised mcoin mpaid mowed) (x : Int) (hl0 : l.stackTraces = false) (qx : -2147483648 ≤ x ∧ x < 2147483648)  : CTX l yX9_would wsX9_would rmX9_would g sz0 [.ref (A 0), .int (iI (x))] hZ (fun v h' => tCl x = 0 ∧ v = some (.int (iI (gtS (wbP mkind mbound mcheap mnights mreserve) (mNC mkind mnights) (mOT mdata msize mends mmany mkind mnights mbits mleast mmost) (mAK mdata msize mends mmany mkind mbid mbound mcheap mnights mreserve mbits mleast mmost) (mBS mdata msize mbits mleast mmost) (mDF mdata msize mends mmany mkind mchain mholds mnights mbits mleast mmost) mroom mbid x))) ∧ ST g A Z hZ mdata msize mends mmany mkind mchain mholds mnights mbits mleast mmost mroom mreserve mmount mspeed mbid mbound mcheap mpromised mcoin mpaid mowed h') (fun E h' => ((E = "java/lang/IllegalArgumentException" ∧ tCl x = 1)) ∧ ST g A Z hZ mdata msize mends mmany mkind mchain mholds mnights mbits mleast mmost mroom mreserve mmount mspeed mbid mbound mcheap mpromised mcoin mpaid mowed h') := by
  refine CTX.of (by decide +kernel) rfl [some (.ref (A 0)), some (.int (iI (x))), none] rfl (Nat.le_of_ble_eq_true rfl) ?_
  intro p e s m args below meth c B hr hlk hout
  have hT0 := hT
  obtain ⟨hK, LE, RK1, RN, HK1, HN, CA, PV, CF, CN, Ha, hN, tq, G, Eg, sz, pt, wt, gt, pc, LN, lt, hC, hSub, hZn, hX, hM⟩ := hT
  have hN0 := hG.1
  obtain ⟨fc, hQC, hfc⟩ := hC.qc
  have hms9 : 1 ≤ mmost ∧ mmost ≤ 24 ∧ 0 ≤ mleast ∧ mleast < 100 := by have := hG.2.1; omega
  have hG255 : ∀ x : Int, 0 ≤ x → x ≤ 3 → ∀ j : Int, 0 ≤ G x j ∧ G x j ≤ 255 := fun x x0 x1 => (hM.1 x x0 x1).2.1
  obtain ⟨La, nt, len, hchc, hlen, hchn⟩ := hX.chc hN0
  have hrm9 := hG.2.2.1
  have hbds := hG.2.2.2.2.1
  have hWB : ∀ x : Int, 0 ≤ x → x ≤ 3 → ((len x = 0 ∨ (mbound x ≤ len x - 1 ∧ mreserve ≤ mcheap x)) ↔ (wbP mkind mbound mcheap mnights mreserve) x) := fun x x0 x1 => by
    have h1 := (hlen x x0 x1).1
    have h2 := dfN_rng (colF mkind x) mnights.toNat
    unfold wbP
    omega
  have hNW : ∀ x : Int, 0 ≤ x → x ≤ 3 → (mNC mkind mnights) x → (wbP mkind mbound mcheap mnights mreserve) x := fun x x0 x1 y => Or.inl (dfN_neg.mpr y)
  have hAK : ∀ x : Int, 0 ≤ x → x ≤ 3 → ((mAK mdata msize mends mmany mkind mbid mbound mcheap mnights mreserve mbits mleast mmost) x ↔ 0 < mbid x ∧ mreserve ≤ mbid x ∧ ((wbP mkind mbound mcheap mnights mreserve) x ∨ ((mOT mdata msize mends mmany mkind mnights mbits mleast mmost) x ∧ ¬ (mNC mkind mnights) x))) := fun x x0 x1 => and_congr_right fun _ => and_congr_right fun _ => ⟨fun y => y.elim Or.inl (fun w => by
    by_cases z : (mNC mkind mnights) x
    · exact Or.inl (hNW x x0 x1 z)
    · exact Or.inr ⟨w, z⟩), fun y => y.elim Or.inl (fun w => Or.inr w.1)⟩
  refine r_aload_n B dX9_would_0 rfl rfl ?_
  refine r_iload_n B dX9_would_1 rfl ?_
  refine r_callVX (n := 1) B dX9_would_2 (ct_X9_clientOf l g sz0 hC.ro hQC hfc _ hl0 (by omega)) gX9_would_X9_clientOf rfl (by decide +kernel) ⟨Nat.le_of_ble_eq_true rfl, Nat.le_of_ble_eq_true rfl⟩ hC.ro rfl rfl rfl (Nat.le_of_ble_eq_true rfl) (Nat.le_of_ble_eq_true rfl) (Nat.le_of_ble_eq_true rfl) (fun E h' hp => wx_out hout hlk ?_ (Nat.le_of_ble_eq_true rfl) (Nat.le_of_ble_eq_true rfl)) (fun v h' hp => ?_)
  · have hx9 := hp.2.2
    exact ⟨⟨hp.1, (by unfold tCl; (repeat' split) <;> omega)⟩, by rw [hp.2.1]; exact hT0⟩
  obtain ⟨hv, hh, hb1⟩ := hp
  subst v
  subst h'
  dsimp only [Option.toList, List.cons_append, List.nil_append]
  refine r_astore_n B dX9_would_5 rfl rfl (by decide) (lcat_v rfl rfl) ?_
  refine r_aload_n B dX9_would_6 rfl rfl ?_
  refine r_get (C := RX9) (T := TX9) (N := 6) (ci := 9) B dX9_would_7 in_X9_would_X9 rfl 3 (by decide) w_X9_would_f32 rfl hC.ro rfl ?_
  refine r_aload_n B dX9_would_10 rfl rfl ?_
  refine r_get (C := RX9) (T := TX9) (N := 6) (ci := 9) B dX9_would_11 in_X9_would_X9 rfl 0 (by decide) w_X9_would_f11 rfl hC.ro rfl ?_
  refine r_aload_n B dX9_would_14 rfl rfl ?_
  refine r_get (C := RX9) (T := TX9) (N := 6) (ci := 9) B dX9_would_15 in_X9_would_X9 rfl 1 (by decide) w_X9_would_f18 rfl hC.ro rfl ?_
  refine r_callV (n := 2) B dX9_would_18 (ct_X6_hold l g sz0 hA hC (WB := (wbP mkind mbound mcheap mnights mreserve)) (NC := (mNC mkind mnights)) (OT := (mOT mdata msize mends mmany mkind mnights mbits mleast mmost)) (AK := (mAK mdata msize mends mmany mkind mbid mbound mcheap mnights mreserve mbits mleast mmost)) (BS := (mBS mdata msize mbits mleast mmost)) (DF := (mDF mdata msize mends mmany mkind mchain mholds mnights mbits mleast mmost)) hSub hchc hG255 hms9 hrm9.1 hrm9.2 (fun x x0 x1 => (hbds x x0 x1).1) (fun x x0 x1 => (hbds x x0 x1).2.1) (fun x x0 x1 => (hbds x x0 x1).2.2.1) hWB (fun x x0 x1 => asked_other hX hM hG hlen hchn x0 x1) hNW hAK (fun x x0 x1 => cut_base hM hG x0 x1 (fun c => chP_0 c)) (fun x x0 x1 => cut_dif hM hG x0 x1 (fun c => chain_in hX hN0 hlen hchn x0 x1 c))) gX9_would_X6_hold rfl (by decide +kernel) ⟨Nat.le_of_ble_eq_true rfl, Nat.le_of_ble_eq_true rfl⟩ hC.mt rfl rfl rfl (Nat.le_of_ble_eq_true rfl) (Nat.le_of_ble_eq_true rfl) (Nat.le_of_ble_eq_true rfl) (fun v h1 hp => ?_)
  obtain ⟨hv, t, tu, tq1, wt1, gt1, L, hI, hC1⟩ := hp
  subst v
  dsimp only [Option.toList, List.cons_append, List.nil_append]
  refine k_next (P := fun x9 => CW g A hZ mnights mbits mleast mmost mroom mreserve mmount mspeed hN (ptr Ha hN 0) tq1 G (mixF 4 (ctE Eg G sz mbits mleast mmost) Eg) sz (mixF 4 (ctN G sz mbits mleast mmost) pt) mbid mbound mcheap mpromised mcoin mpaid mowed wt1 gt1 (prS gt1 mbid tu mreserve pc 4).2 LN lt x9) (hC1) (fun h hC => ?_)
  have hfin := hI.fin.1 x hb1.1 hb1.2
  refine r_aload_n B dX9_would_21 rfl rfl ?_
  refine r_get (C := RX3) (T := TX3) (N := 13) (ci := 3) B dX9_would_22 in_X9_would_X3 rfl 11 (by decide) w_X9_would_f170 rfl (hC.cl hb1.1 hb1.2) rfl ?_
  exact x_ret (r_iret B hr hlk dX9_would_25 (Nat.le_of_ble_eq_true rfl) (Nat.le_of_ble_eq_true rfl) ⟨(by unfold tCl; (repeat' split) <;> omega), by rw [hfin], ⟨hK, LE, RK1, RN, HK1, HN, CA, PV, CF, CN, Ha, hN, _, _, _, _, _, _, _, _, _, _, hC, (hC.sub2 hSub), hZn, hX, hM⟩⟩)
