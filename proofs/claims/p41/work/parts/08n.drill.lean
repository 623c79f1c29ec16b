abbrev rmX9_drill : Room := { frames := 7, cells := 2, slots := 12, locals := 122 }
theorem in_X9_drill_X3 : ∀ w ∈ wsX30, w ∈ wsX9_drill := by decide +kernel
theorem w_X9_drill_f160 : Cond.fieldLink RX9 160 "DeltaNights$Client" "latest" "LDeltaNights$Link;" ∈ wsX9_drill := by decide +kernel
theorem in_X9_drill_X9 : ∀ w ∈ wsX90, w ∈ wsX9_drill := by decide +kernel
theorem w_X9_drill_f39 : Cond.fieldLink RX9 39 "DeltaNights" "recovery" "LDeltaNights$Recovery;" ∈ wsX9_drill := by decide +kernel
theorem w_X9_drill_f257 : Cond.fieldLink RX9 257 "DeltaNights$Client" "owed" "I" ∈ wsX9_drill := by decide +kernel
theorem w_X9_drill_k76 : Cond.classLink RX9 76 "java/lang/IllegalStateException" ∈ wsX9_drill := by decide +kernel
theorem w_X9_drill_ii76 : Cond.initialized "java/lang/IllegalStateException" ∈ wsX9_drill := by decide +kernel
theorem xg_X9_drill_80 : ∀ w ∈ (vx_atS RX9 80 "java/lang/IllegalStateException" xnm).filter goodWord, w ∈ wsX9_drill := by decide +kernel
set_option maxHeartbeats 4000000 in
set_option maxRecDepth 100000 in
theorem ct_X9_drill (l : Launch) (g : GG) (sz0 : Nat) {A : Nat → Nat} {Z : Nat → Prop} (hA : AOK A) {hZ : AH} {mnights mbits mleast mmost mroom mreserve mmount mspeed : Int} {mdata msize mends mmany mkind mchain mholds mbid mbound mcheap mpromised mcoin mpaid mowed : Int → Int} (hT : ST g A Z hZ mdata msize mends mmany mkind mchain mholds mnights mbits mleast mmost mroom mreserve mmount mspeed mbid mbound mcheap mpromised mcoin mpaid mowed hZ) (hG : RGm mnights mbits mleast mmost mroom mreserve mmount mspeed msize mbid mbound mcheap mpromised mcoin mpaid mowed) (x : Int) (hl0 : l.stackTraces = false) (qx : -2147483648 ≤ x ∧ x < 2147483648)  : CTX l yX9_drill wsX9_drill rmX9_drill g sz0 [.ref (A 0), .int (iI (x))] hZ (fun v h' => tDif x (ltN (colF mkind x) mnights.toNat) = 0 ∧ v = some (.int (iI (amtF (FP.fsub (mnF (mmount * (mntM mdata mends mmany mkind mchain mholds mnights x (ltN (colF mkind x) mnights.toNat))) (baseB (rowF mdata (60 * x + (ltN (colF mkind x) mnights.toNat))) (rowF mends (60 * x + (ltN (colF mkind x) mnights.toNat))) (mmany (60 * x + (ltN (colF mkind x) mnights.toNat)))) mspeed) (FP.i2f (iI (mpromised x)))) (mcoin x)))) ∧ ST g A Z hZ mdata msize mends mmany mkind mchain mholds mnights mbits mleast mmost mroom mreserve mmount mspeed mbid mbound mcheap mpromised mcoin mpaid (upZ mowed x (i32z (iI (mowed x + (amtF (FP.fsub (mnF (mmount * (mntM mdata mends mmany mkind mchain mholds mnights x (ltN (colF mkind x) mnights.toNat))) (baseB (rowF mdata (60 * x + (ltN (colF mkind x) mnights.toNat))) (rowF mends (60 * x + (ltN (colF mkind x) mnights.toNat))) (mmany (60 * x + (ltN (colF mkind x) mnights.toNat)))) mspeed) (FP.i2f (iI (mpromised x)))) (mcoin x)))))) h') (fun E h' => ((E = "java/lang/IllegalArgumentException" ∧ tDif x (ltN (colF mkind x) mnights.toNat) = 1) ∨ (E = "java/lang/IllegalStateException" ∧ tDif x (ltN (colF mkind x) mnights.toNat) = 2)) ∧ ST g A Z hZ mdata msize mends mmany mkind mchain mholds mnights mbits mleast mmost mroom mreserve mmount mspeed mbid mbound mcheap mpromised mcoin mpaid mowed h') := by
  refine CTX.of (by decide +kernel) rfl [some (.ref (A 0)), some (.int (iI (x))), none, none] rfl (Nat.le_of_ble_eq_true rfl) ?_
  intro p e s m args below meth c B hr hlk hout
  have hT0 := hT
  obtain ⟨hK, LE, RK1, RN, HK1, HN, CA, PV, CF, CN, Ha, hN, tq, G, Eg, sz, pt, wt, gt, pc, LN, lt, hC, hSub, hZn, hX, hM⟩ := hT
  have hN0 := hG.1
  obtain ⟨fc, hQC, hfc⟩ := hC.qc
  refine r_aload_n B dX9_drill_0 rfl rfl ?_
  refine r_iload_n B dX9_drill_1 rfl ?_
  refine r_callVX (n := 1) B dX9_drill_2 (ct_X9_clientOf l g sz0 hC.ro hQC hfc _ hl0 (by omega)) gX9_drill_X9_clientOf rfl (by decide +kernel) ⟨Nat.le_of_ble_eq_true rfl, Nat.le_of_ble_eq_true rfl⟩ hC.ro rfl rfl rfl (Nat.le_of_ble_eq_true rfl) (Nat.le_of_ble_eq_true rfl) (Nat.le_of_ble_eq_true rfl) (fun E h' hp => wx_out hout hlk ?_ (Nat.le_of_ble_eq_true rfl) (Nat.le_of_ble_eq_true rfl)) (fun v h' hp => ?_)
  · have hx9 := hp.2.2
    exact ⟨(Or.inl ⟨hp.1, (by unfold tDif; (repeat' split) <;> omega)⟩), by rw [hp.2.1]; exact hT0⟩
  obtain ⟨hv, hh, hb1⟩ := hp
  subst v
  subst h'
  dsimp only [Option.toList, List.cons_append, List.nil_append]
  have hlt9 := hX.2.2.2.2.2 x hb1.1 hb1.2
  have hsp9 : 0 < mspeed ∧ mspeed < 2147483648 := by have := hG.2.2.2.1; omega
  refine r_astore_n B dX9_drill_5 rfl rfl (by decide) (lcat_v rfl rfl) ?_
  refine r_aload_n B dX9_drill_6 rfl rfl ?_
  refine r_get (C := RX3) (T := TX3) (N := 13) (ci := 3) B dX9_drill_7 in_X9_drill_X3 rfl 2 (by decide) w_X9_drill_f160 rfl (hC.cl hb1.1 hb1.2) rfl ?_
  refine r_ifnonnull B dX9_drill_10 (tgt := 23) (by decide) (fun a10 c10 => ?_) (fun c10 => ?_)
  · have hd9 : ¬ (ltN (colF mkind x) mnights.toNat) = -1 := fun z => by
      unfold ltp at hlt9
      rw [if_pos z, c10] at hlt9
      cases hlt9
    have hLa : LN x (ltN (colF mkind x) mnights.toNat) = some a10 := by
      unfold ltp at hlt9
      rw [if_neg hd9, c10] at hlt9
      exact hlt9.symm
    have hdr := ltN_rng (colF mkind x) mnights.toNat
    have hb2 : 0 ≤ (ltN (colF mkind x) mnights.toNat) ∧ (ltN (colF mkind x) mnights.toNat) < mnights := by omega
    have hj9 : 0 ≤ (ltN (colF mkind x) mnights.toNat) ∧ (ltN (colF mkind x) mnights.toNat) < 60 := by omega
    obtain ⟨hR, La, nt, len, hCh, hLa0⟩ := hX.one hb1 hj9 hLa
    subst hLa0
    have hrk := hX.rk hR
    have hsb := hC.sub hSub
    have hE := hX.eok hb1 hj9
    have hS := hX.hs
    have hH := hX.2.2.1 x hb1.1 hb1.2
    have hCHh := hCh.2.2.2.2.1.sub hsb
    have hmt0 := cnt_le (fun k => k = (ltN (colF mkind x) mnights.toNat) ∨ ((0 < mkind (60 * x + k) ∧ mchain (60 * x + k) = mchain (60 * x + (ltN (colF mkind x) mnights.toNat))) ∧ exN (fun a => hldC (rowF mholds (60 * x + k)) (chk (rowF mdata (60 * x + k)) (rowF mends (60 * x + k))) (mmany (60 * x + k)) (chk (rowF mdata (60 * x + (ltN (colF mkind x) mnights.toNat))) (rowF mends (60 * x + (ltN (colF mkind x) mnights.toNat))) a)) (mmany (60 * x + (ltN (colF mkind x) mnights.toNat))))) mnights.toNat
    have hmt : 0 ≤ (mntM mdata mends mmany mkind mchain mholds mnights x (ltN (colF mkind x) mnights.toNat)) ∧ (mntM mdata mends mmany mkind mchain mholds mnights x (ltN (colF mkind x) mnights.toNat)) ≤ 60 := ⟨hmt0.1, by have := hmt0.2; unfold mntM; omega⟩
    have hbs9 := baseB_rng (G := rowF mdata (60 * x + (ltN (colF mkind x) mnights.toNat))) hE.1 hE.2
    have hg4 := hG.2.2.2.1
    have hml := Int.mul_le_mul hg4.1.2 hmt.2 hmt.1 (by decide : (0 : Int) ≤ 30)
    have hml0 := Int.mul_nonneg hg4.1.1 hmt.1
    have hmn := mn_rng (a := mmount * (mntM mdata mends mmany mkind mchain mholds mnights x (ltN (colF mkind x) mnights.toNat))) (b := baseB (rowF mdata (60 * x + (ltN (colF mkind x) mnights.toNat))) (rowF mends (60 * x + (ltN (colF mkind x) mnights.toNat))) (mmany (60 * x + (ltN (colF mkind x) mnights.toNat)))) (s := mspeed) (by omega) (by omega) (by omega)
    have hmu := Int.mul_le_mul_of_nonneg_right (show mmount * (mntM mdata mends mmany mkind mchain mholds mnights x (ltN (colF mkind x) mnights.toNat)) + baseB (rowF mdata (60 * x + (ltN (colF mkind x) mnights.toNat))) (rowF mends (60 * x + (ltN (colF mkind x) mnights.toNat))) (mmany (60 * x + (ltN (colF mkind x) mnights.toNat))) ≤ 10000 by omega) (Int.natCast_nonneg Jvm.FP.Core.one32)
    have hpr9 := (hG.2.2.2.2.1 x hb1.1 hb1.2).2.2.2.1
    have hdq := drill_eq (m := (mnF (mmount * (mntM mdata mends mmany mkind mchain mholds mnights x (ltN (colF mkind x) mnights.toNat))) (baseB (rowF mdata (60 * x + (ltN (colF mkind x) mnights.toNat))) (rowF mends (60 * x + (ltN (colF mkind x) mnights.toNat))) (mmany (60 * x + (ltN (colF mkind x) mnights.toNat)))) mspeed)) (pr := mpromised x) (co := mcoin x) hmn.1 hmn.2.1 (Int.le_trans hmn.2.2 hmu) hpr9
    refine r_aload_n B dX9_drill_23 rfl rfl ?_
    refine r_aload_n B dX9_drill_24 rfl rfl ?_
    refine r_get (C := RX9) (T := TX9) (N := 6) (ci := 9) B dX9_drill_25 in_X9_drill_X9 rfl 4 (by decide) w_X9_drill_f39 rfl hC.ro rfl ?_
    refine r_aload_n B dX9_drill_28 rfl rfl ?_
    refine r_get (C := RX3) (T := TX3) (N := 13) (ci := 3) B dX9_drill_29 in_X9_drill_X3 rfl 2 (by decide) w_X9_drill_f160 rfl (hC.cl hb1.1 hb1.2) rfl ?_
    refine r_topv c10 ?_
    refine r_callV (n := 1) B dX9_drill_32 (ct_X8_minutesFor l g sz0 hCHh hC.rc hCh.1 (hrk.1.sub hsb) hsp9) gX9_drill_X8_minutesFor rfl (by decide +kernel) ⟨Nat.le_of_ble_eq_true rfl, Nat.le_of_ble_eq_true rfl⟩ hC.rc rfl rfl rfl (Nat.le_of_ble_eq_true rfl) (Nat.le_of_ble_eq_true rfl) (Nat.le_of_ble_eq_true rfl) (fun v h' hp => ?_)
    obtain ⟨hv, hh⟩ := hp
    subst v
    subst h'
    dsimp only [Option.toList, List.cons_append, List.nil_append]
    rw [mounts_eq hS hH hCh hb2 hN0.2, row_read hS hR hE.2]
    show WA _ _ _ _ _ _ _ _ _ _ _ _ _ _ _ _ _ _ _ (.float (mnF (mmount * (mntM mdata mends mmany mkind mchain mholds mnights x (ltN (colF mkind x) mnights.toNat))) (baseB (rowF mdata (60 * x + (ltN (colF mkind x) mnights.toNat))) (rowF mends (60 * x + (ltN (colF mkind x) mnights.toNat))) (mmany (60 * x + (ltN (colF mkind x) mnights.toNat)))) mspeed) :: _)
    refine r_callV (n := 1) B dX9_drill_35 (ct_X3_payFor l g sz0 (hC.cl hb1.1 hb1.2) _) gX9_drill_X3_payFor rfl (by decide +kernel) ⟨Nat.le_of_ble_eq_true rfl, Nat.le_of_ble_eq_true rfl⟩ (hC.cl hb1.1 hb1.2) rfl rfl rfl (Nat.le_of_ble_eq_true rfl) (Nat.le_of_ble_eq_true rfl) (Nat.le_of_ble_eq_true rfl) (fun v h' hp => ?_)
    obtain ⟨hv, hh⟩ := hp
    subst v
    subst h'
    dsimp only [Option.toList, List.cons_append, List.nil_append]
    rw [hdq]
    refine r_istore_n B dX9_drill_38 rfl (by decide) (lcat_v rfl rfl) ?_
    refine r_aload_n B dX9_drill_39 rfl rfl ?_
    refine r_dup B dX9_drill_40 rfl ?_
    refine r_get (C := RX3) (T := TX3) (N := 13) (ci := 3) B dX9_drill_41 in_X9_drill_X3 rfl 9 (by decide) w_X9_drill_f257 rfl (hC.cl hb1.1 hb1.2) rfl ?_
    refine r_iload_n B dX9_drill_44 rfl ?_
    refine r_iadd B dX9_drill_45 ?_
    refine r_top (iI_i32z _).symm ?_
    refine r_put (C := RX3) (T := TX3) (N := 13) (ci := 3) B dX9_drill_46 in_X9_drill_X3 tyX3 tyX3_ok nmX3 rfl 9 (by decide) w_X9_drill_f257 rfl rfl (ty := .int) (by decide +kernel) rfl rfl (hC.cl hb1.1 hb1.2) (by show 9 < 13; decide) ?_
    refine k_next (P := fun x9 => CW g A hZ mnights mbits mleast mmost mroom mreserve mmount mspeed hN (ptr Ha hN 0) tq G Eg sz pt mbid mbound mcheap mpromised mcoin mpaid (upZ mowed x (i32z (iI (mowed x + (amtF (FP.fsub (mnF (mmount * (mntM mdata mends mmany mkind mchain mholds mnights x (ltN (colF mkind x) mnights.toNat))) (baseB (rowF mdata (60 * x + (ltN (colF mkind x) mnights.toNat))) (rowF mends (60 * x + (ltN (colF mkind x) mnights.toNat))) (mmany (60 * x + (ltN (colF mkind x) mnights.toNat)))) mspeed) (FP.i2f (iI (mpromised x)))) (mcoin x)))))) wt gt pc LN lt x9) (hC.s_ow hA hb1.1 hb1.2) (fun h hC => ?_)
    refine r_iload_n B dX9_drill_49 rfl ?_
    exact x_ret (r_iret B hr hlk dX9_drill_50 (Nat.le_of_ble_eq_true rfl) (Nat.le_of_ble_eq_true rfl) ⟨(by unfold tDif; rw [if_neg (by omega), if_neg hd9]), rfl, ⟨hK, LE, RK1, RN, HK1, HN, CA, PV, CF, CN, Ha, hN, _, _, _, _, _, _, _, _, _, _, hC, (hC.sub2 hSub), hZn, hX, hM⟩⟩)
  · have hd9 : (ltN (colF mkind x) mnights.toNat) = -1 := by
      unfold ltp at hlt9
      by_cases z : (ltN (colF mkind x) mnights.toNat) = -1
      · exact z
      · rw [if_neg z, c10] at hlt9
        exfalso
        have hdr := ltN_rng (colF mkind x) mnights.toNat
        rcases hX.2.2.1 x hb1.1 hb1.2 (ltN (colF mkind x) mnights.toNat) (by omega) (by omega) with y | ⟨a, y, -⟩
        · exact ltN_at (colF mkind x) mnights.toNat z y.1
        · rw [y] at hlt9; cases hlt9
    exact r_throwS (text := "the client has no day") B hl0 xat_IS w_X9_drill_k76 w_X9_drill_ii76 xg_X9_drill_80 (by decide +kernel) dX9_drill_13 dX9_drill_16 dX9_drill_17 dX9_drill_19 dX9_drill_22 hout hlk (Nat.le_of_ble_eq_true rfl) (Nat.le_of_ble_eq_true rfl) (Nat.le_of_ble_eq_true rfl) (Nat.le_of_ble_eq_true rfl) (Nat.le_of_ble_eq_true rfl) (Nat.le_of_ble_eq_true rfl) ⟨(Or.inr ⟨rfl, (by unfold tDif; rw [if_neg (by omega), if_pos hd9])⟩), ⟨hK, LE, RK1, RN, HK1, HN, CA, PV, CF, CN, Ha, hN, _, _, _, _, _, _, _, _, _, _, hC, (hC.sub2 hSub), hZn, hX, hM⟩⟩
