abbrev rmX10_drill : Room := { frames := 7, cells := 0, slots := 0, locals := 172 }
theorem in_X10_drill_X10 : ∀ w ∈ wsX100, w ∈ wsX10_drill := by decide +kernel
theorem w_X10_drill_f63 : Cond.fieldLink RX10 63 "DeltaNightsModel" "promised" "[I" ∈ wsX10_drill := by decide +kernel
theorem w_X10_drill_f72 : Cond.fieldLink RX10 72 "DeltaNightsModel" "owed" "[I" ∈ wsX10_drill := by decide +kernel
theorem w_X10_drill_f66 : Cond.fieldLink RX10 66 "DeltaNightsModel" "coin" "[I" ∈ wsX10_drill := by decide +kernel
set_option maxHeartbeats 4000000 in
set_option maxRecDepth 100000 in
theorem ct_X10_drill (l : Launch) (g : GG) (sz0 : Nat) (ad : Nat → Nat) (hA : ADok ad) {h h0 : AH} {mthrown mnights mbits mleast mmost mroom mreserve mmount mspeed : Int} {mdata msize mends mmany mkind mchain mholds mbid mbound mcheap mpromised mcoin mpaid mowed mturn misAsking mwant mcost misServed mitsRow mitsChunk : Int → Int} (hM : MW g ad h0 mthrown mdata msize mends mmany mkind mchain mholds mnights mbits mleast mmost mroom mreserve mmount mspeed mbid mbound mcheap mpromised mcoin mpaid mowed mturn misAsking mwant mcost misServed mitsRow mitsChunk h) (x : Int) (qx : -2147483648 ≤ x ∧ x < 2147483648)(hn0 : 0 ≤ mnights ∧ mnights ≤ 60)(hLK : LKo mends mmany)(hsp : 0 < mspeed ∧ mspeed < 2147483648) : CT l yX10_drill wsX10_drill rmX10_drill g sz0 [.ref (ad 0), .int (iI (x))] h (fun v h' => ∃ r : Int, v = some (.int (iI r)) ∧ (¬ (tDif x (ltN (colF mkind x) mnights.toNat)) = 0 → r = 0 ∧ MW g ad h0 (tDif x (ltN (colF mkind x) mnights.toNat)) mdata msize mends mmany mkind mchain mholds mnights mbits mleast mmost mroom mreserve mmount mspeed mbid mbound mcheap mpromised mcoin mpaid mowed mturn misAsking mwant mcost misServed mitsRow mitsChunk h') ∧ ((tDif x (ltN (colF mkind x) mnights.toNat)) = 0 → r = (amtF (FP.fsub (mnF (mmount * (mntM mdata mends mmany mkind mchain mholds mnights x (ltN (colF mkind x) mnights.toNat))) (baseB (rowF mdata (60 * x + (ltN (colF mkind x) mnights.toNat))) (rowF mends (60 * x + (ltN (colF mkind x) mnights.toNat))) (mmany (60 * x + (ltN (colF mkind x) mnights.toNat)))) mspeed) (FP.i2f (iI (mpromised x)))) (mcoin x)) ∧ MW g ad h0 0 mdata msize mends mmany mkind mchain mholds mnights mbits mleast mmost mroom mreserve mmount mspeed mbid mbound mcheap mpromised mcoin mpaid (upZ mowed x (i32z (iI (mowed x + (amtF (FP.fsub (mnF (mmount * (mntM mdata mends mmany mkind mchain mholds mnights x (ltN (colF mkind x) mnights.toNat))) (baseB (rowF mdata (60 * x + (ltN (colF mkind x) mnights.toNat))) (rowF mends (60 * x + (ltN (colF mkind x) mnights.toNat))) (mmany (60 * x + (ltN (colF mkind x) mnights.toNat)))) mspeed) (FP.i2f (iI (mpromised x)))) (mcoin x)))))) mturn misAsking mwant mcost misServed mitsRow mitsChunk h')) := by
  refine CT.of (by decide +kernel) rfl [some (.ref (ad 0)), some (.int (iI (x))), none, none, none, none, none, none] rfl (Nat.le_of_ble_eq_true rfl) ?_
  intro p e s m args below meth c B hr hlk hnm
  refine r_iload_n B dX10_drill_0 rfl ?_
  refine r_callS (n := 1) B dX10_drill_1 (ct_X10_isClient l g sz0 _ (by omega)) gX10_drill_X10_isClient rfl (by decide +kernel) ⟨Nat.le_of_ble_eq_true rfl, Nat.le_of_ble_eq_true rfl⟩ rfl rfl (Nat.le_of_ble_eq_true rfl) (Nat.le_of_ble_eq_true rfl) (Nat.le_of_ble_eq_true rfl) (fun v h' hp => ?_)
  obtain ⟨hv, hh⟩ := hp
  subst v
  subst h'
  dsimp only [Option.toList, List.cons_append, List.nil_append]
  refine r_istore_n B dX10_drill_4 rfl (by decide) (lcat_v rfl rfl) ?_
  refine r_iload_n B dX10_drill_5 rfl ?_
  refine r_if_eq B dX10_drill_6 (tgt := 17) (by decide) (bI_rng _) (fun c6 => ?_) (fun c6 => ?_)
  · replace c6 := bI_0.mp c6
    refine r_iconst B dX10_drill_17 ?_
    refine r_istore_n B dX10_drill_18 rfl (by decide) (lcat_v rfl rfl) ?_
    refine r_aload_n B dX10_drill_19 rfl rfl ?_
    refine r_iload_n B dX10_drill_20 rfl ?_
    refine r_if_ne B dX10_drill_21 (tgt := 28) (by decide) (bI_rng _) (fun c21 => ?_) (fun c21 => ?_)
    · exact absurd (bI_f c6) c21
    · replace c21 := bI_0.mp c21
      refine r_iconst B dX10_drill_24 ?_
      refine r_goto B dX10_drill_25 (tgt := 38) (by decide) ?_
      refine r_callV (n := 1) B dX10_drill_38 (ct_X10_isFine l g sz0 ad hA hM _ (by omega)) gX10_drill_X10_isFine rfl (by decide +kernel) ⟨Nat.le_of_ble_eq_true rfl, Nat.le_of_ble_eq_true rfl⟩ hM.obj rfl rfl rfl (Nat.le_of_ble_eq_true rfl) (Nat.le_of_ble_eq_true rfl) (Nat.le_of_ble_eq_true rfl) (fun v h hp => ?_)
      obtain ⟨hv, hM⟩ := hp
      subst v
      dsimp only [Option.toList, List.cons_append, List.nil_append]
      refine r_if_ne B dX10_drill_41 (tgt := 46) (by decide) (bI_rng _) (fun c41 => ?_) (fun c41 => ?_)
      · replace c41 := bI_n0.mp c41
        exact absurd c41 (by decide)
      · replace c41 := bI_0.mp c41
        refine r_iconst B dX10_drill_44 ?_
        exact r_iret B hr hlk dX10_drill_45 (Nat.le_of_ble_eq_true rfl) (Nat.le_of_ble_eq_true rfl) (by
    have hT : (tDif x (ltN (colF mkind x) mnights.toNat)) = 1 := by
      unfold tDif
      (repeat' split) <;> omega
    exact ⟨_, rfl, fun _ => ⟨rfl, by rw [hT]; exact hM⟩, fun h9 => absurd (hT.symm.trans h9) (by decide)⟩)
  · replace c6 := bI_n0.mp c6
    refine r_aload_n B dX10_drill_9 rfl rfl ?_
    refine r_iload_n B dX10_drill_10 rfl ?_
    refine r_callV (n := 1) B dX10_drill_11 (ct_X10_latestNow l g sz0 ad hA hM _ (by omega) hn0) gX10_drill_X10_latestNow rfl (by decide +kernel) ⟨Nat.le_of_ble_eq_true rfl, Nat.le_of_ble_eq_true rfl⟩ hM.obj rfl rfl rfl (Nat.le_of_ble_eq_true rfl) (Nat.le_of_ble_eq_true rfl) (Nat.le_of_ble_eq_true rfl) (fun v h' hp => ?_)
    obtain ⟨hv, hh⟩ := hp
    subst v
    subst h'
    dsimp only [Option.toList, List.cons_append, List.nil_append]
    have hlr := ltN_rng (colF mkind x) mnights.toNat
    have hlv : ltv x (ltN (colF mkind x) mnights.toNat) = if (ltN (colF mkind x) mnights.toNat) = -1 then -1 else 60 * x + (ltN (colF mkind x) mnights.toNat) := rfl
    have hlz : -1 ≤ ltv x (ltN (colF mkind x) mnights.toNat) ∧ ltv x (ltN (colF mkind x) mnights.toNat) < 300 := by rw [hlv]; split <;> omega
    refine r_goto B dX10_drill_14 (tgt := 18) (by decide) ?_
    refine r_istore_n B dX10_drill_18 rfl (by decide) (lcat_v rfl rfl) ?_
    refine r_aload_n B dX10_drill_19 rfl rfl ?_
    refine r_iload_n B dX10_drill_20 rfl ?_
    refine r_if_ne B dX10_drill_21 (tgt := 28) (by decide) (bI_rng _) (fun c21 => ?_) (fun c21 => ?_)
    · replace c21 := bI_n0.mp c21
      refine r_iload_n B dX10_drill_28 rfl ?_
      refine r_iconst B dX10_drill_29 ?_
      refine r_icmp_ne B dX10_drill_30 (tgt := 37) (by decide) (by omega) (by omega) (fun c30 => ?_) (fun c30 => ?_)
      · have hl9 : ¬ (ltN (colF mkind x) mnights.toNat) = -1 := fun z => c30 (by rw [hlv, if_pos z])
        have hl8 : ltv x (ltN (colF mkind x) mnights.toNat) = 60 * x + (ltN (colF mkind x) mnights.toNat) := by rw [hlv, if_neg hl9]
        refine r_iconst B dX10_drill_37 ?_
        refine r_callV (n := 1) B dX10_drill_38 (ct_X10_isFine l g sz0 ad hA hM _ (by omega)) gX10_drill_X10_isFine rfl (by decide +kernel) ⟨Nat.le_of_ble_eq_true rfl, Nat.le_of_ble_eq_true rfl⟩ hM.obj rfl rfl rfl (Nat.le_of_ble_eq_true rfl) (Nat.le_of_ble_eq_true rfl) (Nat.le_of_ble_eq_true rfl) (fun v h hp => ?_)
        obtain ⟨hv, hM⟩ := hp
        subst v
        dsimp only [Option.toList, List.cons_append, List.nil_append]
        refine r_if_ne B dX10_drill_41 (tgt := 46) (by decide) (bI_rng _) (fun c41 => ?_) (fun c41 => ?_)
        · replace c41 := bI_n0.mp c41
          refine r_aload_n B dX10_drill_46 rfl rfl ?_
          refine r_iload_n B dX10_drill_47 rfl ?_
          refine r_iload_n B dX10_drill_48 rfl ?_
          refine r_bipush B dX10_drill_49 (by decide) ?_
          refine r_iload_n B dX10_drill_51 rfl ?_
          refine r_imul B dX10_drill_52 ?_
          refine r_isub B dX10_drill_53 ?_
          refine r_topz (y := (ltN (colF mkind x) mnights.toNat)) (by omega) ?_
          refine r_callV (n := 2) B dX10_drill_54 (ct_X10_minutes0 l g sz0 ad hA hM _ _ (by omega) (by omega) hn0 hLK hsp) gX10_drill_X10_minutes0 rfl (by decide +kernel) ⟨Nat.le_of_ble_eq_true rfl, Nat.le_of_ble_eq_true rfl⟩ hM.obj rfl rfl rfl (Nat.le_of_ble_eq_true rfl) (Nat.le_of_ble_eq_true rfl) (Nat.le_of_ble_eq_true rfl) (fun v h' hp => ?_)
          obtain ⟨hv, hh⟩ := hp
          subst v
          subst h'
          dsimp only [Option.toList, List.cons_append, List.nil_append]
          refine r_aload_n B dX10_drill_57 rfl rfl ?_
          refine m_get_promised B dX10_drill_58 in_X10_drill_X10 w_X10_drill_f63 hM ?_
          refine r_iload_n B dX10_drill_61 rfl ?_
          refine m_ld_promised B dX10_drill_62 hM (by omega) (by omega) (fun r62 => ?_)
          refine r_i2f B dX10_drill_63 ?_
          refine r_fsub B dX10_drill_64 (vf_of (Jvm.FP.Core.fsub_out (mn_ok hsp) (Jvm.FP.Core.i2f_fin _))) ?_
          refine r_fstore B dX10_drill_65 (by decide) (lcat_v rfl rfl) ?_
          refine r_fload B dX10_drill_67 rfl ?_
          refine r_f2i B dX10_drill_69 ?_
          refine r_istore B dX10_drill_70 (by decide) (lcat_v rfl rfl) ?_
          refine r_fload B dX10_drill_72 rfl ?_
          refine r_iload B dX10_drill_74 rfl ?_
          refine r_i2f B dX10_drill_76 ?_
          refine r_fcmp B dX10_drill_77 ?_
          have join90 : WA p l e rmX10_drill s m args below meth c g sz0 8 (MQ below (QQ g sz0 (fun v h' => ∃ r : Int, v = some (.int (iI r)) ∧ (¬ (tDif x (ltN (colF mkind x) mnights.toNat)) = 0 → r = 0 ∧ MW g ad h0 (tDif x (ltN (colF mkind x) mnights.toNat)) mdata msize mends mmany mkind mchain mholds mnights mbits mleast mmost mroom mreserve mmount mspeed mbid mbound mcheap mpromised mcoin mpaid mowed mturn misAsking mwant mcost misServed mitsRow mitsChunk h') ∧ ((tDif x (ltN (colF mkind x) mnights.toNat)) = 0 → r = (amtF (FP.fsub (mnF (mmount * (mntM mdata mends mmany mkind mchain mholds mnights x (ltN (colF mkind x) mnights.toNat))) (baseB (rowF mdata (60 * x + (ltN (colF mkind x) mnights.toNat))) (rowF mends (60 * x + (ltN (colF mkind x) mnights.toNat))) (mmany (60 * x + (ltN (colF mkind x) mnights.toNat)))) mspeed) (FP.i2f (iI (mpromised x)))) (mcoin x)) ∧ MW g ad h0 0 mdata msize mends mmany mkind mchain mholds mnights mbits mleast mmost mroom mreserve mmount mspeed mbid mbound mcheap mpromised mcoin mpaid (upZ mowed x (i32z (iI (mowed x + (amtF (FP.fsub (mnF (mmount * (mntM mdata mends mmany mkind mchain mholds mnights x (ltN (colF mkind x) mnights.toNat))) (baseB (rowF mdata (60 * x + (ltN (colF mkind x) mnights.toNat))) (rowF mends (60 * x + (ltN (colF mkind x) mnights.toNat))) (mmany (60 * x + (ltN (colF mkind x) mnights.toNat)))) mspeed) (FP.i2f (iI (mpromised x)))) (mcoin x)))))) mturn misAsking mwant mcost misServed mitsRow mitsChunk h'))) args s rmX10_drill.cells rmX10_drill.slots (A0 sz0)) h 0 0 [some (.ref (ad 0)), some (.int (iI (x))), some (.int (iI (bI (0 ≤ x ∧ x ≤ 3)))), some (.int (iI (ltv x (ltN (colF mkind x) mnights.toNat)))), some (.float (FP.fsub (mnF (mmount * (mntM mdata mends mmany mkind mchain mholds mnights x (ltN (colF mkind x) mnights.toNat))) (baseB (rowF mdata (60 * x + (ltN (colF mkind x) mnights.toNat))) (rowF mends (60 * x + (ltN (colF mkind x) mnights.toNat))) (mmany (60 * x + (ltN (colF mkind x) mnights.toNat)))) mspeed) (FP.i2f (iI (mpromised x))))), some (.int (iI (i32z (FP.f2i (FP.fsub (mnF (mmount * (mntM mdata mends mmany mkind mchain mholds mnights x (ltN (colF mkind x) mnights.toNat))) (baseB (rowF mdata (60 * x + (ltN (colF mkind x) mnights.toNat))) (rowF mends (60 * x + (ltN (colF mkind x) mnights.toNat))) (mmany (60 * x + (ltN (colF mkind x) mnights.toNat)))) mspeed) (FP.i2f (iI (mpromised x)))))))), none, none] 90 [.int (iI (upF (FP.fsub (mnF (mmount * (mntM mdata mends mmany mkind mchain mholds mnights x (ltN (colF mkind x) mnights.toNat))) (baseB (rowF mdata (60 * x + (ltN (colF mkind x) mnights.toNat))) (rowF mends (60 * x + (ltN (colF mkind x) mnights.toNat))) (mmany (60 * x + (ltN (colF mkind x) mnights.toNat)))) mspeed) (FP.i2f (iI (mpromised x))))))] := by
            refine r_istore B dX10_drill_90 (by decide) (lcat_v rfl rfl) ?_
            refine r_iload B dX10_drill_92 rfl ?_
            have join110 : WA p l e rmX10_drill s m args below meth c g sz0 8 (MQ below (QQ g sz0 (fun v h' => ∃ r : Int, v = some (.int (iI r)) ∧ (¬ (tDif x (ltN (colF mkind x) mnights.toNat)) = 0 → r = 0 ∧ MW g ad h0 (tDif x (ltN (colF mkind x) mnights.toNat)) mdata msize mends mmany mkind mchain mholds mnights mbits mleast mmost mroom mreserve mmount mspeed mbid mbound mcheap mpromised mcoin mpaid mowed mturn misAsking mwant mcost misServed mitsRow mitsChunk h') ∧ ((tDif x (ltN (colF mkind x) mnights.toNat)) = 0 → r = (amtF (FP.fsub (mnF (mmount * (mntM mdata mends mmany mkind mchain mholds mnights x (ltN (colF mkind x) mnights.toNat))) (baseB (rowF mdata (60 * x + (ltN (colF mkind x) mnights.toNat))) (rowF mends (60 * x + (ltN (colF mkind x) mnights.toNat))) (mmany (60 * x + (ltN (colF mkind x) mnights.toNat)))) mspeed) (FP.i2f (iI (mpromised x)))) (mcoin x)) ∧ MW g ad h0 0 mdata msize mends mmany mkind mchain mholds mnights mbits mleast mmost mroom mreserve mmount mspeed mbid mbound mcheap mpromised mcoin mpaid (upZ mowed x (i32z (iI (mowed x + (amtF (FP.fsub (mnF (mmount * (mntM mdata mends mmany mkind mchain mholds mnights x (ltN (colF mkind x) mnights.toNat))) (baseB (rowF mdata (60 * x + (ltN (colF mkind x) mnights.toNat))) (rowF mends (60 * x + (ltN (colF mkind x) mnights.toNat))) (mmany (60 * x + (ltN (colF mkind x) mnights.toNat)))) mspeed) (FP.i2f (iI (mpromised x)))) (mcoin x)))))) mturn misAsking mwant mcost misServed mitsRow mitsChunk h'))) args s rmX10_drill.cells rmX10_drill.slots (A0 sz0)) h 0 0 [some (.ref (ad 0)), some (.int (iI (x))), some (.int (iI (bI (0 ≤ x ∧ x ≤ 3)))), some (.int (iI (ltv x (ltN (colF mkind x) mnights.toNat)))), some (.float (FP.fsub (mnF (mmount * (mntM mdata mends mmany mkind mchain mholds mnights x (ltN (colF mkind x) mnights.toNat))) (baseB (rowF mdata (60 * x + (ltN (colF mkind x) mnights.toNat))) (rowF mends (60 * x + (ltN (colF mkind x) mnights.toNat))) (mmany (60 * x + (ltN (colF mkind x) mnights.toNat)))) mspeed) (FP.i2f (iI (mpromised x))))), some (.int (iI (i32z (FP.f2i (FP.fsub (mnF (mmount * (mntM mdata mends mmany mkind mchain mholds mnights x (ltN (colF mkind x) mnights.toNat))) (baseB (rowF mdata (60 * x + (ltN (colF mkind x) mnights.toNat))) (rowF mends (60 * x + (ltN (colF mkind x) mnights.toNat))) (mmany (60 * x + (ltN (colF mkind x) mnights.toNat)))) mspeed) (FP.i2f (iI (mpromised x)))))))), some (.int (iI (upF (FP.fsub (mnF (mmount * (mntM mdata mends mmany mkind mchain mholds mnights x (ltN (colF mkind x) mnights.toNat))) (baseB (rowF mdata (60 * x + (ltN (colF mkind x) mnights.toNat))) (rowF mends (60 * x + (ltN (colF mkind x) mnights.toNat))) (mmany (60 * x + (ltN (colF mkind x) mnights.toNat)))) mspeed) (FP.i2f (iI (mpromised x))))))), none] 110 [.int (iI (amtF (FP.fsub (mnF (mmount * (mntM mdata mends mmany mkind mchain mholds mnights x (ltN (colF mkind x) mnights.toNat))) (baseB (rowF mdata (60 * x + (ltN (colF mkind x) mnights.toNat))) (rowF mends (60 * x + (ltN (colF mkind x) mnights.toNat))) (mmany (60 * x + (ltN (colF mkind x) mnights.toNat)))) mspeed) (FP.i2f (iI (mpromised x)))) (mcoin x)))] := by
              refine r_istore B dX10_drill_110 (by decide) (lcat_v rfl rfl) ?_
              refine r_aload_n B dX10_drill_112 rfl rfl ?_
              refine m_get_owed B dX10_drill_113 in_X10_drill_X10 w_X10_drill_f72 hM ?_
              refine r_iload_n B dX10_drill_116 rfl ?_
              refine r_dup2 B dX10_drill_117 rfl rfl ?_
              refine m_ld_owed B dX10_drill_118 hM (by omega) (by omega) (fun r118 => ?_)
              refine r_iload B dX10_drill_119 rfl ?_
              refine r_iadd B dX10_drill_121 ?_
              refine r_wrap ?_
              refine m_st_owed B dX10_drill_122 hA hM (by omega) (by omega) (i32z_rng _) (fun h hM => ?_)
              refine r_iload B dX10_drill_123 rfl ?_
              exact r_iret B hr hlk dX10_drill_125 (Nat.le_of_ble_eq_true rfl) (Nat.le_of_ble_eq_true rfl) (by
    have hT : (tDif x (ltN (colF mkind x) mnights.toNat)) = 0 := by
      unfold tDif
      (repeat' split) <;> omega
    exact ⟨_, rfl, fun h9 => absurd hT h9, fun _ => ⟨rfl, hM⟩⟩)
            refine r_if_le B dX10_drill_94 (tgt := 109) (by decide) (upF_rng _) (fun c94 => ?_) (fun c94 => ?_)
            · refine r_iconst B dX10_drill_109 ?_
              refine r_topz (y := (amtF (FP.fsub (mnF (mmount * (mntM mdata mends mmany mkind mchain mholds mnights x (ltN (colF mkind x) mnights.toNat))) (baseB (rowF mdata (60 * x + (ltN (colF mkind x) mnights.toNat))) (rowF mends (60 * x + (ltN (colF mkind x) mnights.toNat))) (mmany (60 * x + (ltN (colF mkind x) mnights.toNat)))) mspeed) (FP.i2f (iI (mpromised x)))) (mcoin x))) ((amtF_f (by omega)).symm) ?_
              exact r_lv (lvLe_s rfl (lvLe_s rfl (lvLe_s rfl (lvLe_s rfl (lvLe_s rfl (lvLe_s rfl (lvLe_s rfl (lvLe_n lvLe_nil)))))))) (join110)
            · refine r_iload B dX10_drill_97 rfl ?_
              refine r_aload_n B dX10_drill_99 rfl rfl ?_
              refine m_get_coin B dX10_drill_100 in_X10_drill_X10 w_X10_drill_f66 hM ?_
              refine r_iload_n B dX10_drill_103 rfl ?_
              refine m_ld_coin B dX10_drill_104 hM (by omega) (by omega) (fun r104 => ?_)
              refine r_imul B dX10_drill_105 ?_
              refine r_goto B dX10_drill_106 (tgt := 110) (by decide) ?_
              refine r_topz (y := (amtF (FP.fsub (mnF (mmount * (mntM mdata mends mmany mkind mchain mholds mnights x (ltN (colF mkind x) mnights.toNat))) (baseB (rowF mdata (60 * x + (ltN (colF mkind x) mnights.toNat))) (rowF mends (60 * x + (ltN (colF mkind x) mnights.toNat))) (mmany (60 * x + (ltN (colF mkind x) mnights.toNat)))) mspeed) (FP.i2f (iI (mpromised x)))) (mcoin x))) ((amtF_t (by omega)).symm) ?_
              exact r_lv (lvLe_s rfl (lvLe_s rfl (lvLe_s rfl (lvLe_s rfl (lvLe_s rfl (lvLe_s rfl (lvLe_s rfl (lvLe_n lvLe_nil)))))))) (join110)
          refine r_if_le B dX10_drill_78 (tgt := 88) (by decide) (i32z_rng _) (fun c78 => ?_) (fun c78 => ?_)
          · refine r_iload B dX10_drill_88 rfl ?_
            refine r_topz (y := (upF (FP.fsub (mnF (mmount * (mntM mdata mends mmany mkind mchain mholds mnights x (ltN (colF mkind x) mnights.toNat))) (baseB (rowF mdata (60 * x + (ltN (colF mkind x) mnights.toNat))) (rowF mends (60 * x + (ltN (colF mkind x) mnights.toNat))) (mmany (60 * x + (ltN (colF mkind x) mnights.toNat)))) mspeed) (FP.i2f (iI (mpromised x)))))) ((upF_f (by omega)).symm) ?_
            exact r_lv (lvLe_s rfl (lvLe_s rfl (lvLe_s rfl (lvLe_s rfl (lvLe_s rfl (lvLe_s rfl (lvLe_n (lvLe_n lvLe_nil)))))))) (join90)
          · refine r_iload B dX10_drill_81 rfl ?_
            refine r_iconst B dX10_drill_83 ?_
            refine r_iadd B dX10_drill_84 ?_
            refine r_wrap ?_
            refine r_goto B dX10_drill_85 (tgt := 90) (by decide) ?_
            refine r_topz (y := (upF (FP.fsub (mnF (mmount * (mntM mdata mends mmany mkind mchain mholds mnights x (ltN (colF mkind x) mnights.toNat))) (baseB (rowF mdata (60 * x + (ltN (colF mkind x) mnights.toNat))) (rowF mends (60 * x + (ltN (colF mkind x) mnights.toNat))) (mmany (60 * x + (ltN (colF mkind x) mnights.toNat)))) mspeed) (FP.i2f (iI (mpromised x)))))) ((upF_t (by omega)).symm) ?_
            exact r_lv (lvLe_s rfl (lvLe_s rfl (lvLe_s rfl (lvLe_s rfl (lvLe_s rfl (lvLe_s rfl (lvLe_n (lvLe_n lvLe_nil)))))))) (join90)
        · replace c41 := bI_0.mp c41
          exact absurd c41 (by decide)
      · have hl9 : (ltN (colF mkind x) mnights.toNat) = -1 := by
          by_cases z : (ltN (colF mkind x) mnights.toNat) = -1
          · exact z
          · rw [hlv, if_neg z] at c30; omega
        refine r_iconst B dX10_drill_33 ?_
        refine r_goto B dX10_drill_34 (tgt := 38) (by decide) ?_
        refine r_callV (n := 1) B dX10_drill_38 (ct_X10_isFine l g sz0 ad hA hM _ (by omega)) gX10_drill_X10_isFine rfl (by decide +kernel) ⟨Nat.le_of_ble_eq_true rfl, Nat.le_of_ble_eq_true rfl⟩ hM.obj rfl rfl rfl (Nat.le_of_ble_eq_true rfl) (Nat.le_of_ble_eq_true rfl) (Nat.le_of_ble_eq_true rfl) (fun v h hp => ?_)
        obtain ⟨hv, hM⟩ := hp
        subst v
        dsimp only [Option.toList, List.cons_append, List.nil_append]
        refine r_if_ne B dX10_drill_41 (tgt := 46) (by decide) (bI_rng _) (fun c41 => ?_) (fun c41 => ?_)
        · replace c41 := bI_n0.mp c41
          exact absurd c41 (by decide)
        · replace c41 := bI_0.mp c41
          refine r_iconst B dX10_drill_44 ?_
          exact r_iret B hr hlk dX10_drill_45 (Nat.le_of_ble_eq_true rfl) (Nat.le_of_ble_eq_true rfl) (by
    have hT : (tDif x (ltN (colF mkind x) mnights.toNat)) = 2 := by
      unfold tDif
      (repeat' split) <;> omega
    exact ⟨_, rfl, fun _ => ⟨rfl, by rw [hT]; exact hM⟩, fun h9 => absurd (hT.symm.trans h9) (by decide)⟩)
    · exact absurd c21 (bI_n0.mpr c6)
