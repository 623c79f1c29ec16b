abbrev rmX10_end : Room := { frames := 3, cells := 0, slots := 0, locals := 72 }
theorem in_X10_end_X10 : ∀ w ∈ wsX100, w ∈ wsX10_end := by decide +kernel
theorem w_X10_end_f19 : Cond.fieldLink RX10 19 "DeltaNightsModel" "many" "[I" ∈ wsX10_end := by decide +kernel
theorem w_X10_end_f16 : Cond.fieldLink RX10 16 "DeltaNightsModel" "ends" "[I" ∈ wsX10_end := by decide +kernel
set_option maxHeartbeats 4000000 in
set_option maxRecDepth 100000 in
theorem ct_X10_end (l : Launch) (g : GG) (sz0 : Nat) (ad : Nat → Nat) (hA : ADok ad) {h h0 : AH} {mthrown mnights mbits mleast mmost mroom mreserve mmount mspeed : Int} {mdata msize mends mmany mkind mchain mholds mbid mbound mcheap mpromised mcoin mpaid mowed mturn misAsking mwant mcost misServed mitsRow mitsChunk : Int → Int} (hM : MW g ad h0 mthrown mdata msize mends mmany mkind mchain mholds mnights mbits mleast mmost mroom mreserve mmount mspeed mbid mbound mcheap mpromised mcoin mpaid mowed mturn misAsking mwant mcost misServed mitsRow mitsChunk h) (x y : Int) (qx : -2147483648 ≤ x ∧ x < 2147483648) (qy : -2147483648 ≤ y ∧ y < 2147483648)(hs : ∀ z : Int, 0 ≤ z ∧ z ≤ 3 → 0 ≤ msize (240 + z) ∧ msize (240 + z) ≤ 48) : CT l yX10_end wsX10_end rmX10_end g sz0 [.ref (ad 0), .int (iI (x)), .int (iI (y))] h (fun v h' => ∃ (r : Int) (e1 m1 : Int → Int), LKe mends mmany e1 m1 ∧ v = some (.int (iI r)) ∧ (¬ (tNi x y (cutR (rowF mdata (240 + x)) (msize (240 + x)) mbits mleast mmost).2.1) = 0 → r = 0) ∧ ((tNi x y (cutR (rowF mdata (240 + x)) (msize (240 + x)) mbits mleast mmost).2.1) = 0 → r = (cutR (rowF mdata (240 + x)) (msize (240 + x)) mbits mleast mmost).2.2 y) ∧ MW g ad h0 (tNi x y (cutR (rowF mdata (240 + x)) (msize (240 + x)) mbits mleast mmost).2.1) mdata msize e1 m1 mkind mchain mholds mnights mbits mleast mmost mroom mreserve mmount mspeed mbid mbound mcheap mpromised mcoin mpaid mowed mturn misAsking mwant mcost misServed mitsRow mitsChunk h') := by
  refine CT.of (by decide +kernel) rfl [some (.ref (ad 0)), some (.int (iI (x))), some (.int (iI (y))), none, none] rfl (Nat.le_of_ble_eq_true rfl) ?_
  intro p e s m args below meth c B hr hlk hnm
  refine r_iload_n B dX10_end_0 rfl ?_
  refine r_callS (n := 1) B dX10_end_1 (ct_X10_isClient l g sz0 _ (by omega)) gX10_end_X10_isClient rfl (by decide +kernel) ⟨Nat.le_of_ble_eq_true rfl, Nat.le_of_ble_eq_true rfl⟩ rfl rfl (Nat.le_of_ble_eq_true rfl) (Nat.le_of_ble_eq_true rfl) (Nat.le_of_ble_eq_true rfl) (fun v h' hp => ?_)
  obtain ⟨hv, hh⟩ := hp
  subst v
  subst h'
  dsimp only [Option.toList, List.cons_append, List.nil_append]
  refine r_istore_n B dX10_end_4 rfl (by decide) (lcat_v rfl rfl) ?_
  refine r_iload_n B dX10_end_5 rfl ?_
  refine r_if_eq B dX10_end_6 (tgt := 17) (by decide) (bI_rng _) (fun c6 => ?_) (fun c6 => ?_)
  · replace c6 := bI_0.mp c6
    refine r_iconst B dX10_end_17 ?_
    refine r_istore B dX10_end_18 (by decide) (lcat_v rfl rfl) ?_
    refine r_aload_n B dX10_end_20 rfl rfl ?_
    refine r_iload_n B dX10_end_21 rfl ?_
    refine r_if_ne B dX10_end_22 (tgt := 29) (by decide) (bI_rng _) (fun c22 => ?_) (fun c22 => ?_)
    · exact absurd (bI_f c6) c22
    · replace c22 := bI_0.mp c22
      refine r_iconst B dX10_end_25 ?_
      refine r_goto B dX10_end_26 (tgt := 51) (by decide) ?_
      refine r_callV (n := 1) B dX10_end_51 (ct_X10_isFine l g sz0 ad hA hM _ (by omega)) gX10_end_X10_isFine rfl (by decide +kernel) ⟨Nat.le_of_ble_eq_true rfl, Nat.le_of_ble_eq_true rfl⟩ hM.obj rfl rfl rfl (Nat.le_of_ble_eq_true rfl) (Nat.le_of_ble_eq_true rfl) (Nat.le_of_ble_eq_true rfl) (fun v h hp => ?_)
      obtain ⟨hv, hM⟩ := hp
      subst v
      dsimp only [Option.toList, List.cons_append, List.nil_append]
      refine r_if_eq B dX10_end_54 (tgt := 72) (by decide) (bI_rng _) (fun c54 => ?_) (fun c54 => ?_)
      · replace c54 := bI_0.mp c54
        refine r_iconst B dX10_end_72 ?_
        exact r_iret B hr hlk dX10_end_73 (Nat.le_of_ble_eq_true rfl) (Nat.le_of_ble_eq_true rfl) (by
    have hT : (tNi x y (cutR (rowF mdata (240 + x)) (msize (240 + x)) mbits mleast mmost).2.1) = 1 := by
      unfold tNi
      (repeat' split) <;> omega
    exact ⟨0, mends, mmany, LKe.rfl _ _, rfl, fun _ => rfl, fun h9 => absurd (hT.symm.trans h9) (by decide), by rw [hT]; exact hM⟩)
      · replace c54 := bI_n0.mp c54
        exact absurd c54 (by decide)
  · replace c6 := bI_n0.mp c6
    refine r_aload_n B dX10_end_9 rfl rfl ?_
    refine r_iload_n B dX10_end_10 rfl ?_
    refine r_callV (n := 1) B dX10_end_11 (ct_X10_cuts l g sz0 ad hA hM _ (by omega) (hs x (by omega))) gX10_end_X10_cuts rfl (by decide +kernel) ⟨Nat.le_of_ble_eq_true rfl, Nat.le_of_ble_eq_true rfl⟩ hM.obj rfl rfl rfl (Nat.le_of_ble_eq_true rfl) (Nat.le_of_ble_eq_true rfl) (Nat.le_of_ble_eq_true rfl) (fun v h hp => ?_)
    obtain ⟨hv, hM⟩ := hp
    subst v
    dsimp only [Option.toList, List.cons_append, List.nil_append]
    have hsx := hs x (by omega)
    have hco := cutR_ok (rowF mdata (240 + x)) (b := mbits) (ls := mleast) (ms := mmost) hsx.1 hsx.2
    have hle := lk_put mends mmany (cutR (rowF mdata (240 + x)) (msize (240 + x)) mbits mleast mmost).2.2 (n := (cutR (rowF mdata (240 + x)) (msize (240 + x)) mbits mleast mmost).2.1) (x := x) (by omega) (by omega)
    refine r_goto B dX10_end_14 (tgt := 18) (by decide) ?_
    refine r_istore B dX10_end_18 (by decide) (lcat_v rfl rfl) ?_
    refine r_aload_n B dX10_end_20 rfl rfl ?_
    refine r_iload_n B dX10_end_21 rfl ?_
    refine r_if_ne B dX10_end_22 (tgt := 29) (by decide) (bI_rng _) (fun c22 => ?_) (fun c22 => ?_)
    · replace c22 := bI_n0.mp c22
      refine r_iload_n B dX10_end_29 rfl ?_
      refine r_iconst B dX10_end_30 ?_
      refine r_aload_n B dX10_end_31 rfl rfl ?_
      refine m_get_many B dX10_end_32 in_X10_end_X10 w_X10_end_f19 hM ?_
      refine r_iload B dX10_end_35 rfl ?_
      refine m_ld_many B dX10_end_37 hM (by omega) (by omega) (fun r37 => ?_)
      rw [upZ_at]
      refine r_iconst B dX10_end_38 ?_
      refine r_isub B dX10_end_39 ?_
      refine r_callS (n := 3) B dX10_end_40 (ct_X10_isIn l g sz0 _ _ _ (by omega) (by omega) (by omega)) gX10_end_X10_isIn rfl (by decide +kernel) ⟨Nat.le_of_ble_eq_true rfl, Nat.le_of_ble_eq_true rfl⟩ rfl rfl (Nat.le_of_ble_eq_true rfl) (Nat.le_of_ble_eq_true rfl) (Nat.le_of_ble_eq_true rfl) (fun v h' hp => ?_)
      obtain ⟨hv, hh⟩ := hp
      subst v
      subst h'
      dsimp only [Option.toList, List.cons_append, List.nil_append]
      refine r_if_ne B dX10_end_43 (tgt := 50) (by decide) (bI_rng _) (fun c43 => ?_) (fun c43 => ?_)
      · replace c43 := bI_n0.mp c43
        refine r_iconst B dX10_end_50 ?_
        refine r_callV (n := 1) B dX10_end_51 (ct_X10_isFine l g sz0 ad hA hM _ (by omega)) gX10_end_X10_isFine rfl (by decide +kernel) ⟨Nat.le_of_ble_eq_true rfl, Nat.le_of_ble_eq_true rfl⟩ hM.obj rfl rfl rfl (Nat.le_of_ble_eq_true rfl) (Nat.le_of_ble_eq_true rfl) (Nat.le_of_ble_eq_true rfl) (fun v h hp => ?_)
        obtain ⟨hv, hM⟩ := hp
        subst v
        dsimp only [Option.toList, List.cons_append, List.nil_append]
        refine r_if_eq B dX10_end_54 (tgt := 72) (by decide) (bI_rng _) (fun c54 => ?_) (fun c54 => ?_)
        · replace c54 := bI_0.mp c54
          exact absurd c54 (by decide)
        · replace c54 := bI_n0.mp c54
          refine r_aload_n B dX10_end_57 rfl rfl ?_
          refine m_get_ends B dX10_end_58 in_X10_end_X10 w_X10_end_f16 hM ?_
          refine r_bipush B dX10_end_61 (by decide) ?_
          refine r_iload B dX10_end_63 rfl ?_
          refine r_imul B dX10_end_65 ?_
          refine r_iload_n B dX10_end_66 rfl ?_
          refine r_iadd B dX10_end_67 ?_
          refine m_ld_ends B dX10_end_68 hM (by omega) (by omega) (fun r68 => ?_)
          refine r_goto B dX10_end_69 (tgt := 73) (by decide) ?_
          exact r_iret B hr hlk dX10_end_73 (Nat.le_of_ble_eq_true rfl) (Nat.le_of_ble_eq_true rfl) (by
    have hT : (tNi x y (cutR (rowF mdata (240 + x)) (msize (240 + x)) mbits mleast mmost).2.1) = 0 := by
      unfold tNi
      (repeat' split) <;> omega
    exact ⟨_, _, _, hle, rfl, fun h9 => absurd hT h9, fun _ => row_put mends (240 + x) (cutR (rowF mdata (240 + x)) (msize (240 + x)) mbits mleast mmost).2.1 (cutR (rowF mdata (240 + x)) (msize (240 + x)) mbits mleast mmost).2.2 (by omega) (by omega), by rw [hT]; exact hM⟩)
      · replace c43 := bI_0.mp c43
        refine r_iconst B dX10_end_46 ?_
        refine r_goto B dX10_end_47 (tgt := 51) (by decide) ?_
        refine r_callV (n := 1) B dX10_end_51 (ct_X10_isFine l g sz0 ad hA hM _ (by omega)) gX10_end_X10_isFine rfl (by decide +kernel) ⟨Nat.le_of_ble_eq_true rfl, Nat.le_of_ble_eq_true rfl⟩ hM.obj rfl rfl rfl (Nat.le_of_ble_eq_true rfl) (Nat.le_of_ble_eq_true rfl) (Nat.le_of_ble_eq_true rfl) (fun v h hp => ?_)
        obtain ⟨hv, hM⟩ := hp
        subst v
        dsimp only [Option.toList, List.cons_append, List.nil_append]
        refine r_if_eq B dX10_end_54 (tgt := 72) (by decide) (bI_rng _) (fun c54 => ?_) (fun c54 => ?_)
        · replace c54 := bI_0.mp c54
          refine r_iconst B dX10_end_72 ?_
          exact r_iret B hr hlk dX10_end_73 (Nat.le_of_ble_eq_true rfl) (Nat.le_of_ble_eq_true rfl) (by
    have hT : (tNi x y (cutR (rowF mdata (240 + x)) (msize (240 + x)) mbits mleast mmost).2.1) = 2 := by
      unfold tNi
      (repeat' split) <;> omega
    exact ⟨0, _, _, hle, rfl, fun _ => rfl, fun h9 => absurd (hT.symm.trans h9) (by decide), by rw [hT]; exact hM⟩)
        · replace c54 := bI_n0.mp c54
          exact absurd c54 (by decide)
    · exact absurd c22 (bI_n0.mpr c6)
