abbrev rmX10_setNight : Room := { frames := 1, cells := 0, slots := 0, locals := 22 }
theorem in_X10_setNight_X10 : ∀ w ∈ wsX100, w ∈ wsX10_setNight := by decide +kernel
theorem w_X10_setNight_f42 : Cond.fieldLink RX10 42 "DeltaNightsModel" "room" "I" ∈ wsX10_setNight := by decide +kernel
theorem w_X10_setNight_f45 : Cond.fieldLink RX10 45 "DeltaNightsModel" "reserve" "I" ∈ wsX10_setNight := by decide +kernel
set_option maxHeartbeats 4000000 in
set_option maxRecDepth 100000 in
theorem ct_X10_setNight (l : Launch) (g : GG) (sz0 : Nat) (ad : Nat → Nat) (hA : ADok ad) {h h0 : AH} {mthrown mnights mbits mleast mmost mroom mreserve mmount mspeed : Int} {mdata msize mends mmany mkind mchain mholds mbid mbound mcheap mpromised mcoin mpaid mowed mturn misAsking mwant mcost misServed mitsRow mitsChunk : Int → Int} (hM : MW g ad h0 mthrown mdata msize mends mmany mkind mchain mholds mnights mbits mleast mmost mroom mreserve mmount mspeed mbid mbound mcheap mpromised mcoin mpaid mowed mturn misAsking mwant mcost misServed mitsRow mitsChunk h) (x y : Int) (qx : -2147483648 ≤ x ∧ x < 2147483648) (qy : -2147483648 ≤ y ∧ y < 2147483648) : CT l yX10_setNight wsX10_setNight rmX10_setNight g sz0 [.ref (ad 0), .int (iI (x)), .int (iI (y))] h (fun v h' => v = none ∧ (¬ tB ((0 ≤ x ∧ x ≤ 500) ∧ (0 ≤ y ∧ y ≤ 50)) = 0 → MW g ad h0 (tB ((0 ≤ x ∧ x ≤ 500) ∧ (0 ≤ y ∧ y ≤ 50))) mdata msize mends mmany mkind mchain mholds mnights mbits mleast mmost mroom mreserve mmount mspeed mbid mbound mcheap mpromised mcoin mpaid mowed mturn misAsking mwant mcost misServed mitsRow mitsChunk h') ∧ (tB ((0 ≤ x ∧ x ≤ 500) ∧ (0 ≤ y ∧ y ≤ 50)) = 0 → MW g ad h0 0 mdata msize mends mmany mkind mchain mholds mnights mbits mleast mmost x y mmount mspeed mbid mbound mcheap mpromised mcoin mpaid mowed mturn misAsking mwant mcost misServed mitsRow mitsChunk h')) := by
  refine CT.of (by decide +kernel) rfl [some (.ref (ad 0)), some (.int (iI (x))), some (.int (iI (y)))] rfl (Nat.le_of_ble_eq_true rfl) ?_
  intro p e s m args below meth c B hr hlk hnm
  refine r_aload_n B dX10_setNight_0 rfl rfl ?_
  refine r_iload_n B dX10_setNight_1 rfl ?_
  refine r_iconst B dX10_setNight_2 ?_
  refine r_sipush B dX10_setNight_3 (by decide) ?_
  refine r_callS (n := 3) B dX10_setNight_6 (ct_X10_isIn l g sz0 _ _ _ (by omega) (by omega) (by omega)) gX10_setNight_X10_isIn rfl (by decide +kernel) ⟨Nat.le_of_ble_eq_true rfl, Nat.le_of_ble_eq_true rfl⟩ rfl rfl (Nat.le_of_ble_eq_true rfl) (Nat.le_of_ble_eq_true rfl) (Nat.le_of_ble_eq_true rfl) (fun v h' hp => ?_)
  obtain ⟨hv, hh⟩ := hp
  subst v
  subst h'
  dsimp only [Option.toList, List.cons_append, List.nil_append]
  refine r_if_eq B dX10_setNight_9 (tgt := 26) (by decide) (bI_rng _) (fun c9 => ?_) (fun c9 => ?_)
  · replace c9 := bI_0.mp c9
    refine r_iconst B dX10_setNight_26 ?_
    refine r_callV (n := 1) B dX10_setNight_27 (ct_X10_isFine l g sz0 ad hA hM _ (by omega)) gX10_setNight_X10_isFine rfl (by decide +kernel) ⟨Nat.le_of_ble_eq_true rfl, Nat.le_of_ble_eq_true rfl⟩ hM.obj rfl rfl rfl (Nat.le_of_ble_eq_true rfl) (Nat.le_of_ble_eq_true rfl) (Nat.le_of_ble_eq_true rfl) (fun v h hp => ?_)
    obtain ⟨hv, hM⟩ := hp
    subst v
    dsimp only [Option.toList, List.cons_append, List.nil_append]
    refine r_if_eq B dX10_setNight_30 (tgt := 43) (by decide) (bI_rng _) (fun c30 => ?_) (fun c30 => ?_)
    · replace c30 := bI_0.mp c30
      exact r_vret B hr hlk dX10_setNight_43 (Nat.le_of_ble_eq_true rfl) (Nat.le_of_ble_eq_true rfl) (by
    have hT : tB ((0 ≤ x ∧ x ≤ 500) ∧ (0 ≤ y ∧ y ≤ 50)) = 1 := by first | exact tB_t (by omega) | exact tB_f (by omega)
    exact ⟨rfl, fun _ => by rw [hT]; exact hM, fun h9 => absurd (hT.symm.trans h9) (by decide)⟩)
    · replace c30 := bI_n0.mp c30
      exact absurd c30 (by decide)
  · replace c9 := bI_n0.mp c9
    refine r_iload_n B dX10_setNight_12 rfl ?_
    refine r_iconst B dX10_setNight_13 ?_
    refine r_bipush B dX10_setNight_14 (by decide) ?_
    refine r_callS (n := 3) B dX10_setNight_16 (ct_X10_isIn l g sz0 _ _ _ (by omega) (by omega) (by omega)) gX10_setNight_X10_isIn rfl (by decide +kernel) ⟨Nat.le_of_ble_eq_true rfl, Nat.le_of_ble_eq_true rfl⟩ rfl rfl (Nat.le_of_ble_eq_true rfl) (Nat.le_of_ble_eq_true rfl) (Nat.le_of_ble_eq_true rfl) (fun v h' hp => ?_)
    obtain ⟨hv, hh⟩ := hp
    subst v
    subst h'
    dsimp only [Option.toList, List.cons_append, List.nil_append]
    refine r_if_eq B dX10_setNight_19 (tgt := 26) (by decide) (bI_rng _) (fun c19 => ?_) (fun c19 => ?_)
    · replace c19 := bI_0.mp c19
      refine r_iconst B dX10_setNight_26 ?_
      refine r_callV (n := 1) B dX10_setNight_27 (ct_X10_isFine l g sz0 ad hA hM _ (by omega)) gX10_setNight_X10_isFine rfl (by decide +kernel) ⟨Nat.le_of_ble_eq_true rfl, Nat.le_of_ble_eq_true rfl⟩ hM.obj rfl rfl rfl (Nat.le_of_ble_eq_true rfl) (Nat.le_of_ble_eq_true rfl) (Nat.le_of_ble_eq_true rfl) (fun v h hp => ?_)
      obtain ⟨hv, hM⟩ := hp
      subst v
      dsimp only [Option.toList, List.cons_append, List.nil_append]
      refine r_if_eq B dX10_setNight_30 (tgt := 43) (by decide) (bI_rng _) (fun c30 => ?_) (fun c30 => ?_)
      · replace c30 := bI_0.mp c30
        exact r_vret B hr hlk dX10_setNight_43 (Nat.le_of_ble_eq_true rfl) (Nat.le_of_ble_eq_true rfl) (by
    have hT : tB ((0 ≤ x ∧ x ≤ 500) ∧ (0 ≤ y ∧ y ≤ 50)) = 1 := by first | exact tB_t (by omega) | exact tB_f (by omega)
    exact ⟨rfl, fun _ => by rw [hT]; exact hM, fun h9 => absurd (hT.symm.trans h9) (by decide)⟩)
      · replace c30 := bI_n0.mp c30
        exact absurd c30 (by decide)
    · replace c19 := bI_n0.mp c19
      refine r_iconst B dX10_setNight_22 ?_
      refine r_goto B dX10_setNight_23 (tgt := 27) (by decide) ?_
      refine r_callV (n := 1) B dX10_setNight_27 (ct_X10_isFine l g sz0 ad hA hM _ (by omega)) gX10_setNight_X10_isFine rfl (by decide +kernel) ⟨Nat.le_of_ble_eq_true rfl, Nat.le_of_ble_eq_true rfl⟩ hM.obj rfl rfl rfl (Nat.le_of_ble_eq_true rfl) (Nat.le_of_ble_eq_true rfl) (Nat.le_of_ble_eq_true rfl) (fun v h hp => ?_)
      obtain ⟨hv, hM⟩ := hp
      subst v
      dsimp only [Option.toList, List.cons_append, List.nil_append]
      refine r_if_eq B dX10_setNight_30 (tgt := 43) (by decide) (bI_rng _) (fun c30 => ?_) (fun c30 => ?_)
      · replace c30 := bI_0.mp c30
        exact absurd c30 (by decide)
      · replace c30 := bI_n0.mp c30
        refine r_aload_n B dX10_setNight_33 rfl rfl ?_
        refine r_iload_n B dX10_setNight_34 rfl ?_
        refine m_put_room B dX10_setNight_35 in_X10_setNight_X10 w_X10_setNight_f42 hA hM (by omega) (fun h hM => ?_)
        refine r_aload_n B dX10_setNight_38 rfl rfl ?_
        refine r_iload_n B dX10_setNight_39 rfl ?_
        refine m_put_reserve B dX10_setNight_40 in_X10_setNight_X10 w_X10_setNight_f45 hA hM (by omega) (fun h hM => ?_)
        exact r_vret B hr hlk dX10_setNight_43 (Nat.le_of_ble_eq_true rfl) (Nat.le_of_ble_eq_true rfl) (by
    have hT : tB ((0 ≤ x ∧ x ≤ 500) ∧ (0 ≤ y ∧ y ≤ 50)) = 0 := by first | exact tB_t (by omega) | exact tB_f (by omega)
    exact ⟨rfl, fun h9 => absurd hT h9, fun _ => hM⟩)
abbrev rmX10_setChain : Room := { frames := 2, cells := 0, slots := 0, locals := 42 }
theorem in_X10_setChain_X10 : ∀ w ∈ wsX100, w ∈ wsX10_setChain := by decide +kernel
theorem w_X10_setChain_f57 : Cond.fieldLink RX10 57 "DeltaNightsModel" "bound" "[I" ∈ wsX10_setChain := by decide +kernel
theorem w_X10_setChain_f60 : Cond.fieldLink RX10 60 "DeltaNightsModel" "cheap" "[I" ∈ wsX10_setChain := by decide +kernel
set_option maxHeartbeats 4000000 in
set_option maxRecDepth 100000 in
theorem ct_X10_setChain (l : Launch) (g : GG) (sz0 : Nat) (ad : Nat → Nat) (hA : ADok ad) {h h0 : AH} {mthrown mnights mbits mleast mmost mroom mreserve mmount mspeed : Int} {mdata msize mends mmany mkind mchain mholds mbid mbound mcheap mpromised mcoin mpaid mowed mturn misAsking mwant mcost misServed mitsRow mitsChunk : Int → Int} (hM : MW g ad h0 mthrown mdata msize mends mmany mkind mchain mholds mnights mbits mleast mmost mroom mreserve mmount mspeed mbid mbound mcheap mpromised mcoin mpaid mowed mturn misAsking mwant mcost misServed mitsRow mitsChunk h) (x y z : Int) (qx : -2147483648 ≤ x ∧ x < 2147483648) (qy : -2147483648 ≤ y ∧ y < 2147483648) (qz : -2147483648 ≤ z ∧ z < 2147483648) : CT l yX10_setChain wsX10_setChain rmX10_setChain g sz0 [.ref (ad 0), .int (iI (x)), .int (iI (y)), .int (iI (z))] h (fun v h' => v = none ∧ (¬ tB ((0 ≤ x ∧ x ≤ 3) ∧ (0 ≤ y ∧ y ≤ 30) ∧ (0 ≤ z ∧ z ≤ 50)) = 0 → MW g ad h0 (tB ((0 ≤ x ∧ x ≤ 3) ∧ (0 ≤ y ∧ y ≤ 30) ∧ (0 ≤ z ∧ z ≤ 50))) mdata msize mends mmany mkind mchain mholds mnights mbits mleast mmost mroom mreserve mmount mspeed mbid mbound mcheap mpromised mcoin mpaid mowed mturn misAsking mwant mcost misServed mitsRow mitsChunk h') ∧ (tB ((0 ≤ x ∧ x ≤ 3) ∧ (0 ≤ y ∧ y ≤ 30) ∧ (0 ≤ z ∧ z ≤ 50)) = 0 → MW g ad h0 0 mdata msize mends mmany mkind mchain mholds mnights mbits mleast mmost mroom mreserve mmount mspeed mbid (upZ mbound x y) (upZ mcheap x z) mpromised mcoin mpaid mowed mturn misAsking mwant mcost misServed mitsRow mitsChunk h')) := by
  refine CT.of (by decide +kernel) rfl [some (.ref (ad 0)), some (.int (iI (x))), some (.int (iI (y))), some (.int (iI (z)))] rfl (Nat.le_of_ble_eq_true rfl) ?_
  intro p e s m args below meth c B hr hlk hnm
  refine r_aload_n B dX10_setChain_0 rfl rfl ?_
  refine r_iload_n B dX10_setChain_1 rfl ?_
  refine r_callS (n := 1) B dX10_setChain_2 (ct_X10_isClient l g sz0 _ (by omega)) gX10_setChain_X10_isClient rfl (by decide +kernel) ⟨Nat.le_of_ble_eq_true rfl, Nat.le_of_ble_eq_true rfl⟩ rfl rfl (Nat.le_of_ble_eq_true rfl) (Nat.le_of_ble_eq_true rfl) (Nat.le_of_ble_eq_true rfl) (fun v h' hp => ?_)
  obtain ⟨hv, hh⟩ := hp
  subst v
  subst h'
  dsimp only [Option.toList, List.cons_append, List.nil_append]
  refine r_if_eq B dX10_setChain_5 (tgt := 32) (by decide) (bI_rng _) (fun c5 => ?_) (fun c5 => ?_)
  · replace c5 := bI_0.mp c5
    refine r_iconst B dX10_setChain_32 ?_
    refine r_callV (n := 1) B dX10_setChain_33 (ct_X10_isFine l g sz0 ad hA hM _ (by omega)) gX10_setChain_X10_isFine rfl (by decide +kernel) ⟨Nat.le_of_ble_eq_true rfl, Nat.le_of_ble_eq_true rfl⟩ hM.obj rfl rfl rfl (Nat.le_of_ble_eq_true rfl) (Nat.le_of_ble_eq_true rfl) (Nat.le_of_ble_eq_true rfl) (fun v h hp => ?_)
    obtain ⟨hv, hM⟩ := hp
    subst v
    dsimp only [Option.toList, List.cons_append, List.nil_append]
    refine r_if_eq B dX10_setChain_36 (tgt := 53) (by decide) (bI_rng _) (fun c36 => ?_) (fun c36 => ?_)
    · replace c36 := bI_0.mp c36
      exact r_vret B hr hlk dX10_setChain_53 (Nat.le_of_ble_eq_true rfl) (Nat.le_of_ble_eq_true rfl) (by
    have hT : tB ((0 ≤ x ∧ x ≤ 3) ∧ (0 ≤ y ∧ y ≤ 30) ∧ (0 ≤ z ∧ z ≤ 50)) = 1 := by first | exact tB_t (by omega) | exact tB_f (by omega)
    exact ⟨rfl, fun _ => by rw [hT]; exact hM, fun h9 => absurd (hT.symm.trans h9) (by decide)⟩)
    · replace c36 := bI_n0.mp c36
      exact absurd c36 (by decide)
  · replace c5 := bI_n0.mp c5
    refine r_iload_n B dX10_setChain_8 rfl ?_
    refine r_iconst B dX10_setChain_9 ?_
    refine r_bipush B dX10_setChain_10 (by decide) ?_
    refine r_callS (n := 3) B dX10_setChain_12 (ct_X10_isIn l g sz0 _ _ _ (by omega) (by omega) (by omega)) gX10_setChain_X10_isIn rfl (by decide +kernel) ⟨Nat.le_of_ble_eq_true rfl, Nat.le_of_ble_eq_true rfl⟩ rfl rfl (Nat.le_of_ble_eq_true rfl) (Nat.le_of_ble_eq_true rfl) (Nat.le_of_ble_eq_true rfl) (fun v h' hp => ?_)
    obtain ⟨hv, hh⟩ := hp
    subst v
    subst h'
    dsimp only [Option.toList, List.cons_append, List.nil_append]
    refine r_if_eq B dX10_setChain_15 (tgt := 32) (by decide) (bI_rng _) (fun c15 => ?_) (fun c15 => ?_)
    · replace c15 := bI_0.mp c15
      refine r_iconst B dX10_setChain_32 ?_
      refine r_callV (n := 1) B dX10_setChain_33 (ct_X10_isFine l g sz0 ad hA hM _ (by omega)) gX10_setChain_X10_isFine rfl (by decide +kernel) ⟨Nat.le_of_ble_eq_true rfl, Nat.le_of_ble_eq_true rfl⟩ hM.obj rfl rfl rfl (Nat.le_of_ble_eq_true rfl) (Nat.le_of_ble_eq_true rfl) (Nat.le_of_ble_eq_true rfl) (fun v h hp => ?_)
      obtain ⟨hv, hM⟩ := hp
      subst v
      dsimp only [Option.toList, List.cons_append, List.nil_append]
      refine r_if_eq B dX10_setChain_36 (tgt := 53) (by decide) (bI_rng _) (fun c36 => ?_) (fun c36 => ?_)
      · replace c36 := bI_0.mp c36
        exact r_vret B hr hlk dX10_setChain_53 (Nat.le_of_ble_eq_true rfl) (Nat.le_of_ble_eq_true rfl) (by
    have hT : tB ((0 ≤ x ∧ x ≤ 3) ∧ (0 ≤ y ∧ y ≤ 30) ∧ (0 ≤ z ∧ z ≤ 50)) = 1 := by first | exact tB_t (by omega) | exact tB_f (by omega)
    exact ⟨rfl, fun _ => by rw [hT]; exact hM, fun h9 => absurd (hT.symm.trans h9) (by decide)⟩)
      · replace c36 := bI_n0.mp c36
        exact absurd c36 (by decide)
    · replace c15 := bI_n0.mp c15
      refine r_iload_n B dX10_setChain_18 rfl ?_
      refine r_iconst B dX10_setChain_19 ?_
      refine r_bipush B dX10_setChain_20 (by decide) ?_
      refine r_callS (n := 3) B dX10_setChain_22 (ct_X10_isIn l g sz0 _ _ _ (by omega) (by omega) (by omega)) gX10_setChain_X10_isIn rfl (by decide +kernel) ⟨Nat.le_of_ble_eq_true rfl, Nat.le_of_ble_eq_true rfl⟩ rfl rfl (Nat.le_of_ble_eq_true rfl) (Nat.le_of_ble_eq_true rfl) (Nat.le_of_ble_eq_true rfl) (fun v h' hp => ?_)
      obtain ⟨hv, hh⟩ := hp
      subst v
      subst h'
      dsimp only [Option.toList, List.cons_append, List.nil_append]
      refine r_if_eq B dX10_setChain_25 (tgt := 32) (by decide) (bI_rng _) (fun c25 => ?_) (fun c25 => ?_)
      · replace c25 := bI_0.mp c25
        refine r_iconst B dX10_setChain_32 ?_
        refine r_callV (n := 1) B dX10_setChain_33 (ct_X10_isFine l g sz0 ad hA hM _ (by omega)) gX10_setChain_X10_isFine rfl (by decide +kernel) ⟨Nat.le_of_ble_eq_true rfl, Nat.le_of_ble_eq_true rfl⟩ hM.obj rfl rfl rfl (Nat.le_of_ble_eq_true rfl) (Nat.le_of_ble_eq_true rfl) (Nat.le_of_ble_eq_true rfl) (fun v h hp => ?_)
        obtain ⟨hv, hM⟩ := hp
        subst v
        dsimp only [Option.toList, List.cons_append, List.nil_append]
        refine r_if_eq B dX10_setChain_36 (tgt := 53) (by decide) (bI_rng _) (fun c36 => ?_) (fun c36 => ?_)
        · replace c36 := bI_0.mp c36
          exact r_vret B hr hlk dX10_setChain_53 (Nat.le_of_ble_eq_true rfl) (Nat.le_of_ble_eq_true rfl) (by
    have hT : tB ((0 ≤ x ∧ x ≤ 3) ∧ (0 ≤ y ∧ y ≤ 30) ∧ (0 ≤ z ∧ z ≤ 50)) = 1 := by first | exact tB_t (by omega) | exact tB_f (by omega)
    exact ⟨rfl, fun _ => by rw [hT]; exact hM, fun h9 => absurd (hT.symm.trans h9) (by decide)⟩)
        · replace c36 := bI_n0.mp c36
          exact absurd c36 (by decide)
      · replace c25 := bI_n0.mp c25
        refine r_iconst B dX10_setChain_28 ?_
        refine r_goto B dX10_setChain_29 (tgt := 33) (by decide) ?_
        refine r_callV (n := 1) B dX10_setChain_33 (ct_X10_isFine l g sz0 ad hA hM _ (by omega)) gX10_setChain_X10_isFine rfl (by decide +kernel) ⟨Nat.le_of_ble_eq_true rfl, Nat.le_of_ble_eq_true rfl⟩ hM.obj rfl rfl rfl (Nat.le_of_ble_eq_true rfl) (Nat.le_of_ble_eq_true rfl) (Nat.le_of_ble_eq_true rfl) (fun v h hp => ?_)
        obtain ⟨hv, hM⟩ := hp
        subst v
        dsimp only [Option.toList, List.cons_append, List.nil_append]
        refine r_if_eq B dX10_setChain_36 (tgt := 53) (by decide) (bI_rng _) (fun c36 => ?_) (fun c36 => ?_)
        · replace c36 := bI_0.mp c36
          exact absurd c36 (by decide)
        · replace c36 := bI_n0.mp c36
          refine r_aload_n B dX10_setChain_39 rfl rfl ?_
          refine m_get_bound B dX10_setChain_40 in_X10_setChain_X10 w_X10_setChain_f57 hM ?_
          refine r_iload_n B dX10_setChain_43 rfl ?_
          refine r_iload_n B dX10_setChain_44 rfl ?_
          refine m_st_bound B dX10_setChain_45 hA hM (by omega) (by omega) (by omega) (fun h hM => ?_)
          refine r_aload_n B dX10_setChain_46 rfl rfl ?_
          refine m_get_cheap B dX10_setChain_47 in_X10_setChain_X10 w_X10_setChain_f60 hM ?_
          refine r_iload_n B dX10_setChain_50 rfl ?_
          refine r_iload_n B dX10_setChain_51 rfl ?_
          refine m_st_cheap B dX10_setChain_52 hA hM (by omega) (by omega) (by omega) (fun h hM => ?_)
          exact r_vret B hr hlk dX10_setChain_53 (Nat.le_of_ble_eq_true rfl) (Nat.le_of_ble_eq_true rfl) (by
    have hT : tB ((0 ≤ x ∧ x ≤ 3) ∧ (0 ≤ y ∧ y ≤ 30) ∧ (0 ≤ z ∧ z ≤ 50)) = 0 := by first | exact tB_t (by omega) | exact tB_f (by omega)
    exact ⟨rfl, fun h9 => absurd hT h9, fun _ => hM⟩)
abbrev rmX10_setSpeed : Room := { frames := 1, cells := 0, slots := 0, locals := 22 }
theorem in_X10_setSpeed_X10 : ∀ w ∈ wsX100, w ∈ wsX10_setSpeed := by decide +kernel
theorem w_X10_setSpeed_f48 : Cond.fieldLink RX10 48 "DeltaNightsModel" "mount" "I" ∈ wsX10_setSpeed := by decide +kernel
theorem w_X10_setSpeed_f51 : Cond.fieldLink RX10 51 "DeltaNightsModel" "speed" "I" ∈ wsX10_setSpeed := by decide +kernel
set_option maxHeartbeats 4000000 in
set_option maxRecDepth 100000 in
theorem ct_X10_setSpeed (l : Launch) (g : GG) (sz0 : Nat) (ad : Nat → Nat) (hA : ADok ad) {h h0 : AH} {mthrown mnights mbits mleast mmost mroom mreserve mmount mspeed : Int} {mdata msize mends mmany mkind mchain mholds mbid mbound mcheap mpromised mcoin mpaid mowed mturn misAsking mwant mcost misServed mitsRow mitsChunk : Int → Int} (hM : MW g ad h0 mthrown mdata msize mends mmany mkind mchain mholds mnights mbits mleast mmost mroom mreserve mmount mspeed mbid mbound mcheap mpromised mcoin mpaid mowed mturn misAsking mwant mcost misServed mitsRow mitsChunk h) (x y : Int) (qx : -2147483648 ≤ x ∧ x < 2147483648) (qy : -2147483648 ≤ y ∧ y < 2147483648) : CT l yX10_setSpeed wsX10_setSpeed rmX10_setSpeed g sz0 [.ref (ad 0), .int (iI (x)), .int (iI (y))] h (fun v h' => v = none ∧ (¬ tB ((0 ≤ x ∧ x ≤ 30) ∧ (1 ≤ y ∧ y ≤ 50)) = 0 → MW g ad h0 (tB ((0 ≤ x ∧ x ≤ 30) ∧ (1 ≤ y ∧ y ≤ 50))) mdata msize mends mmany mkind mchain mholds mnights mbits mleast mmost mroom mreserve mmount mspeed mbid mbound mcheap mpromised mcoin mpaid mowed mturn misAsking mwant mcost misServed mitsRow mitsChunk h') ∧ (tB ((0 ≤ x ∧ x ≤ 30) ∧ (1 ≤ y ∧ y ≤ 50)) = 0 → MW g ad h0 0 mdata msize mends mmany mkind mchain mholds mnights mbits mleast mmost mroom mreserve x y mbid mbound mcheap mpromised mcoin mpaid mowed mturn misAsking mwant mcost misServed mitsRow mitsChunk h')) := by
  refine CT.of (by decide +kernel) rfl [some (.ref (ad 0)), some (.int (iI (x))), some (.int (iI (y)))] rfl (Nat.le_of_ble_eq_true rfl) ?_
  intro p e s m args below meth c B hr hlk hnm
  refine r_aload_n B dX10_setSpeed_0 rfl rfl ?_
  refine r_iload_n B dX10_setSpeed_1 rfl ?_
  refine r_iconst B dX10_setSpeed_2 ?_
  refine r_bipush B dX10_setSpeed_3 (by decide) ?_
  refine r_callS (n := 3) B dX10_setSpeed_5 (ct_X10_isIn l g sz0 _ _ _ (by omega) (by omega) (by omega)) gX10_setSpeed_X10_isIn rfl (by decide +kernel) ⟨Nat.le_of_ble_eq_true rfl, Nat.le_of_ble_eq_true rfl⟩ rfl rfl (Nat.le_of_ble_eq_true rfl) (Nat.le_of_ble_eq_true rfl) (Nat.le_of_ble_eq_true rfl) (fun v h' hp => ?_)
  obtain ⟨hv, hh⟩ := hp
  subst v
  subst h'
  dsimp only [Option.toList, List.cons_append, List.nil_append]
  refine r_if_eq B dX10_setSpeed_8 (tgt := 25) (by decide) (bI_rng _) (fun c8 => ?_) (fun c8 => ?_)
  · replace c8 := bI_0.mp c8
    refine r_iconst B dX10_setSpeed_25 ?_
    refine r_callV (n := 1) B dX10_setSpeed_26 (ct_X10_isFine l g sz0 ad hA hM _ (by omega)) gX10_setSpeed_X10_isFine rfl (by decide +kernel) ⟨Nat.le_of_ble_eq_true rfl, Nat.le_of_ble_eq_true rfl⟩ hM.obj rfl rfl rfl (Nat.le_of_ble_eq_true rfl) (Nat.le_of_ble_eq_true rfl) (Nat.le_of_ble_eq_true rfl) (fun v h hp => ?_)
    obtain ⟨hv, hM⟩ := hp
    subst v
    dsimp only [Option.toList, List.cons_append, List.nil_append]
    refine r_if_eq B dX10_setSpeed_29 (tgt := 42) (by decide) (bI_rng _) (fun c29 => ?_) (fun c29 => ?_)
    · replace c29 := bI_0.mp c29
      exact r_vret B hr hlk dX10_setSpeed_42 (Nat.le_of_ble_eq_true rfl) (Nat.le_of_ble_eq_true rfl) (by
    have hT : tB ((0 ≤ x ∧ x ≤ 30) ∧ (1 ≤ y ∧ y ≤ 50)) = 1 := by first | exact tB_t (by omega) | exact tB_f (by omega)
    exact ⟨rfl, fun _ => by rw [hT]; exact hM, fun h9 => absurd (hT.symm.trans h9) (by decide)⟩)
    · replace c29 := bI_n0.mp c29
      exact absurd c29 (by decide)
  · replace c8 := bI_n0.mp c8
    refine r_iload_n B dX10_setSpeed_11 rfl ?_
    refine r_iconst B dX10_setSpeed_12 ?_
    refine r_bipush B dX10_setSpeed_13 (by decide) ?_
    refine r_callS (n := 3) B dX10_setSpeed_15 (ct_X10_isIn l g sz0 _ _ _ (by omega) (by omega) (by omega)) gX10_setSpeed_X10_isIn rfl (by decide +kernel) ⟨Nat.le_of_ble_eq_true rfl, Nat.le_of_ble_eq_true rfl⟩ rfl rfl (Nat.le_of_ble_eq_true rfl) (Nat.le_of_ble_eq_true rfl) (Nat.le_of_ble_eq_true rfl) (fun v h' hp => ?_)
    obtain ⟨hv, hh⟩ := hp
    subst v
    subst h'
    dsimp only [Option.toList, List.cons_append, List.nil_append]
    refine r_if_eq B dX10_setSpeed_18 (tgt := 25) (by decide) (bI_rng _) (fun c18 => ?_) (fun c18 => ?_)
    · replace c18 := bI_0.mp c18
      refine r_iconst B dX10_setSpeed_25 ?_
      refine r_callV (n := 1) B dX10_setSpeed_26 (ct_X10_isFine l g sz0 ad hA hM _ (by omega)) gX10_setSpeed_X10_isFine rfl (by decide +kernel) ⟨Nat.le_of_ble_eq_true rfl, Nat.le_of_ble_eq_true rfl⟩ hM.obj rfl rfl rfl (Nat.le_of_ble_eq_true rfl) (Nat.le_of_ble_eq_true rfl) (Nat.le_of_ble_eq_true rfl) (fun v h hp => ?_)
      obtain ⟨hv, hM⟩ := hp
      subst v
      dsimp only [Option.toList, List.cons_append, List.nil_append]
      refine r_if_eq B dX10_setSpeed_29 (tgt := 42) (by decide) (bI_rng _) (fun c29 => ?_) (fun c29 => ?_)
      · replace c29 := bI_0.mp c29
        exact r_vret B hr hlk dX10_setSpeed_42 (Nat.le_of_ble_eq_true rfl) (Nat.le_of_ble_eq_true rfl) (by
    have hT : tB ((0 ≤ x ∧ x ≤ 30) ∧ (1 ≤ y ∧ y ≤ 50)) = 1 := by first | exact tB_t (by omega) | exact tB_f (by omega)
    exact ⟨rfl, fun _ => by rw [hT]; exact hM, fun h9 => absurd (hT.symm.trans h9) (by decide)⟩)
      · replace c29 := bI_n0.mp c29
        exact absurd c29 (by decide)
    · replace c18 := bI_n0.mp c18
      refine r_iconst B dX10_setSpeed_21 ?_
      refine r_goto B dX10_setSpeed_22 (tgt := 26) (by decide) ?_
      refine r_callV (n := 1) B dX10_setSpeed_26 (ct_X10_isFine l g sz0 ad hA hM _ (by omega)) gX10_setSpeed_X10_isFine rfl (by decide +kernel) ⟨Nat.le_of_ble_eq_true rfl, Nat.le_of_ble_eq_true rfl⟩ hM.obj rfl rfl rfl (Nat.le_of_ble_eq_true rfl) (Nat.le_of_ble_eq_true rfl) (Nat.le_of_ble_eq_true rfl) (fun v h hp => ?_)
      obtain ⟨hv, hM⟩ := hp
      subst v
      dsimp only [Option.toList, List.cons_append, List.nil_append]
      refine r_if_eq B dX10_setSpeed_29 (tgt := 42) (by decide) (bI_rng _) (fun c29 => ?_) (fun c29 => ?_)
      · replace c29 := bI_0.mp c29
        exact absurd c29 (by decide)
      · replace c29 := bI_n0.mp c29
        refine r_aload_n B dX10_setSpeed_32 rfl rfl ?_
        refine r_iload_n B dX10_setSpeed_33 rfl ?_
        refine m_put_mount B dX10_setSpeed_34 in_X10_setSpeed_X10 w_X10_setSpeed_f48 hA hM (by omega) (fun h hM => ?_)
        refine r_aload_n B dX10_setSpeed_37 rfl rfl ?_
        refine r_iload_n B dX10_setSpeed_38 rfl ?_
        refine m_put_speed B dX10_setSpeed_39 in_X10_setSpeed_X10 w_X10_setSpeed_f51 hA hM (by omega) (fun h hM => ?_)
        exact r_vret B hr hlk dX10_setSpeed_42 (Nat.le_of_ble_eq_true rfl) (Nat.le_of_ble_eq_true rfl) (by
    have hT : tB ((0 ≤ x ∧ x ≤ 30) ∧ (1 ≤ y ∧ y ≤ 50)) = 0 := by first | exact tB_t (by omega) | exact tB_f (by omega)
    exact ⟨rfl, fun h9 => absurd hT h9, fun _ => hM⟩)
abbrev rmX10_promise : Room := { frames := 2, cells := 0, slots := 0, locals := 42 }
theorem in_X10_promise_X10 : ∀ w ∈ wsX100, w ∈ wsX10_promise := by decide +kernel
theorem w_X10_promise_f63 : Cond.fieldLink RX10 63 "DeltaNightsModel" "promised" "[I" ∈ wsX10_promise := by decide +kernel
theorem w_X10_promise_f66 : Cond.fieldLink RX10 66 "DeltaNightsModel" "coin" "[I" ∈ wsX10_promise := by decide +kernel
set_option maxHeartbeats 4000000 in
set_option maxRecDepth 100000 in
theorem ct_X10_promise (l : Launch) (g : GG) (sz0 : Nat) (ad : Nat → Nat) (hA : ADok ad) {h h0 : AH} {mthrown mnights mbits mleast mmost mroom mreserve mmount mspeed : Int} {mdata msize mends mmany mkind mchain mholds mbid mbound mcheap mpromised mcoin mpaid mowed mturn misAsking mwant mcost misServed mitsRow mitsChunk : Int → Int} (hM : MW g ad h0 mthrown mdata msize mends mmany mkind mchain mholds mnights mbits mleast mmost mroom mreserve mmount mspeed mbid mbound mcheap mpromised mcoin mpaid mowed mturn misAsking mwant mcost misServed mitsRow mitsChunk h) (x y z : Int) (qx : -2147483648 ≤ x ∧ x < 2147483648) (qy : -2147483648 ≤ y ∧ y < 2147483648) (qz : -2147483648 ≤ z ∧ z < 2147483648) : CT l yX10_promise wsX10_promise rmX10_promise g sz0 [.ref (ad 0), .int (iI (x)), .int (iI (y)), .int (iI (z))] h (fun v h' => v = none ∧ (¬ tB ((0 ≤ x ∧ x ≤ 3) ∧ (0 ≤ y ∧ y ≤ 600) ∧ (0 ≤ z ∧ z ≤ 100)) = 0 → MW g ad h0 (tB ((0 ≤ x ∧ x ≤ 3) ∧ (0 ≤ y ∧ y ≤ 600) ∧ (0 ≤ z ∧ z ≤ 100))) mdata msize mends mmany mkind mchain mholds mnights mbits mleast mmost mroom mreserve mmount mspeed mbid mbound mcheap mpromised mcoin mpaid mowed mturn misAsking mwant mcost misServed mitsRow mitsChunk h') ∧ (tB ((0 ≤ x ∧ x ≤ 3) ∧ (0 ≤ y ∧ y ≤ 600) ∧ (0 ≤ z ∧ z ≤ 100)) = 0 → MW g ad h0 0 mdata msize mends mmany mkind mchain mholds mnights mbits mleast mmost mroom mreserve mmount mspeed mbid mbound mcheap (upZ mpromised x y) (upZ mcoin x z) mpaid mowed mturn misAsking mwant mcost misServed mitsRow mitsChunk h')) := by
  refine CT.of (by decide +kernel) rfl [some (.ref (ad 0)), some (.int (iI (x))), some (.int (iI (y))), some (.int (iI (z)))] rfl (Nat.le_of_ble_eq_true rfl) ?_
  intro p e s m args below meth c B hr hlk hnm
  refine r_aload_n B dX10_promise_0 rfl rfl ?_
  refine r_iload_n B dX10_promise_1 rfl ?_
  refine r_callS (n := 1) B dX10_promise_2 (ct_X10_isClient l g sz0 _ (by omega)) gX10_promise_X10_isClient rfl (by decide +kernel) ⟨Nat.le_of_ble_eq_true rfl, Nat.le_of_ble_eq_true rfl⟩ rfl rfl (Nat.le_of_ble_eq_true rfl) (Nat.le_of_ble_eq_true rfl) (Nat.le_of_ble_eq_true rfl) (fun v h' hp => ?_)
  obtain ⟨hv, hh⟩ := hp
  subst v
  subst h'
  dsimp only [Option.toList, List.cons_append, List.nil_append]
  refine r_if_eq B dX10_promise_5 (tgt := 33) (by decide) (bI_rng _) (fun c5 => ?_) (fun c5 => ?_)
  · replace c5 := bI_0.mp c5
    refine r_iconst B dX10_promise_33 ?_
    refine r_callV (n := 1) B dX10_promise_34 (ct_X10_isFine l g sz0 ad hA hM _ (by omega)) gX10_promise_X10_isFine rfl (by decide +kernel) ⟨Nat.le_of_ble_eq_true rfl, Nat.le_of_ble_eq_true rfl⟩ hM.obj rfl rfl rfl (Nat.le_of_ble_eq_true rfl) (Nat.le_of_ble_eq_true rfl) (Nat.le_of_ble_eq_true rfl) (fun v h hp => ?_)
    obtain ⟨hv, hM⟩ := hp
    subst v
    dsimp only [Option.toList, List.cons_append, List.nil_append]
    refine r_if_eq B dX10_promise_37 (tgt := 54) (by decide) (bI_rng _) (fun c37 => ?_) (fun c37 => ?_)
    · replace c37 := bI_0.mp c37
      exact r_vret B hr hlk dX10_promise_54 (Nat.le_of_ble_eq_true rfl) (Nat.le_of_ble_eq_true rfl) (by
    have hT : tB ((0 ≤ x ∧ x ≤ 3) ∧ (0 ≤ y ∧ y ≤ 600) ∧ (0 ≤ z ∧ z ≤ 100)) = 1 := by first | exact tB_t (by omega) | exact tB_f (by omega)
    exact ⟨rfl, fun _ => by rw [hT]; exact hM, fun h9 => absurd (hT.symm.trans h9) (by decide)⟩)
    · replace c37 := bI_n0.mp c37
      exact absurd c37 (by decide)
  · replace c5 := bI_n0.mp c5
    refine r_iload_n B dX10_promise_8 rfl ?_
    refine r_iconst B dX10_promise_9 ?_
    refine r_sipush B dX10_promise_10 (by decide) ?_
    refine r_callS (n := 3) B dX10_promise_13 (ct_X10_isIn l g sz0 _ _ _ (by omega) (by omega) (by omega)) gX10_promise_X10_isIn rfl (by decide +kernel) ⟨Nat.le_of_ble_eq_true rfl, Nat.le_of_ble_eq_true rfl⟩ rfl rfl (Nat.le_of_ble_eq_true rfl) (Nat.le_of_ble_eq_true rfl) (Nat.le_of_ble_eq_true rfl) (fun v h' hp => ?_)
    obtain ⟨hv, hh⟩ := hp
    subst v
    subst h'
    dsimp only [Option.toList, List.cons_append, List.nil_append]
    refine r_if_eq B dX10_promise_16 (tgt := 33) (by decide) (bI_rng _) (fun c16 => ?_) (fun c16 => ?_)
    · replace c16 := bI_0.mp c16
      refine r_iconst B dX10_promise_33 ?_
      refine r_callV (n := 1) B dX10_promise_34 (ct_X10_isFine l g sz0 ad hA hM _ (by omega)) gX10_promise_X10_isFine rfl (by decide +kernel) ⟨Nat.le_of_ble_eq_true rfl, Nat.le_of_ble_eq_true rfl⟩ hM.obj rfl rfl rfl (Nat.le_of_ble_eq_true rfl) (Nat.le_of_ble_eq_true rfl) (Nat.le_of_ble_eq_true rfl) (fun v h hp => ?_)
      obtain ⟨hv, hM⟩ := hp
      subst v
      dsimp only [Option.toList, List.cons_append, List.nil_append]
      refine r_if_eq B dX10_promise_37 (tgt := 54) (by decide) (bI_rng _) (fun c37 => ?_) (fun c37 => ?_)
      · replace c37 := bI_0.mp c37
        exact r_vret B hr hlk dX10_promise_54 (Nat.le_of_ble_eq_true rfl) (Nat.le_of_ble_eq_true rfl) (by
    have hT : tB ((0 ≤ x ∧ x ≤ 3) ∧ (0 ≤ y ∧ y ≤ 600) ∧ (0 ≤ z ∧ z ≤ 100)) = 1 := by first | exact tB_t (by omega) | exact tB_f (by omega)
    exact ⟨rfl, fun _ => by rw [hT]; exact hM, fun h9 => absurd (hT.symm.trans h9) (by decide)⟩)
      · replace c37 := bI_n0.mp c37
        exact absurd c37 (by decide)
    · replace c16 := bI_n0.mp c16
      refine r_iload_n B dX10_promise_19 rfl ?_
      refine r_iconst B dX10_promise_20 ?_
      refine r_bipush B dX10_promise_21 (by decide) ?_
      refine r_callS (n := 3) B dX10_promise_23 (ct_X10_isIn l g sz0 _ _ _ (by omega) (by omega) (by omega)) gX10_promise_X10_isIn rfl (by decide +kernel) ⟨Nat.le_of_ble_eq_true rfl, Nat.le_of_ble_eq_true rfl⟩ rfl rfl (Nat.le_of_ble_eq_true rfl) (Nat.le_of_ble_eq_true rfl) (Nat.le_of_ble_eq_true rfl) (fun v h' hp => ?_)
      obtain ⟨hv, hh⟩ := hp
      subst v
      subst h'
      dsimp only [Option.toList, List.cons_append, List.nil_append]
      refine r_if_eq B dX10_promise_26 (tgt := 33) (by decide) (bI_rng _) (fun c26 => ?_) (fun c26 => ?_)
      · replace c26 := bI_0.mp c26
        refine r_iconst B dX10_promise_33 ?_
        refine r_callV (n := 1) B dX10_promise_34 (ct_X10_isFine l g sz0 ad hA hM _ (by omega)) gX10_promise_X10_isFine rfl (by decide +kernel) ⟨Nat.le_of_ble_eq_true rfl, Nat.le_of_ble_eq_true rfl⟩ hM.obj rfl rfl rfl (Nat.le_of_ble_eq_true rfl) (Nat.le_of_ble_eq_true rfl) (Nat.le_of_ble_eq_true rfl) (fun v h hp => ?_)
        obtain ⟨hv, hM⟩ := hp
        subst v
        dsimp only [Option.toList, List.cons_append, List.nil_append]
        refine r_if_eq B dX10_promise_37 (tgt := 54) (by decide) (bI_rng _) (fun c37 => ?_) (fun c37 => ?_)
        · replace c37 := bI_0.mp c37
          exact r_vret B hr hlk dX10_promise_54 (Nat.le_of_ble_eq_true rfl) (Nat.le_of_ble_eq_true rfl) (by
    have hT : tB ((0 ≤ x ∧ x ≤ 3) ∧ (0 ≤ y ∧ y ≤ 600) ∧ (0 ≤ z ∧ z ≤ 100)) = 1 := by first | exact tB_t (by omega) | exact tB_f (by omega)
    exact ⟨rfl, fun _ => by rw [hT]; exact hM, fun h9 => absurd (hT.symm.trans h9) (by decide)⟩)
        · replace c37 := bI_n0.mp c37
          exact absurd c37 (by decide)
      · replace c26 := bI_n0.mp c26
        refine r_iconst B dX10_promise_29 ?_
        refine r_goto B dX10_promise_30 (tgt := 34) (by decide) ?_
        refine r_callV (n := 1) B dX10_promise_34 (ct_X10_isFine l g sz0 ad hA hM _ (by omega)) gX10_promise_X10_isFine rfl (by decide +kernel) ⟨Nat.le_of_ble_eq_true rfl, Nat.le_of_ble_eq_true rfl⟩ hM.obj rfl rfl rfl (Nat.le_of_ble_eq_true rfl) (Nat.le_of_ble_eq_true rfl) (Nat.le_of_ble_eq_true rfl) (fun v h hp => ?_)
        obtain ⟨hv, hM⟩ := hp
        subst v
        dsimp only [Option.toList, List.cons_append, List.nil_append]
        refine r_if_eq B dX10_promise_37 (tgt := 54) (by decide) (bI_rng _) (fun c37 => ?_) (fun c37 => ?_)
        · replace c37 := bI_0.mp c37
          exact absurd c37 (by decide)
        · replace c37 := bI_n0.mp c37
          refine r_aload_n B dX10_promise_40 rfl rfl ?_
          refine m_get_promised B dX10_promise_41 in_X10_promise_X10 w_X10_promise_f63 hM ?_
          refine r_iload_n B dX10_promise_44 rfl ?_
          refine r_iload_n B dX10_promise_45 rfl ?_
          refine m_st_promised B dX10_promise_46 hA hM (by omega) (by omega) (by omega) (fun h hM => ?_)
          refine r_aload_n B dX10_promise_47 rfl rfl ?_
          refine m_get_coin B dX10_promise_48 in_X10_promise_X10 w_X10_promise_f66 hM ?_
          refine r_iload_n B dX10_promise_51 rfl ?_
          refine r_iload_n B dX10_promise_52 rfl ?_
          refine m_st_coin B dX10_promise_53 hA hM (by omega) (by omega) (by omega) (fun h hM => ?_)
          exact r_vret B hr hlk dX10_promise_54 (Nat.le_of_ble_eq_true rfl) (Nat.le_of_ble_eq_true rfl) (by
    have hT : tB ((0 ≤ x ∧ x ≤ 3) ∧ (0 ≤ y ∧ y ≤ 600) ∧ (0 ≤ z ∧ z ≤ 100)) = 0 := by first | exact tB_t (by omega) | exact tB_f (by omega)
    exact ⟨rfl, fun h9 => absurd hT h9, fun _ => hM⟩)
abbrev rmX10_bid : Room := { frames := 2, cells := 0, slots := 0, locals := 42 }
theorem in_X10_bid_X10 : ∀ w ∈ wsX100, w ∈ wsX10_bid := by decide +kernel
theorem w_X10_bid_f54 : Cond.fieldLink RX10 54 "DeltaNightsModel" "bid" "[I" ∈ wsX10_bid := by decide +kernel
set_option maxHeartbeats 4000000 in
set_option maxRecDepth 100000 in
theorem ct_X10_bid (l : Launch) (g : GG) (sz0 : Nat) (ad : Nat → Nat) (hA : ADok ad) {h h0 : AH} {mthrown mnights mbits mleast mmost mroom mreserve mmount mspeed : Int} {mdata msize mends mmany mkind mchain mholds mbid mbound mcheap mpromised mcoin mpaid mowed mturn misAsking mwant mcost misServed mitsRow mitsChunk : Int → Int} (hM : MW g ad h0 mthrown mdata msize mends mmany mkind mchain mholds mnights mbits mleast mmost mroom mreserve mmount mspeed mbid mbound mcheap mpromised mcoin mpaid mowed mturn misAsking mwant mcost misServed mitsRow mitsChunk h) (x y : Int) (qx : -2147483648 ≤ x ∧ x < 2147483648) (qy : -2147483648 ≤ y ∧ y < 2147483648) : CT l yX10_bid wsX10_bid rmX10_bid g sz0 [.ref (ad 0), .int (iI (x)), .int (iI (y))] h (fun v h' => ∃ r : Int, v = some (.int (iI r)) ∧ (¬ tB ((0 ≤ x ∧ x ≤ 3) ∧ (0 ≤ y ∧ y ≤ 100)) = 0 → r = 0 ∧ MW g ad h0 (tB ((0 ≤ x ∧ x ≤ 3) ∧ (0 ≤ y ∧ y ≤ 100))) mdata msize mends mmany mkind mchain mholds mnights mbits mleast mmost mroom mreserve mmount mspeed mbid mbound mcheap mpromised mcoin mpaid mowed mturn misAsking mwant mcost misServed mitsRow mitsChunk h') ∧ (tB ((0 ≤ x ∧ x ≤ 3) ∧ (0 ≤ y ∧ y ≤ 100)) = 0 → r = mbid x ∧ MW g ad h0 0 mdata msize mends mmany mkind mchain mholds mnights mbits mleast mmost mroom mreserve mmount mspeed (upZ mbid x y) mbound mcheap mpromised mcoin mpaid mowed mturn misAsking mwant mcost misServed mitsRow mitsChunk h')) := by
  refine CT.of (by decide +kernel) rfl [some (.ref (ad 0)), some (.int (iI (x))), some (.int (iI (y))), none] rfl (Nat.le_of_ble_eq_true rfl) ?_
  intro p e s m args below meth c B hr hlk hnm
  refine r_aload_n B dX10_bid_0 rfl rfl ?_
  refine r_iload_n B dX10_bid_1 rfl ?_
  refine r_callS (n := 1) B dX10_bid_2 (ct_X10_isClient l g sz0 _ (by omega)) gX10_bid_X10_isClient rfl (by decide +kernel) ⟨Nat.le_of_ble_eq_true rfl, Nat.le_of_ble_eq_true rfl⟩ rfl rfl (Nat.le_of_ble_eq_true rfl) (Nat.le_of_ble_eq_true rfl) (Nat.le_of_ble_eq_true rfl) (fun v h' hp => ?_)
  obtain ⟨hv, hh⟩ := hp
  subst v
  subst h'
  dsimp only [Option.toList, List.cons_append, List.nil_append]
  refine r_if_eq B dX10_bid_5 (tgt := 22) (by decide) (bI_rng _) (fun c5 => ?_) (fun c5 => ?_)
  · replace c5 := bI_0.mp c5
    refine r_iconst B dX10_bid_22 ?_
    refine r_callV (n := 1) B dX10_bid_23 (ct_X10_isFine l g sz0 ad hA hM _ (by omega)) gX10_bid_X10_isFine rfl (by decide +kernel) ⟨Nat.le_of_ble_eq_true rfl, Nat.le_of_ble_eq_true rfl⟩ hM.obj rfl rfl rfl (Nat.le_of_ble_eq_true rfl) (Nat.le_of_ble_eq_true rfl) (Nat.le_of_ble_eq_true rfl) (fun v h hp => ?_)
    obtain ⟨hv, hM⟩ := hp
    subst v
    dsimp only [Option.toList, List.cons_append, List.nil_append]
    refine r_if_ne B dX10_bid_26 (tgt := 31) (by decide) (bI_rng _) (fun c26 => ?_) (fun c26 => ?_)
    · replace c26 := bI_n0.mp c26
      exact absurd c26 (by decide)
    · replace c26 := bI_0.mp c26
      refine r_iconst B dX10_bid_29 ?_
      exact r_iret B hr hlk dX10_bid_30 (Nat.le_of_ble_eq_true rfl) (Nat.le_of_ble_eq_true rfl) (by
    have hT : tB ((0 ≤ x ∧ x ≤ 3) ∧ (0 ≤ y ∧ y ≤ 100)) = 1 := by first | exact tB_t (by omega) | exact tB_f (by omega)
    exact ⟨_, rfl, fun _ => ⟨rfl, by rw [hT]; exact hM⟩, fun h9 => absurd (hT.symm.trans h9) (by decide)⟩)
  · replace c5 := bI_n0.mp c5
    refine r_iload_n B dX10_bid_8 rfl ?_
    refine r_iconst B dX10_bid_9 ?_
    refine r_bipush B dX10_bid_10 (by decide) ?_
    refine r_callS (n := 3) B dX10_bid_12 (ct_X10_isIn l g sz0 _ _ _ (by omega) (by omega) (by omega)) gX10_bid_X10_isIn rfl (by decide +kernel) ⟨Nat.le_of_ble_eq_true rfl, Nat.le_of_ble_eq_true rfl⟩ rfl rfl (Nat.le_of_ble_eq_true rfl) (Nat.le_of_ble_eq_true rfl) (Nat.le_of_ble_eq_true rfl) (fun v h' hp => ?_)
    obtain ⟨hv, hh⟩ := hp
    subst v
    subst h'
    dsimp only [Option.toList, List.cons_append, List.nil_append]
    refine r_if_eq B dX10_bid_15 (tgt := 22) (by decide) (bI_rng _) (fun c15 => ?_) (fun c15 => ?_)
    · replace c15 := bI_0.mp c15
      refine r_iconst B dX10_bid_22 ?_
      refine r_callV (n := 1) B dX10_bid_23 (ct_X10_isFine l g sz0 ad hA hM _ (by omega)) gX10_bid_X10_isFine rfl (by decide +kernel) ⟨Nat.le_of_ble_eq_true rfl, Nat.le_of_ble_eq_true rfl⟩ hM.obj rfl rfl rfl (Nat.le_of_ble_eq_true rfl) (Nat.le_of_ble_eq_true rfl) (Nat.le_of_ble_eq_true rfl) (fun v h hp => ?_)
      obtain ⟨hv, hM⟩ := hp
      subst v
      dsimp only [Option.toList, List.cons_append, List.nil_append]
      refine r_if_ne B dX10_bid_26 (tgt := 31) (by decide) (bI_rng _) (fun c26 => ?_) (fun c26 => ?_)
      · replace c26 := bI_n0.mp c26
        exact absurd c26 (by decide)
      · replace c26 := bI_0.mp c26
        refine r_iconst B dX10_bid_29 ?_
        exact r_iret B hr hlk dX10_bid_30 (Nat.le_of_ble_eq_true rfl) (Nat.le_of_ble_eq_true rfl) (by
    have hT : tB ((0 ≤ x ∧ x ≤ 3) ∧ (0 ≤ y ∧ y ≤ 100)) = 1 := by first | exact tB_t (by omega) | exact tB_f (by omega)
    exact ⟨_, rfl, fun _ => ⟨rfl, by rw [hT]; exact hM⟩, fun h9 => absurd (hT.symm.trans h9) (by decide)⟩)
    · replace c15 := bI_n0.mp c15
      refine r_iconst B dX10_bid_18 ?_
      refine r_goto B dX10_bid_19 (tgt := 23) (by decide) ?_
      refine r_callV (n := 1) B dX10_bid_23 (ct_X10_isFine l g sz0 ad hA hM _ (by omega)) gX10_bid_X10_isFine rfl (by decide +kernel) ⟨Nat.le_of_ble_eq_true rfl, Nat.le_of_ble_eq_true rfl⟩ hM.obj rfl rfl rfl (Nat.le_of_ble_eq_true rfl) (Nat.le_of_ble_eq_true rfl) (Nat.le_of_ble_eq_true rfl) (fun v h hp => ?_)
      obtain ⟨hv, hM⟩ := hp
      subst v
      dsimp only [Option.toList, List.cons_append, List.nil_append]
      refine r_if_ne B dX10_bid_26 (tgt := 31) (by decide) (bI_rng _) (fun c26 => ?_) (fun c26 => ?_)
      · replace c26 := bI_n0.mp c26
        refine r_aload_n B dX10_bid_31 rfl rfl ?_
        refine m_get_bid B dX10_bid_32 in_X10_bid_X10 w_X10_bid_f54 hM ?_
        refine r_iload_n B dX10_bid_35 rfl ?_
        refine m_ld_bid B dX10_bid_36 hM (by omega) (by omega) (fun r36 => ?_)
        refine r_istore_n B dX10_bid_37 rfl (by decide) (lcat_v rfl rfl) ?_
        refine r_aload_n B dX10_bid_38 rfl rfl ?_
        refine m_get_bid B dX10_bid_39 in_X10_bid_X10 w_X10_bid_f54 hM ?_
        refine r_iload_n B dX10_bid_42 rfl ?_
        refine r_iload_n B dX10_bid_43 rfl ?_
        refine m_st_bid B dX10_bid_44 hA hM (by omega) (by omega) (by omega) (fun h hM => ?_)
        refine r_iload_n B dX10_bid_45 rfl ?_
        exact r_iret B hr hlk dX10_bid_46 (Nat.le_of_ble_eq_true rfl) (Nat.le_of_ble_eq_true rfl) (by
    have hT : tB ((0 ≤ x ∧ x ≤ 3) ∧ (0 ≤ y ∧ y ≤ 100)) = 0 := by first | exact tB_t (by omega) | exact tB_f (by omega)
    exact ⟨_, rfl, fun h9 => absurd hT h9, fun _ => ⟨rfl, hM⟩⟩)
      · replace c26 := bI_0.mp c26
        exact absurd c26 (by decide)
abbrev rmX10_paid : Room := { frames := 2, cells := 0, slots := 0, locals := 42 }
theorem in_X10_paid_X10 : ∀ w ∈ wsX100, w ∈ wsX10_paid := by decide +kernel
theorem w_X10_paid_f69 : Cond.fieldLink RX10 69 "DeltaNightsModel" "paid" "[I" ∈ wsX10_paid := by decide +kernel
set_option maxHeartbeats 4000000 in
set_option maxRecDepth 100000 in
theorem ct_X10_paid (l : Launch) (g : GG) (sz0 : Nat) (ad : Nat → Nat) (hA : ADok ad) {h h0 : AH} {mthrown mnights mbits mleast mmost mroom mreserve mmount mspeed : Int} {mdata msize mends mmany mkind mchain mholds mbid mbound mcheap mpromised mcoin mpaid mowed mturn misAsking mwant mcost misServed mitsRow mitsChunk : Int → Int} (hM : MW g ad h0 mthrown mdata msize mends mmany mkind mchain mholds mnights mbits mleast mmost mroom mreserve mmount mspeed mbid mbound mcheap mpromised mcoin mpaid mowed mturn misAsking mwant mcost misServed mitsRow mitsChunk h) (x : Int) (qx : -2147483648 ≤ x ∧ x < 2147483648) : CT l yX10_paid wsX10_paid rmX10_paid g sz0 [.ref (ad 0), .int (iI (x))] h (fun v h' => ∃ r : Int, v = some (.int (iI r)) ∧ (¬ tCl x = 0 → r = 0 ∧ MW g ad h0 (tCl x) mdata msize mends mmany mkind mchain mholds mnights mbits mleast mmost mroom mreserve mmount mspeed mbid mbound mcheap mpromised mcoin mpaid mowed mturn misAsking mwant mcost misServed mitsRow mitsChunk h') ∧ (tCl x = 0 → r = mpaid x ∧ MW g ad h0 0 mdata msize mends mmany mkind mchain mholds mnights mbits mleast mmost mroom mreserve mmount mspeed mbid mbound mcheap mpromised mcoin mpaid mowed mturn misAsking mwant mcost misServed mitsRow mitsChunk h')) := by
  refine CT.of (by decide +kernel) rfl [some (.ref (ad 0)), some (.int (iI (x)))] rfl (Nat.le_of_ble_eq_true rfl) ?_
  intro p e s m args below meth c B hr hlk hnm
  refine r_aload_n B dX10_paid_0 rfl rfl ?_
  refine r_iload_n B dX10_paid_1 rfl ?_
  refine r_callS (n := 1) B dX10_paid_2 (ct_X10_isClient l g sz0 _ (by omega)) gX10_paid_X10_isClient rfl (by decide +kernel) ⟨Nat.le_of_ble_eq_true rfl, Nat.le_of_ble_eq_true rfl⟩ rfl rfl (Nat.le_of_ble_eq_true rfl) (Nat.le_of_ble_eq_true rfl) (Nat.le_of_ble_eq_true rfl) (fun v h' hp => ?_)
  obtain ⟨hv, hh⟩ := hp
  subst v
  subst h'
  dsimp only [Option.toList, List.cons_append, List.nil_append]
  refine r_if_eq B dX10_paid_5 (tgt := 12) (by decide) (bI_rng _) (fun c5 => ?_) (fun c5 => ?_)
  · replace c5 := bI_0.mp c5
    refine r_iconst B dX10_paid_12 ?_
    refine r_callV (n := 1) B dX10_paid_13 (ct_X10_isFine l g sz0 ad hA hM _ (by omega)) gX10_paid_X10_isFine rfl (by decide +kernel) ⟨Nat.le_of_ble_eq_true rfl, Nat.le_of_ble_eq_true rfl⟩ hM.obj rfl rfl rfl (Nat.le_of_ble_eq_true rfl) (Nat.le_of_ble_eq_true rfl) (Nat.le_of_ble_eq_true rfl) (fun v h hp => ?_)
    obtain ⟨hv, hM⟩ := hp
    subst v
    dsimp only [Option.toList, List.cons_append, List.nil_append]
    refine r_if_eq B dX10_paid_16 (tgt := 28) (by decide) (bI_rng _) (fun c16 => ?_) (fun c16 => ?_)
    · replace c16 := bI_0.mp c16
      refine r_iconst B dX10_paid_28 ?_
      exact r_iret B hr hlk dX10_paid_29 (Nat.le_of_ble_eq_true rfl) (Nat.le_of_ble_eq_true rfl) (by
    have hT : tCl x = 1 := by
      unfold tCl
      (repeat' split) <;> omega
    exact ⟨_, rfl, fun _ => ⟨rfl, by rw [hT]; exact hM⟩, fun h9 => absurd (hT.symm.trans h9) (by decide)⟩)
    · replace c16 := bI_n0.mp c16
      exact absurd c16 (by decide)
  · replace c5 := bI_n0.mp c5
    refine r_iconst B dX10_paid_8 ?_
    refine r_goto B dX10_paid_9 (tgt := 13) (by decide) ?_
    refine r_callV (n := 1) B dX10_paid_13 (ct_X10_isFine l g sz0 ad hA hM _ (by omega)) gX10_paid_X10_isFine rfl (by decide +kernel) ⟨Nat.le_of_ble_eq_true rfl, Nat.le_of_ble_eq_true rfl⟩ hM.obj rfl rfl rfl (Nat.le_of_ble_eq_true rfl) (Nat.le_of_ble_eq_true rfl) (Nat.le_of_ble_eq_true rfl) (fun v h hp => ?_)
    obtain ⟨hv, hM⟩ := hp
    subst v
    dsimp only [Option.toList, List.cons_append, List.nil_append]
    refine r_if_eq B dX10_paid_16 (tgt := 28) (by decide) (bI_rng _) (fun c16 => ?_) (fun c16 => ?_)
    · replace c16 := bI_0.mp c16
      exact absurd c16 (by decide)
    · replace c16 := bI_n0.mp c16
      refine r_aload_n B dX10_paid_19 rfl rfl ?_
      refine m_get_paid B dX10_paid_20 in_X10_paid_X10 w_X10_paid_f69 hM ?_
      refine r_iload_n B dX10_paid_23 rfl ?_
      refine m_ld_paid B dX10_paid_24 hM (by omega) (by omega) (fun r24 => ?_)
      refine r_goto B dX10_paid_25 (tgt := 29) (by decide) ?_
      exact r_iret B hr hlk dX10_paid_29 (Nat.le_of_ble_eq_true rfl) (Nat.le_of_ble_eq_true rfl) (by
    have hT : tCl x = 0 := by
      unfold tCl
      (repeat' split) <;> omega
    exact ⟨_, rfl, fun h9 => absurd hT h9, fun _ => ⟨rfl, hM⟩⟩)
abbrev rmX10_owed : Room := { frames := 2, cells := 0, slots := 0, locals := 42 }
theorem in_X10_owed_X10 : ∀ w ∈ wsX100, w ∈ wsX10_owed := by decide +kernel
theorem w_X10_owed_f72 : Cond.fieldLink RX10 72 "DeltaNightsModel" "owed" "[I" ∈ wsX10_owed := by decide +kernel
set_option maxHeartbeats 4000000 in
set_option maxRecDepth 100000 in
theorem ct_X10_owed (l : Launch) (g : GG) (sz0 : Nat) (ad : Nat → Nat) (hA : ADok ad) {h h0 : AH} {mthrown mnights mbits mleast mmost mroom mreserve mmount mspeed : Int} {mdata msize mends mmany mkind mchain mholds mbid mbound mcheap mpromised mcoin mpaid mowed mturn misAsking mwant mcost misServed mitsRow mitsChunk : Int → Int} (hM : MW g ad h0 mthrown mdata msize mends mmany mkind mchain mholds mnights mbits mleast mmost mroom mreserve mmount mspeed mbid mbound mcheap mpromised mcoin mpaid mowed mturn misAsking mwant mcost misServed mitsRow mitsChunk h) (x : Int) (qx : -2147483648 ≤ x ∧ x < 2147483648) : CT l yX10_owed wsX10_owed rmX10_owed g sz0 [.ref (ad 0), .int (iI (x))] h (fun v h' => ∃ r : Int, v = some (.int (iI r)) ∧ (¬ tCl x = 0 → r = 0 ∧ MW g ad h0 (tCl x) mdata msize mends mmany mkind mchain mholds mnights mbits mleast mmost mroom mreserve mmount mspeed mbid mbound mcheap mpromised mcoin mpaid mowed mturn misAsking mwant mcost misServed mitsRow mitsChunk h') ∧ (tCl x = 0 → r = mowed x ∧ MW g ad h0 0 mdata msize mends mmany mkind mchain mholds mnights mbits mleast mmost mroom mreserve mmount mspeed mbid mbound mcheap mpromised mcoin mpaid mowed mturn misAsking mwant mcost misServed mitsRow mitsChunk h')) := by
  refine CT.of (by decide +kernel) rfl [some (.ref (ad 0)), some (.int (iI (x)))] rfl (Nat.le_of_ble_eq_true rfl) ?_
  intro p e s m args below meth c B hr hlk hnm
  refine r_aload_n B dX10_owed_0 rfl rfl ?_
  refine r_iload_n B dX10_owed_1 rfl ?_
  refine r_callS (n := 1) B dX10_owed_2 (ct_X10_isClient l g sz0 _ (by omega)) gX10_owed_X10_isClient rfl (by decide +kernel) ⟨Nat.le_of_ble_eq_true rfl, Nat.le_of_ble_eq_true rfl⟩ rfl rfl (Nat.le_of_ble_eq_true rfl) (Nat.le_of_ble_eq_true rfl) (Nat.le_of_ble_eq_true rfl) (fun v h' hp => ?_)
  obtain ⟨hv, hh⟩ := hp
  subst v
  subst h'
  dsimp only [Option.toList, List.cons_append, List.nil_append]
  refine r_if_eq B dX10_owed_5 (tgt := 12) (by decide) (bI_rng _) (fun c5 => ?_) (fun c5 => ?_)
  · replace c5 := bI_0.mp c5
    refine r_iconst B dX10_owed_12 ?_
    refine r_callV (n := 1) B dX10_owed_13 (ct_X10_isFine l g sz0 ad hA hM _ (by omega)) gX10_owed_X10_isFine rfl (by decide +kernel) ⟨Nat.le_of_ble_eq_true rfl, Nat.le_of_ble_eq_true rfl⟩ hM.obj rfl rfl rfl (Nat.le_of_ble_eq_true rfl) (Nat.le_of_ble_eq_true rfl) (Nat.le_of_ble_eq_true rfl) (fun v h hp => ?_)
    obtain ⟨hv, hM⟩ := hp
    subst v
    dsimp only [Option.toList, List.cons_append, List.nil_append]
    refine r_if_eq B dX10_owed_16 (tgt := 28) (by decide) (bI_rng _) (fun c16 => ?_) (fun c16 => ?_)
    · replace c16 := bI_0.mp c16
      refine r_iconst B dX10_owed_28 ?_
      exact r_iret B hr hlk dX10_owed_29 (Nat.le_of_ble_eq_true rfl) (Nat.le_of_ble_eq_true rfl) (by
    have hT : tCl x = 1 := by
      unfold tCl
      (repeat' split) <;> omega
    exact ⟨_, rfl, fun _ => ⟨rfl, by rw [hT]; exact hM⟩, fun h9 => absurd (hT.symm.trans h9) (by decide)⟩)
    · replace c16 := bI_n0.mp c16
      exact absurd c16 (by decide)
  · replace c5 := bI_n0.mp c5
    refine r_iconst B dX10_owed_8 ?_
    refine r_goto B dX10_owed_9 (tgt := 13) (by decide) ?_
    refine r_callV (n := 1) B dX10_owed_13 (ct_X10_isFine l g sz0 ad hA hM _ (by omega)) gX10_owed_X10_isFine rfl (by decide +kernel) ⟨Nat.le_of_ble_eq_true rfl, Nat.le_of_ble_eq_true rfl⟩ hM.obj rfl rfl rfl (Nat.le_of_ble_eq_true rfl) (Nat.le_of_ble_eq_true rfl) (Nat.le_of_ble_eq_true rfl) (fun v h hp => ?_)
    obtain ⟨hv, hM⟩ := hp
    subst v
    dsimp only [Option.toList, List.cons_append, List.nil_append]
    refine r_if_eq B dX10_owed_16 (tgt := 28) (by decide) (bI_rng _) (fun c16 => ?_) (fun c16 => ?_)
    · replace c16 := bI_0.mp c16
      exact absurd c16 (by decide)
    · replace c16 := bI_n0.mp c16
      refine r_aload_n B dX10_owed_19 rfl rfl ?_
      refine m_get_owed B dX10_owed_20 in_X10_owed_X10 w_X10_owed_f72 hM ?_
      refine r_iload_n B dX10_owed_23 rfl ?_
      refine m_ld_owed B dX10_owed_24 hM (by omega) (by omega) (fun r24 => ?_)
      refine r_goto B dX10_owed_25 (tgt := 29) (by decide) ?_
      exact r_iret B hr hlk dX10_owed_29 (Nat.le_of_ble_eq_true rfl) (Nat.le_of_ble_eq_true rfl) (by
    have hT : tCl x = 0 := by
      unfold tCl
      (repeat' split) <;> omega
    exact ⟨_, rfl, fun h9 => absurd hT h9, fun _ => ⟨rfl, hM⟩⟩)
abbrev rmX10_nights : Room := { frames := 0, cells := 0, slots := 0, locals := 0 }
theorem in_X10_nights_X10 : ∀ w ∈ wsX100, w ∈ wsX10_nights := by decide +kernel
theorem w_X10_nights_f96 : Cond.fieldLink RX10 96 "DeltaNightsModel" "thrown" "I" ∈ wsX10_nights := by decide +kernel
theorem w_X10_nights_f151 : Cond.fieldLink RX10 151 "DeltaNightsModel" "nights" "I" ∈ wsX10_nights := by decide +kernel
set_option maxHeartbeats 4000000 in
set_option maxRecDepth 100000 in
theorem ct_X10_nights (l : Launch) (g : GG) (sz0 : Nat) (ad : Nat → Nat) (hA : ADok ad) {h h0 : AH} {mthrown mnights mbits mleast mmost mroom mreserve mmount mspeed : Int} {mdata msize mends mmany mkind mchain mholds mbid mbound mcheap mpromised mcoin mpaid mowed mturn misAsking mwant mcost misServed mitsRow mitsChunk : Int → Int} (hM : MW g ad h0 mthrown mdata msize mends mmany mkind mchain mholds mnights mbits mleast mmost mroom mreserve mmount mspeed mbid mbound mcheap mpromised mcoin mpaid mowed mturn misAsking mwant mcost misServed mitsRow mitsChunk h)  : CT l yX10_nights wsX10_nights rmX10_nights g sz0 [.ref (ad 0)] h (fun v h' => v = some (.int (iI mnights)) ∧ MW g ad h0 0 mdata msize mends mmany mkind mchain mholds mnights mbits mleast mmost mroom mreserve mmount mspeed mbid mbound mcheap mpromised mcoin mpaid mowed mturn misAsking mwant mcost misServed mitsRow mitsChunk h') := by
  refine CT.of (by decide +kernel) rfl [some (.ref (ad 0))] rfl (Nat.le_of_ble_eq_true rfl) ?_
  intro p e s m args below meth c B hr hlk hnm
  refine r_aload_n B dX10_nights_0 rfl rfl ?_
  refine r_iconst B dX10_nights_1 ?_
  refine m_put_thrown B dX10_nights_2 in_X10_nights_X10 w_X10_nights_f96 hA hM (by omega) (fun h hM => ?_)
  refine r_aload_n B dX10_nights_5 rfl rfl ?_
  refine m_get_nights B dX10_nights_6 in_X10_nights_X10 w_X10_nights_f151 hM (fun r6 => ?_)
  exact r_iret B hr hlk dX10_nights_9 (Nat.le_of_ble_eq_true rfl) (Nat.le_of_ble_eq_true rfl) ⟨rfl, hM⟩
abbrev rmX10_purse : Room := { frames := 0, cells := 0, slots := 0, locals := 0 }
theorem in_X10_purse_X10 : ∀ w ∈ wsX100, w ∈ wsX10_purse := by decide +kernel
theorem w_X10_purse_f96 : Cond.fieldLink RX10 96 "DeltaNightsModel" "thrown" "I" ∈ wsX10_purse := by decide +kernel
theorem w_X10_purse_f69 : Cond.fieldLink RX10 69 "DeltaNightsModel" "paid" "[I" ∈ wsX10_purse := by decide +kernel
theorem w_X10_purse_f72 : Cond.fieldLink RX10 72 "DeltaNightsModel" "owed" "[I" ∈ wsX10_purse := by decide +kernel
set_option maxHeartbeats 4000000 in
set_option maxRecDepth 100000 in
theorem ct_X10_purse (l : Launch) (g : GG) (sz0 : Nat) (ad : Nat → Nat) (hA : ADok ad) {h h0 : AH} {mthrown mnights mbits mleast mmost mroom mreserve mmount mspeed : Int} {mdata msize mends mmany mkind mchain mholds mbid mbound mcheap mpromised mcoin mpaid mowed mturn misAsking mwant mcost misServed mitsRow mitsChunk : Int → Int} (hM : MW g ad h0 mthrown mdata msize mends mmany mkind mchain mholds mnights mbits mleast mmost mroom mreserve mmount mspeed mbid mbound mcheap mpromised mcoin mpaid mowed mturn misAsking mwant mcost misServed mitsRow mitsChunk h)  : CT l yX10_purse wsX10_purse rmX10_purse g sz0 [.ref (ad 0)] h (fun v h' => v = some (.int (iI (sumZ (fun k => mpaid k - mowed k) 4))) ∧ MW g ad h0 0 mdata msize mends mmany mkind mchain mholds mnights mbits mleast mmost mroom mreserve mmount mspeed mbid mbound mcheap mpromised mcoin mpaid mowed mturn misAsking mwant mcost misServed mitsRow mitsChunk h') := by
  refine CT.of (by decide +kernel) rfl [some (.ref (ad 0)), none, none] rfl (Nat.le_of_ble_eq_true rfl) ?_
  intro p e s m args below meth c B hr hlk hnm
  refine r_aload_n B dX10_purse_0 rfl rfl ?_
  refine r_iconst B dX10_purse_1 ?_
  refine m_put_thrown B dX10_purse_2 in_X10_purse_X10 w_X10_purse_f96 hA hM (by omega) (fun h hM => ?_)
  refine r_iconst B dX10_purse_5 ?_
  refine r_istore_n B dX10_purse_6 rfl (by decide) (lcat_v rfl rfl) ?_
  refine r_iconst B dX10_purse_7 ?_
  refine r_istore_n B dX10_purse_8 rfl (by decide) (lcat_v rfl rfl) ?_
  have loop9 : ∀ (nn : Nat) (k : Int) (x : Int), (0 ≤ k ∧ k ≤ 4) → (x = sumZ (fun k => mpaid k - mowed k) k.toNat) → (4 - k).toNat < nn → WA p l e rmX10_purse s m args below meth c g sz0 3 (MQ below (QQ g sz0 (fun v h' => v = some (.int (iI (sumZ (fun k => mpaid k - mowed k) 4))) ∧ MW g ad h0 0 mdata msize mends mmany mkind mchain mholds mnights mbits mleast mmost mroom mreserve mmount mspeed mbid mbound mcheap mpromised mcoin mpaid mowed mturn misAsking mwant mcost misServed mitsRow mitsChunk h')) args s rmX10_purse.cells rmX10_purse.slots (A0 sz0)) h 0 0 [some (.ref (ad 0)), some (.int (iI (x))), some (.int (iI (k)))] 9 [] := by
    intro nn
    induction nn with
    | zero => intro k x i1 i2 hn; exact absurd hn (Nat.not_lt_zero _)
    | succ nn ih =>
      intro k x i1 i2 hn
      refine r_iload_n B dX10_purse_9 rfl ?_
      refine r_iconst B dX10_purse_10 ?_
      refine r_icmp_ge B dX10_purse_11 (tgt := 36) (by decide) (by omega) (by omega) (fun c11 => ?_) (fun c11 => ?_)
      · refine r_iload_n B dX10_purse_36 rfl ?_
        exact r_iret B hr hlk dX10_purse_37 (Nat.le_of_ble_eq_true rfl) (Nat.le_of_ble_eq_true rfl) ⟨by rw [i2, show k = 4 by omega]; rfl, hM⟩
      · refine r_iload_n B dX10_purse_14 rfl ?_
        refine r_aload_n B dX10_purse_15 rfl rfl ?_
        refine m_get_paid B dX10_purse_16 in_X10_purse_X10 w_X10_purse_f69 hM ?_
        refine r_iload_n B dX10_purse_19 rfl ?_
        refine m_ld_paid B dX10_purse_20 hM (by omega) (by omega) (fun r20 => ?_)
        refine r_aload_n B dX10_purse_21 rfl rfl ?_
        refine m_get_owed B dX10_purse_22 in_X10_purse_X10 w_X10_purse_f72 hM ?_
        refine r_iload_n B dX10_purse_25 rfl ?_
        refine m_ld_owed B dX10_purse_26 hM (by omega) (by omega) (fun r26 => ?_)
        refine r_isub B dX10_purse_27 ?_
        refine r_iadd B dX10_purse_28 ?_
        refine r_istore_n B dX10_purse_29 rfl (by decide) (lcat_v rfl rfl) ?_
        refine r_iinc B dX10_purse_30 rfl (by decide) (lcat_v rfl rfl) ?_
        refine r_goto B dX10_purse_33 (tgt := 9) (by decide) ?_
        exact r_lv (lvLe_s rfl (lvLe_s rfl (lvLe_s rfl lvLe_nil))) (ih (k + 1) _ (by omega) (by rw [sumZ_s _ i1.1, ← i2]) (by omega))
  exact r_lv (lvLe_s rfl (lvLe_s rfl (lvLe_s rfl lvLe_nil))) (loop9 _ 0 0 (by omega) rfl (Nat.lt_succ_self _))
abbrev rmX10_latest : Room := { frames := 0, cells := 0, slots := 0, locals := 0 }
theorem in_X10_latest_X10 : ∀ w ∈ wsX100, w ∈ wsX10_latest := by decide +kernel
theorem w_X10_latest_f22 : Cond.fieldLink RX10 22 "DeltaNightsModel" "kind" "[I" ∈ wsX10_latest := by decide +kernel
set_option maxHeartbeats 4000000 in
set_option maxRecDepth 100000 in
theorem ct_X10_latest (l : Launch) (g : GG) (sz0 : Nat) (ad : Nat → Nat) (hA : ADok ad) {h h0 : AH} {mthrown mnights mbits mleast mmost mroom mreserve mmount mspeed : Int} {mdata msize mends mmany mkind mchain mholds mbid mbound mcheap mpromised mcoin mpaid mowed mturn misAsking mwant mcost misServed mitsRow mitsChunk : Int → Int} (hM : MW g ad h0 mthrown mdata msize mends mmany mkind mchain mholds mnights mbits mleast mmost mroom mreserve mmount mspeed mbid mbound mcheap mpromised mcoin mpaid mowed mturn misAsking mwant mcost misServed mitsRow mitsChunk h) (x u : Int) (hx : 0 ≤ x ∧ x ≤ 3) (hu : -1 ≤ u ∧ u ≤ 59) : CT l yX10_latest wsX10_latest rmX10_latest g sz0 [.ref (ad 0), .int (iI (x)), .int (iI (u))] h (fun v h' => v = some (.int (iI (ltv x (ltN (colF mkind x) (u + 1).toNat)))) ∧ h' = h) := by
  refine CT.of (by decide +kernel) rfl [some (.ref (ad 0)), some (.int (iI (x))), some (.int (iI (u))), none] rfl (Nat.le_of_ble_eq_true rfl) ?_
  intro p e s m args below meth c B hr hlk hnm
  refine r_iload_n B dX10_latest_0 rfl ?_
  refine r_istore_n B dX10_latest_1 rfl (by decide) (lcat_v rfl rfl) ?_
  have loop2 : ∀ (nn : Nat) (k : Int), (-1 ≤ k ∧ k ≤ u) → (ltN (colF mkind x) (u + 1).toNat = ltN (colF mkind x) (k + 1).toNat) → (k + 1).toNat < nn → WA p l e rmX10_latest s m args below meth c g sz0 4 (MQ below (QQ g sz0 (fun v h' => v = some (.int (iI (ltv x (ltN (colF mkind x) (u + 1).toNat)))) ∧ h' = h)) args s rmX10_latest.cells rmX10_latest.slots (A0 sz0)) h 0 0 [some (.ref (ad 0)), some (.int (iI (x))), some (.int (iI (u))), some (.int (iI (k)))] 2 [] := by
    intro nn
    induction nn with
    | zero => intro k i1 i2 hn; exact absurd hn (Nat.not_lt_zero _)
    | succ nn ih =>
      intro k i1 i2 hn
      refine r_iload_n B dX10_latest_2 rfl ?_
      refine r_if_lt B dX10_latest_3 (tgt := 26) (by decide) (by omega) (fun c3 => ?_) (fun c3 => ?_)
      · have hk : k = -1 := by omega
        subst hk
        refine r_iload_n B dX10_latest_26 rfl ?_
        refine r_if_ge B dX10_latest_27 (tgt := 34) (by decide) (by omega) (fun c27 => ?_) (fun c27 => ?_)
        · refine r_bipush B dX10_latest_34 (by decide) ?_
          refine r_iload_n B dX10_latest_36 rfl ?_
          refine r_imul B dX10_latest_37 ?_
          refine r_iload_n B dX10_latest_38 rfl ?_
          refine r_iadd B dX10_latest_39 ?_
          exact r_iret B hr hlk dX10_latest_40 (Nat.le_of_ble_eq_true rfl) (Nat.le_of_ble_eq_true rfl) (by exfalso; omega)
        · refine r_iconst B dX10_latest_30 ?_
          refine r_goto B dX10_latest_31 (tgt := 40) (by decide) ?_
          exact r_iret B hr hlk dX10_latest_40 (Nat.le_of_ble_eq_true rfl) (Nat.le_of_ble_eq_true rfl) ⟨by rw [i2]; rfl, rfl⟩
      · refine r_aload_n B dX10_latest_6 rfl rfl ?_
        refine m_get_kind B dX10_latest_7 in_X10_latest_X10 w_X10_latest_f22 hM ?_
        refine r_bipush B dX10_latest_10 (by decide) ?_
        refine r_iload_n B dX10_latest_12 rfl ?_
        refine r_imul B dX10_latest_13 ?_
        refine r_iload_n B dX10_latest_14 rfl ?_
        refine r_iadd B dX10_latest_15 ?_
        refine m_ld_kind B dX10_latest_16 hM (by omega) (by omega) (fun r16 => ?_)
        refine r_if_ne B dX10_latest_17 (tgt := 26) (by decide) (by omega) (fun c17 => ?_) (fun c17 => ?_)
        · refine r_iload_n B dX10_latest_26 rfl ?_
          refine r_if_ge B dX10_latest_27 (tgt := 34) (by decide) (by omega) (fun c27 => ?_) (fun c27 => ?_)
          · refine r_bipush B dX10_latest_34 (by decide) ?_
            refine r_iload_n B dX10_latest_36 rfl ?_
            refine r_imul B dX10_latest_37 ?_
            refine r_iload_n B dX10_latest_38 rfl ?_
            refine r_iadd B dX10_latest_39 ?_
            exact r_iret B hr hlk dX10_latest_40 (Nat.le_of_ble_eq_true rfl) (Nat.le_of_ble_eq_true rfl) ⟨by rw [i2, ltN_nz (colF mkind x) (by omega) c17]; unfold ltv; rw [if_neg (by omega)], rfl⟩
          · refine r_iconst B dX10_latest_30 ?_
            refine r_goto B dX10_latest_31 (tgt := 40) (by decide) ?_
            exact r_iret B hr hlk dX10_latest_40 (Nat.le_of_ble_eq_true rfl) (Nat.le_of_ble_eq_true rfl) (by exfalso; omega)
        · refine r_iinc B dX10_latest_20 rfl (by decide) (lcat_v rfl rfl) ?_
          refine r_goto B dX10_latest_23 (tgt := 2) (by decide) ?_
          exact r_lv (lvLe_s rfl (lvLe_s rfl (lvLe_s rfl (lvLe_s rfl lvLe_nil)))) (ih (k - 1) (by omega) (by rw [i2, ltN_z (colF mkind x) (n := k) (by omega) (by have := c17; show mkind (60 * x + k) = 0; omega), show k - 1 + 1 = k by omega]) (by omega))
  exact r_lv (lvLe_s rfl (lvLe_s rfl (lvLe_s rfl (lvLe_s rfl lvLe_nil)))) (loop2 _ u (by omega) rfl (Nat.lt_succ_self _))
abbrev rmX10_latestNow : Room := { frames := 1, cells := 0, slots := 0, locals := 23 }
theorem in_X10_latestNow_X10 : ∀ w ∈ wsX100, w ∈ wsX10_latestNow := by decide +kernel
theorem w_X10_latestNow_f151 : Cond.fieldLink RX10 151 "DeltaNightsModel" "nights" "I" ∈ wsX10_latestNow := by decide +kernel
set_option maxHeartbeats 4000000 in
set_option maxRecDepth 100000 in
theorem ct_X10_latestNow (l : Launch) (g : GG) (sz0 : Nat) (ad : Nat → Nat) (hA : ADok ad) {h h0 : AH} {mthrown mnights mbits mleast mmost mroom mreserve mmount mspeed : Int} {mdata msize mends mmany mkind mchain mholds mbid mbound mcheap mpromised mcoin mpaid mowed mturn misAsking mwant mcost misServed mitsRow mitsChunk : Int → Int} (hM : MW g ad h0 mthrown mdata msize mends mmany mkind mchain mholds mnights mbits mleast mmost mroom mreserve mmount mspeed mbid mbound mcheap mpromised mcoin mpaid mowed mturn misAsking mwant mcost misServed mitsRow mitsChunk h) (x : Int) (hx : 0 ≤ x ∧ x ≤ 3) (hn0 : 0 ≤ mnights ∧ mnights ≤ 60) : CT l yX10_latestNow wsX10_latestNow rmX10_latestNow g sz0 [.ref (ad 0), .int (iI (x))] h (fun v h' => v = some (.int (iI (ltv x (ltN (colF mkind x) mnights.toNat)))) ∧ h' = h) := by
  refine CT.of (by decide +kernel) rfl [some (.ref (ad 0)), some (.int (iI (x)))] rfl (Nat.le_of_ble_eq_true rfl) ?_
  intro p e s m args below meth c B hr hlk hnm
  refine r_aload_n B dX10_latestNow_0 rfl rfl ?_
  refine r_iload_n B dX10_latestNow_1 rfl ?_
  refine r_aload_n B dX10_latestNow_2 rfl rfl ?_
  refine m_get_nights B dX10_latestNow_3 in_X10_latestNow_X10 w_X10_latestNow_f151 hM (fun r3 => ?_)
  refine r_iconst B dX10_latestNow_6 ?_
  refine r_isub B dX10_latestNow_7 ?_
  refine r_callV (n := 2) B dX10_latestNow_8 (ct_X10_latest l g sz0 ad hA hM _ _ (by omega) (by omega)) gX10_latestNow_X10_latest rfl (by decide +kernel) ⟨Nat.le_of_ble_eq_true rfl, Nat.le_of_ble_eq_true rfl⟩ hM.obj rfl rfl rfl (Nat.le_of_ble_eq_true rfl) (Nat.le_of_ble_eq_true rfl) (Nat.le_of_ble_eq_true rfl) (fun v h' hp => ?_)
  obtain ⟨hv, hh⟩ := hp
  subst v
  subst h'
  dsimp only [Option.toList, List.cons_append, List.nil_append]
  exact r_iret B hr hlk dX10_latestNow_11 (Nat.le_of_ble_eq_true rfl) (Nat.le_of_ble_eq_true rfl) ⟨by rw [show mnights - 1 + 1 = mnights by omega], rfl⟩
abbrev rmX10_differences : Room := { frames := 0, cells := 0, slots := 0, locals := 0 }
theorem in_X10_differences_X10 : ∀ w ∈ wsX100, w ∈ wsX10_differences := by decide +kernel
theorem w_X10_differences_f151 : Cond.fieldLink RX10 151 "DeltaNightsModel" "nights" "I" ∈ wsX10_differences := by decide +kernel
theorem w_X10_differences_f22 : Cond.fieldLink RX10 22 "DeltaNightsModel" "kind" "[I" ∈ wsX10_differences := by decide +kernel
set_option maxHeartbeats 4000000 in
set_option maxRecDepth 100000 in
theorem ct_X10_differences (l : Launch) (g : GG) (sz0 : Nat) (ad : Nat → Nat) (hA : ADok ad) {h h0 : AH} {mthrown mnights mbits mleast mmost mroom mreserve mmount mspeed : Int} {mdata msize mends mmany mkind mchain mholds mbid mbound mcheap mpromised mcoin mpaid mowed mturn misAsking mwant mcost misServed mitsRow mitsChunk : Int → Int} (hM : MW g ad h0 mthrown mdata msize mends mmany mkind mchain mholds mnights mbits mleast mmost mroom mreserve mmount mspeed mbid mbound mcheap mpromised mcoin mpaid mowed mturn misAsking mwant mcost misServed mitsRow mitsChunk h) (x : Int) (hx : 0 ≤ x ∧ x ≤ 3) (hn0 : 0 ≤ mnights ∧ mnights ≤ 60) : CT l yX10_differences wsX10_differences rmX10_differences g sz0 [.ref (ad 0), .int (iI (x))] h (fun v h' => v = some (.int (iI (dfN (colF mkind x) mnights.toNat))) ∧ h' = h) := by
  refine CT.of (by decide +kernel) rfl [some (.ref (ad 0)), some (.int (iI (x))), none, none, none] rfl (Nat.le_of_ble_eq_true rfl) ?_
  intro p e s m args below meth c B hr hlk hnm
  refine r_iconst B dX10_differences_0 ?_
  refine r_istore_n B dX10_differences_1 rfl (by decide) (lcat_v rfl rfl) ?_
  refine r_iconst B dX10_differences_2 ?_
  refine r_istore_n B dX10_differences_3 rfl (by decide) (lcat_v rfl rfl) ?_
  have loop4 : ∀ (nn : Nat) (k : Int) (d : Int), (0 ≤ k ∧ k ≤ mnights) → (d = dfN (colF mkind x) k.toNat) → (mnights - k).toNat < nn → WA p l e rmX10_differences s m args below meth c g sz0 5 (MQ below (QQ g sz0 (fun v h' => v = some (.int (iI (dfN (colF mkind x) mnights.toNat))) ∧ h' = h)) args s rmX10_differences.cells rmX10_differences.slots (A0 sz0)) h 0 0 [some (.ref (ad 0)), some (.int (iI (x))), some (.int (iI (d))), some (.int (iI (k))), none] 4 [] := by
    intro nn
    induction nn with
    | zero => intro k d i1 i2 hn; exact absurd hn (Nat.not_lt_zero _)
    | succ nn ih =>
      intro k d i1 i2 hn
      refine r_iload_n B dX10_differences_4 rfl ?_
      refine r_aload_n B dX10_differences_5 rfl rfl ?_
      refine m_get_nights B dX10_differences_6 in_X10_differences_X10 w_X10_differences_f151 hM (fun r6 => ?_)
      refine r_icmp_ge B dX10_differences_9 (tgt := 59) (by decide) (by omega) (by omega) (fun c9 => ?_) (fun c9 => ?_)
      · refine r_iload_n B dX10_differences_59 rfl ?_
        exact r_iret B hr hlk dX10_differences_60 (Nat.le_of_ble_eq_true rfl) (Nat.le_of_ble_eq_true rfl) ⟨by rw [i2, show k = mnights by omega], rfl⟩
      · refine r_bipush B dX10_differences_12 (by decide) ?_
        refine r_iload_n B dX10_differences_14 rfl ?_
        refine r_imul B dX10_differences_15 ?_
        refine r_iload_n B dX10_differences_16 rfl ?_
        refine r_iadd B dX10_differences_17 ?_
        refine r_istore B dX10_differences_18 (by decide) (lcat_v rfl rfl) ?_
        refine r_aload_n B dX10_differences_20 rfl rfl ?_
        refine m_get_kind B dX10_differences_21 in_X10_differences_X10 w_X10_differences_f22 hM ?_
        refine r_iload B dX10_differences_24 rfl ?_
        refine m_ld_kind B dX10_differences_26 hM (by omega) (by omega) (fun r26 => ?_)
        refine r_if_ne B dX10_differences_27 (tgt := 34) (by decide) (by omega) (fun c27 => ?_) (fun c27 => ?_)
        · refine r_aload_n B dX10_differences_34 rfl rfl ?_
          refine m_get_kind B dX10_differences_35 in_X10_differences_X10 w_X10_differences_f22 hM ?_
          refine r_iload B dX10_differences_38 rfl ?_
          refine m_ld_kind B dX10_differences_40 hM (by omega) (by omega) (fun r40 => ?_)
          refine r_iconst B dX10_differences_41 ?_
          refine r_icmp_ne B dX10_differences_42 (tgt := 49) (by decide) (by omega) (by omega) (fun c42 => ?_) (fun c42 => ?_)
          · refine r_iload_n B dX10_differences_49 rfl ?_
            refine r_iconst B dX10_differences_50 ?_
            refine r_iadd B dX10_differences_51 ?_
            refine r_istore_n B dX10_differences_52 rfl (by decide) (lcat_v rfl rfl) ?_
            refine r_iinc B dX10_differences_53 rfl (by decide) (lcat_v rfl rfl) ?_
            refine r_goto B dX10_differences_56 (tgt := 4) (by decide) ?_
            exact r_lv (lvLe_s rfl (lvLe_s rfl (lvLe_s rfl (lvLe_s rfl (lvLe_n lvLe_nil))))) (ih (k + 1) _ (by omega) (by rw [dfN_s _ i1.1, if_neg (show ¬ colF mkind x k = 0 from c27), if_neg (show ¬ colF mkind x k = 1 from c42), i2]) (by omega))
          · refine r_iconst B dX10_differences_45 ?_
            refine r_goto B dX10_differences_46 (tgt := 52) (by decide) ?_
            refine r_istore_n B dX10_differences_52 rfl (by decide) (lcat_v rfl rfl) ?_
            refine r_iinc B dX10_differences_53 rfl (by decide) (lcat_v rfl rfl) ?_
            refine r_goto B dX10_differences_56 (tgt := 4) (by decide) ?_
            exact r_lv (lvLe_s rfl (lvLe_s rfl (lvLe_s rfl (lvLe_s rfl (lvLe_n lvLe_nil))))) (ih (k + 1) _ (by omega) (by rw [dfN_s _ i1.1, if_neg (show ¬ colF mkind x k = 0 from c27), if_pos (show colF mkind x k = 1 from c42)]) (by omega))
        · refine r_iload_n B dX10_differences_30 rfl ?_
          refine r_goto B dX10_differences_31 (tgt := 52) (by decide) ?_
          refine r_istore_n B dX10_differences_52 rfl (by decide) (lcat_v rfl rfl) ?_
          refine r_iinc B dX10_differences_53 rfl (by decide) (lcat_v rfl rfl) ?_
          refine r_goto B dX10_differences_56 (tgt := 4) (by decide) ?_
          exact r_lv (lvLe_s rfl (lvLe_s rfl (lvLe_s rfl (lvLe_s rfl (lvLe_n lvLe_nil))))) (ih (k + 1) _ (by omega) (by rw [dfN_s _ i1.1, if_pos (show colF mkind x k = 0 by have := c27; show mkind (60 * x + k) = 0; omega)]; exact i2) (by omega))
  exact r_lv (lvLe_s rfl (lvLe_s rfl (lvLe_s rfl (lvLe_s rfl (lvLe_n lvLe_nil))))) (loop4 _ 0 (-1) (by omega) rfl (Nat.lt_succ_self _))
abbrev rmX10_chain : Room := { frames := 2, cells := 0, slots := 0, locals := 42 }
set_option maxHeartbeats 4000000 in
set_option maxRecDepth 100000 in
theorem ct_X10_chain (l : Launch) (g : GG) (sz0 : Nat) (ad : Nat → Nat) (hA : ADok ad) {h h0 : AH} {mthrown mnights mbits mleast mmost mroom mreserve mmount mspeed : Int} {mdata msize mends mmany mkind mchain mholds mbid mbound mcheap mpromised mcoin mpaid mowed mturn misAsking mwant mcost misServed mitsRow mitsChunk : Int → Int} (hM : MW g ad h0 mthrown mdata msize mends mmany mkind mchain mholds mnights mbits mleast mmost mroom mreserve mmount mspeed mbid mbound mcheap mpromised mcoin mpaid mowed mturn misAsking mwant mcost misServed mitsRow mitsChunk h) (x : Int) (qx : -2147483648 ≤ x ∧ x < 2147483648)(hn0 : 0 ≤ mnights ∧ mnights ≤ 60) : CT l yX10_chain wsX10_chain rmX10_chain g sz0 [.ref (ad 0), .int (iI (x))] h (fun v h' => ∃ r : Int, v = some (.int (iI r)) ∧ (¬ tCl x = 0 → r = 0 ∧ MW g ad h0 (tCl x) mdata msize mends mmany mkind mchain mholds mnights mbits mleast mmost mroom mreserve mmount mspeed mbid mbound mcheap mpromised mcoin mpaid mowed mturn misAsking mwant mcost misServed mitsRow mitsChunk h') ∧ (tCl x = 0 → r = dfN (colF mkind x) mnights.toNat ∧ MW g ad h0 0 mdata msize mends mmany mkind mchain mholds mnights mbits mleast mmost mroom mreserve mmount mspeed mbid mbound mcheap mpromised mcoin mpaid mowed mturn misAsking mwant mcost misServed mitsRow mitsChunk h')) := by
  refine CT.of (by decide +kernel) rfl [some (.ref (ad 0)), some (.int (iI (x)))] rfl (Nat.le_of_ble_eq_true rfl) ?_
  intro p e s m args below meth c B hr hlk hnm
  refine r_aload_n B dX10_chain_0 rfl rfl ?_
  refine r_iload_n B dX10_chain_1 rfl ?_
  refine r_callS (n := 1) B dX10_chain_2 (ct_X10_isClient l g sz0 _ (by omega)) gX10_chain_X10_isClient rfl (by decide +kernel) ⟨Nat.le_of_ble_eq_true rfl, Nat.le_of_ble_eq_true rfl⟩ rfl rfl (Nat.le_of_ble_eq_true rfl) (Nat.le_of_ble_eq_true rfl) (Nat.le_of_ble_eq_true rfl) (fun v h' hp => ?_)
  obtain ⟨hv, hh⟩ := hp
  subst v
  subst h'
  dsimp only [Option.toList, List.cons_append, List.nil_append]
  refine r_if_eq B dX10_chain_5 (tgt := 12) (by decide) (bI_rng _) (fun c5 => ?_) (fun c5 => ?_)
  · replace c5 := bI_0.mp c5
    refine r_iconst B dX10_chain_12 ?_
    refine r_callV (n := 1) B dX10_chain_13 (ct_X10_isFine l g sz0 ad hA hM _ (by omega)) gX10_chain_X10_isFine rfl (by decide +kernel) ⟨Nat.le_of_ble_eq_true rfl, Nat.le_of_ble_eq_true rfl⟩ hM.obj rfl rfl rfl (Nat.le_of_ble_eq_true rfl) (Nat.le_of_ble_eq_true rfl) (Nat.le_of_ble_eq_true rfl) (fun v h hp => ?_)
    obtain ⟨hv, hM⟩ := hp
    subst v
    dsimp only [Option.toList, List.cons_append, List.nil_append]
    refine r_if_eq B dX10_chain_16 (tgt := 27) (by decide) (bI_rng _) (fun c16 => ?_) (fun c16 => ?_)
    · replace c16 := bI_0.mp c16
      refine r_iconst B dX10_chain_27 ?_
      exact r_iret B hr hlk dX10_chain_28 (Nat.le_of_ble_eq_true rfl) (Nat.le_of_ble_eq_true rfl) (by
    have hT : tCl x = 1 := by
      unfold tCl
      (repeat' split) <;> omega
    exact ⟨_, rfl, fun _ => ⟨rfl, by rw [hT]; exact hM⟩, fun h9 => absurd (hT.symm.trans h9) (by decide)⟩)
    · replace c16 := bI_n0.mp c16
      exact absurd c16 (by decide)
  · replace c5 := bI_n0.mp c5
    refine r_iconst B dX10_chain_8 ?_
    refine r_goto B dX10_chain_9 (tgt := 13) (by decide) ?_
    refine r_callV (n := 1) B dX10_chain_13 (ct_X10_isFine l g sz0 ad hA hM _ (by omega)) gX10_chain_X10_isFine rfl (by decide +kernel) ⟨Nat.le_of_ble_eq_true rfl, Nat.le_of_ble_eq_true rfl⟩ hM.obj rfl rfl rfl (Nat.le_of_ble_eq_true rfl) (Nat.le_of_ble_eq_true rfl) (Nat.le_of_ble_eq_true rfl) (fun v h hp => ?_)
    obtain ⟨hv, hM⟩ := hp
    subst v
    dsimp only [Option.toList, List.cons_append, List.nil_append]
    refine r_if_eq B dX10_chain_16 (tgt := 27) (by decide) (bI_rng _) (fun c16 => ?_) (fun c16 => ?_)
    · replace c16 := bI_0.mp c16
      exact absurd c16 (by decide)
    · replace c16 := bI_n0.mp c16
      refine r_aload_n B dX10_chain_19 rfl rfl ?_
      refine r_iload_n B dX10_chain_20 rfl ?_
      refine r_callV (n := 1) B dX10_chain_21 (ct_X10_differences l g sz0 ad hA hM _ (by omega) (by omega)) gX10_chain_X10_differences rfl (by decide +kernel) ⟨Nat.le_of_ble_eq_true rfl, Nat.le_of_ble_eq_true rfl⟩ hM.obj rfl rfl rfl (Nat.le_of_ble_eq_true rfl) (Nat.le_of_ble_eq_true rfl) (Nat.le_of_ble_eq_true rfl) (fun v h' hp => ?_)
      obtain ⟨hv, hh⟩ := hp
      subst v
      subst h'
      dsimp only [Option.toList, List.cons_append, List.nil_append]
      refine r_goto B dX10_chain_24 (tgt := 28) (by decide) ?_
      exact r_iret B hr hlk dX10_chain_28 (Nat.le_of_ble_eq_true rfl) (Nat.le_of_ble_eq_true rfl) (by
    have hT : tCl x = 0 := by
      unfold tCl
      (repeat' split) <;> omega
    exact ⟨_, rfl, fun h9 => absurd hT h9, fun _ => ⟨rfl, hM⟩⟩)
abbrev rmX10_got : Room := { frames := 2, cells := 0, slots := 0, locals := 43 }
theorem in_X10_got_X10 : ∀ w ∈ wsX100, w ∈ wsX10_got := by decide +kernel
theorem w_X10_got_f22 : Cond.fieldLink RX10 22 "DeltaNightsModel" "kind" "[I" ∈ wsX10_got := by decide +kernel
set_option maxHeartbeats 4000000 in
set_option maxRecDepth 100000 in
theorem ct_X10_got (l : Launch) (g : GG) (sz0 : Nat) (ad : Nat → Nat) (hA : ADok ad) {h h0 : AH} {mthrown mnights mbits mleast mmost mroom mreserve mmount mspeed : Int} {mdata msize mends mmany mkind mchain mholds mbid mbound mcheap mpromised mcoin mpaid mowed mturn misAsking mwant mcost misServed mitsRow mitsChunk : Int → Int} (hM : MW g ad h0 mthrown mdata msize mends mmany mkind mchain mholds mnights mbits mleast mmost mroom mreserve mmount mspeed mbid mbound mcheap mpromised mcoin mpaid mowed mturn misAsking mwant mcost misServed mitsRow mitsChunk h) (x k : Int) (qx : -2147483648 ≤ x ∧ x < 2147483648) (qk : -2147483648 ≤ k ∧ k < 2147483648)(hn0 : 0 ≤ mnights ∧ mnights ≤ 60) : CT l yX10_got wsX10_got rmX10_got g sz0 [.ref (ad 0), .int (iI (x)), .int (iI (k))] h (fun v h' => ∃ r : Int, v = some (.int (iI r)) ∧ (¬ tNi x k mnights = 0 → r = 0 ∧ MW g ad h0 (tNi x k mnights) mdata msize mends mmany mkind mchain mholds mnights mbits mleast mmost mroom mreserve mmount mspeed mbid mbound mcheap mpromised mcoin mpaid mowed mturn misAsking mwant mcost misServed mitsRow mitsChunk h') ∧ (tNi x k mnights = 0 → r = mkind (60 * x + k) ∧ MW g ad h0 0 mdata msize mends mmany mkind mchain mholds mnights mbits mleast mmost mroom mreserve mmount mspeed mbid mbound mcheap mpromised mcoin mpaid mowed mturn misAsking mwant mcost misServed mitsRow mitsChunk h')) := by
  refine CT.of (by decide +kernel) rfl [some (.ref (ad 0)), some (.int (iI (x))), some (.int (iI (k))), none] rfl (Nat.le_of_ble_eq_true rfl) ?_
  intro p e s m args below meth c B hr hlk hnm
  refine r_iload_n B dX10_got_0 rfl ?_
  refine r_callS (n := 1) B dX10_got_1 (ct_X10_isClient l g sz0 _ (by omega)) gX10_got_X10_isClient rfl (by decide +kernel) ⟨Nat.le_of_ble_eq_true rfl, Nat.le_of_ble_eq_true rfl⟩ rfl rfl (Nat.le_of_ble_eq_true rfl) (Nat.le_of_ble_eq_true rfl) (Nat.le_of_ble_eq_true rfl) (fun v h' hp => ?_)
  obtain ⟨hv, hh⟩ := hp
  subst v
  subst h'
  dsimp only [Option.toList, List.cons_append, List.nil_append]
  refine r_istore_n B dX10_got_4 rfl (by decide) (lcat_v rfl rfl) ?_
  refine r_aload_n B dX10_got_5 rfl rfl ?_
  refine r_iload_n B dX10_got_6 rfl ?_
  refine r_if_ne B dX10_got_7 (tgt := 14) (by decide) (bI_rng _) (fun c7 => ?_) (fun c7 => ?_)
  · replace c7 := bI_n0.mp c7
    refine r_aload_n B dX10_got_14 rfl rfl ?_
    refine r_iload_n B dX10_got_15 rfl ?_
    refine r_callV (n := 1) B dX10_got_16 (ct_X10_isNight l g sz0 ad hA hM _ (by omega) (by omega)) gX10_got_X10_isNight rfl (by decide +kernel) ⟨Nat.le_of_ble_eq_true rfl, Nat.le_of_ble_eq_true rfl⟩ hM.obj rfl rfl rfl (Nat.le_of_ble_eq_true rfl) (Nat.le_of_ble_eq_true rfl) (Nat.le_of_ble_eq_true rfl) (fun v h' hp => ?_)
    obtain ⟨hv, hh⟩ := hp
    subst v
    subst h'
    dsimp only [Option.toList, List.cons_append, List.nil_append]
    refine r_if_ne B dX10_got_19 (tgt := 26) (by decide) (bI_rng _) (fun c19 => ?_) (fun c19 => ?_)
    · replace c19 := bI_n0.mp c19
      refine r_iconst B dX10_got_26 ?_
      refine r_callV (n := 1) B dX10_got_27 (ct_X10_isFine l g sz0 ad hA hM _ (by omega)) gX10_got_X10_isFine rfl (by decide +kernel) ⟨Nat.le_of_ble_eq_true rfl, Nat.le_of_ble_eq_true rfl⟩ hM.obj rfl rfl rfl (Nat.le_of_ble_eq_true rfl) (Nat.le_of_ble_eq_true rfl) (Nat.le_of_ble_eq_true rfl) (fun v h hp => ?_)
      obtain ⟨hv, hM⟩ := hp
      subst v
      dsimp only [Option.toList, List.cons_append, List.nil_append]
      refine r_if_eq B dX10_got_30 (tgt := 47) (by decide) (bI_rng _) (fun c30 => ?_) (fun c30 => ?_)
      · replace c30 := bI_0.mp c30
        exact absurd c30 (by decide)
      · replace c30 := bI_n0.mp c30
        refine r_aload_n B dX10_got_33 rfl rfl ?_
        refine m_get_kind B dX10_got_34 in_X10_got_X10 w_X10_got_f22 hM ?_
        refine r_bipush B dX10_got_37 (by decide) ?_
        refine r_iload_n B dX10_got_39 rfl ?_
        refine r_imul B dX10_got_40 ?_
        refine r_iload_n B dX10_got_41 rfl ?_
        refine r_iadd B dX10_got_42 ?_
        refine m_ld_kind B dX10_got_43 hM (by omega) (by omega) (fun r43 => ?_)
        refine r_goto B dX10_got_44 (tgt := 48) (by decide) ?_
        exact r_iret B hr hlk dX10_got_48 (Nat.le_of_ble_eq_true rfl) (Nat.le_of_ble_eq_true rfl) (by
    have hT : tNi x k mnights = 0 := by
      unfold tNi
      (repeat' split) <;> omega
    exact ⟨_, rfl, fun h9 => absurd hT h9, fun _ => ⟨rfl, hM⟩⟩)
    · replace c19 := bI_0.mp c19
      refine r_iconst B dX10_got_22 ?_
      refine r_goto B dX10_got_23 (tgt := 27) (by decide) ?_
      refine r_callV (n := 1) B dX10_got_27 (ct_X10_isFine l g sz0 ad hA hM _ (by omega)) gX10_got_X10_isFine rfl (by decide +kernel) ⟨Nat.le_of_ble_eq_true rfl, Nat.le_of_ble_eq_true rfl⟩ hM.obj rfl rfl rfl (Nat.le_of_ble_eq_true rfl) (Nat.le_of_ble_eq_true rfl) (Nat.le_of_ble_eq_true rfl) (fun v h hp => ?_)
      obtain ⟨hv, hM⟩ := hp
      subst v
      dsimp only [Option.toList, List.cons_append, List.nil_append]
      refine r_if_eq B dX10_got_30 (tgt := 47) (by decide) (bI_rng _) (fun c30 => ?_) (fun c30 => ?_)
      · replace c30 := bI_0.mp c30
        refine r_iconst B dX10_got_47 ?_
        exact r_iret B hr hlk dX10_got_48 (Nat.le_of_ble_eq_true rfl) (Nat.le_of_ble_eq_true rfl) (by
    have hT : tNi x k mnights = 2 := by
      unfold tNi
      (repeat' split) <;> omega
    exact ⟨_, rfl, fun _ => ⟨rfl, by rw [hT]; exact hM⟩, fun h9 => absurd (hT.symm.trans h9) (by decide)⟩)
      · replace c30 := bI_n0.mp c30
        exact absurd c30 (by decide)
  · replace c7 := bI_0.mp c7
    refine r_iconst B dX10_got_10 ?_
    refine r_goto B dX10_got_11 (tgt := 27) (by decide) ?_
    refine r_callV (n := 1) B dX10_got_27 (ct_X10_isFine l g sz0 ad hA hM _ (by omega)) gX10_got_X10_isFine rfl (by decide +kernel) ⟨Nat.le_of_ble_eq_true rfl, Nat.le_of_ble_eq_true rfl⟩ hM.obj rfl rfl rfl (Nat.le_of_ble_eq_true rfl) (Nat.le_of_ble_eq_true rfl) (Nat.le_of_ble_eq_true rfl) (fun v h hp => ?_)
    obtain ⟨hv, hM⟩ := hp
    subst v
    dsimp only [Option.toList, List.cons_append, List.nil_append]
    refine r_if_eq B dX10_got_30 (tgt := 47) (by decide) (bI_rng _) (fun c30 => ?_) (fun c30 => ?_)
    · replace c30 := bI_0.mp c30
      refine r_iconst B dX10_got_47 ?_
      exact r_iret B hr hlk dX10_got_48 (Nat.le_of_ble_eq_true rfl) (Nat.le_of_ble_eq_true rfl) (by
    have hT : tNi x k mnights = 1 := by
      unfold tNi
      (repeat' split) <;> omega
    exact ⟨_, rfl, fun _ => ⟨rfl, by rw [hT]; exact hM⟩, fun h9 => absurd (hT.symm.trans h9) (by decide)⟩)
    · replace c30 := bI_n0.mp c30
      exact absurd c30 (by decide)
abbrev rmX10_dayOf : Room := { frames := 2, cells := 0, slots := 0, locals := 43 }
set_option maxHeartbeats 4000000 in
set_option maxRecDepth 100000 in
theorem ct_X10_dayOf (l : Launch) (g : GG) (sz0 : Nat) (ad : Nat → Nat) (hA : ADok ad) {h h0 : AH} {mthrown mnights mbits mleast mmost mroom mreserve mmount mspeed : Int} {mdata msize mends mmany mkind mchain mholds mbid mbound mcheap mpromised mcoin mpaid mowed mturn misAsking mwant mcost misServed mitsRow mitsChunk : Int → Int} (hM : MW g ad h0 mthrown mdata msize mends mmany mkind mchain mholds mnights mbits mleast mmost mroom mreserve mmount mspeed mbid mbound mcheap mpromised mcoin mpaid mowed mturn misAsking mwant mcost misServed mitsRow mitsChunk h) (x k : Int) (qx : -2147483648 ≤ x ∧ x < 2147483648) (qk : -2147483648 ≤ k ∧ k < 2147483648)(hn0 : 0 ≤ mnights ∧ mnights ≤ 60) : CT l yX10_dayOf wsX10_dayOf rmX10_dayOf g sz0 [.ref (ad 0), .int (iI (x)), .int (iI (k))] h (fun v h' => ∃ r : Int, v = some (.int (iI r)) ∧ (¬ tNi x k mnights = 0 → r = 0 ∧ MW g ad h0 (tNi x k mnights) mdata msize mends mmany mkind mchain mholds mnights mbits mleast mmost mroom mreserve mmount mspeed mbid mbound mcheap mpromised mcoin mpaid mowed mturn misAsking mwant mcost misServed mitsRow mitsChunk h') ∧ (tNi x k mnights = 0 → r = ltN (colF mkind x) (k + 1).toNat ∧ MW g ad h0 0 mdata msize mends mmany mkind mchain mholds mnights mbits mleast mmost mroom mreserve mmount mspeed mbid mbound mcheap mpromised mcoin mpaid mowed mturn misAsking mwant mcost misServed mitsRow mitsChunk h')) := by
  refine CT.of (by decide +kernel) rfl [some (.ref (ad 0)), some (.int (iI (x))), some (.int (iI (k))), none, none] rfl (Nat.le_of_ble_eq_true rfl) ?_
  intro p e s m args below meth c B hr hlk hnm
  refine r_iload_n B dX10_dayOf_0 rfl ?_
  refine r_callS (n := 1) B dX10_dayOf_1 (ct_X10_isClient l g sz0 _ (by omega)) gX10_dayOf_X10_isClient rfl (by decide +kernel) ⟨Nat.le_of_ble_eq_true rfl, Nat.le_of_ble_eq_true rfl⟩ rfl rfl (Nat.le_of_ble_eq_true rfl) (Nat.le_of_ble_eq_true rfl) (Nat.le_of_ble_eq_true rfl) (fun v h' hp => ?_)
  obtain ⟨hv, hh⟩ := hp
  subst v
  subst h'
  dsimp only [Option.toList, List.cons_append, List.nil_append]
  refine r_istore_n B dX10_dayOf_4 rfl (by decide) (lcat_v rfl rfl) ?_
  refine r_aload_n B dX10_dayOf_5 rfl rfl ?_
  refine r_iload_n B dX10_dayOf_6 rfl ?_
  refine r_if_ne B dX10_dayOf_7 (tgt := 14) (by decide) (bI_rng _) (fun c7 => ?_) (fun c7 => ?_)
  · replace c7 := bI_n0.mp c7
    refine r_aload_n B dX10_dayOf_14 rfl rfl ?_
    refine r_iload_n B dX10_dayOf_15 rfl ?_
    refine r_callV (n := 1) B dX10_dayOf_16 (ct_X10_isNight l g sz0 ad hA hM _ (by omega) (by omega)) gX10_dayOf_X10_isNight rfl (by decide +kernel) ⟨Nat.le_of_ble_eq_true rfl, Nat.le_of_ble_eq_true rfl⟩ hM.obj rfl rfl rfl (Nat.le_of_ble_eq_true rfl) (Nat.le_of_ble_eq_true rfl) (Nat.le_of_ble_eq_true rfl) (fun v h' hp => ?_)
    obtain ⟨hv, hh⟩ := hp
    subst v
    subst h'
    dsimp only [Option.toList, List.cons_append, List.nil_append]
    refine r_if_ne B dX10_dayOf_19 (tgt := 26) (by decide) (bI_rng _) (fun c19 => ?_) (fun c19 => ?_)
    · replace c19 := bI_n0.mp c19
      refine r_iconst B dX10_dayOf_26 ?_
      refine r_callV (n := 1) B dX10_dayOf_27 (ct_X10_isFine l g sz0 ad hA hM _ (by omega)) gX10_dayOf_X10_isFine rfl (by decide +kernel) ⟨Nat.le_of_ble_eq_true rfl, Nat.le_of_ble_eq_true rfl⟩ hM.obj rfl rfl rfl (Nat.le_of_ble_eq_true rfl) (Nat.le_of_ble_eq_true rfl) (Nat.le_of_ble_eq_true rfl) (fun v h hp => ?_)
      obtain ⟨hv, hM⟩ := hp
      subst v
      dsimp only [Option.toList, List.cons_append, List.nil_append]
      refine r_if_ne B dX10_dayOf_30 (tgt := 35) (by decide) (bI_rng _) (fun c30 => ?_) (fun c30 => ?_)
      · replace c30 := bI_n0.mp c30
        refine r_aload_n B dX10_dayOf_35 rfl rfl ?_
        refine r_iload_n B dX10_dayOf_36 rfl ?_
        refine r_iload_n B dX10_dayOf_37 rfl ?_
        refine r_callV (n := 2) B dX10_dayOf_38 (ct_X10_latest l g sz0 ad hA hM _ _ (by omega) (by omega)) gX10_dayOf_X10_latest rfl (by decide +kernel) ⟨Nat.le_of_ble_eq_true rfl, Nat.le_of_ble_eq_true rfl⟩ hM.obj rfl rfl rfl (Nat.le_of_ble_eq_true rfl) (Nat.le_of_ble_eq_true rfl) (Nat.le_of_ble_eq_true rfl) (fun v h' hp => ?_)
        obtain ⟨hv, hh⟩ := hp
        subst v
        subst h'
        dsimp only [Option.toList, List.cons_append, List.nil_append]
        have hl := ltN_rng (colF mkind x) (k + 1).toNat
        have hlv : ltv x (ltN (colF mkind x) (k + 1).toNat) = if ltN (colF mkind x) (k + 1).toNat = -1 then -1 else 60 * x + ltN (colF mkind x) (k + 1).toNat := rfl
        generalize ltv x (ltN (colF mkind x) (k + 1).toNat) = z at hlv ⊢
        have hz : ltN (colF mkind x) (k + 1).toNat = if z = -1 then -1 else z - 60 * x := by split at hlv <;> split <;> omega
        refine r_istore B dX10_dayOf_41 (by decide) (lcat_v rfl rfl) ?_
        refine r_iload B dX10_dayOf_43 rfl ?_
        refine r_iconst B dX10_dayOf_45 ?_
        refine r_icmp_ne B dX10_dayOf_46 (tgt := 53) (by decide) (by omega) (by omega) (fun c46 => ?_) (fun c46 => ?_)
        · rw [if_neg c46] at hz
          refine r_iload B dX10_dayOf_53 rfl ?_
          refine r_bipush B dX10_dayOf_55 (by decide) ?_
          refine r_iload_n B dX10_dayOf_57 rfl ?_
          refine r_imul B dX10_dayOf_58 ?_
          refine r_isub B dX10_dayOf_59 ?_
          exact r_iret B hr hlk dX10_dayOf_60 (Nat.le_of_ble_eq_true rfl) (Nat.le_of_ble_eq_true rfl) (by
    have hT : tNi x k mnights = 0 := by
      unfold tNi
      (repeat' split) <;> omega
    exact ⟨_, rfl, fun h9 => absurd hT h9, fun _ => ⟨by rw [hz], hM⟩⟩)
        · rw [if_pos c46] at hz
          refine r_iconst B dX10_dayOf_49 ?_
          refine r_goto B dX10_dayOf_50 (tgt := 60) (by decide) ?_
          exact r_iret B hr hlk dX10_dayOf_60 (Nat.le_of_ble_eq_true rfl) (Nat.le_of_ble_eq_true rfl) (by
    have hT : tNi x k mnights = 0 := by
      unfold tNi
      (repeat' split) <;> omega
    exact ⟨_, rfl, fun h9 => absurd hT h9, fun _ => ⟨by rw [hz], hM⟩⟩)
      · replace c30 := bI_0.mp c30
        exact absurd c30 (by decide)
    · replace c19 := bI_0.mp c19
      refine r_iconst B dX10_dayOf_22 ?_
      refine r_goto B dX10_dayOf_23 (tgt := 27) (by decide) ?_
      refine r_callV (n := 1) B dX10_dayOf_27 (ct_X10_isFine l g sz0 ad hA hM _ (by omega)) gX10_dayOf_X10_isFine rfl (by decide +kernel) ⟨Nat.le_of_ble_eq_true rfl, Nat.le_of_ble_eq_true rfl⟩ hM.obj rfl rfl rfl (Nat.le_of_ble_eq_true rfl) (Nat.le_of_ble_eq_true rfl) (Nat.le_of_ble_eq_true rfl) (fun v h hp => ?_)
      obtain ⟨hv, hM⟩ := hp
      subst v
      dsimp only [Option.toList, List.cons_append, List.nil_append]
      refine r_if_ne B dX10_dayOf_30 (tgt := 35) (by decide) (bI_rng _) (fun c30 => ?_) (fun c30 => ?_)
      · replace c30 := bI_n0.mp c30
        exact absurd c30 (by decide)
      · replace c30 := bI_0.mp c30
        refine r_iconst B dX10_dayOf_33 ?_
        exact r_iret B hr hlk dX10_dayOf_34 (Nat.le_of_ble_eq_true rfl) (Nat.le_of_ble_eq_true rfl) (by
    have hT : tNi x k mnights = 2 := by
      unfold tNi
      (repeat' split) <;> omega
    exact ⟨_, rfl, fun _ => ⟨rfl, by rw [hT]; exact hM⟩, fun h9 => absurd (hT.symm.trans h9) (by decide)⟩)
  · replace c7 := bI_0.mp c7
    refine r_iconst B dX10_dayOf_10 ?_
    refine r_goto B dX10_dayOf_11 (tgt := 27) (by decide) ?_
    refine r_callV (n := 1) B dX10_dayOf_27 (ct_X10_isFine l g sz0 ad hA hM _ (by omega)) gX10_dayOf_X10_isFine rfl (by decide +kernel) ⟨Nat.le_of_ble_eq_true rfl, Nat.le_of_ble_eq_true rfl⟩ hM.obj rfl rfl rfl (Nat.le_of_ble_eq_true rfl) (Nat.le_of_ble_eq_true rfl) (Nat.le_of_ble_eq_true rfl) (fun v h hp => ?_)
    obtain ⟨hv, hM⟩ := hp
    subst v
    dsimp only [Option.toList, List.cons_append, List.nil_append]
    refine r_if_ne B dX10_dayOf_30 (tgt := 35) (by decide) (bI_rng _) (fun c30 => ?_) (fun c30 => ?_)
    · replace c30 := bI_n0.mp c30
      exact absurd c30 (by decide)
    · replace c30 := bI_0.mp c30
      refine r_iconst B dX10_dayOf_33 ?_
      exact r_iret B hr hlk dX10_dayOf_34 (Nat.le_of_ble_eq_true rfl) (Nat.le_of_ble_eq_true rfl) (by
    have hT : tNi x k mnights = 1 := by
      unfold tNi
      (repeat' split) <;> omega
    exact ⟨_, rfl, fun _ => ⟨rfl, by rw [hT]; exact hM⟩, fun h9 => absurd (hT.symm.trans h9) (by decide)⟩)
abbrev rmX10_asks : Room := { frames := 2, cells := 0, slots := 0, locals := 43 }
theorem in_X10_asks_X10 : ∀ w ∈ wsX100, w ∈ wsX10_asks := by decide +kernel
theorem w_X10_asks_f22 : Cond.fieldLink RX10 22 "DeltaNightsModel" "kind" "[I" ∈ wsX10_asks := by decide +kernel
set_option maxHeartbeats 4000000 in
set_option maxRecDepth 100000 in
theorem ct_X10_asks (l : Launch) (g : GG) (sz0 : Nat) (ad : Nat → Nat) (hA : ADok ad) {h h0 : AH} {mthrown mnights mbits mleast mmost mroom mreserve mmount mspeed : Int} {mdata msize mends mmany mkind mchain mholds mbid mbound mcheap mpromised mcoin mpaid mowed mturn misAsking mwant mcost misServed mitsRow mitsChunk : Int → Int} (hM : MW g ad h0 mthrown mdata msize mends mmany mkind mchain mholds mnights mbits mleast mmost mroom mreserve mmount mspeed mbid mbound mcheap mpromised mcoin mpaid mowed mturn misAsking mwant mcost misServed mitsRow mitsChunk h) (x k : Int) (qx : -2147483648 ≤ x ∧ x < 2147483648) (qk : -2147483648 ≤ k ∧ k < 2147483648)(hn0 : 0 ≤ mnights ∧ mnights ≤ 60) : CT l yX10_asks wsX10_asks rmX10_asks g sz0 [.ref (ad 0), .int (iI (x)), .int (iI (k))] h (fun v h' => v = some (.int (iI (bI (tAsk x k mnights (mkind (60 * x + k)) = 0)))) ∧ MW g ad h0 (tAsk x k mnights (mkind (60 * x + k))) mdata msize mends mmany mkind mchain mholds mnights mbits mleast mmost mroom mreserve mmount mspeed mbid mbound mcheap mpromised mcoin mpaid mowed mturn misAsking mwant mcost misServed mitsRow mitsChunk h') := by
  refine CT.of (by decide +kernel) rfl [some (.ref (ad 0)), some (.int (iI (x))), some (.int (iI (k))), none] rfl (Nat.le_of_ble_eq_true rfl) ?_
  intro p e s m args below meth c B hr hlk hnm
  refine r_iload_n B dX10_asks_0 rfl ?_
  refine r_callS (n := 1) B dX10_asks_1 (ct_X10_isClient l g sz0 _ (by omega)) gX10_asks_X10_isClient rfl (by decide +kernel) ⟨Nat.le_of_ble_eq_true rfl, Nat.le_of_ble_eq_true rfl⟩ rfl rfl (Nat.le_of_ble_eq_true rfl) (Nat.le_of_ble_eq_true rfl) (Nat.le_of_ble_eq_true rfl) (fun v h' hp => ?_)
  obtain ⟨hv, hh⟩ := hp
  subst v
  subst h'
  dsimp only [Option.toList, List.cons_append, List.nil_append]
  refine r_istore_n B dX10_asks_4 rfl (by decide) (lcat_v rfl rfl) ?_
  refine r_aload_n B dX10_asks_5 rfl rfl ?_
  refine r_iload_n B dX10_asks_6 rfl ?_
  refine r_if_ne B dX10_asks_7 (tgt := 14) (by decide) (bI_rng _) (fun c7 => ?_) (fun c7 => ?_)
  · replace c7 := bI_n0.mp c7
    refine r_aload_n B dX10_asks_14 rfl rfl ?_
    refine r_iload_n B dX10_asks_15 rfl ?_
    refine r_callV (n := 1) B dX10_asks_16 (ct_X10_isNight l g sz0 ad hA hM _ (by omega) (by omega)) gX10_asks_X10_isNight rfl (by decide +kernel) ⟨Nat.le_of_ble_eq_true rfl, Nat.le_of_ble_eq_true rfl⟩ hM.obj rfl rfl rfl (Nat.le_of_ble_eq_true rfl) (Nat.le_of_ble_eq_true rfl) (Nat.le_of_ble_eq_true rfl) (fun v h' hp => ?_)
    obtain ⟨hv, hh⟩ := hp
    subst v
    subst h'
    dsimp only [Option.toList, List.cons_append, List.nil_append]
    refine r_if_ne B dX10_asks_19 (tgt := 26) (by decide) (bI_rng _) (fun c19 => ?_) (fun c19 => ?_)
    · replace c19 := bI_n0.mp c19
      refine r_aload_n B dX10_asks_26 rfl rfl ?_
      refine m_get_kind B dX10_asks_27 in_X10_asks_X10 w_X10_asks_f22 hM ?_
      refine r_bipush B dX10_asks_30 (by decide) ?_
      refine r_iload_n B dX10_asks_32 rfl ?_
      refine r_imul B dX10_asks_33 ?_
      refine r_iload_n B dX10_asks_34 rfl ?_
      refine r_iadd B dX10_asks_35 ?_
      refine m_ld_kind B dX10_asks_36 hM (by omega) (by omega) (fun r36 => ?_)
      refine r_if_ne B dX10_asks_37 (tgt := 44) (by decide) (by omega) (fun c37 => ?_) (fun c37 => ?_)
      · refine r_iconst B dX10_asks_44 ?_
        refine r_callV (n := 1) B dX10_asks_45 (ct_X10_isFine l g sz0 ad hA hM _ (by omega)) gX10_asks_X10_isFine rfl (by decide +kernel) ⟨Nat.le_of_ble_eq_true rfl, Nat.le_of_ble_eq_true rfl⟩ hM.obj rfl rfl rfl (Nat.le_of_ble_eq_true rfl) (Nat.le_of_ble_eq_true rfl) (Nat.le_of_ble_eq_true rfl) (fun v h hp => ?_)
        obtain ⟨hv, hM⟩ := hp
        subst v
        dsimp only [Option.toList, List.cons_append, List.nil_append]
        exact r_zret B hr hlk dX10_asks_48 (Nat.le_of_ble_eq_true rfl) (Nat.le_of_ble_eq_true rfl) (by first | exact nar_0 | exact nar_1 | exact nar_bI _) (by
    have hT : tAsk x k mnights (mkind (60 * x + k)) = 0 := by
      unfold tAsk
      (repeat' split) <;> omega
    exact ⟨by rw [hT], by rw [hT]; exact hM⟩)
      · refine r_iconst B dX10_asks_40 ?_
        refine r_goto B dX10_asks_41 (tgt := 45) (by decide) ?_
        refine r_callV (n := 1) B dX10_asks_45 (ct_X10_isFine l g sz0 ad hA hM _ (by omega)) gX10_asks_X10_isFine rfl (by decide +kernel) ⟨Nat.le_of_ble_eq_true rfl, Nat.le_of_ble_eq_true rfl⟩ hM.obj rfl rfl rfl (Nat.le_of_ble_eq_true rfl) (Nat.le_of_ble_eq_true rfl) (Nat.le_of_ble_eq_true rfl) (fun v h hp => ?_)
        obtain ⟨hv, hM⟩ := hp
        subst v
        dsimp only [Option.toList, List.cons_append, List.nil_append]
        exact r_zret B hr hlk dX10_asks_48 (Nat.le_of_ble_eq_true rfl) (Nat.le_of_ble_eq_true rfl) (by first | exact nar_0 | exact nar_1 | exact nar_bI _) (by
    have hT : tAsk x k mnights (mkind (60 * x + k)) = 3 := by
      unfold tAsk
      (repeat' split) <;> omega
    exact ⟨by rw [hT], by rw [hT]; exact hM⟩)
    · replace c19 := bI_0.mp c19
      refine r_iconst B dX10_asks_22 ?_
      refine r_goto B dX10_asks_23 (tgt := 45) (by decide) ?_
      refine r_callV (n := 1) B dX10_asks_45 (ct_X10_isFine l g sz0 ad hA hM _ (by omega)) gX10_asks_X10_isFine rfl (by decide +kernel) ⟨Nat.le_of_ble_eq_true rfl, Nat.le_of_ble_eq_true rfl⟩ hM.obj rfl rfl rfl (Nat.le_of_ble_eq_true rfl) (Nat.le_of_ble_eq_true rfl) (Nat.le_of_ble_eq_true rfl) (fun v h hp => ?_)
      obtain ⟨hv, hM⟩ := hp
      subst v
      dsimp only [Option.toList, List.cons_append, List.nil_append]
      exact r_zret B hr hlk dX10_asks_48 (Nat.le_of_ble_eq_true rfl) (Nat.le_of_ble_eq_true rfl) (by first | exact nar_0 | exact nar_1 | exact nar_bI _) (by
    have hT : tAsk x k mnights (mkind (60 * x + k)) = 2 := by
      unfold tAsk
      (repeat' split) <;> omega
    exact ⟨by rw [hT], by rw [hT]; exact hM⟩)
  · replace c7 := bI_0.mp c7
    refine r_iconst B dX10_asks_10 ?_
    refine r_goto B dX10_asks_11 (tgt := 45) (by decide) ?_
    refine r_callV (n := 1) B dX10_asks_45 (ct_X10_isFine l g sz0 ad hA hM _ (by omega)) gX10_asks_X10_isFine rfl (by decide +kernel) ⟨Nat.le_of_ble_eq_true rfl, Nat.le_of_ble_eq_true rfl⟩ hM.obj rfl rfl rfl (Nat.le_of_ble_eq_true rfl) (Nat.le_of_ble_eq_true rfl) (Nat.le_of_ble_eq_true rfl) (fun v h hp => ?_)
    obtain ⟨hv, hM⟩ := hp
    subst v
    dsimp only [Option.toList, List.cons_append, List.nil_append]
    exact r_zret B hr hlk dX10_asks_48 (Nat.le_of_ble_eq_true rfl) (Nat.le_of_ble_eq_true rfl) (by first | exact nar_0 | exact nar_1 | exact nar_bI _) (by
    have hT : tAsk x k mnights (mkind (60 * x + k)) = 1 := by
      unfold tAsk
      (repeat' split) <;> omega
    exact ⟨by rw [hT], by rw [hT]; exact hM⟩)
abbrev rmX10_lengthOf : Room := { frames := 3, cells := 0, slots := 0, locals := 66 }
theorem in_X10_lengthOf_X10 : ∀ w ∈ wsX100, w ∈ wsX10_lengthOf := by decide +kernel
theorem w_X10_lengthOf_f13 : Cond.fieldLink RX10 13 "DeltaNightsModel" "size" "[I" ∈ wsX10_lengthOf := by decide +kernel
set_option maxHeartbeats 4000000 in
set_option maxRecDepth 100000 in
theorem ct_X10_lengthOf (l : Launch) (g : GG) (sz0 : Nat) (ad : Nat → Nat) (hA : ADok ad) {h h0 : AH} {mthrown mnights mbits mleast mmost mroom mreserve mmount mspeed : Int} {mdata msize mends mmany mkind mchain mholds mbid mbound mcheap mpromised mcoin mpaid mowed mturn misAsking mwant mcost misServed mitsRow mitsChunk : Int → Int} (hM : MW g ad h0 mthrown mdata msize mends mmany mkind mchain mholds mnights mbits mleast mmost mroom mreserve mmount mspeed mbid mbound mcheap mpromised mcoin mpaid mowed mturn misAsking mwant mcost misServed mitsRow mitsChunk h) (x k : Int) (qx : -2147483648 ≤ x ∧ x < 2147483648) (qk : -2147483648 ≤ k ∧ k < 2147483648)(hn0 : 0 ≤ mnights ∧ mnights ≤ 60) : CT l yX10_lengthOf wsX10_lengthOf rmX10_lengthOf g sz0 [.ref (ad 0), .int (iI (x)), .int (iI (k))] h (fun v h' => ∃ r : Int, v = some (.int (iI r)) ∧ (¬ tAsk x k mnights (mkind (60 * x + k)) = 0 → r = 0 ∧ MW g ad h0 (tAsk x k mnights (mkind (60 * x + k))) mdata msize mends mmany mkind mchain mholds mnights mbits mleast mmost mroom mreserve mmount mspeed mbid mbound mcheap mpromised mcoin mpaid mowed mturn misAsking mwant mcost misServed mitsRow mitsChunk h') ∧ (tAsk x k mnights (mkind (60 * x + k)) = 0 → r = msize (60 * x + k) ∧ MW g ad h0 0 mdata msize mends mmany mkind mchain mholds mnights mbits mleast mmost mroom mreserve mmount mspeed mbid mbound mcheap mpromised mcoin mpaid mowed mturn misAsking mwant mcost misServed mitsRow mitsChunk h')) := by
  refine CT.of (by decide +kernel) rfl [some (.ref (ad 0)), some (.int (iI (x))), some (.int (iI (k)))] rfl (Nat.le_of_ble_eq_true rfl) ?_
  intro p e s m args below meth c B hr hlk hnm
  refine r_aload_n B dX10_lengthOf_0 rfl rfl ?_
  refine r_iload_n B dX10_lengthOf_1 rfl ?_
  refine r_iload_n B dX10_lengthOf_2 rfl ?_
  refine r_callV (n := 2) B dX10_lengthOf_3 (ct_X10_asks l g sz0 ad hA hM _ _ (by omega) (by omega) (by omega)) gX10_lengthOf_X10_asks rfl (by decide +kernel) ⟨Nat.le_of_ble_eq_true rfl, Nat.le_of_ble_eq_true rfl⟩ hM.obj rfl rfl rfl (Nat.le_of_ble_eq_true rfl) (Nat.le_of_ble_eq_true rfl) (Nat.le_of_ble_eq_true rfl) (fun v h hp => ?_)
  obtain ⟨hv, hM⟩ := hp
  subst v
  dsimp only [Option.toList, List.cons_append, List.nil_append]
  refine r_if_eq B dX10_lengthOf_6 (tgt := 23) (by decide) (bI_rng _) (fun c6 => ?_) (fun c6 => ?_)
  · replace c6 := bI_0.mp c6
    refine r_iconst B dX10_lengthOf_23 ?_
    exact r_iret B hr hlk dX10_lengthOf_24 (Nat.le_of_ble_eq_true rfl) (Nat.le_of_ble_eq_true rfl) (by first | exact ⟨_, rfl, fun _ => ⟨rfl, hM⟩, fun h9 => absurd h9 c6⟩ | exact ⟨_, rfl, fun h9 => absurd c6 h9, fun _ => ⟨rfl, hM⟩⟩)
  · replace c6 := bI_n0.mp c6
    rw [c6] at hM
    have hT := tAsk_0.mp c6
    refine r_aload_n B dX10_lengthOf_9 rfl rfl ?_
    refine m_get_size B dX10_lengthOf_10 in_X10_lengthOf_X10 w_X10_lengthOf_f13 hM ?_
    refine r_bipush B dX10_lengthOf_13 (by decide) ?_
    refine r_iload_n B dX10_lengthOf_15 rfl ?_
    refine r_imul B dX10_lengthOf_16 ?_
    refine r_iload_n B dX10_lengthOf_17 rfl ?_
    refine r_iadd B dX10_lengthOf_18 ?_
    refine m_ld_size B dX10_lengthOf_19 hM (by omega) (by omega) (fun r19 => ?_)
    refine r_goto B dX10_lengthOf_20 (tgt := 24) (by decide) ?_
    exact r_iret B hr hlk dX10_lengthOf_24 (Nat.le_of_ble_eq_true rfl) (Nat.le_of_ble_eq_true rfl) (by first | exact ⟨_, rfl, fun _ => ⟨rfl, hM⟩, fun h9 => absurd h9 c6⟩ | exact ⟨_, rfl, fun h9 => absurd c6 h9, fun _ => ⟨rfl, hM⟩⟩)
abbrev rmX10_digestOf : Room := { frames := 3, cells := 0, slots := 0, locals := 66 }
set_option maxHeartbeats 4000000 in
set_option maxRecDepth 100000 in
theorem ct_X10_digestOf (l : Launch) (g : GG) (sz0 : Nat) (ad : Nat → Nat) (hA : ADok ad) {h h0 : AH} {mthrown mnights mbits mleast mmost mroom mreserve mmount mspeed : Int} {mdata msize mends mmany mkind mchain mholds mbid mbound mcheap mpromised mcoin mpaid mowed mturn misAsking mwant mcost misServed mitsRow mitsChunk : Int → Int} (hM : MW g ad h0 mthrown mdata msize mends mmany mkind mchain mholds mnights mbits mleast mmost mroom mreserve mmount mspeed mbid mbound mcheap mpromised mcoin mpaid mowed mturn misAsking mwant mcost misServed mitsRow mitsChunk h) (x k : Int) (qx : -2147483648 ≤ x ∧ x < 2147483648) (qk : -2147483648 ≤ k ∧ k < 2147483648)(hn0 : 0 ≤ mnights ∧ mnights ≤ 60)(hs : ∀ z : Int, 0 ≤ z → z < 244 → 0 ≤ msize z ∧ msize z ≤ 48) : CT l yX10_digestOf wsX10_digestOf rmX10_digestOf g sz0 [.ref (ad 0), .int (iI (x)), .int (iI (k))] h (fun v h' => ∃ r : Int64, v = some (.long r) ∧ (¬ tAsk x k mnights (mkind (60 * x + k)) = 0 → r = Int64.ofNat 0 ∧ MW g ad h0 (tAsk x k mnights (mkind (60 * x + k))) mdata msize mends mmany mkind mchain mholds mnights mbits mleast mmost mroom mreserve mmount mspeed mbid mbound mcheap mpromised mcoin mpaid mowed mturn misAsking mwant mcost misServed mitsRow mitsChunk h') ∧ (tAsk x k mnights (mkind (60 * x + k)) = 0 → r = dig (rowF mdata (60 * x + k)) (msize (60 * x + k)).toNat ∧ MW g ad h0 0 mdata msize mends mmany mkind mchain mholds mnights mbits mleast mmost mroom mreserve mmount mspeed mbid mbound mcheap mpromised mcoin mpaid mowed mturn misAsking mwant mcost misServed mitsRow mitsChunk h')) := by
  refine CT.of (by decide +kernel) rfl [some (.ref (ad 0)), some (.int (iI (x))), some (.int (iI (k)))] rfl (Nat.le_of_ble_eq_true rfl) ?_
  intro p e s m args below meth c B hr hlk hnm
  refine r_aload_n B dX10_digestOf_0 rfl rfl ?_
  refine r_iload_n B dX10_digestOf_1 rfl ?_
  refine r_iload_n B dX10_digestOf_2 rfl ?_
  refine r_callV (n := 2) B dX10_digestOf_3 (ct_X10_asks l g sz0 ad hA hM _ _ (by omega) (by omega) (by omega)) gX10_digestOf_X10_asks rfl (by decide +kernel) ⟨Nat.le_of_ble_eq_true rfl, Nat.le_of_ble_eq_true rfl⟩ hM.obj rfl rfl rfl (Nat.le_of_ble_eq_true rfl) (Nat.le_of_ble_eq_true rfl) (Nat.le_of_ble_eq_true rfl) (fun v h hp => ?_)
  obtain ⟨hv, hM⟩ := hp
  subst v
  dsimp only [Option.toList, List.cons_append, List.nil_append]
  refine r_if_eq B dX10_digestOf_6 (tgt := 22) (by decide) (bI_rng _) (fun c6 => ?_) (fun c6 => ?_)
  · replace c6 := bI_0.mp c6
    refine r_lconst B dX10_digestOf_22 rfl ?_
    exact r_lret B hr hlk dX10_digestOf_23 (Nat.le_of_ble_eq_true rfl) (Nat.le_of_ble_eq_true rfl) (by first | exact ⟨_, rfl, fun _ => ⟨rfl, hM⟩, fun h9 => absurd h9 c6⟩ | exact ⟨_, rfl, fun h9 => absurd c6 h9, fun _ => ⟨rfl, hM⟩⟩)
  · replace c6 := bI_n0.mp c6
    rw [c6] at hM
    have hT := tAsk_0.mp c6
    refine r_aload_n B dX10_digestOf_9 rfl rfl ?_
    refine r_bipush B dX10_digestOf_10 (by decide) ?_
    refine r_iload_n B dX10_digestOf_12 rfl ?_
    refine r_imul B dX10_digestOf_13 ?_
    refine r_iload_n B dX10_digestOf_14 rfl ?_
    refine r_iadd B dX10_digestOf_15 ?_
    refine r_callV (n := 1) B dX10_digestOf_16 (ct_X10_digests l g sz0 ad hA hM _ (by omega) (hs (60 * x + k) (by omega) (by omega))) gX10_digestOf_X10_digests rfl (by decide +kernel) ⟨Nat.le_of_ble_eq_true rfl, Nat.le_of_ble_eq_true rfl⟩ hM.obj rfl rfl rfl (Nat.le_of_ble_eq_true rfl) (Nat.le_of_ble_eq_true rfl) (Nat.le_of_ble_eq_true rfl) (fun v h' hp => ?_)
    obtain ⟨hv, hh⟩ := hp
    subst v
    subst h'
    dsimp only [Option.toList, List.cons_append, List.nil_append]
    refine r_goto B dX10_digestOf_19 (tgt := 23) (by decide) ?_
    exact r_lret B hr hlk dX10_digestOf_23 (Nat.le_of_ble_eq_true rfl) (Nat.le_of_ble_eq_true rfl) (by first | exact ⟨_, rfl, fun _ => ⟨rfl, hM⟩, fun h9 => absurd h9 c6⟩ | exact ⟨_, rfl, fun h9 => absurd c6 h9, fun _ => ⟨rfl, hM⟩⟩)
abbrev rmX10_digestByChunks : Room := { frames := 3, cells := 0, slots := 0, locals := 66 }
set_option maxHeartbeats 4000000 in
set_option maxRecDepth 100000 in
theorem ct_X10_digestByChunks (l : Launch) (g : GG) (sz0 : Nat) (ad : Nat → Nat) (hA : ADok ad) {h h0 : AH} {mthrown mnights mbits mleast mmost mroom mreserve mmount mspeed : Int} {mdata msize mends mmany mkind mchain mholds mbid mbound mcheap mpromised mcoin mpaid mowed mturn misAsking mwant mcost misServed mitsRow mitsChunk : Int → Int} (hM : MW g ad h0 mthrown mdata msize mends mmany mkind mchain mholds mnights mbits mleast mmost mroom mreserve mmount mspeed mbid mbound mcheap mpromised mcoin mpaid mowed mturn misAsking mwant mcost misServed mitsRow mitsChunk h) (x k : Int) (qx : -2147483648 ≤ x ∧ x < 2147483648) (qk : -2147483648 ≤ k ∧ k < 2147483648)(hn0 : 0 ≤ mnights ∧ mnights ≤ 60)(hs : ∀ z : Int, 0 ≤ z → z < 244 → 0 ≤ msize z ∧ msize z ≤ 48) : CT l yX10_digestByChunks wsX10_digestByChunks rmX10_digestByChunks g sz0 [.ref (ad 0), .int (iI (x)), .int (iI (k))] h (fun v h' => ∃ r : Int64, v = some (.long r) ∧ (¬ tAsk x k mnights (mkind (60 * x + k)) = 0 → r = Int64.ofNat 0 ∧ MW g ad h0 (tAsk x k mnights (mkind (60 * x + k))) mdata msize mends mmany mkind mchain mholds mnights mbits mleast mmost mroom mreserve mmount mspeed mbid mbound mcheap mpromised mcoin mpaid mowed mturn misAsking mwant mcost misServed mitsRow mitsChunk h') ∧ (tAsk x k mnights (mkind (60 * x + k)) = 0 → r = dig (rowF mdata (60 * x + k)) (msize (60 * x + k)).toNat ∧ MW g ad h0 0 mdata msize mends mmany mkind mchain mholds mnights mbits mleast mmost mroom mreserve mmount mspeed mbid mbound mcheap mpromised mcoin mpaid mowed mturn misAsking mwant mcost misServed mitsRow mitsChunk h')) := by
  refine CT.of (by decide +kernel) rfl [some (.ref (ad 0)), some (.int (iI (x))), some (.int (iI (k)))] rfl (Nat.le_of_ble_eq_true rfl) ?_
  intro p e s m args below meth c B hr hlk hnm
  refine r_aload_n B dX10_digestByChunks_0 rfl rfl ?_
  refine r_iload_n B dX10_digestByChunks_1 rfl ?_
  refine r_iload_n B dX10_digestByChunks_2 rfl ?_
  refine r_callV (n := 2) B dX10_digestByChunks_3 (ct_X10_asks l g sz0 ad hA hM _ _ (by omega) (by omega) (by omega)) gX10_digestByChunks_X10_asks rfl (by decide +kernel) ⟨Nat.le_of_ble_eq_true rfl, Nat.le_of_ble_eq_true rfl⟩ hM.obj rfl rfl rfl (Nat.le_of_ble_eq_true rfl) (Nat.le_of_ble_eq_true rfl) (Nat.le_of_ble_eq_true rfl) (fun v h hp => ?_)
  obtain ⟨hv, hM⟩ := hp
  subst v
  dsimp only [Option.toList, List.cons_append, List.nil_append]
  refine r_if_eq B dX10_digestByChunks_6 (tgt := 22) (by decide) (bI_rng _) (fun c6 => ?_) (fun c6 => ?_)
  · replace c6 := bI_0.mp c6
    refine r_lconst B dX10_digestByChunks_22 rfl ?_
    exact r_lret B hr hlk dX10_digestByChunks_23 (Nat.le_of_ble_eq_true rfl) (Nat.le_of_ble_eq_true rfl) (by first | exact ⟨_, rfl, fun _ => ⟨rfl, hM⟩, fun h9 => absurd h9 c6⟩ | exact ⟨_, rfl, fun h9 => absurd c6 h9, fun _ => ⟨rfl, hM⟩⟩)
  · replace c6 := bI_n0.mp c6
    rw [c6] at hM
    have hT := tAsk_0.mp c6
    refine r_aload_n B dX10_digestByChunks_9 rfl rfl ?_
    refine r_bipush B dX10_digestByChunks_10 (by decide) ?_
    refine r_iload_n B dX10_digestByChunks_12 rfl ?_
    refine r_imul B dX10_digestByChunks_13 ?_
    refine r_iload_n B dX10_digestByChunks_14 rfl ?_
    refine r_iadd B dX10_digestByChunks_15 ?_
    refine r_callV (n := 1) B dX10_digestByChunks_16 (ct_X10_digests l g sz0 ad hA hM _ (by omega) (hs (60 * x + k) (by omega) (by omega))) gX10_digestByChunks_X10_digests rfl (by decide +kernel) ⟨Nat.le_of_ble_eq_true rfl, Nat.le_of_ble_eq_true rfl⟩ hM.obj rfl rfl rfl (Nat.le_of_ble_eq_true rfl) (Nat.le_of_ble_eq_true rfl) (Nat.le_of_ble_eq_true rfl) (fun v h' hp => ?_)
    obtain ⟨hv, hh⟩ := hp
    subst v
    subst h'
    dsimp only [Option.toList, List.cons_append, List.nil_append]
    refine r_goto B dX10_digestByChunks_19 (tgt := 23) (by decide) ?_
    exact r_lret B hr hlk dX10_digestByChunks_23 (Nat.le_of_ble_eq_true rfl) (Nat.le_of_ble_eq_true rfl) (by first | exact ⟨_, rfl, fun _ => ⟨rfl, hM⟩, fun h9 => absurd h9 c6⟩ | exact ⟨_, rfl, fun h9 => absurd c6 h9, fun _ => ⟨rfl, hM⟩⟩)
