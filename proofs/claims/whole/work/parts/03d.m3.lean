abbrev rmX10_length : Room := { frames := 2, cells := 0, slots := 0, locals := 42 }
set_option maxHeartbeats 4000000 in
set_option maxRecDepth 100000 in
theorem ct_X10_length (l : Launch) (g : GG) (sz0 : Nat) (ad : Nat → Nat) (hA : ADok ad) {h h0 : AH} {mthrown mnights mbits mleast mmost mroom mreserve mmount mspeed : Int} {mdata msize mends mmany mkind mchain mholds mbid mbound mcheap mpromised mcoin mpaid mowed mturn misAsking mwant mcost misServed mitsRow mitsChunk : Int → Int} (hM : MW g ad h0 mthrown mdata msize mends mmany mkind mchain mholds mnights mbits mleast mmost mroom mreserve mmount mspeed mbid mbound mcheap mpromised mcoin mpaid mowed mturn misAsking mwant mcost misServed mitsRow mitsChunk h) (x : Int) (qx : -2147483648 ≤ x ∧ x < 2147483648) (hs : ∀ z : Int, 0 ≤ z ∧ z ≤ 3 → 0 ≤ msize (240 + z) ∧ msize (240 + z) ≤ 48) : CT l yX10_length wsX10_length rmX10_length g sz0 [.ref (ad 0), .int (iI (x))] h (fun v h' => ∃ r : Int, v = some (.int (iI r)) ∧ (¬ tCl x = 0 → r = 0 ∧ MW g ad h0 (tCl x) mdata msize mends mmany mkind mchain mholds mnights mbits mleast mmost mroom mreserve mmount mspeed mbid mbound mcheap mpromised mcoin mpaid mowed mturn misAsking mwant mcost misServed mitsRow mitsChunk h') ∧ (tCl x = 0 → r = msize (240 + x) ∧ MW g ad h0 0 mdata msize mends mmany mkind mchain mholds mnights mbits mleast mmost mroom mreserve mmount mspeed mbid mbound mcheap mpromised mcoin mpaid mowed mturn misAsking mwant mcost misServed mitsRow mitsChunk h')) := by
  refine CT.of (by decide +kernel) rfl [some (.ref (ad 0)), some (.int (iI (x)))] rfl (Nat.le_of_ble_eq_true rfl) ?_
  intro p e s m args below meth c B hr hlk hnm
  refine r_aload_n B dX10_length_0 rfl rfl ?_
  refine r_iload_n B dX10_length_1 rfl ?_
  refine r_callS (n := 1) B dX10_length_2 (ct_X10_isClient l g sz0 _ (by omega)) gX10_length_X10_isClient rfl (by decide +kernel) ⟨Nat.le_of_ble_eq_true rfl, Nat.le_of_ble_eq_true rfl⟩ rfl rfl (Nat.le_of_ble_eq_true rfl) (Nat.le_of_ble_eq_true rfl) (Nat.le_of_ble_eq_true rfl) (fun v h' hp => ?_)
  obtain ⟨hv, hh⟩ := hp
  subst v
  subst h'
  dsimp only [Option.toList, List.cons_append, List.nil_append]
  refine r_if_eq B dX10_length_5 (tgt := 12) (by decide) (bI_rng _) (fun c5 => ?_) (fun c5 => ?_)
  · replace c5 := bI_0.mp c5
    refine r_iconst B dX10_length_12 ?_
    refine r_callV (n := 1) B dX10_length_13 (ct_X10_isFine l g sz0 ad hA hM _ (by omega)) gX10_length_X10_isFine rfl (by decide +kernel) ⟨Nat.le_of_ble_eq_true rfl, Nat.le_of_ble_eq_true rfl⟩ hM.obj rfl rfl rfl (Nat.le_of_ble_eq_true rfl) (Nat.le_of_ble_eq_true rfl) (Nat.le_of_ble_eq_true rfl) (fun v h hp => ?_)
    obtain ⟨hv, hM⟩ := hp
    subst v
    dsimp only [Option.toList, List.cons_append, List.nil_append]
    refine r_if_eq B dX10_length_16 (tgt := 27) (by decide) (bI_rng _) (fun c16 => ?_) (fun c16 => ?_)
    · replace c16 := bI_0.mp c16
      refine r_iconst B dX10_length_27 ?_
      exact r_iret B hr hlk dX10_length_28 (Nat.le_of_ble_eq_true rfl) (Nat.le_of_ble_eq_true rfl) (by
    have hT : tCl x = 1 := by
      unfold tCl
      (repeat' split) <;> omega
    exact ⟨_, rfl, fun _ => ⟨rfl, by rw [hT]; exact hM⟩, fun h9 => absurd (hT.symm.trans h9) (by decide)⟩)
    · replace c16 := bI_n0.mp c16
      exact absurd c16 (by decide)
  · replace c5 := bI_n0.mp c5
    refine r_iconst B dX10_length_8 ?_
    refine r_goto B dX10_length_9 (tgt := 13) (by decide) ?_
    refine r_callV (n := 1) B dX10_length_13 (ct_X10_isFine l g sz0 ad hA hM _ (by omega)) gX10_length_X10_isFine rfl (by decide +kernel) ⟨Nat.le_of_ble_eq_true rfl, Nat.le_of_ble_eq_true rfl⟩ hM.obj rfl rfl rfl (Nat.le_of_ble_eq_true rfl) (Nat.le_of_ble_eq_true rfl) (Nat.le_of_ble_eq_true rfl) (fun v h hp => ?_)
    obtain ⟨hv, hM⟩ := hp
    subst v
    dsimp only [Option.toList, List.cons_append, List.nil_append]
    refine r_if_eq B dX10_length_16 (tgt := 27) (by decide) (bI_rng _) (fun c16 => ?_) (fun c16 => ?_)
    · replace c16 := bI_0.mp c16
      exact absurd c16 (by decide)
    · replace c16 := bI_n0.mp c16
      refine r_aload_n B dX10_length_19 rfl rfl ?_
      refine r_iload_n B dX10_length_20 rfl ?_
      refine r_callV (n := 1) B dX10_length_21 (ct_X10_length0 l g sz0 ad hA hM _ (by omega)) gX10_length_X10_length0 rfl (by decide +kernel) ⟨Nat.le_of_ble_eq_true rfl, Nat.le_of_ble_eq_true rfl⟩ hM.obj rfl rfl rfl (Nat.le_of_ble_eq_true rfl) (Nat.le_of_ble_eq_true rfl) (Nat.le_of_ble_eq_true rfl) (fun v h' hp => ?_)
      obtain ⟨hv, hh⟩ := hp
      subst v
      subst h'
      dsimp only [Option.toList, List.cons_append, List.nil_append]
      refine r_goto B dX10_length_24 (tgt := 28) (by decide) ?_
      exact r_iret B hr hlk dX10_length_28 (Nat.le_of_ble_eq_true rfl) (Nat.le_of_ble_eq_true rfl) (by
    have hT : tCl x = 0 := by
      unfold tCl
      (repeat' split) <;> omega
    exact ⟨_, rfl, fun h9 => absurd hT h9, fun _ => ⟨rfl, hM⟩⟩)
abbrev rmX10_digest : Room := { frames := 2, cells := 0, slots := 0, locals := 46 }
set_option maxHeartbeats 4000000 in
set_option maxRecDepth 100000 in
theorem ct_X10_digest (l : Launch) (g : GG) (sz0 : Nat) (ad : Nat → Nat) (hA : ADok ad) {h h0 : AH} {mthrown mnights mbits mleast mmost mroom mreserve mmount mspeed : Int} {mdata msize mends mmany mkind mchain mholds mbid mbound mcheap mpromised mcoin mpaid mowed mturn misAsking mwant mcost misServed mitsRow mitsChunk : Int → Int} (hM : MW g ad h0 mthrown mdata msize mends mmany mkind mchain mholds mnights mbits mleast mmost mroom mreserve mmount mspeed mbid mbound mcheap mpromised mcoin mpaid mowed mturn misAsking mwant mcost misServed mitsRow mitsChunk h) (x : Int) (qx : -2147483648 ≤ x ∧ x < 2147483648) (hs : ∀ z : Int, 0 ≤ z ∧ z ≤ 3 → 0 ≤ msize (240 + z) ∧ msize (240 + z) ≤ 48) : CT l yX10_digest wsX10_digest rmX10_digest g sz0 [.ref (ad 0), .int (iI (x))] h (fun v h' => ∃ r : Int64, v = some (.long r) ∧ (¬ tCl x = 0 → r = Int64.ofNat 0 ∧ MW g ad h0 (tCl x) mdata msize mends mmany mkind mchain mholds mnights mbits mleast mmost mroom mreserve mmount mspeed mbid mbound mcheap mpromised mcoin mpaid mowed mturn misAsking mwant mcost misServed mitsRow mitsChunk h') ∧ (tCl x = 0 → r = dig (rowF mdata (240 + x)) (msize (240 + x)).toNat ∧ MW g ad h0 0 mdata msize mends mmany mkind mchain mholds mnights mbits mleast mmost mroom mreserve mmount mspeed mbid mbound mcheap mpromised mcoin mpaid mowed mturn misAsking mwant mcost misServed mitsRow mitsChunk h')) := by
  refine CT.of (by decide +kernel) rfl [some (.ref (ad 0)), some (.int (iI (x)))] rfl (Nat.le_of_ble_eq_true rfl) ?_
  intro p e s m args below meth c B hr hlk hnm
  refine r_aload_n B dX10_digest_0 rfl rfl ?_
  refine r_iload_n B dX10_digest_1 rfl ?_
  refine r_callS (n := 1) B dX10_digest_2 (ct_X10_isClient l g sz0 _ (by omega)) gX10_digest_X10_isClient rfl (by decide +kernel) ⟨Nat.le_of_ble_eq_true rfl, Nat.le_of_ble_eq_true rfl⟩ rfl rfl (Nat.le_of_ble_eq_true rfl) (Nat.le_of_ble_eq_true rfl) (Nat.le_of_ble_eq_true rfl) (fun v h' hp => ?_)
  obtain ⟨hv, hh⟩ := hp
  subst v
  subst h'
  dsimp only [Option.toList, List.cons_append, List.nil_append]
  refine r_if_eq B dX10_digest_5 (tgt := 12) (by decide) (bI_rng _) (fun c5 => ?_) (fun c5 => ?_)
  · replace c5 := bI_0.mp c5
    refine r_iconst B dX10_digest_12 ?_
    refine r_callV (n := 1) B dX10_digest_13 (ct_X10_isFine l g sz0 ad hA hM _ (by omega)) gX10_digest_X10_isFine rfl (by decide +kernel) ⟨Nat.le_of_ble_eq_true rfl, Nat.le_of_ble_eq_true rfl⟩ hM.obj rfl rfl rfl (Nat.le_of_ble_eq_true rfl) (Nat.le_of_ble_eq_true rfl) (Nat.le_of_ble_eq_true rfl) (fun v h hp => ?_)
    obtain ⟨hv, hM⟩ := hp
    subst v
    dsimp only [Option.toList, List.cons_append, List.nil_append]
    refine r_if_eq B dX10_digest_16 (tgt := 31) (by decide) (bI_rng _) (fun c16 => ?_) (fun c16 => ?_)
    · replace c16 := bI_0.mp c16
      refine r_lconst B dX10_digest_31 rfl ?_
      exact r_lret B hr hlk dX10_digest_32 (Nat.le_of_ble_eq_true rfl) (Nat.le_of_ble_eq_true rfl) (by
    have hT : tCl x = 1 := by
      unfold tCl
      (repeat' split) <;> omega
    exact ⟨_, rfl, fun _ => ⟨rfl, by rw [hT]; exact hM⟩, fun h9 => absurd (hT.symm.trans h9) (by decide)⟩)
    · replace c16 := bI_n0.mp c16
      exact absurd c16 (by decide)
  · replace c5 := bI_n0.mp c5
    refine r_iconst B dX10_digest_8 ?_
    refine r_goto B dX10_digest_9 (tgt := 13) (by decide) ?_
    refine r_callV (n := 1) B dX10_digest_13 (ct_X10_isFine l g sz0 ad hA hM _ (by omega)) gX10_digest_X10_isFine rfl (by decide +kernel) ⟨Nat.le_of_ble_eq_true rfl, Nat.le_of_ble_eq_true rfl⟩ hM.obj rfl rfl rfl (Nat.le_of_ble_eq_true rfl) (Nat.le_of_ble_eq_true rfl) (Nat.le_of_ble_eq_true rfl) (fun v h hp => ?_)
    obtain ⟨hv, hM⟩ := hp
    subst v
    dsimp only [Option.toList, List.cons_append, List.nil_append]
    refine r_if_eq B dX10_digest_16 (tgt := 31) (by decide) (bI_rng _) (fun c16 => ?_) (fun c16 => ?_)
    · replace c16 := bI_0.mp c16
      exact absurd c16 (by decide)
    · replace c16 := bI_n0.mp c16
      refine r_aload_n B dX10_digest_19 rfl rfl ?_
      refine r_sipush B dX10_digest_20 (by decide) ?_
      refine r_iload_n B dX10_digest_23 rfl ?_
      refine r_iadd B dX10_digest_24 ?_
      refine r_callV (n := 1) B dX10_digest_25 (ct_X10_digests l g sz0 ad hA hM _ (by omega) (hs x (by omega))) gX10_digest_X10_digests rfl (by decide +kernel) ⟨Nat.le_of_ble_eq_true rfl, Nat.le_of_ble_eq_true rfl⟩ hM.obj rfl rfl rfl (Nat.le_of_ble_eq_true rfl) (Nat.le_of_ble_eq_true rfl) (Nat.le_of_ble_eq_true rfl) (fun v h' hp => ?_)
      obtain ⟨hv, hh⟩ := hp
      subst v
      subst h'
      dsimp only [Option.toList, List.cons_append, List.nil_append]
      refine r_goto B dX10_digest_28 (tgt := 32) (by decide) ?_
      exact r_lret B hr hlk dX10_digest_32 (Nat.le_of_ble_eq_true rfl) (Nat.le_of_ble_eq_true rfl) (by
    have hT : tCl x = 0 := by
      unfold tCl
      (repeat' split) <;> omega
    exact ⟨_, rfl, fun h9 => absurd hT h9, fun _ => ⟨rfl, hM⟩⟩)
abbrev rmX10_at : Room := { frames := 2, cells := 0, slots := 0, locals := 44 }
set_option maxHeartbeats 4000000 in
set_option maxRecDepth 100000 in
theorem ct_X10_at (l : Launch) (g : GG) (sz0 : Nat) (ad : Nat → Nat) (hA : ADok ad) {h h0 : AH} {mthrown mnights mbits mleast mmost mroom mreserve mmount mspeed : Int} {mdata msize mends mmany mkind mchain mholds mbid mbound mcheap mpromised mcoin mpaid mowed mturn misAsking mwant mcost misServed mitsRow mitsChunk : Int → Int} (hM : MW g ad h0 mthrown mdata msize mends mmany mkind mchain mholds mnights mbits mleast mmost mroom mreserve mmount mspeed mbid mbound mcheap mpromised mcoin mpaid mowed mturn misAsking mwant mcost misServed mitsRow mitsChunk h) (x k : Int) (qx : -2147483648 ≤ x ∧ x < 2147483648) (qk : -2147483648 ≤ k ∧ k < 2147483648) (hs : ∀ z : Int, 0 ≤ z ∧ z ≤ 3 → 0 ≤ msize (240 + z) ∧ msize (240 + z) ≤ 48) : CT l yX10_at wsX10_at rmX10_at g sz0 [.ref (ad 0), .int (iI (x)), .int (iI (k))] h (fun v h' => ∃ r : Int, v = some (.int (iI r)) ∧ (¬ tAt x k (msize (240 + x)) = 0 → r = 0 ∧ MW g ad h0 (tAt x k (msize (240 + x))) mdata msize mends mmany mkind mchain mholds mnights mbits mleast mmost mroom mreserve mmount mspeed mbid mbound mcheap mpromised mcoin mpaid mowed mturn misAsking mwant mcost misServed mitsRow mitsChunk h') ∧ (tAt x k (msize (240 + x)) = 0 → r = mdata (48 * (240 + x) + k) ∧ MW g ad h0 0 mdata msize mends mmany mkind mchain mholds mnights mbits mleast mmost mroom mreserve mmount mspeed mbid mbound mcheap mpromised mcoin mpaid mowed mturn misAsking mwant mcost misServed mitsRow mitsChunk h')) := by
  refine CT.of (by decide +kernel) rfl [some (.ref (ad 0)), some (.int (iI (x))), some (.int (iI (k))), none] rfl (Nat.le_of_ble_eq_true rfl) ?_
  intro p e s m args below meth c B hr hlk hnm
  refine r_iload_n B dX10_at_0 rfl ?_
  refine r_callS (n := 1) B dX10_at_1 (ct_X10_isClient l g sz0 _ (by omega)) gX10_at_X10_isClient rfl (by decide +kernel) ⟨Nat.le_of_ble_eq_true rfl, Nat.le_of_ble_eq_true rfl⟩ rfl rfl (Nat.le_of_ble_eq_true rfl) (Nat.le_of_ble_eq_true rfl) (Nat.le_of_ble_eq_true rfl) (fun v h' hp => ?_)
  obtain ⟨hv, hh⟩ := hp
  subst v
  subst h'
  dsimp only [Option.toList, List.cons_append, List.nil_append]
  refine r_istore_n B dX10_at_4 rfl (by decide) (lcat_v rfl rfl) ?_
  refine r_aload_n B dX10_at_5 rfl rfl ?_
  refine r_iload_n B dX10_at_6 rfl ?_
  refine r_if_ne B dX10_at_7 (tgt := 14) (by decide) (bI_rng _) (fun c7 => ?_) (fun c7 => ?_)
  · replace c7 := bI_n0.mp c7
    have hsx := hs x (by omega)
    refine r_aload_n B dX10_at_14 rfl rfl ?_
    refine r_iload_n B dX10_at_15 rfl ?_
    refine r_iload_n B dX10_at_16 rfl ?_
    refine r_callV (n := 2) B dX10_at_17 (ct_X10_isPlace l g sz0 ad hA hM _ _ (by omega) (by omega) (by omega)) gX10_at_X10_isPlace rfl (by decide +kernel) ⟨Nat.le_of_ble_eq_true rfl, Nat.le_of_ble_eq_true rfl⟩ hM.obj rfl rfl rfl (Nat.le_of_ble_eq_true rfl) (Nat.le_of_ble_eq_true rfl) (Nat.le_of_ble_eq_true rfl) (fun v h' hp => ?_)
    obtain ⟨hv, hh⟩ := hp
    subst v
    subst h'
    dsimp only [Option.toList, List.cons_append, List.nil_append]
    refine r_if_ne B dX10_at_20 (tgt := 27) (by decide) (bI_rng _) (fun c20 => ?_) (fun c20 => ?_)
    · replace c20 := bI_n0.mp c20
      refine r_iconst B dX10_at_27 ?_
      refine r_callV (n := 1) B dX10_at_28 (ct_X10_isFine l g sz0 ad hA hM _ (by omega)) gX10_at_X10_isFine rfl (by decide +kernel) ⟨Nat.le_of_ble_eq_true rfl, Nat.le_of_ble_eq_true rfl⟩ hM.obj rfl rfl rfl (Nat.le_of_ble_eq_true rfl) (Nat.le_of_ble_eq_true rfl) (Nat.le_of_ble_eq_true rfl) (fun v h hp => ?_)
      obtain ⟨hv, hM⟩ := hp
      subst v
      dsimp only [Option.toList, List.cons_append, List.nil_append]
      refine r_if_eq B dX10_at_31 (tgt := 47) (by decide) (bI_rng _) (fun c31 => ?_) (fun c31 => ?_)
      · replace c31 := bI_0.mp c31
        exact absurd c31 (by decide)
      · replace c31 := bI_n0.mp c31
        refine r_aload_n B dX10_at_34 rfl rfl ?_
        refine r_sipush B dX10_at_35 (by decide) ?_
        refine r_iload_n B dX10_at_38 rfl ?_
        refine r_iadd B dX10_at_39 ?_
        refine r_iload_n B dX10_at_40 rfl ?_
        refine r_callV (n := 2) B dX10_at_41 (ct_X10_at0 l g sz0 ad hA hM _ _ (by omega)) gX10_at_X10_at0 rfl (by decide +kernel) ⟨Nat.le_of_ble_eq_true rfl, Nat.le_of_ble_eq_true rfl⟩ hM.obj rfl rfl rfl (Nat.le_of_ble_eq_true rfl) (Nat.le_of_ble_eq_true rfl) (Nat.le_of_ble_eq_true rfl) (fun v h' hp => ?_)
        obtain ⟨hv, hh⟩ := hp
        subst v
        subst h'
        dsimp only [Option.toList, List.cons_append, List.nil_append]
        refine r_goto B dX10_at_44 (tgt := 48) (by decide) ?_
        exact r_iret B hr hlk dX10_at_48 (Nat.le_of_ble_eq_true rfl) (Nat.le_of_ble_eq_true rfl) (by
    have hT : tAt x k (msize (240 + x)) = 0 := by
      unfold tAt
      (repeat' split) <;> omega
    exact ⟨_, rfl, fun h9 => absurd hT h9, fun _ => ⟨rfl, hM⟩⟩)
    · replace c20 := bI_0.mp c20
      refine r_iconst B dX10_at_23 ?_
      refine r_goto B dX10_at_24 (tgt := 28) (by decide) ?_
      refine r_callV (n := 1) B dX10_at_28 (ct_X10_isFine l g sz0 ad hA hM _ (by omega)) gX10_at_X10_isFine rfl (by decide +kernel) ⟨Nat.le_of_ble_eq_true rfl, Nat.le_of_ble_eq_true rfl⟩ hM.obj rfl rfl rfl (Nat.le_of_ble_eq_true rfl) (Nat.le_of_ble_eq_true rfl) (Nat.le_of_ble_eq_true rfl) (fun v h hp => ?_)
      obtain ⟨hv, hM⟩ := hp
      subst v
      dsimp only [Option.toList, List.cons_append, List.nil_append]
      refine r_if_eq B dX10_at_31 (tgt := 47) (by decide) (bI_rng _) (fun c31 => ?_) (fun c31 => ?_)
      · replace c31 := bI_0.mp c31
        refine r_iconst B dX10_at_47 ?_
        exact r_iret B hr hlk dX10_at_48 (Nat.le_of_ble_eq_true rfl) (Nat.le_of_ble_eq_true rfl) (by
    have hT : tAt x k (msize (240 + x)) = 2 := by
      unfold tAt
      (repeat' split) <;> omega
    exact ⟨_, rfl, fun _ => ⟨rfl, by rw [hT]; exact hM⟩, fun h9 => absurd (hT.symm.trans h9) (by decide)⟩)
      · replace c31 := bI_n0.mp c31
        exact absurd c31 (by decide)
  · replace c7 := bI_0.mp c7
    refine r_iconst B dX10_at_10 ?_
    refine r_goto B dX10_at_11 (tgt := 28) (by decide) ?_
    refine r_callV (n := 1) B dX10_at_28 (ct_X10_isFine l g sz0 ad hA hM _ (by omega)) gX10_at_X10_isFine rfl (by decide +kernel) ⟨Nat.le_of_ble_eq_true rfl, Nat.le_of_ble_eq_true rfl⟩ hM.obj rfl rfl rfl (Nat.le_of_ble_eq_true rfl) (Nat.le_of_ble_eq_true rfl) (Nat.le_of_ble_eq_true rfl) (fun v h hp => ?_)
    obtain ⟨hv, hM⟩ := hp
    subst v
    dsimp only [Option.toList, List.cons_append, List.nil_append]
    refine r_if_eq B dX10_at_31 (tgt := 47) (by decide) (bI_rng _) (fun c31 => ?_) (fun c31 => ?_)
    · replace c31 := bI_0.mp c31
      refine r_iconst B dX10_at_47 ?_
      exact r_iret B hr hlk dX10_at_48 (Nat.le_of_ble_eq_true rfl) (Nat.le_of_ble_eq_true rfl) (by
    have hT : tAt x k (msize (240 + x)) = 1 := by
      unfold tAt
      (repeat' split) <;> omega
    exact ⟨_, rfl, fun _ => ⟨rfl, by rw [hT]; exact hM⟩, fun h9 => absurd (hT.symm.trans h9) (by decide)⟩)
    · replace c31 := bI_n0.mp c31
      exact absurd c31 (by decide)
abbrev rmX10_mark : Room := { frames := 2, cells := 0, slots := 0, locals := 46 }
set_option maxHeartbeats 4000000 in
set_option maxRecDepth 100000 in
theorem ct_X10_mark (l : Launch) (g : GG) (sz0 : Nat) (ad : Nat → Nat) (hA : ADok ad) {h h0 : AH} {mthrown mnights mbits mleast mmost mroom mreserve mmount mspeed : Int} {mdata msize mends mmany mkind mchain mholds mbid mbound mcheap mpromised mcoin mpaid mowed mturn misAsking mwant mcost misServed mitsRow mitsChunk : Int → Int} (hM : MW g ad h0 mthrown mdata msize mends mmany mkind mchain mholds mnights mbits mleast mmost mroom mreserve mmount mspeed mbid mbound mcheap mpromised mcoin mpaid mowed mturn misAsking mwant mcost misServed mitsRow mitsChunk h) (x k : Int) (qx : -2147483648 ≤ x ∧ x < 2147483648) (qk : -2147483648 ≤ k ∧ k < 2147483648) (hs : ∀ z : Int, 0 ≤ z ∧ z ≤ 3 → 0 ≤ msize (240 + z) ∧ msize (240 + z) ≤ 48) : CT l yX10_mark wsX10_mark rmX10_mark g sz0 [.ref (ad 0), .int (iI (x)), .int (iI (k))] h (fun v h' => ∃ r : Int32, v = some (.int r) ∧ (¬ tAt x k (msize (240 + x)) = 0 → r = iI 0 ∧ MW g ad h0 (tAt x k (msize (240 + x))) mdata msize mends mmany mkind mchain mholds mnights mbits mleast mmost mroom mreserve mmount mspeed mbid mbound mcheap mpromised mcoin mpaid mowed mturn misAsking mwant mcost misServed mitsRow mitsChunk h') ∧ (tAt x k (msize (240 + x)) = 0 → r = mkv (rowF mdata (240 + x)) k ∧ MW g ad h0 0 mdata msize mends mmany mkind mchain mholds mnights mbits mleast mmost mroom mreserve mmount mspeed mbid mbound mcheap mpromised mcoin mpaid mowed mturn misAsking mwant mcost misServed mitsRow mitsChunk h')) := by
  refine CT.of (by decide +kernel) rfl [some (.ref (ad 0)), some (.int (iI (x))), some (.int (iI (k))), none] rfl (Nat.le_of_ble_eq_true rfl) ?_
  intro p e s m args below meth c B hr hlk hnm
  refine r_iload_n B dX10_mark_0 rfl ?_
  refine r_callS (n := 1) B dX10_mark_1 (ct_X10_isClient l g sz0 _ (by omega)) gX10_mark_X10_isClient rfl (by decide +kernel) ⟨Nat.le_of_ble_eq_true rfl, Nat.le_of_ble_eq_true rfl⟩ rfl rfl (Nat.le_of_ble_eq_true rfl) (Nat.le_of_ble_eq_true rfl) (Nat.le_of_ble_eq_true rfl) (fun v h' hp => ?_)
  obtain ⟨hv, hh⟩ := hp
  subst v
  subst h'
  dsimp only [Option.toList, List.cons_append, List.nil_append]
  refine r_istore_n B dX10_mark_4 rfl (by decide) (lcat_v rfl rfl) ?_
  refine r_aload_n B dX10_mark_5 rfl rfl ?_
  refine r_iload_n B dX10_mark_6 rfl ?_
  refine r_if_ne B dX10_mark_7 (tgt := 14) (by decide) (bI_rng _) (fun c7 => ?_) (fun c7 => ?_)
  · replace c7 := bI_n0.mp c7
    have hsx := hs x (by omega)
    refine r_aload_n B dX10_mark_14 rfl rfl ?_
    refine r_iload_n B dX10_mark_15 rfl ?_
    refine r_iload_n B dX10_mark_16 rfl ?_
    refine r_callV (n := 2) B dX10_mark_17 (ct_X10_isPlace l g sz0 ad hA hM _ _ (by omega) (by omega) (by omega)) gX10_mark_X10_isPlace rfl (by decide +kernel) ⟨Nat.le_of_ble_eq_true rfl, Nat.le_of_ble_eq_true rfl⟩ hM.obj rfl rfl rfl (Nat.le_of_ble_eq_true rfl) (Nat.le_of_ble_eq_true rfl) (Nat.le_of_ble_eq_true rfl) (fun v h' hp => ?_)
    obtain ⟨hv, hh⟩ := hp
    subst v
    subst h'
    dsimp only [Option.toList, List.cons_append, List.nil_append]
    refine r_if_ne B dX10_mark_20 (tgt := 27) (by decide) (bI_rng _) (fun c20 => ?_) (fun c20 => ?_)
    · replace c20 := bI_n0.mp c20
      refine r_iconst B dX10_mark_27 ?_
      refine r_callV (n := 1) B dX10_mark_28 (ct_X10_isFine l g sz0 ad hA hM _ (by omega)) gX10_mark_X10_isFine rfl (by decide +kernel) ⟨Nat.le_of_ble_eq_true rfl, Nat.le_of_ble_eq_true rfl⟩ hM.obj rfl rfl rfl (Nat.le_of_ble_eq_true rfl) (Nat.le_of_ble_eq_true rfl) (Nat.le_of_ble_eq_true rfl) (fun v h hp => ?_)
      obtain ⟨hv, hM⟩ := hp
      subst v
      dsimp only [Option.toList, List.cons_append, List.nil_append]
      refine r_if_eq B dX10_mark_31 (tgt := 47) (by decide) (bI_rng _) (fun c31 => ?_) (fun c31 => ?_)
      · replace c31 := bI_0.mp c31
        exact absurd c31 (by decide)
      · replace c31 := bI_n0.mp c31
        refine r_aload_n B dX10_mark_34 rfl rfl ?_
        refine r_sipush B dX10_mark_35 (by decide) ?_
        refine r_iload_n B dX10_mark_38 rfl ?_
        refine r_iadd B dX10_mark_39 ?_
        refine r_iload_n B dX10_mark_40 rfl ?_
        refine r_callV (n := 2) B dX10_mark_41 (ct_X10_marks l g sz0 ad hA hM _ _ (by omega) (by omega)) gX10_mark_X10_marks rfl (by decide +kernel) ⟨Nat.le_of_ble_eq_true rfl, Nat.le_of_ble_eq_true rfl⟩ hM.obj rfl rfl rfl (Nat.le_of_ble_eq_true rfl) (Nat.le_of_ble_eq_true rfl) (Nat.le_of_ble_eq_true rfl) (fun v h' hp => ?_)
        obtain ⟨hv, hh⟩ := hp
        subst v
        subst h'
        dsimp only [Option.toList, List.cons_append, List.nil_append]
        refine r_goto B dX10_mark_44 (tgt := 48) (by decide) ?_
        exact r_iret B hr hlk dX10_mark_48 (Nat.le_of_ble_eq_true rfl) (Nat.le_of_ble_eq_true rfl) (by
    have hT : tAt x k (msize (240 + x)) = 0 := by
      unfold tAt
      (repeat' split) <;> omega
    exact ⟨_, rfl, fun h9 => absurd hT h9, fun _ => ⟨rfl, hM⟩⟩)
    · replace c20 := bI_0.mp c20
      refine r_iconst B dX10_mark_23 ?_
      refine r_goto B dX10_mark_24 (tgt := 28) (by decide) ?_
      refine r_callV (n := 1) B dX10_mark_28 (ct_X10_isFine l g sz0 ad hA hM _ (by omega)) gX10_mark_X10_isFine rfl (by decide +kernel) ⟨Nat.le_of_ble_eq_true rfl, Nat.le_of_ble_eq_true rfl⟩ hM.obj rfl rfl rfl (Nat.le_of_ble_eq_true rfl) (Nat.le_of_ble_eq_true rfl) (Nat.le_of_ble_eq_true rfl) (fun v h hp => ?_)
      obtain ⟨hv, hM⟩ := hp
      subst v
      dsimp only [Option.toList, List.cons_append, List.nil_append]
      refine r_if_eq B dX10_mark_31 (tgt := 47) (by decide) (bI_rng _) (fun c31 => ?_) (fun c31 => ?_)
      · replace c31 := bI_0.mp c31
        refine r_iconst B dX10_mark_47 ?_
        exact r_iret B hr hlk dX10_mark_48 (Nat.le_of_ble_eq_true rfl) (Nat.le_of_ble_eq_true rfl) (by
    have hT : tAt x k (msize (240 + x)) = 2 := by
      unfold tAt
      (repeat' split) <;> omega
    exact ⟨_, rfl, fun _ => ⟨rfl, by rw [hT]; exact hM⟩, fun h9 => absurd (hT.symm.trans h9) (by decide)⟩)
      · replace c31 := bI_n0.mp c31
        exact absurd c31 (by decide)
  · replace c7 := bI_0.mp c7
    refine r_iconst B dX10_mark_10 ?_
    refine r_goto B dX10_mark_11 (tgt := 28) (by decide) ?_
    refine r_callV (n := 1) B dX10_mark_28 (ct_X10_isFine l g sz0 ad hA hM _ (by omega)) gX10_mark_X10_isFine rfl (by decide +kernel) ⟨Nat.le_of_ble_eq_true rfl, Nat.le_of_ble_eq_true rfl⟩ hM.obj rfl rfl rfl (Nat.le_of_ble_eq_true rfl) (Nat.le_of_ble_eq_true rfl) (Nat.le_of_ble_eq_true rfl) (fun v h hp => ?_)
    obtain ⟨hv, hM⟩ := hp
    subst v
    dsimp only [Option.toList, List.cons_append, List.nil_append]
    refine r_if_eq B dX10_mark_31 (tgt := 47) (by decide) (bI_rng _) (fun c31 => ?_) (fun c31 => ?_)
    · replace c31 := bI_0.mp c31
      refine r_iconst B dX10_mark_47 ?_
      exact r_iret B hr hlk dX10_mark_48 (Nat.le_of_ble_eq_true rfl) (Nat.le_of_ble_eq_true rfl) (by
    have hT : tAt x k (msize (240 + x)) = 1 := by
      unfold tAt
      (repeat' split) <;> omega
    exact ⟨_, rfl, fun _ => ⟨rfl, by rw [hT]; exact hM⟩, fun h9 => absurd (hT.symm.trans h9) (by decide)⟩)
    · replace c31 := bI_n0.mp c31
      exact absurd c31 (by decide)
abbrev rmX10_put : Room := { frames := 2, cells := 0, slots := 0, locals := 42 }
theorem in_X10_put_X10 : ∀ w ∈ wsX100, w ∈ wsX10_put := by decide +kernel
theorem w_X10_put_f13 : Cond.fieldLink RX10 13 "DeltaNightsModel" "size" "[I" ∈ wsX10_put := by decide +kernel
theorem w_X10_put_f7 : Cond.fieldLink RX10 7 "DeltaNightsModel" "data" "[I" ∈ wsX10_put := by decide +kernel
set_option maxHeartbeats 4000000 in
set_option maxRecDepth 100000 in
theorem ct_X10_put (l : Launch) (g : GG) (sz0 : Nat) (ad : Nat → Nat) (hA : ADok ad) {h h0 : AH} {mthrown mnights mbits mleast mmost mroom mreserve mmount mspeed : Int} {mdata msize mends mmany mkind mchain mholds mbid mbound mcheap mpromised mcoin mpaid mowed mturn misAsking mwant mcost misServed mitsRow mitsChunk : Int → Int} (hM : MW g ad h0 mthrown mdata msize mends mmany mkind mchain mholds mnights mbits mleast mmost mroom mreserve mmount mspeed mbid mbound mcheap mpromised mcoin mpaid mowed mturn misAsking mwant mcost misServed mitsRow mitsChunk h) (x k b : Int) (qx : -2147483648 ≤ x ∧ x < 2147483648) (qk : -2147483648 ≤ k ∧ k < 2147483648) (qb : -2147483648 ≤ b ∧ b < 2147483648) (hs : ∀ z : Int, 0 ≤ z ∧ z ≤ 3 → 0 ≤ msize (240 + z) ∧ msize (240 + z) ≤ 48) : CT l yX10_put wsX10_put rmX10_put g sz0 [.ref (ad 0), .int (iI (x)), .int (iI (k)), .int (iI (b))] h (fun v h' => ∃ r : Int, v = some (.int (iI r)) ∧ (¬ tPut x k b (msize (240 + x)) = 0 → r = 0 ∧ MW g ad h0 (tPut x k b (msize (240 + x))) mdata msize mends mmany mkind mchain mholds mnights mbits mleast mmost mroom mreserve mmount mspeed mbid mbound mcheap mpromised mcoin mpaid mowed mturn misAsking mwant mcost misServed mitsRow mitsChunk h') ∧ (tPut x k b (msize (240 + x)) = 0 → r = msize (240 + x) + 1 ∧ MW g ad h0 0 (insF mdata (48 * (240 + x)) (msize (240 + x)) k b) (upZ msize (240 + x) (msize (240 + x) + 1)) mends mmany mkind mchain mholds mnights mbits mleast mmost mroom mreserve mmount mspeed mbid mbound mcheap mpromised mcoin mpaid mowed mturn misAsking mwant mcost misServed mitsRow mitsChunk h')) := by
  refine CT.of (by decide +kernel) rfl [some (.ref (ad 0)), some (.int (iI (x))), some (.int (iI (k))), some (.int (iI (b))), none, none, none] rfl (Nat.le_of_ble_eq_true rfl) ?_
  intro p e s m args below meth c B hr hlk hnm
  refine r_iload_n B dX10_put_0 rfl ?_
  refine r_callS (n := 1) B dX10_put_1 (ct_X10_isClient l g sz0 _ (by omega)) gX10_put_X10_isClient rfl (by decide +kernel) ⟨Nat.le_of_ble_eq_true rfl, Nat.le_of_ble_eq_true rfl⟩ rfl rfl (Nat.le_of_ble_eq_true rfl) (Nat.le_of_ble_eq_true rfl) (Nat.le_of_ble_eq_true rfl) (fun v h' hp => ?_)
  obtain ⟨hv, hh⟩ := hp
  subst v
  subst h'
  dsimp only [Option.toList, List.cons_append, List.nil_append]
  refine r_istore B dX10_put_4 (by decide) (lcat_v rfl rfl) ?_
  refine r_aload_n B dX10_put_6 rfl rfl ?_
  refine r_iload B dX10_put_7 rfl ?_
  refine r_if_eq B dX10_put_9 (tgt := 19) (by decide) (bI_rng _) (fun c9 => ?_) (fun c9 => ?_)
  · replace c9 := bI_0.mp c9
    refine r_iconst B dX10_put_19 ?_
    refine r_goto B dX10_put_20 (tgt := 55) (by decide) ?_
    refine r_callV (n := 1) B dX10_put_55 (ct_X10_isFine l g sz0 ad hA hM _ (by omega)) gX10_put_X10_isFine rfl (by decide +kernel) ⟨Nat.le_of_ble_eq_true rfl, Nat.le_of_ble_eq_true rfl⟩ hM.obj rfl rfl rfl (Nat.le_of_ble_eq_true rfl) (Nat.le_of_ble_eq_true rfl) (Nat.le_of_ble_eq_true rfl) (fun v h hp => ?_)
    obtain ⟨hv, hM⟩ := hp
    subst v
    dsimp only [Option.toList, List.cons_append, List.nil_append]
    refine r_if_ne B dX10_put_58 (tgt := 63) (by decide) (bI_rng _) (fun c58 => ?_) (fun c58 => ?_)
    · replace c58 := bI_n0.mp c58
      exact absurd c58 (by decide)
    · replace c58 := bI_0.mp c58
      refine r_iconst B dX10_put_61 ?_
      exact r_iret B hr hlk dX10_put_62 (Nat.le_of_ble_eq_true rfl) (Nat.le_of_ble_eq_true rfl) (by
    have hT : tPut x k b (msize (240 + x)) = 1 := by
      unfold tPut
      (repeat' split) <;> omega
    exact ⟨_, rfl, fun _ => ⟨rfl, by rw [hT]; exact hM⟩, fun h9 => absurd (hT.symm.trans h9) (by decide)⟩)
  · replace c9 := bI_n0.mp c9
    refine r_iload_n B dX10_put_12 rfl ?_
    refine r_callS (n := 1) B dX10_put_13 (ct_X10_isByte l g sz0 _ (by omega)) gX10_put_X10_isByte rfl (by decide +kernel) ⟨Nat.le_of_ble_eq_true rfl, Nat.le_of_ble_eq_true rfl⟩ rfl rfl (Nat.le_of_ble_eq_true rfl) (Nat.le_of_ble_eq_true rfl) (Nat.le_of_ble_eq_true rfl) (fun v h' hp => ?_)
    obtain ⟨hv, hh⟩ := hp
    subst v
    subst h'
    dsimp only [Option.toList, List.cons_append, List.nil_append]
    refine r_if_ne B dX10_put_16 (tgt := 23) (by decide) (bI_rng _) (fun c16 => ?_) (fun c16 => ?_)
    · replace c16 := bI_n0.mp c16
      have hsx := hs x (by omega)
      refine r_iload_n B dX10_put_23 rfl ?_
      refine r_iconst B dX10_put_24 ?_
      refine r_aload_n B dX10_put_25 rfl rfl ?_
      refine r_iload_n B dX10_put_26 rfl ?_
      refine r_callV (n := 1) B dX10_put_27 (ct_X10_length0 l g sz0 ad hA hM _ (by omega)) gX10_put_X10_length0 rfl (by decide +kernel) ⟨Nat.le_of_ble_eq_true rfl, Nat.le_of_ble_eq_true rfl⟩ hM.obj rfl rfl rfl (Nat.le_of_ble_eq_true rfl) (Nat.le_of_ble_eq_true rfl) (Nat.le_of_ble_eq_true rfl) (fun v h' hp => ?_)
      obtain ⟨hv, hh⟩ := hp
      subst v
      subst h'
      dsimp only [Option.toList, List.cons_append, List.nil_append]
      refine r_callS (n := 3) B dX10_put_30 (ct_X10_isIn l g sz0 _ _ _ (by omega) (by omega) (by omega)) gX10_put_X10_isIn rfl (by decide +kernel) ⟨Nat.le_of_ble_eq_true rfl, Nat.le_of_ble_eq_true rfl⟩ rfl rfl (Nat.le_of_ble_eq_true rfl) (Nat.le_of_ble_eq_true rfl) (Nat.le_of_ble_eq_true rfl) (fun v h' hp => ?_)
      obtain ⟨hv, hh⟩ := hp
      subst v
      subst h'
      dsimp only [Option.toList, List.cons_append, List.nil_append]
      refine r_if_ne B dX10_put_33 (tgt := 40) (by decide) (bI_rng _) (fun c33 => ?_) (fun c33 => ?_)
      · replace c33 := bI_n0.mp c33
        refine r_aload_n B dX10_put_40 rfl rfl ?_
        refine r_iload_n B dX10_put_41 rfl ?_
        refine r_callV (n := 1) B dX10_put_42 (ct_X10_length0 l g sz0 ad hA hM _ (by omega)) gX10_put_X10_length0 rfl (by decide +kernel) ⟨Nat.le_of_ble_eq_true rfl, Nat.le_of_ble_eq_true rfl⟩ hM.obj rfl rfl rfl (Nat.le_of_ble_eq_true rfl) (Nat.le_of_ble_eq_true rfl) (Nat.le_of_ble_eq_true rfl) (fun v h' hp => ?_)
        obtain ⟨hv, hh⟩ := hp
        subst v
        subst h'
        dsimp only [Option.toList, List.cons_append, List.nil_append]
        refine r_bipush B dX10_put_45 (by decide) ?_
        refine r_icmp_ne B dX10_put_47 (tgt := 54) (by decide) (by omega) (by omega) (fun c47 => ?_) (fun c47 => ?_)
        · refine r_iconst B dX10_put_54 ?_
          refine r_callV (n := 1) B dX10_put_55 (ct_X10_isFine l g sz0 ad hA hM _ (by omega)) gX10_put_X10_isFine rfl (by decide +kernel) ⟨Nat.le_of_ble_eq_true rfl, Nat.le_of_ble_eq_true rfl⟩ hM.obj rfl rfl rfl (Nat.le_of_ble_eq_true rfl) (Nat.le_of_ble_eq_true rfl) (Nat.le_of_ble_eq_true rfl) (fun v h hp => ?_)
          obtain ⟨hv, hM⟩ := hp
          subst v
          dsimp only [Option.toList, List.cons_append, List.nil_append]
          refine r_if_ne B dX10_put_58 (tgt := 63) (by decide) (bI_rng _) (fun c58 => ?_) (fun c58 => ?_)
          · replace c58 := bI_n0.mp c58
            refine r_sipush B dX10_put_63 (by decide) ?_
            refine r_iload_n B dX10_put_66 rfl ?_
            refine r_iadd B dX10_put_67 ?_
            refine r_istore B dX10_put_68 (by decide) (lcat_v rfl rfl) ?_
            refine r_aload_n B dX10_put_70 rfl rfl ?_
            refine m_get_size B dX10_put_71 in_X10_put_X10 w_X10_put_f13 hM ?_
            refine r_iload B dX10_put_74 rfl ?_
            refine m_ld_size B dX10_put_76 hM (by omega) (by omega) (fun r76 => ?_)
            refine r_istore B dX10_put_77 (by decide) (lcat_v rfl rfl) ?_
            have loop79 : ∀ (nn : Nat) (q : Int) (h : AH), MW g ad h0 0 (shR mdata (48 * (240 + x)) (msize (240 + x)) q) msize mends mmany mkind mchain mholds mnights mbits mleast mmost mroom mreserve mmount mspeed mbid mbound mcheap mpromised mcoin mpaid mowed mturn misAsking mwant mcost misServed mitsRow mitsChunk h → (k ≤ q ∧ q ≤ msize (240 + x)) → (q - k).toNat < nn → WA p l e rmX10_put s m args below meth c g sz0 7 (MQ below (QQ g sz0 (fun v h' => ∃ r : Int, v = some (.int (iI r)) ∧ (¬ tPut x k b (msize (240 + x)) = 0 → r = 0 ∧ MW g ad h0 (tPut x k b (msize (240 + x))) mdata msize mends mmany mkind mchain mholds mnights mbits mleast mmost mroom mreserve mmount mspeed mbid mbound mcheap mpromised mcoin mpaid mowed mturn misAsking mwant mcost misServed mitsRow mitsChunk h') ∧ (tPut x k b (msize (240 + x)) = 0 → r = msize (240 + x) + 1 ∧ MW g ad h0 0 (insF mdata (48 * (240 + x)) (msize (240 + x)) k b) (upZ msize (240 + x) (msize (240 + x) + 1)) mends mmany mkind mchain mholds mnights mbits mleast mmost mroom mreserve mmount mspeed mbid mbound mcheap mpromised mcoin mpaid mowed mturn misAsking mwant mcost misServed mitsRow mitsChunk h'))) args s rmX10_put.cells rmX10_put.slots (A0 sz0)) h 0 0 [some (.ref (ad 0)), some (.int (iI (x))), some (.int (iI (k))), some (.int (iI (b))), none, some (.int (iI (240 + x))), some (.int (iI (q)))] 79 [] := by
              intro nn
              induction nn with
              | zero => intro q h hM i1 hn; exact absurd hn (Nat.not_lt_zero _)
              | succ nn ih =>
                intro q h hM i1 hn
                refine r_iload B dX10_put_79 rfl ?_
                refine r_iload_n B dX10_put_81 rfl ?_
                refine r_icmp_le B dX10_put_82 (tgt := 119) (by decide) (by omega) (by omega) (fun c82 => ?_) (fun c82 => ?_)
                · have hq : q = k := by omega
                  subst q
                  refine r_aload_n B dX10_put_119 rfl rfl ?_
                  refine m_get_data B dX10_put_120 in_X10_put_X10 w_X10_put_f7 hM ?_
                  refine r_bipush B dX10_put_123 (by decide) ?_
                  refine r_iload B dX10_put_125 rfl ?_
                  refine r_imul B dX10_put_127 ?_
                  refine r_iload_n B dX10_put_128 rfl ?_
                  refine r_iadd B dX10_put_129 ?_
                  refine r_iload_n B dX10_put_130 rfl ?_
                  refine m_st_data B dX10_put_131 hA hM (by omega) (by omega) (by omega) (fun h hM => ?_)
                  refine r_aload_n B dX10_put_132 rfl rfl ?_
                  refine m_get_size B dX10_put_133 in_X10_put_X10 w_X10_put_f13 hM ?_
                  refine r_iload B dX10_put_136 rfl ?_
                  refine r_dup2 B dX10_put_138 rfl rfl ?_
                  refine m_ld_size B dX10_put_139 hM (by omega) (by omega) (fun r139 => ?_)
                  refine r_iconst B dX10_put_140 ?_
                  refine r_iadd B dX10_put_141 ?_
                  refine m_st_size B dX10_put_142 hA hM (by omega) (by omega) (by omega) (fun h hM => ?_)
                  refine r_aload_n B dX10_put_143 rfl rfl ?_
                  refine m_get_size B dX10_put_144 in_X10_put_X10 w_X10_put_f13 hM ?_
                  refine r_iload B dX10_put_147 rfl ?_
                  refine m_ld_size B dX10_put_149 hM (by omega) (by omega) (fun r149 => ?_)
                  exact r_iret B hr hlk dX10_put_150 (Nat.le_of_ble_eq_true rfl) (Nat.le_of_ble_eq_true rfl) (by
    have hT : tPut x k b (msize (240 + x)) = 0 := by
      unfold tPut
      (repeat' split) <;> omega
    exact ⟨_, rfl, fun h9 => absurd hT h9, fun _ => ⟨by rw [upZ_at], by rw [← insF_of]; exact hM⟩⟩)
                · refine r_aload_n B dX10_put_85 rfl rfl ?_
                  refine m_get_data B dX10_put_86 in_X10_put_X10 w_X10_put_f7 hM ?_
                  refine r_bipush B dX10_put_89 (by decide) ?_
                  refine r_iload B dX10_put_91 rfl ?_
                  refine r_imul B dX10_put_93 ?_
                  refine r_iload B dX10_put_94 rfl ?_
                  refine r_iadd B dX10_put_96 ?_
                  refine r_aload_n B dX10_put_97 rfl rfl ?_
                  refine m_get_data B dX10_put_98 in_X10_put_X10 w_X10_put_f7 hM ?_
                  refine r_bipush B dX10_put_101 (by decide) ?_
                  refine r_iload B dX10_put_103 rfl ?_
                  refine r_imul B dX10_put_105 ?_
                  refine r_iload B dX10_put_106 rfl ?_
                  refine r_iadd B dX10_put_108 ?_
                  refine r_iconst B dX10_put_109 ?_
                  refine r_isub B dX10_put_110 ?_
                  refine m_ld_data B dX10_put_111 hM (by omega) (by omega) (fun r111 => ?_)
                  refine m_st_data B dX10_put_112 hA hM (by omega) (by omega) (by omega) (fun h hM => ?_)
                  refine r_iinc B dX10_put_113 rfl (by decide) (lcat_v rfl rfl) ?_
                  refine r_goto B dX10_put_116 (tgt := 79) (by decide) ?_
                  exact r_lv (lvLe_s rfl (lvLe_s rfl (lvLe_s rfl (lvLe_s rfl (lvLe_n (lvLe_s rfl (lvLe_s rfl lvLe_nil))))))) (ih (q - 1) h (by rw [← shR_s _ _ _ i1.2]; exact hM) (by omega) (by omega))
            exact r_lv (lvLe_s rfl (lvLe_s rfl (lvLe_s rfl (lvLe_s rfl (lvLe_n (lvLe_s rfl (lvLe_s rfl lvLe_nil))))))) (loop79 _ (msize (240 + x)) h (by rw [shR_0]; exact hM) (by omega) (Nat.lt_succ_self _))
          · replace c58 := bI_0.mp c58
            exact absurd c58 (by decide)
        · refine r_iconst B dX10_put_50 ?_
          refine r_goto B dX10_put_51 (tgt := 55) (by decide) ?_
          refine r_callV (n := 1) B dX10_put_55 (ct_X10_isFine l g sz0 ad hA hM _ (by omega)) gX10_put_X10_isFine rfl (by decide +kernel) ⟨Nat.le_of_ble_eq_true rfl, Nat.le_of_ble_eq_true rfl⟩ hM.obj rfl rfl rfl (Nat.le_of_ble_eq_true rfl) (Nat.le_of_ble_eq_true rfl) (Nat.le_of_ble_eq_true rfl) (fun v h hp => ?_)
          obtain ⟨hv, hM⟩ := hp
          subst v
          dsimp only [Option.toList, List.cons_append, List.nil_append]
          refine r_if_ne B dX10_put_58 (tgt := 63) (by decide) (bI_rng _) (fun c58 => ?_) (fun c58 => ?_)
          · replace c58 := bI_n0.mp c58
            exact absurd c58 (by decide)
          · replace c58 := bI_0.mp c58
            refine r_iconst B dX10_put_61 ?_
            exact r_iret B hr hlk dX10_put_62 (Nat.le_of_ble_eq_true rfl) (Nat.le_of_ble_eq_true rfl) (by
    have hT : tPut x k b (msize (240 + x)) = 3 := by
      unfold tPut
      (repeat' split) <;> omega
    exact ⟨_, rfl, fun _ => ⟨rfl, by rw [hT]; exact hM⟩, fun h9 => absurd (hT.symm.trans h9) (by decide)⟩)
      · replace c33 := bI_0.mp c33
        refine r_iconst B dX10_put_36 ?_
        refine r_goto B dX10_put_37 (tgt := 55) (by decide) ?_
        refine r_callV (n := 1) B dX10_put_55 (ct_X10_isFine l g sz0 ad hA hM _ (by omega)) gX10_put_X10_isFine rfl (by decide +kernel) ⟨Nat.le_of_ble_eq_true rfl, Nat.le_of_ble_eq_true rfl⟩ hM.obj rfl rfl rfl (Nat.le_of_ble_eq_true rfl) (Nat.le_of_ble_eq_true rfl) (Nat.le_of_ble_eq_true rfl) (fun v h hp => ?_)
        obtain ⟨hv, hM⟩ := hp
        subst v
        dsimp only [Option.toList, List.cons_append, List.nil_append]
        refine r_if_ne B dX10_put_58 (tgt := 63) (by decide) (bI_rng _) (fun c58 => ?_) (fun c58 => ?_)
        · replace c58 := bI_n0.mp c58
          exact absurd c58 (by decide)
        · replace c58 := bI_0.mp c58
          refine r_iconst B dX10_put_61 ?_
          exact r_iret B hr hlk dX10_put_62 (Nat.le_of_ble_eq_true rfl) (Nat.le_of_ble_eq_true rfl) (by
    have hT : tPut x k b (msize (240 + x)) = 2 := by
      unfold tPut
      (repeat' split) <;> omega
    exact ⟨_, rfl, fun _ => ⟨rfl, by rw [hT]; exact hM⟩, fun h9 => absurd (hT.symm.trans h9) (by decide)⟩)
    · replace c16 := bI_0.mp c16
      refine r_iconst B dX10_put_19 ?_
      refine r_goto B dX10_put_20 (tgt := 55) (by decide) ?_
      refine r_callV (n := 1) B dX10_put_55 (ct_X10_isFine l g sz0 ad hA hM _ (by omega)) gX10_put_X10_isFine rfl (by decide +kernel) ⟨Nat.le_of_ble_eq_true rfl, Nat.le_of_ble_eq_true rfl⟩ hM.obj rfl rfl rfl (Nat.le_of_ble_eq_true rfl) (Nat.le_of_ble_eq_true rfl) (Nat.le_of_ble_eq_true rfl) (fun v h hp => ?_)
      obtain ⟨hv, hM⟩ := hp
      subst v
      dsimp only [Option.toList, List.cons_append, List.nil_append]
      refine r_if_ne B dX10_put_58 (tgt := 63) (by decide) (bI_rng _) (fun c58 => ?_) (fun c58 => ?_)
      · replace c58 := bI_n0.mp c58
        exact absurd c58 (by decide)
      · replace c58 := bI_0.mp c58
        refine r_iconst B dX10_put_61 ?_
        exact r_iret B hr hlk dX10_put_62 (Nat.le_of_ble_eq_true rfl) (Nat.le_of_ble_eq_true rfl) (by
    have hT : tPut x k b (msize (240 + x)) = 1 := by
      unfold tPut
      (repeat' split) <;> omega
    exact ⟨_, rfl, fun _ => ⟨rfl, by rw [hT]; exact hM⟩, fun h9 => absurd (hT.symm.trans h9) (by decide)⟩)
abbrev rmX10_set : Room := { frames := 2, cells := 0, slots := 0, locals := 42 }
theorem in_X10_set_X10 : ∀ w ∈ wsX100, w ∈ wsX10_set := by decide +kernel
theorem w_X10_set_f7 : Cond.fieldLink RX10 7 "DeltaNightsModel" "data" "[I" ∈ wsX10_set := by decide +kernel
set_option maxHeartbeats 4000000 in
set_option maxRecDepth 100000 in
theorem ct_X10_set (l : Launch) (g : GG) (sz0 : Nat) (ad : Nat → Nat) (hA : ADok ad) {h h0 : AH} {mthrown mnights mbits mleast mmost mroom mreserve mmount mspeed : Int} {mdata msize mends mmany mkind mchain mholds mbid mbound mcheap mpromised mcoin mpaid mowed mturn misAsking mwant mcost misServed mitsRow mitsChunk : Int → Int} (hM : MW g ad h0 mthrown mdata msize mends mmany mkind mchain mholds mnights mbits mleast mmost mroom mreserve mmount mspeed mbid mbound mcheap mpromised mcoin mpaid mowed mturn misAsking mwant mcost misServed mitsRow mitsChunk h) (x k b : Int) (qx : -2147483648 ≤ x ∧ x < 2147483648) (qk : -2147483648 ≤ k ∧ k < 2147483648) (qb : -2147483648 ≤ b ∧ b < 2147483648) (hs : ∀ z : Int, 0 ≤ z ∧ z ≤ 3 → 0 ≤ msize (240 + z) ∧ msize (240 + z) ≤ 48) : CT l yX10_set wsX10_set rmX10_set g sz0 [.ref (ad 0), .int (iI (x)), .int (iI (k)), .int (iI (b))] h (fun v h' => ∃ r : Int, v = some (.int (iI r)) ∧ (¬ tSet x k b (msize (240 + x)) = 0 → r = 0 ∧ MW g ad h0 (tSet x k b (msize (240 + x))) mdata msize mends mmany mkind mchain mholds mnights mbits mleast mmost mroom mreserve mmount mspeed mbid mbound mcheap mpromised mcoin mpaid mowed mturn misAsking mwant mcost misServed mitsRow mitsChunk h') ∧ (tSet x k b (msize (240 + x)) = 0 → r = mdata (48 * (240 + x) + k) ∧ MW g ad h0 0 (upZ mdata (48 * (240 + x) + k) b) msize mends mmany mkind mchain mholds mnights mbits mleast mmost mroom mreserve mmount mspeed mbid mbound mcheap mpromised mcoin mpaid mowed mturn misAsking mwant mcost misServed mitsRow mitsChunk h')) := by
  refine CT.of (by decide +kernel) rfl [some (.ref (ad 0)), some (.int (iI (x))), some (.int (iI (k))), some (.int (iI (b))), none, none] rfl (Nat.le_of_ble_eq_true rfl) ?_
  intro p e s m args below meth c B hr hlk hnm
  refine r_iload_n B dX10_set_0 rfl ?_
  refine r_callS (n := 1) B dX10_set_1 (ct_X10_isClient l g sz0 _ (by omega)) gX10_set_X10_isClient rfl (by decide +kernel) ⟨Nat.le_of_ble_eq_true rfl, Nat.le_of_ble_eq_true rfl⟩ rfl rfl (Nat.le_of_ble_eq_true rfl) (Nat.le_of_ble_eq_true rfl) (Nat.le_of_ble_eq_true rfl) (fun v h' hp => ?_)
  obtain ⟨hv, hh⟩ := hp
  subst v
  subst h'
  dsimp only [Option.toList, List.cons_append, List.nil_append]
  refine r_istore B dX10_set_4 (by decide) (lcat_v rfl rfl) ?_
  refine r_aload_n B dX10_set_6 rfl rfl ?_
  refine r_iload B dX10_set_7 rfl ?_
  refine r_if_eq B dX10_set_9 (tgt := 19) (by decide) (bI_rng _) (fun c9 => ?_) (fun c9 => ?_)
  · replace c9 := bI_0.mp c9
    refine r_iconst B dX10_set_19 ?_
    refine r_goto B dX10_set_20 (tgt := 43) (by decide) ?_
    refine r_callV (n := 1) B dX10_set_43 (ct_X10_isFine l g sz0 ad hA hM _ (by omega)) gX10_set_X10_isFine rfl (by decide +kernel) ⟨Nat.le_of_ble_eq_true rfl, Nat.le_of_ble_eq_true rfl⟩ hM.obj rfl rfl rfl (Nat.le_of_ble_eq_true rfl) (Nat.le_of_ble_eq_true rfl) (Nat.le_of_ble_eq_true rfl) (fun v h hp => ?_)
    obtain ⟨hv, hM⟩ := hp
    subst v
    dsimp only [Option.toList, List.cons_append, List.nil_append]
    refine r_if_ne B dX10_set_46 (tgt := 51) (by decide) (bI_rng _) (fun c46 => ?_) (fun c46 => ?_)
    · replace c46 := bI_n0.mp c46
      exact absurd c46 (by decide)
    · replace c46 := bI_0.mp c46
      refine r_iconst B dX10_set_49 ?_
      exact r_iret B hr hlk dX10_set_50 (Nat.le_of_ble_eq_true rfl) (Nat.le_of_ble_eq_true rfl) (by
    have hT : tSet x k b (msize (240 + x)) = 1 := by
      unfold tSet
      (repeat' split) <;> omega
    exact ⟨_, rfl, fun _ => ⟨rfl, by rw [hT]; exact hM⟩, fun h9 => absurd (hT.symm.trans h9) (by decide)⟩)
  · replace c9 := bI_n0.mp c9
    refine r_iload_n B dX10_set_12 rfl ?_
    refine r_callS (n := 1) B dX10_set_13 (ct_X10_isByte l g sz0 _ (by omega)) gX10_set_X10_isByte rfl (by decide +kernel) ⟨Nat.le_of_ble_eq_true rfl, Nat.le_of_ble_eq_true rfl⟩ rfl rfl (Nat.le_of_ble_eq_true rfl) (Nat.le_of_ble_eq_true rfl) (Nat.le_of_ble_eq_true rfl) (fun v h' hp => ?_)
    obtain ⟨hv, hh⟩ := hp
    subst v
    subst h'
    dsimp only [Option.toList, List.cons_append, List.nil_append]
    refine r_if_ne B dX10_set_16 (tgt := 23) (by decide) (bI_rng _) (fun c16 => ?_) (fun c16 => ?_)
    · replace c16 := bI_n0.mp c16
      have hsx := hs x (by omega)
      refine r_iload_n B dX10_set_23 rfl ?_
      refine r_iconst B dX10_set_24 ?_
      refine r_aload_n B dX10_set_25 rfl rfl ?_
      refine r_iload_n B dX10_set_26 rfl ?_
      refine r_callV (n := 1) B dX10_set_27 (ct_X10_length0 l g sz0 ad hA hM _ (by omega)) gX10_set_X10_length0 rfl (by decide +kernel) ⟨Nat.le_of_ble_eq_true rfl, Nat.le_of_ble_eq_true rfl⟩ hM.obj rfl rfl rfl (Nat.le_of_ble_eq_true rfl) (Nat.le_of_ble_eq_true rfl) (Nat.le_of_ble_eq_true rfl) (fun v h' hp => ?_)
      obtain ⟨hv, hh⟩ := hp
      subst v
      subst h'
      dsimp only [Option.toList, List.cons_append, List.nil_append]
      refine r_iconst B dX10_set_30 ?_
      refine r_isub B dX10_set_31 ?_
      refine r_callS (n := 3) B dX10_set_32 (ct_X10_isIn l g sz0 _ _ _ (by omega) (by omega) (by omega)) gX10_set_X10_isIn rfl (by decide +kernel) ⟨Nat.le_of_ble_eq_true rfl, Nat.le_of_ble_eq_true rfl⟩ rfl rfl (Nat.le_of_ble_eq_true rfl) (Nat.le_of_ble_eq_true rfl) (Nat.le_of_ble_eq_true rfl) (fun v h' hp => ?_)
      obtain ⟨hv, hh⟩ := hp
      subst v
      subst h'
      dsimp only [Option.toList, List.cons_append, List.nil_append]
      refine r_if_ne B dX10_set_35 (tgt := 42) (by decide) (bI_rng _) (fun c35 => ?_) (fun c35 => ?_)
      · replace c35 := bI_n0.mp c35
        refine r_iconst B dX10_set_42 ?_
        refine r_callV (n := 1) B dX10_set_43 (ct_X10_isFine l g sz0 ad hA hM _ (by omega)) gX10_set_X10_isFine rfl (by decide +kernel) ⟨Nat.le_of_ble_eq_true rfl, Nat.le_of_ble_eq_true rfl⟩ hM.obj rfl rfl rfl (Nat.le_of_ble_eq_true rfl) (Nat.le_of_ble_eq_true rfl) (Nat.le_of_ble_eq_true rfl) (fun v h hp => ?_)
        obtain ⟨hv, hM⟩ := hp
        subst v
        dsimp only [Option.toList, List.cons_append, List.nil_append]
        refine r_if_ne B dX10_set_46 (tgt := 51) (by decide) (bI_rng _) (fun c46 => ?_) (fun c46 => ?_)
        · replace c46 := bI_n0.mp c46
          refine r_aload_n B dX10_set_51 rfl rfl ?_
          refine r_sipush B dX10_set_52 (by decide) ?_
          refine r_iload_n B dX10_set_55 rfl ?_
          refine r_iadd B dX10_set_56 ?_
          refine r_iload_n B dX10_set_57 rfl ?_
          refine r_callV (n := 2) B dX10_set_58 (ct_X10_at0 l g sz0 ad hA hM _ _ (by omega)) gX10_set_X10_at0 rfl (by decide +kernel) ⟨Nat.le_of_ble_eq_true rfl, Nat.le_of_ble_eq_true rfl⟩ hM.obj rfl rfl rfl (Nat.le_of_ble_eq_true rfl) (Nat.le_of_ble_eq_true rfl) (Nat.le_of_ble_eq_true rfl) (fun v h' hp => ?_)
          obtain ⟨hv, hh⟩ := hp
          subst v
          subst h'
          dsimp only [Option.toList, List.cons_append, List.nil_append]
          refine r_istore B dX10_set_61 (by decide) (lcat_v rfl rfl) ?_
          refine r_aload_n B dX10_set_63 rfl rfl ?_
          refine m_get_data B dX10_set_64 in_X10_set_X10 w_X10_set_f7 hM ?_
          refine r_bipush B dX10_set_67 (by decide) ?_
          refine r_sipush B dX10_set_69 (by decide) ?_
          refine r_iload_n B dX10_set_72 rfl ?_
          refine r_iadd B dX10_set_73 ?_
          refine r_imul B dX10_set_74 ?_
          refine r_iload_n B dX10_set_75 rfl ?_
          refine r_iadd B dX10_set_76 ?_
          refine r_iload_n B dX10_set_77 rfl ?_
          refine m_st_data B dX10_set_78 hA hM (by omega) (by omega) (by omega) (fun h hM => ?_)
          refine r_iload B dX10_set_79 rfl ?_
          exact r_iret B hr hlk dX10_set_81 (Nat.le_of_ble_eq_true rfl) (Nat.le_of_ble_eq_true rfl) (by
    have hT : tSet x k b (msize (240 + x)) = 0 := by
      unfold tSet
      (repeat' split) <;> omega
    exact ⟨_, rfl, fun h9 => absurd hT h9, fun _ => ⟨rfl, hM⟩⟩)
        · replace c46 := bI_0.mp c46
          exact absurd c46 (by decide)
      · replace c35 := bI_0.mp c35
        refine r_iconst B dX10_set_38 ?_
        refine r_goto B dX10_set_39 (tgt := 43) (by decide) ?_
        refine r_callV (n := 1) B dX10_set_43 (ct_X10_isFine l g sz0 ad hA hM _ (by omega)) gX10_set_X10_isFine rfl (by decide +kernel) ⟨Nat.le_of_ble_eq_true rfl, Nat.le_of_ble_eq_true rfl⟩ hM.obj rfl rfl rfl (Nat.le_of_ble_eq_true rfl) (Nat.le_of_ble_eq_true rfl) (Nat.le_of_ble_eq_true rfl) (fun v h hp => ?_)
        obtain ⟨hv, hM⟩ := hp
        subst v
        dsimp only [Option.toList, List.cons_append, List.nil_append]
        refine r_if_ne B dX10_set_46 (tgt := 51) (by decide) (bI_rng _) (fun c46 => ?_) (fun c46 => ?_)
        · replace c46 := bI_n0.mp c46
          exact absurd c46 (by decide)
        · replace c46 := bI_0.mp c46
          refine r_iconst B dX10_set_49 ?_
          exact r_iret B hr hlk dX10_set_50 (Nat.le_of_ble_eq_true rfl) (Nat.le_of_ble_eq_true rfl) (by
    have hT : tSet x k b (msize (240 + x)) = 2 := by
      unfold tSet
      (repeat' split) <;> omega
    exact ⟨_, rfl, fun _ => ⟨rfl, by rw [hT]; exact hM⟩, fun h9 => absurd (hT.symm.trans h9) (by decide)⟩)
    · replace c16 := bI_0.mp c16
      refine r_iconst B dX10_set_19 ?_
      refine r_goto B dX10_set_20 (tgt := 43) (by decide) ?_
      refine r_callV (n := 1) B dX10_set_43 (ct_X10_isFine l g sz0 ad hA hM _ (by omega)) gX10_set_X10_isFine rfl (by decide +kernel) ⟨Nat.le_of_ble_eq_true rfl, Nat.le_of_ble_eq_true rfl⟩ hM.obj rfl rfl rfl (Nat.le_of_ble_eq_true rfl) (Nat.le_of_ble_eq_true rfl) (Nat.le_of_ble_eq_true rfl) (fun v h hp => ?_)
      obtain ⟨hv, hM⟩ := hp
      subst v
      dsimp only [Option.toList, List.cons_append, List.nil_append]
      refine r_if_ne B dX10_set_46 (tgt := 51) (by decide) (bI_rng _) (fun c46 => ?_) (fun c46 => ?_)
      · replace c46 := bI_n0.mp c46
        exact absurd c46 (by decide)
      · replace c46 := bI_0.mp c46
        refine r_iconst B dX10_set_49 ?_
        exact r_iret B hr hlk dX10_set_50 (Nat.le_of_ble_eq_true rfl) (Nat.le_of_ble_eq_true rfl) (by
    have hT : tSet x k b (msize (240 + x)) = 1 := by
      unfold tSet
      (repeat' split) <;> omega
    exact ⟨_, rfl, fun _ => ⟨rfl, by rw [hT]; exact hM⟩, fun h9 => absurd (hT.symm.trans h9) (by decide)⟩)
abbrev rmX10_cut : Room := { frames := 2, cells := 0, slots := 0, locals := 44 }
theorem in_X10_cut_X10 : ∀ w ∈ wsX100, w ∈ wsX10_cut := by decide +kernel
theorem w_X10_cut_f13 : Cond.fieldLink RX10 13 "DeltaNightsModel" "size" "[I" ∈ wsX10_cut := by decide +kernel
theorem w_X10_cut_f7 : Cond.fieldLink RX10 7 "DeltaNightsModel" "data" "[I" ∈ wsX10_cut := by decide +kernel
set_option maxHeartbeats 4000000 in
set_option maxRecDepth 100000 in
theorem ct_X10_cut (l : Launch) (g : GG) (sz0 : Nat) (ad : Nat → Nat) (hA : ADok ad) {h h0 : AH} {mthrown mnights mbits mleast mmost mroom mreserve mmount mspeed : Int} {mdata msize mends mmany mkind mchain mholds mbid mbound mcheap mpromised mcoin mpaid mowed mturn misAsking mwant mcost misServed mitsRow mitsChunk : Int → Int} (hM : MW g ad h0 mthrown mdata msize mends mmany mkind mchain mholds mnights mbits mleast mmost mroom mreserve mmount mspeed mbid mbound mcheap mpromised mcoin mpaid mowed mturn misAsking mwant mcost misServed mitsRow mitsChunk h) (x k w : Int) (qx : -2147483648 ≤ x ∧ x < 2147483648) (qk : -2147483648 ≤ k ∧ k < 2147483648) (qw : -2147483648 ≤ w ∧ w < 2147483648) (hs : ∀ z : Int, 0 ≤ z ∧ z ≤ 3 → 0 ≤ msize (240 + z) ∧ msize (240 + z) ≤ 48) : CT l yX10_cut wsX10_cut rmX10_cut g sz0 [.ref (ad 0), .int (iI (x)), .int (iI (k)), .int (iI (w))] h (fun v h' => ∃ r : Int, v = some (.int (iI r)) ∧ (¬ tCut x k w (msize (240 + x)) = 0 → r = 0 ∧ MW g ad h0 (tCut x k w (msize (240 + x))) mdata msize mends mmany mkind mchain mholds mnights mbits mleast mmost mroom mreserve mmount mspeed mbid mbound mcheap mpromised mcoin mpaid mowed mturn misAsking mwant mcost misServed mitsRow mitsChunk h') ∧ (tCut x k w (msize (240 + x)) = 0 → r = msize (240 + x) - w ∧ MW g ad h0 0 (cutF mdata (48 * (240 + x)) k w (msize (240 + x) - w)) (upZ msize (240 + x) (msize (240 + x) - w)) mends mmany mkind mchain mholds mnights mbits mleast mmost mroom mreserve mmount mspeed mbid mbound mcheap mpromised mcoin mpaid mowed mturn misAsking mwant mcost misServed mitsRow mitsChunk h')) := by
  refine CT.of (by decide +kernel) rfl [some (.ref (ad 0)), some (.int (iI (x))), some (.int (iI (k))), some (.int (iI (w))), none, none, none] rfl (Nat.le_of_ble_eq_true rfl) ?_
  intro p e s m args below meth c B hr hlk hnm
  refine r_iload_n B dX10_cut_0 rfl ?_
  refine r_callS (n := 1) B dX10_cut_1 (ct_X10_isClient l g sz0 _ (by omega)) gX10_cut_X10_isClient rfl (by decide +kernel) ⟨Nat.le_of_ble_eq_true rfl, Nat.le_of_ble_eq_true rfl⟩ rfl rfl (Nat.le_of_ble_eq_true rfl) (Nat.le_of_ble_eq_true rfl) (Nat.le_of_ble_eq_true rfl) (fun v h' hp => ?_)
  obtain ⟨hv, hh⟩ := hp
  subst v
  subst h'
  dsimp only [Option.toList, List.cons_append, List.nil_append]
  refine r_istore B dX10_cut_4 (by decide) (lcat_v rfl rfl) ?_
  refine r_aload_n B dX10_cut_6 rfl rfl ?_
  refine r_iload B dX10_cut_7 rfl ?_
  refine r_if_ne B dX10_cut_9 (tgt := 16) (by decide) (bI_rng _) (fun c9 => ?_) (fun c9 => ?_)
  · replace c9 := bI_n0.mp c9
    have hsx := hs x (by omega)
    refine r_aload_n B dX10_cut_16 rfl rfl ?_
    refine r_iload_n B dX10_cut_17 rfl ?_
    refine r_iload_n B dX10_cut_18 rfl ?_
    refine r_iload_n B dX10_cut_19 rfl ?_
    refine r_callV (n := 3) B dX10_cut_20 (ct_X10_has l g sz0 ad hA hM _ _ _ (by omega) (by omega) (by omega) (by omega)) gX10_cut_X10_has rfl (by decide +kernel) ⟨Nat.le_of_ble_eq_true rfl, Nat.le_of_ble_eq_true rfl⟩ hM.obj rfl rfl rfl (Nat.le_of_ble_eq_true rfl) (Nat.le_of_ble_eq_true rfl) (Nat.le_of_ble_eq_true rfl) (fun v h' hp => ?_)
    obtain ⟨hv, hh⟩ := hp
    subst v
    subst h'
    dsimp only [Option.toList, List.cons_append, List.nil_append]
    refine r_if_ne B dX10_cut_23 (tgt := 30) (by decide) (bI_rng _) (fun c23 => ?_) (fun c23 => ?_)
    · replace c23 := bI_n0.mp c23
      refine r_iconst B dX10_cut_30 ?_
      refine r_callV (n := 1) B dX10_cut_31 (ct_X10_isFine l g sz0 ad hA hM _ (by omega)) gX10_cut_X10_isFine rfl (by decide +kernel) ⟨Nat.le_of_ble_eq_true rfl, Nat.le_of_ble_eq_true rfl⟩ hM.obj rfl rfl rfl (Nat.le_of_ble_eq_true rfl) (Nat.le_of_ble_eq_true rfl) (Nat.le_of_ble_eq_true rfl) (fun v h hp => ?_)
      obtain ⟨hv, hM⟩ := hp
      subst v
      dsimp only [Option.toList, List.cons_append, List.nil_append]
      refine r_if_ne B dX10_cut_34 (tgt := 39) (by decide) (bI_rng _) (fun c34 => ?_) (fun c34 => ?_)
      · replace c34 := bI_n0.mp c34
        refine r_sipush B dX10_cut_39 (by decide) ?_
        refine r_iload_n B dX10_cut_42 rfl ?_
        refine r_iadd B dX10_cut_43 ?_
        refine r_istore B dX10_cut_44 (by decide) (lcat_v rfl rfl) ?_
        refine r_aload_n B dX10_cut_46 rfl rfl ?_
        refine m_get_size B dX10_cut_47 in_X10_cut_X10 w_X10_cut_f13 hM ?_
        refine r_iload B dX10_cut_50 rfl ?_
        refine r_dup2 B dX10_cut_52 rfl rfl ?_
        refine m_ld_size B dX10_cut_53 hM (by omega) (by omega) (fun r53 => ?_)
        refine r_iload_n B dX10_cut_54 rfl ?_
        refine r_isub B dX10_cut_55 ?_
        refine m_st_size B dX10_cut_56 hA hM (by omega) (by omega) (by omega) (fun h hM => ?_)
        refine r_iload_n B dX10_cut_57 rfl ?_
        refine r_istore B dX10_cut_58 (by decide) (lcat_v rfl rfl) ?_
        have loop60 : ∀ (nn : Nat) (q : Int) (h : AH), MW g ad h0 0 (cutF mdata (48 * (240 + x)) k w q) (upZ msize (240 + x) (msize (240 + x) - w)) mends mmany mkind mchain mholds mnights mbits mleast mmost mroom mreserve mmount mspeed mbid mbound mcheap mpromised mcoin mpaid mowed mturn misAsking mwant mcost misServed mitsRow mitsChunk h → (k ≤ q ∧ q ≤ msize (240 + x) - w) → (msize (240 + x) - w - q).toNat < nn → WA p l e rmX10_cut s m args below meth c g sz0 7 (MQ below (QQ g sz0 (fun v h' => ∃ r : Int, v = some (.int (iI r)) ∧ (¬ tCut x k w (msize (240 + x)) = 0 → r = 0 ∧ MW g ad h0 (tCut x k w (msize (240 + x))) mdata msize mends mmany mkind mchain mholds mnights mbits mleast mmost mroom mreserve mmount mspeed mbid mbound mcheap mpromised mcoin mpaid mowed mturn misAsking mwant mcost misServed mitsRow mitsChunk h') ∧ (tCut x k w (msize (240 + x)) = 0 → r = msize (240 + x) - w ∧ MW g ad h0 0 (cutF mdata (48 * (240 + x)) k w (msize (240 + x) - w)) (upZ msize (240 + x) (msize (240 + x) - w)) mends mmany mkind mchain mholds mnights mbits mleast mmost mroom mreserve mmount mspeed mbid mbound mcheap mpromised mcoin mpaid mowed mturn misAsking mwant mcost misServed mitsRow mitsChunk h'))) args s rmX10_cut.cells rmX10_cut.slots (A0 sz0)) h 0 0 [some (.ref (ad 0)), some (.int (iI (x))), some (.int (iI (k))), some (.int (iI (w))), none, some (.int (iI (240 + x))), some (.int (iI (q)))] 60 [] := by
          intro nn
          induction nn with
          | zero => intro q h hM i1 hn; exact absurd hn (Nat.not_lt_zero _)
          | succ nn ih =>
            intro q h hM i1 hn
            refine r_iload B dX10_cut_60 rfl ?_
            refine r_aload_n B dX10_cut_62 rfl rfl ?_
            refine m_get_size B dX10_cut_63 in_X10_cut_X10 w_X10_cut_f13 hM ?_
            refine r_iload B dX10_cut_66 rfl ?_
            refine m_ld_size B dX10_cut_68 hM (by omega) (by omega) (fun r68 => ?_)
            refine r_icmp_ge B dX10_cut_69 (tgt := 106) (by decide) (by omega) (by omega) (fun c69 => ?_) (fun c69 => ?_)
            · refine r_aload_n B dX10_cut_106 rfl rfl ?_
              refine m_get_size B dX10_cut_107 in_X10_cut_X10 w_X10_cut_f13 hM ?_
              refine r_iload B dX10_cut_110 rfl ?_
              refine m_ld_size B dX10_cut_112 hM (by omega) (by omega) (fun r112 => ?_)
              exact r_iret B hr hlk dX10_cut_113 (Nat.le_of_ble_eq_true rfl) (Nat.le_of_ble_eq_true rfl) (by
    have hT : tCut x k w (msize (240 + x)) = 0 := by
      unfold tCut
      (repeat' split) <;> omega
    exact ⟨_, rfl, fun h9 => absurd hT h9, fun _ => ⟨by rw [upZ_at], by rw [show msize (240 + x) - w = q by rw [upZ_at] at c69; omega]; rw [show msize (240 + x) - w = q by rw [upZ_at] at c69; omega] at hM; exact hM⟩⟩)
            · rw [upZ_at] at c69
              refine r_aload_n B dX10_cut_72 rfl rfl ?_
              refine m_get_data B dX10_cut_73 in_X10_cut_X10 w_X10_cut_f7 hM ?_
              refine r_bipush B dX10_cut_76 (by decide) ?_
              refine r_iload B dX10_cut_78 rfl ?_
              refine r_imul B dX10_cut_80 ?_
              refine r_iload B dX10_cut_81 rfl ?_
              refine r_iadd B dX10_cut_83 ?_
              refine r_aload_n B dX10_cut_84 rfl rfl ?_
              refine m_get_data B dX10_cut_85 in_X10_cut_X10 w_X10_cut_f7 hM ?_
              refine r_bipush B dX10_cut_88 (by decide) ?_
              refine r_iload B dX10_cut_90 rfl ?_
              refine r_imul B dX10_cut_92 ?_
              refine r_iload B dX10_cut_93 rfl ?_
              refine r_iadd B dX10_cut_95 ?_
              refine r_iload_n B dX10_cut_96 rfl ?_
              refine r_iadd B dX10_cut_97 ?_
              refine m_ld_data B dX10_cut_98 hM (by omega) (by omega) (fun r98 => ?_)
              refine m_st_data B dX10_cut_99 hA hM (by omega) (by omega) (by omega) (fun h hM => ?_)
              refine r_iinc B dX10_cut_100 rfl (by decide) (lcat_v rfl rfl) ?_
              refine r_goto B dX10_cut_103 (tgt := 60) (by decide) ?_
              exact r_lv (lvLe_s rfl (lvLe_s rfl (lvLe_s rfl (lvLe_s rfl (lvLe_n (lvLe_s rfl (lvLe_s rfl lvLe_nil))))))) (ih (q + 1) h (by rw [← cutF_s _ _ _ _ i1.1 (by omega)]; exact hM) (by omega) (by omega))
        exact r_lv (lvLe_s rfl (lvLe_s rfl (lvLe_s rfl (lvLe_s rfl (lvLe_n (lvLe_s rfl (lvLe_s rfl lvLe_nil))))))) (loop60 _ k h (by rw [cutF_0]; exact hM) (by omega) (Nat.lt_succ_self _))
      · replace c34 := bI_0.mp c34
        exact absurd c34 (by decide)
    · replace c23 := bI_0.mp c23
      refine r_iconst B dX10_cut_26 ?_
      refine r_goto B dX10_cut_27 (tgt := 31) (by decide) ?_
      refine r_callV (n := 1) B dX10_cut_31 (ct_X10_isFine l g sz0 ad hA hM _ (by omega)) gX10_cut_X10_isFine rfl (by decide +kernel) ⟨Nat.le_of_ble_eq_true rfl, Nat.le_of_ble_eq_true rfl⟩ hM.obj rfl rfl rfl (Nat.le_of_ble_eq_true rfl) (Nat.le_of_ble_eq_true rfl) (Nat.le_of_ble_eq_true rfl) (fun v h hp => ?_)
      obtain ⟨hv, hM⟩ := hp
      subst v
      dsimp only [Option.toList, List.cons_append, List.nil_append]
      refine r_if_ne B dX10_cut_34 (tgt := 39) (by decide) (bI_rng _) (fun c34 => ?_) (fun c34 => ?_)
      · replace c34 := bI_n0.mp c34
        exact absurd c34 (by decide)
      · replace c34 := bI_0.mp c34
        refine r_iconst B dX10_cut_37 ?_
        exact r_iret B hr hlk dX10_cut_38 (Nat.le_of_ble_eq_true rfl) (Nat.le_of_ble_eq_true rfl) (by
    have hT : tCut x k w (msize (240 + x)) = 2 := by
      unfold tCut
      (repeat' split) <;> omega
    exact ⟨_, rfl, fun _ => ⟨rfl, by rw [hT]; exact hM⟩, fun h9 => absurd (hT.symm.trans h9) (by decide)⟩)
  · replace c9 := bI_0.mp c9
    refine r_iconst B dX10_cut_12 ?_
    refine r_goto B dX10_cut_13 (tgt := 31) (by decide) ?_
    refine r_callV (n := 1) B dX10_cut_31 (ct_X10_isFine l g sz0 ad hA hM _ (by omega)) gX10_cut_X10_isFine rfl (by decide +kernel) ⟨Nat.le_of_ble_eq_true rfl, Nat.le_of_ble_eq_true rfl⟩ hM.obj rfl rfl rfl (Nat.le_of_ble_eq_true rfl) (Nat.le_of_ble_eq_true rfl) (Nat.le_of_ble_eq_true rfl) (fun v h hp => ?_)
    obtain ⟨hv, hM⟩ := hp
    subst v
    dsimp only [Option.toList, List.cons_append, List.nil_append]
    refine r_if_ne B dX10_cut_34 (tgt := 39) (by decide) (bI_rng _) (fun c34 => ?_) (fun c34 => ?_)
    · replace c34 := bI_n0.mp c34
      exact absurd c34 (by decide)
    · replace c34 := bI_0.mp c34
      refine r_iconst B dX10_cut_37 ?_
      exact r_iret B hr hlk dX10_cut_38 (Nat.le_of_ble_eq_true rfl) (Nat.le_of_ble_eq_true rfl) (by
    have hT : tCut x k w (msize (240 + x)) = 1 := by
      unfold tCut
      (repeat' split) <;> omega
    exact ⟨_, rfl, fun _ => ⟨rfl, by rw [hT]; exact hM⟩, fun h9 => absurd (hT.symm.trans h9) (by decide)⟩)
abbrev rmX10_copy : Room := { frames := 2, cells := 0, slots := 0, locals := 44 }
theorem in_X10_copy_X10 : ∀ w ∈ wsX100, w ∈ wsX10_copy := by decide +kernel
theorem w_X10_copy_f13 : Cond.fieldLink RX10 13 "DeltaNightsModel" "size" "[I" ∈ wsX10_copy := by decide +kernel
theorem w_X10_copy_f7 : Cond.fieldLink RX10 7 "DeltaNightsModel" "data" "[I" ∈ wsX10_copy := by decide +kernel
set_option maxHeartbeats 4000000 in
set_option maxRecDepth 100000 in
theorem ct_X10_copy (l : Launch) (g : GG) (sz0 : Nat) (ad : Nat → Nat) (hA : ADok ad) {h h0 : AH} {mthrown mnights mbits mleast mmost mroom mreserve mmount mspeed : Int} {mdata msize mends mmany mkind mchain mholds mbid mbound mcheap mpromised mcoin mpaid mowed mturn misAsking mwant mcost misServed mitsRow mitsChunk : Int → Int} (hM : MW g ad h0 mthrown mdata msize mends mmany mkind mchain mholds mnights mbits mleast mmost mroom mreserve mmount mspeed mbid mbound mcheap mpromised mcoin mpaid mowed mturn misAsking mwant mcost misServed mitsRow mitsChunk h) (x k w y : Int) (qx : -2147483648 ≤ x ∧ x < 2147483648) (qk : -2147483648 ≤ k ∧ k < 2147483648) (qw : -2147483648 ≤ w ∧ w < 2147483648) (qy : -2147483648 ≤ y ∧ y < 2147483648) (hs : ∀ z : Int, 0 ≤ z ∧ z ≤ 3 → 0 ≤ msize (240 + z) ∧ msize (240 + z) ≤ 48) : CT l yX10_copy wsX10_copy rmX10_copy g sz0 [.ref (ad 0), .int (iI (x)), .int (iI (k)), .int (iI (w)), .int (iI (y))] h (fun v h' => ∃ r : Int, v = some (.int (iI r)) ∧ (¬ tCopy x k w y (msize (240 + x)) (msize (240 + y)) = 0 → r = 0 ∧ MW g ad h0 (tCopy x k w y (msize (240 + x)) (msize (240 + y))) mdata msize mends mmany mkind mchain mholds mnights mbits mleast mmost mroom mreserve mmount mspeed mbid mbound mcheap mpromised mcoin mpaid mowed mturn misAsking mwant mcost misServed mitsRow mitsChunk h') ∧ (tCopy x k w y (msize (240 + x)) (msize (240 + y)) = 0 → r = msize (240 + y) + w ∧ MW g ad h0 0 (cpyF mdata (48 * (240 + y) + msize (240 + y)) (48 * (240 + x) + k) w) (upZ msize (240 + y) (msize (240 + y) + w)) mends mmany mkind mchain mholds mnights mbits mleast mmost mroom mreserve mmount mspeed mbid mbound mcheap mpromised mcoin mpaid mowed mturn misAsking mwant mcost misServed mitsRow mitsChunk h')) := by
  refine CT.of (by decide +kernel) rfl [some (.ref (ad 0)), some (.int (iI (x))), some (.int (iI (k))), some (.int (iI (w))), some (.int (iI (y))), none, none, none, none] rfl (Nat.le_of_ble_eq_true rfl) ?_
  intro p e s m args below meth c B hr hlk hnm
  refine r_iload_n B dX10_copy_0 rfl ?_
  refine r_callS (n := 1) B dX10_copy_1 (ct_X10_isClient l g sz0 _ (by omega)) gX10_copy_X10_isClient rfl (by decide +kernel) ⟨Nat.le_of_ble_eq_true rfl, Nat.le_of_ble_eq_true rfl⟩ rfl rfl (Nat.le_of_ble_eq_true rfl) (Nat.le_of_ble_eq_true rfl) (Nat.le_of_ble_eq_true rfl) (fun v h' hp => ?_)
  obtain ⟨hv, hh⟩ := hp
  subst v
  subst h'
  dsimp only [Option.toList, List.cons_append, List.nil_append]
  refine r_if_eq B dX10_copy_4 (tgt := 19) (by decide) (bI_rng _) (fun c4 => ?_) (fun c4 => ?_)
  · replace c4 := bI_0.mp c4
    refine r_iconst B dX10_copy_19 ?_
    refine r_istore B dX10_copy_20 (by decide) (lcat_v rfl rfl) ?_
    refine r_aload_n B dX10_copy_22 rfl rfl ?_
    refine r_iload B dX10_copy_23 rfl ?_
    refine r_if_ne B dX10_copy_25 (tgt := 32) (by decide) (by omega) (fun c25 => ?_) (fun c25 => ?_)
    · exact absurd c25 (by decide)
    · refine r_iconst B dX10_copy_28 ?_
      refine r_goto B dX10_copy_29 (tgt := 64) (by decide) ?_
      refine r_callV (n := 1) B dX10_copy_64 (ct_X10_isFine l g sz0 ad hA hM _ (by omega)) gX10_copy_X10_isFine rfl (by decide +kernel) ⟨Nat.le_of_ble_eq_true rfl, Nat.le_of_ble_eq_true rfl⟩ hM.obj rfl rfl rfl (Nat.le_of_ble_eq_true rfl) (Nat.le_of_ble_eq_true rfl) (Nat.le_of_ble_eq_true rfl) (fun v h hp => ?_)
      obtain ⟨hv, hM⟩ := hp
      subst v
      dsimp only [Option.toList, List.cons_append, List.nil_append]
      refine r_if_ne B dX10_copy_67 (tgt := 72) (by decide) (bI_rng _) (fun c67 => ?_) (fun c67 => ?_)
      · replace c67 := bI_n0.mp c67
        exact absurd c67 (by decide)
      · replace c67 := bI_0.mp c67
        refine r_iconst B dX10_copy_70 ?_
        exact r_iret B hr hlk dX10_copy_71 (Nat.le_of_ble_eq_true rfl) (Nat.le_of_ble_eq_true rfl) (by
    have hT : tCopy x k w y (msize (240 + x)) (msize (240 + y)) = 1 := by
      unfold tCopy
      (repeat' split) <;> omega
    exact ⟨_, rfl, fun _ => ⟨rfl, by rw [hT]; exact hM⟩, fun h9 => absurd (hT.symm.trans h9) (by decide)⟩)
  · replace c4 := bI_n0.mp c4
    refine r_iload B dX10_copy_7 rfl ?_
    refine r_callS (n := 1) B dX10_copy_9 (ct_X10_isClient l g sz0 _ (by omega)) gX10_copy_X10_isClient rfl (by decide +kernel) ⟨Nat.le_of_ble_eq_true rfl, Nat.le_of_ble_eq_true rfl⟩ rfl rfl (Nat.le_of_ble_eq_true rfl) (Nat.le_of_ble_eq_true rfl) (Nat.le_of_ble_eq_true rfl) (fun v h' hp => ?_)
    obtain ⟨hv, hh⟩ := hp
    subst v
    subst h'
    dsimp only [Option.toList, List.cons_append, List.nil_append]
    refine r_if_eq B dX10_copy_12 (tgt := 19) (by decide) (bI_rng _) (fun c12 => ?_) (fun c12 => ?_)
    · replace c12 := bI_0.mp c12
      refine r_iconst B dX10_copy_19 ?_
      refine r_istore B dX10_copy_20 (by decide) (lcat_v rfl rfl) ?_
      refine r_aload_n B dX10_copy_22 rfl rfl ?_
      refine r_iload B dX10_copy_23 rfl ?_
      refine r_if_ne B dX10_copy_25 (tgt := 32) (by decide) (by omega) (fun c25 => ?_) (fun c25 => ?_)
      · exact absurd c25 (by decide)
      · refine r_iconst B dX10_copy_28 ?_
        refine r_goto B dX10_copy_29 (tgt := 64) (by decide) ?_
        refine r_callV (n := 1) B dX10_copy_64 (ct_X10_isFine l g sz0 ad hA hM _ (by omega)) gX10_copy_X10_isFine rfl (by decide +kernel) ⟨Nat.le_of_ble_eq_true rfl, Nat.le_of_ble_eq_true rfl⟩ hM.obj rfl rfl rfl (Nat.le_of_ble_eq_true rfl) (Nat.le_of_ble_eq_true rfl) (Nat.le_of_ble_eq_true rfl) (fun v h hp => ?_)
        obtain ⟨hv, hM⟩ := hp
        subst v
        dsimp only [Option.toList, List.cons_append, List.nil_append]
        refine r_if_ne B dX10_copy_67 (tgt := 72) (by decide) (bI_rng _) (fun c67 => ?_) (fun c67 => ?_)
        · replace c67 := bI_n0.mp c67
          exact absurd c67 (by decide)
        · replace c67 := bI_0.mp c67
          refine r_iconst B dX10_copy_70 ?_
          exact r_iret B hr hlk dX10_copy_71 (Nat.le_of_ble_eq_true rfl) (Nat.le_of_ble_eq_true rfl) (by
    have hT : tCopy x k w y (msize (240 + x)) (msize (240 + y)) = 1 := by
      unfold tCopy
      (repeat' split) <;> omega
    exact ⟨_, rfl, fun _ => ⟨rfl, by rw [hT]; exact hM⟩, fun h9 => absurd (hT.symm.trans h9) (by decide)⟩)
    · replace c12 := bI_n0.mp c12
      refine r_iconst B dX10_copy_15 ?_
      refine r_goto B dX10_copy_16 (tgt := 20) (by decide) ?_
      refine r_istore B dX10_copy_20 (by decide) (lcat_v rfl rfl) ?_
      refine r_aload_n B dX10_copy_22 rfl rfl ?_
      refine r_iload B dX10_copy_23 rfl ?_
      refine r_if_ne B dX10_copy_25 (tgt := 32) (by decide) (by omega) (fun c25 => ?_) (fun c25 => ?_)
      · have hsx := hs x (by omega)
        have hsy := hs y (by omega)
        refine r_aload_n B dX10_copy_32 rfl rfl ?_
        refine r_iload_n B dX10_copy_33 rfl ?_
        refine r_iload_n B dX10_copy_34 rfl ?_
        refine r_iload_n B dX10_copy_35 rfl ?_
        refine r_callV (n := 3) B dX10_copy_36 (ct_X10_has l g sz0 ad hA hM _ _ _ (by omega) (by omega) (by omega) (by omega)) gX10_copy_X10_has rfl (by decide +kernel) ⟨Nat.le_of_ble_eq_true rfl, Nat.le_of_ble_eq_true rfl⟩ hM.obj rfl rfl rfl (Nat.le_of_ble_eq_true rfl) (Nat.le_of_ble_eq_true rfl) (Nat.le_of_ble_eq_true rfl) (fun v h' hp => ?_)
        obtain ⟨hv, hh⟩ := hp
        subst v
        subst h'
        dsimp only [Option.toList, List.cons_append, List.nil_append]
        refine r_if_ne B dX10_copy_39 (tgt := 46) (by decide) (bI_rng _) (fun c39 => ?_) (fun c39 => ?_)
        · replace c39 := bI_n0.mp c39
          refine r_aload_n B dX10_copy_46 rfl rfl ?_
          refine r_iload B dX10_copy_47 rfl ?_
          refine r_callV (n := 1) B dX10_copy_49 (ct_X10_length0 l g sz0 ad hA hM _ (by omega)) gX10_copy_X10_length0 rfl (by decide +kernel) ⟨Nat.le_of_ble_eq_true rfl, Nat.le_of_ble_eq_true rfl⟩ hM.obj rfl rfl rfl (Nat.le_of_ble_eq_true rfl) (Nat.le_of_ble_eq_true rfl) (Nat.le_of_ble_eq_true rfl) (fun v h' hp => ?_)
          obtain ⟨hv, hh⟩ := hp
          subst v
          subst h'
          dsimp only [Option.toList, List.cons_append, List.nil_append]
          refine r_iload_n B dX10_copy_52 rfl ?_
          refine r_iadd B dX10_copy_53 ?_
          refine r_bipush B dX10_copy_54 (by decide) ?_
          refine r_icmp_le B dX10_copy_56 (tgt := 63) (by decide) (by omega) (by omega) (fun c56 => ?_) (fun c56 => ?_)
          · refine r_iconst B dX10_copy_63 ?_
            refine r_callV (n := 1) B dX10_copy_64 (ct_X10_isFine l g sz0 ad hA hM _ (by omega)) gX10_copy_X10_isFine rfl (by decide +kernel) ⟨Nat.le_of_ble_eq_true rfl, Nat.le_of_ble_eq_true rfl⟩ hM.obj rfl rfl rfl (Nat.le_of_ble_eq_true rfl) (Nat.le_of_ble_eq_true rfl) (Nat.le_of_ble_eq_true rfl) (fun v h hp => ?_)
            obtain ⟨hv, hM⟩ := hp
            subst v
            dsimp only [Option.toList, List.cons_append, List.nil_append]
            refine r_if_ne B dX10_copy_67 (tgt := 72) (by decide) (bI_rng _) (fun c67 => ?_) (fun c67 => ?_)
            · replace c67 := bI_n0.mp c67
              refine r_sipush B dX10_copy_72 (by decide) ?_
              refine r_iload B dX10_copy_75 rfl ?_
              refine r_iadd B dX10_copy_77 ?_
              refine r_istore B dX10_copy_78 (by decide) (lcat_v rfl rfl) ?_
              refine r_aload_n B dX10_copy_80 rfl rfl ?_
              refine m_get_size B dX10_copy_81 in_X10_copy_X10 w_X10_copy_f13 hM ?_
              refine r_iload B dX10_copy_84 rfl ?_
              refine m_ld_size B dX10_copy_86 hM (by omega) (by omega) (fun r86 => ?_)
              refine r_istore B dX10_copy_87 (by decide) (lcat_v rfl rfl) ?_
              refine r_iconst B dX10_copy_89 ?_
              refine r_istore B dX10_copy_90 (by decide) (lcat_v rfl rfl) ?_
              have loop92 : ∀ (nn : Nat) (q : Int) (h : AH), MW g ad h0 0 (cpyF mdata (48 * (240 + y) + msize (240 + y)) (48 * (240 + x) + k) q) msize mends mmany mkind mchain mholds mnights mbits mleast mmost mroom mreserve mmount mspeed mbid mbound mcheap mpromised mcoin mpaid mowed mturn misAsking mwant mcost misServed mitsRow mitsChunk h → (0 ≤ q ∧ q ≤ w) → (w - q).toNat < nn → WA p l e rmX10_copy s m args below meth c g sz0 9 (MQ below (QQ g sz0 (fun v h' => ∃ r : Int, v = some (.int (iI r)) ∧ (¬ tCopy x k w y (msize (240 + x)) (msize (240 + y)) = 0 → r = 0 ∧ MW g ad h0 (tCopy x k w y (msize (240 + x)) (msize (240 + y))) mdata msize mends mmany mkind mchain mholds mnights mbits mleast mmost mroom mreserve mmount mspeed mbid mbound mcheap mpromised mcoin mpaid mowed mturn misAsking mwant mcost misServed mitsRow mitsChunk h') ∧ (tCopy x k w y (msize (240 + x)) (msize (240 + y)) = 0 → r = msize (240 + y) + w ∧ MW g ad h0 0 (cpyF mdata (48 * (240 + y) + msize (240 + y)) (48 * (240 + x) + k) w) (upZ msize (240 + y) (msize (240 + y) + w)) mends mmany mkind mchain mholds mnights mbits mleast mmost mroom mreserve mmount mspeed mbid mbound mcheap mpromised mcoin mpaid mowed mturn misAsking mwant mcost misServed mitsRow mitsChunk h'))) args s rmX10_copy.cells rmX10_copy.slots (A0 sz0)) h 0 0 [some (.ref (ad 0)), some (.int (iI (x))), some (.int (iI (k))), some (.int (iI (w))), some (.int (iI (y))), none, some (.int (iI (240 + y))), some (.int (iI (msize (240 + y)))), some (.int (iI (q)))] 92 [] := by
                intro nn
                induction nn with
                | zero => intro q h hM i1 hn; exact absurd hn (Nat.not_lt_zero _)
                | succ nn ih =>
                  intro q h hM i1 hn
                  refine r_iload B dX10_copy_92 rfl ?_
                  refine r_iload_n B dX10_copy_94 rfl ?_
                  refine r_icmp_ge B dX10_copy_95 (tgt := 133) (by decide) (by omega) (by omega) (fun c95 => ?_) (fun c95 => ?_)
                  · refine r_aload_n B dX10_copy_133 rfl rfl ?_
                    refine m_get_size B dX10_copy_134 in_X10_copy_X10 w_X10_copy_f13 hM ?_
                    refine r_iload B dX10_copy_137 rfl ?_
                    refine r_dup2 B dX10_copy_139 rfl rfl ?_
                    refine m_ld_size B dX10_copy_140 hM (by omega) (by omega) (fun r140 => ?_)
                    refine r_iload_n B dX10_copy_141 rfl ?_
                    refine r_iadd B dX10_copy_142 ?_
                    refine m_st_size B dX10_copy_143 hA hM (by omega) (by omega) (by omega) (fun h hM => ?_)
                    refine r_aload_n B dX10_copy_144 rfl rfl ?_
                    refine m_get_size B dX10_copy_145 in_X10_copy_X10 w_X10_copy_f13 hM ?_
                    refine r_iload B dX10_copy_148 rfl ?_
                    refine m_ld_size B dX10_copy_150 hM (by omega) (by omega) (fun r150 => ?_)
                    exact r_iret B hr hlk dX10_copy_151 (Nat.le_of_ble_eq_true rfl) (Nat.le_of_ble_eq_true rfl) (by
    have hT : tCopy x k w y (msize (240 + x)) (msize (240 + y)) = 0 := by
      unfold tCopy
      (repeat' split) <;> omega
    exact ⟨_, rfl, fun h9 => absurd hT h9, fun _ => ⟨by rw [upZ_at], by rw [show w = q by omega]; rw [show w = q by omega] at hM; exact hM⟩⟩)
                  · refine r_aload_n B dX10_copy_98 rfl rfl ?_
                    refine m_get_data B dX10_copy_99 in_X10_copy_X10 w_X10_copy_f7 hM ?_
                    refine r_bipush B dX10_copy_102 (by decide) ?_
                    refine r_iload B dX10_copy_104 rfl ?_
                    refine r_imul B dX10_copy_106 ?_
                    refine r_iload B dX10_copy_107 rfl ?_
                    refine r_iadd B dX10_copy_109 ?_
                    refine r_iload B dX10_copy_110 rfl ?_
                    refine r_iadd B dX10_copy_112 ?_
                    refine r_aload_n B dX10_copy_113 rfl rfl ?_
                    refine r_sipush B dX10_copy_114 (by decide) ?_
                    refine r_iload_n B dX10_copy_117 rfl ?_
                    refine r_iadd B dX10_copy_118 ?_
                    refine r_iload_n B dX10_copy_119 rfl ?_
                    refine r_iload B dX10_copy_120 rfl ?_
                    refine r_iadd B dX10_copy_122 ?_
                    refine r_callV (n := 2) B dX10_copy_123 (ct_X10_at0 l g sz0 ad hA hM _ _ (by omega)) gX10_copy_X10_at0 rfl (by decide +kernel) ⟨Nat.le_of_ble_eq_true rfl, Nat.le_of_ble_eq_true rfl⟩ hM.obj rfl rfl rfl (Nat.le_of_ble_eq_true rfl) (Nat.le_of_ble_eq_true rfl) (Nat.le_of_ble_eq_true rfl) (fun v h' hp => ?_)
                    obtain ⟨hv, hh⟩ := hp
                    subst v
                    subst h'
                    dsimp only [Option.toList, List.cons_append, List.nil_append]
                    have r123 := hM.r_data (48 * (240 + x) + (k + q))
                    refine m_st_data B dX10_copy_126 hA hM (by omega) (by omega) (by omega) (fun h hM => ?_)
                    refine r_iinc B dX10_copy_127 rfl (by decide) (lcat_v rfl rfl) ?_
                    refine r_goto B dX10_copy_130 (tgt := 92) (by decide) ?_
                    have hd : 48 * (240 + x) + k + q < 48 * (240 + y) + msize (240 + y) ∨ 48 * (240 + y) + msize (240 + y) + q ≤ 48 * (240 + x) + k := by
                      rcases (show x = y ∨ x < y ∨ y < x by omega) with z | z | z
                      · rw [← z]; omega
                      · omega
                      · omega
                    exact r_lv (lvLe_s rfl (lvLe_s rfl (lvLe_s rfl (lvLe_s rfl (lvLe_s rfl (lvLe_n (lvLe_s rfl (lvLe_s rfl (lvLe_s rfl lvLe_nil))))))))) (ih (q + 1) h (by rw [← cpyF_s _ _ _ i1.1 hd]; exact (show 48 * (240 + x) + (k + q) = 48 * (240 + x) + k + q by omega) ▸ hM) (by omega) (by omega))
              exact r_lv (lvLe_s rfl (lvLe_s rfl (lvLe_s rfl (lvLe_s rfl (lvLe_s rfl (lvLe_n (lvLe_s rfl (lvLe_s rfl (lvLe_s rfl lvLe_nil))))))))) (loop92 _ 0 h (by rw [cpyF_0]; exact hM) (by omega) (Nat.lt_succ_self _))
            · replace c67 := bI_0.mp c67
              exact absurd c67 (by decide)
          · refine r_iconst B dX10_copy_59 ?_
            refine r_goto B dX10_copy_60 (tgt := 64) (by decide) ?_
            refine r_callV (n := 1) B dX10_copy_64 (ct_X10_isFine l g sz0 ad hA hM _ (by omega)) gX10_copy_X10_isFine rfl (by decide +kernel) ⟨Nat.le_of_ble_eq_true rfl, Nat.le_of_ble_eq_true rfl⟩ hM.obj rfl rfl rfl (Nat.le_of_ble_eq_true rfl) (Nat.le_of_ble_eq_true rfl) (Nat.le_of_ble_eq_true rfl) (fun v h hp => ?_)
            obtain ⟨hv, hM⟩ := hp
            subst v
            dsimp only [Option.toList, List.cons_append, List.nil_append]
            refine r_if_ne B dX10_copy_67 (tgt := 72) (by decide) (bI_rng _) (fun c67 => ?_) (fun c67 => ?_)
            · replace c67 := bI_n0.mp c67
              exact absurd c67 (by decide)
            · replace c67 := bI_0.mp c67
              refine r_iconst B dX10_copy_70 ?_
              exact r_iret B hr hlk dX10_copy_71 (Nat.le_of_ble_eq_true rfl) (Nat.le_of_ble_eq_true rfl) (by
    have hT : tCopy x k w y (msize (240 + x)) (msize (240 + y)) = 3 := by
      unfold tCopy
      (repeat' split) <;> omega
    exact ⟨_, rfl, fun _ => ⟨rfl, by rw [hT]; exact hM⟩, fun h9 => absurd (hT.symm.trans h9) (by decide)⟩)
        · replace c39 := bI_0.mp c39
          refine r_iconst B dX10_copy_42 ?_
          refine r_goto B dX10_copy_43 (tgt := 64) (by decide) ?_
          refine r_callV (n := 1) B dX10_copy_64 (ct_X10_isFine l g sz0 ad hA hM _ (by omega)) gX10_copy_X10_isFine rfl (by decide +kernel) ⟨Nat.le_of_ble_eq_true rfl, Nat.le_of_ble_eq_true rfl⟩ hM.obj rfl rfl rfl (Nat.le_of_ble_eq_true rfl) (Nat.le_of_ble_eq_true rfl) (Nat.le_of_ble_eq_true rfl) (fun v h hp => ?_)
          obtain ⟨hv, hM⟩ := hp
          subst v
          dsimp only [Option.toList, List.cons_append, List.nil_append]
          refine r_if_ne B dX10_copy_67 (tgt := 72) (by decide) (bI_rng _) (fun c67 => ?_) (fun c67 => ?_)
          · replace c67 := bI_n0.mp c67
            exact absurd c67 (by decide)
          · replace c67 := bI_0.mp c67
            refine r_iconst B dX10_copy_70 ?_
            exact r_iret B hr hlk dX10_copy_71 (Nat.le_of_ble_eq_true rfl) (Nat.le_of_ble_eq_true rfl) (by
    have hT : tCopy x k w y (msize (240 + x)) (msize (240 + y)) = 2 := by
      unfold tCopy
      (repeat' split) <;> omega
    exact ⟨_, rfl, fun _ => ⟨rfl, by rw [hT]; exact hM⟩, fun h9 => absurd (hT.symm.trans h9) (by decide)⟩)
      · exact absurd c25 (by decide)
abbrev rmX10_setMarks : Room := { frames := 1, cells := 0, slots := 0, locals := 22 }
theorem in_X10_setMarks_X10 : ∀ w ∈ wsX100, w ∈ wsX10_setMarks := by decide +kernel
theorem w_X10_setMarks_f32 : Cond.fieldLink RX10 32 "DeltaNightsModel" "bits" "I" ∈ wsX10_setMarks := by decide +kernel
theorem w_X10_setMarks_f36 : Cond.fieldLink RX10 36 "DeltaNightsModel" "least" "I" ∈ wsX10_setMarks := by decide +kernel
theorem w_X10_setMarks_f39 : Cond.fieldLink RX10 39 "DeltaNightsModel" "most" "I" ∈ wsX10_setMarks := by decide +kernel
set_option maxHeartbeats 4000000 in
set_option maxRecDepth 100000 in
theorem ct_X10_setMarks (l : Launch) (g : GG) (sz0 : Nat) (ad : Nat → Nat) (hA : ADok ad) {h h0 : AH} {mthrown mnights mbits mleast mmost mroom mreserve mmount mspeed : Int} {mdata msize mends mmany mkind mchain mholds mbid mbound mcheap mpromised mcoin mpaid mowed mturn misAsking mwant mcost misServed mitsRow mitsChunk : Int → Int} (hM : MW g ad h0 mthrown mdata msize mends mmany mkind mchain mholds mnights mbits mleast mmost mroom mreserve mmount mspeed mbid mbound mcheap mpromised mcoin mpaid mowed mturn misAsking mwant mcost misServed mitsRow mitsChunk h) (x y z : Int) (qx : -2147483648 ≤ x ∧ x < 2147483648) (qy : -2147483648 ≤ y ∧ y < 2147483648) (qz : -2147483648 ≤ z ∧ z < 2147483648) : CT l yX10_setMarks wsX10_setMarks rmX10_setMarks g sz0 [.ref (ad 0), .int (iI (x)), .int (iI (y)), .int (iI (z))] h (fun v h' => v = none ∧ (¬ tB ((0 ≤ x ∧ x ≤ 8) ∧ (1 ≤ y ∧ y ≤ 16) ∧ (y ≤ z ∧ z ≤ 24)) = 0 → MW g ad h0 (tB ((0 ≤ x ∧ x ≤ 8) ∧ (1 ≤ y ∧ y ≤ 16) ∧ (y ≤ z ∧ z ≤ 24))) mdata msize mends mmany mkind mchain mholds mnights mbits mleast mmost mroom mreserve mmount mspeed mbid mbound mcheap mpromised mcoin mpaid mowed mturn misAsking mwant mcost misServed mitsRow mitsChunk h') ∧ (tB ((0 ≤ x ∧ x ≤ 8) ∧ (1 ≤ y ∧ y ≤ 16) ∧ (y ≤ z ∧ z ≤ 24)) = 0 → MW g ad h0 0 mdata msize mends mmany mkind mchain mholds mnights x y z mroom mreserve mmount mspeed mbid mbound mcheap mpromised mcoin mpaid mowed mturn misAsking mwant mcost misServed mitsRow mitsChunk h')) := by
  refine CT.of (by decide +kernel) rfl [some (.ref (ad 0)), some (.int (iI (x))), some (.int (iI (y))), some (.int (iI (z)))] rfl (Nat.le_of_ble_eq_true rfl) ?_
  intro p e s m args below meth c B hr hlk hnm
  refine r_aload_n B dX10_setMarks_0 rfl rfl ?_
  refine r_iload_n B dX10_setMarks_1 rfl ?_
  refine r_iconst B dX10_setMarks_2 ?_
  refine r_bipush B dX10_setMarks_3 (by decide) ?_
  refine r_callS (n := 3) B dX10_setMarks_5 (ct_X10_isIn l g sz0 _ _ _ (by omega) (by omega) (by omega)) gX10_setMarks_X10_isIn rfl (by decide +kernel) ⟨Nat.le_of_ble_eq_true rfl, Nat.le_of_ble_eq_true rfl⟩ rfl rfl (Nat.le_of_ble_eq_true rfl) (Nat.le_of_ble_eq_true rfl) (Nat.le_of_ble_eq_true rfl) (fun v h' hp => ?_)
  obtain ⟨hv, hh⟩ := hp
  subst v
  subst h'
  dsimp only [Option.toList, List.cons_append, List.nil_append]
  refine r_if_eq B dX10_setMarks_8 (tgt := 35) (by decide) (bI_rng _) (fun c8 => ?_) (fun c8 => ?_)
  · replace c8 := bI_0.mp c8
    refine r_iconst B dX10_setMarks_35 ?_
    refine r_callV (n := 1) B dX10_setMarks_36 (ct_X10_isFine l g sz0 ad hA hM _ (by omega)) gX10_setMarks_X10_isFine rfl (by decide +kernel) ⟨Nat.le_of_ble_eq_true rfl, Nat.le_of_ble_eq_true rfl⟩ hM.obj rfl rfl rfl (Nat.le_of_ble_eq_true rfl) (Nat.le_of_ble_eq_true rfl) (Nat.le_of_ble_eq_true rfl) (fun v h hp => ?_)
    obtain ⟨hv, hM⟩ := hp
    subst v
    dsimp only [Option.toList, List.cons_append, List.nil_append]
    refine r_if_eq B dX10_setMarks_39 (tgt := 57) (by decide) (bI_rng _) (fun c39 => ?_) (fun c39 => ?_)
    · replace c39 := bI_0.mp c39
      exact r_vret B hr hlk dX10_setMarks_57 (Nat.le_of_ble_eq_true rfl) (Nat.le_of_ble_eq_true rfl) (by
    have hT : tB ((0 ≤ x ∧ x ≤ 8) ∧ (1 ≤ y ∧ y ≤ 16) ∧ (y ≤ z ∧ z ≤ 24)) = 1 := by
      unfold tB
      (repeat' split) <;> omega
    exact ⟨rfl, fun _ => by rw [hT]; exact hM, fun h9 => absurd (hT.symm.trans h9) (by decide)⟩)
    · replace c39 := bI_n0.mp c39
      exact absurd c39 (by decide)
  · replace c8 := bI_n0.mp c8
    refine r_iload_n B dX10_setMarks_11 rfl ?_
    refine r_iconst B dX10_setMarks_12 ?_
    refine r_bipush B dX10_setMarks_13 (by decide) ?_
    refine r_callS (n := 3) B dX10_setMarks_15 (ct_X10_isIn l g sz0 _ _ _ (by omega) (by omega) (by omega)) gX10_setMarks_X10_isIn rfl (by decide +kernel) ⟨Nat.le_of_ble_eq_true rfl, Nat.le_of_ble_eq_true rfl⟩ rfl rfl (Nat.le_of_ble_eq_true rfl) (Nat.le_of_ble_eq_true rfl) (Nat.le_of_ble_eq_true rfl) (fun v h' hp => ?_)
    obtain ⟨hv, hh⟩ := hp
    subst v
    subst h'
    dsimp only [Option.toList, List.cons_append, List.nil_append]
    refine r_if_eq B dX10_setMarks_18 (tgt := 35) (by decide) (bI_rng _) (fun c18 => ?_) (fun c18 => ?_)
    · replace c18 := bI_0.mp c18
      refine r_iconst B dX10_setMarks_35 ?_
      refine r_callV (n := 1) B dX10_setMarks_36 (ct_X10_isFine l g sz0 ad hA hM _ (by omega)) gX10_setMarks_X10_isFine rfl (by decide +kernel) ⟨Nat.le_of_ble_eq_true rfl, Nat.le_of_ble_eq_true rfl⟩ hM.obj rfl rfl rfl (Nat.le_of_ble_eq_true rfl) (Nat.le_of_ble_eq_true rfl) (Nat.le_of_ble_eq_true rfl) (fun v h hp => ?_)
      obtain ⟨hv, hM⟩ := hp
      subst v
      dsimp only [Option.toList, List.cons_append, List.nil_append]
      refine r_if_eq B dX10_setMarks_39 (tgt := 57) (by decide) (bI_rng _) (fun c39 => ?_) (fun c39 => ?_)
      · replace c39 := bI_0.mp c39
        exact r_vret B hr hlk dX10_setMarks_57 (Nat.le_of_ble_eq_true rfl) (Nat.le_of_ble_eq_true rfl) (by
    have hT : tB ((0 ≤ x ∧ x ≤ 8) ∧ (1 ≤ y ∧ y ≤ 16) ∧ (y ≤ z ∧ z ≤ 24)) = 1 := by
      unfold tB
      (repeat' split) <;> omega
    exact ⟨rfl, fun _ => by rw [hT]; exact hM, fun h9 => absurd (hT.symm.trans h9) (by decide)⟩)
      · replace c39 := bI_n0.mp c39
        exact absurd c39 (by decide)
    · replace c18 := bI_n0.mp c18
      refine r_iload_n B dX10_setMarks_21 rfl ?_
      refine r_iload_n B dX10_setMarks_22 rfl ?_
      refine r_bipush B dX10_setMarks_23 (by decide) ?_
      refine r_callS (n := 3) B dX10_setMarks_25 (ct_X10_isIn l g sz0 _ _ _ (by omega) (by omega) (by omega)) gX10_setMarks_X10_isIn rfl (by decide +kernel) ⟨Nat.le_of_ble_eq_true rfl, Nat.le_of_ble_eq_true rfl⟩ rfl rfl (Nat.le_of_ble_eq_true rfl) (Nat.le_of_ble_eq_true rfl) (Nat.le_of_ble_eq_true rfl) (fun v h' hp => ?_)
      obtain ⟨hv, hh⟩ := hp
      subst v
      subst h'
      dsimp only [Option.toList, List.cons_append, List.nil_append]
      refine r_if_eq B dX10_setMarks_28 (tgt := 35) (by decide) (bI_rng _) (fun c28 => ?_) (fun c28 => ?_)
      · replace c28 := bI_0.mp c28
        refine r_iconst B dX10_setMarks_35 ?_
        refine r_callV (n := 1) B dX10_setMarks_36 (ct_X10_isFine l g sz0 ad hA hM _ (by omega)) gX10_setMarks_X10_isFine rfl (by decide +kernel) ⟨Nat.le_of_ble_eq_true rfl, Nat.le_of_ble_eq_true rfl⟩ hM.obj rfl rfl rfl (Nat.le_of_ble_eq_true rfl) (Nat.le_of_ble_eq_true rfl) (Nat.le_of_ble_eq_true rfl) (fun v h hp => ?_)
        obtain ⟨hv, hM⟩ := hp
        subst v
        dsimp only [Option.toList, List.cons_append, List.nil_append]
        refine r_if_eq B dX10_setMarks_39 (tgt := 57) (by decide) (bI_rng _) (fun c39 => ?_) (fun c39 => ?_)
        · replace c39 := bI_0.mp c39
          exact r_vret B hr hlk dX10_setMarks_57 (Nat.le_of_ble_eq_true rfl) (Nat.le_of_ble_eq_true rfl) (by
    have hT : tB ((0 ≤ x ∧ x ≤ 8) ∧ (1 ≤ y ∧ y ≤ 16) ∧ (y ≤ z ∧ z ≤ 24)) = 1 := by
      unfold tB
      (repeat' split) <;> omega
    exact ⟨rfl, fun _ => by rw [hT]; exact hM, fun h9 => absurd (hT.symm.trans h9) (by decide)⟩)
        · replace c39 := bI_n0.mp c39
          exact absurd c39 (by decide)
      · replace c28 := bI_n0.mp c28
        refine r_iconst B dX10_setMarks_31 ?_
        refine r_goto B dX10_setMarks_32 (tgt := 36) (by decide) ?_
        refine r_callV (n := 1) B dX10_setMarks_36 (ct_X10_isFine l g sz0 ad hA hM _ (by omega)) gX10_setMarks_X10_isFine rfl (by decide +kernel) ⟨Nat.le_of_ble_eq_true rfl, Nat.le_of_ble_eq_true rfl⟩ hM.obj rfl rfl rfl (Nat.le_of_ble_eq_true rfl) (Nat.le_of_ble_eq_true rfl) (Nat.le_of_ble_eq_true rfl) (fun v h hp => ?_)
        obtain ⟨hv, hM⟩ := hp
        subst v
        dsimp only [Option.toList, List.cons_append, List.nil_append]
        refine r_if_eq B dX10_setMarks_39 (tgt := 57) (by decide) (bI_rng _) (fun c39 => ?_) (fun c39 => ?_)
        · replace c39 := bI_0.mp c39
          exact absurd c39 (by decide)
        · replace c39 := bI_n0.mp c39
          refine r_aload_n B dX10_setMarks_42 rfl rfl ?_
          refine r_iload_n B dX10_setMarks_43 rfl ?_
          refine m_put_bits B dX10_setMarks_44 in_X10_setMarks_X10 w_X10_setMarks_f32 hA hM (by omega) (fun h hM => ?_)
          refine r_aload_n B dX10_setMarks_47 rfl rfl ?_
          refine r_iload_n B dX10_setMarks_48 rfl ?_
          refine m_put_least B dX10_setMarks_49 in_X10_setMarks_X10 w_X10_setMarks_f36 hA hM (by omega) (fun h hM => ?_)
          refine r_aload_n B dX10_setMarks_52 rfl rfl ?_
          refine r_iload_n B dX10_setMarks_53 rfl ?_
          refine m_put_most B dX10_setMarks_54 in_X10_setMarks_X10 w_X10_setMarks_f39 hA hM (by omega) (fun h hM => ?_)
          exact r_vret B hr hlk dX10_setMarks_57 (Nat.le_of_ble_eq_true rfl) (Nat.le_of_ble_eq_true rfl) (by
    have hT : tB ((0 ≤ x ∧ x ≤ 8) ∧ (1 ≤ y ∧ y ≤ 16) ∧ (y ≤ z ∧ z ≤ 24)) = 0 := by
      unfold tB
      (repeat' split) <;> omega
    exact ⟨rfl, fun h9 => absurd hT h9, fun _ => hM⟩)
