abbrev rmX10_would : Room := { frames := 7, cells := 0, slots := 0, locals := 171 }
theorem in_X10_would_X10 : ∀ w ∈ wsX100, w ∈ wsX10_would := by decide +kernel
theorem w_X10_would_f87 : Cond.fieldLink RX10 87 "DeltaNightsModel" "isServed" "[Z" ∈ wsX10_would := by decide +kernel
theorem w_X10_would_f81 : Cond.fieldLink RX10 81 "DeltaNightsModel" "want" "[I" ∈ wsX10_would := by decide +kernel
set_option maxHeartbeats 4000000 in
set_option maxRecDepth 100000 in
theorem ct_X10_would (l : Launch) (g : GG) (sz0 : Nat) (ad : Nat → Nat) (hA : ADok ad) {h h0 : AH} {mthrown mnights mbits mleast mmost mroom mreserve mmount mspeed : Int} {mdata msize mends mmany mkind mchain mholds mbid mbound mcheap mpromised mcoin mpaid mowed mturn misAsking mwant mcost misServed mitsRow mitsChunk : Int → Int} (hM : MW g ad h0 mthrown mdata msize mends mmany mkind mchain mholds mnights mbits mleast mmost mroom mreserve mmount mspeed mbid mbound mcheap mpromised mcoin mpaid mowed mturn misAsking mwant mcost misServed mitsRow mitsChunk h) (x : Int) (qx : -2147483648 ≤ x ∧ x < 2147483648)(hn0 : 0 ≤ mnights ∧ mnights ≤ 60)(hLK : LKo mends mmany)(hs : ∀ z : Int, 0 ≤ z ∧ z ≤ 3 → 0 ≤ msize (240 + z) ∧ msize (240 + z) ≤ 48)(hrm : 0 ≤ mroom ∧ mroom ≤ 500) : CT l yX10_would wsX10_would rmX10_would g sz0 [.ref (ad 0), .int (iI (x))] h (fun v h' => ∃ r : Int, v = some (.int (iI r)) ∧ (¬ tCl x = 0 → r = 0 ∧ MW g ad h0 (tCl x) mdata msize mends mmany mkind mchain mholds mnights mbits mleast mmost mroom mreserve mmount mspeed mbid mbound mcheap mpromised mcoin mpaid mowed mturn misAsking mwant mcost misServed mitsRow mitsChunk h') ∧ (tCl x = 0 → r = bI (srv (wbP mkind mbound mcheap mnights mreserve) (mNC mkind mnights) (mOT mdata msize mends mmany mkind mnights mbits mleast mmost) (mAK mdata msize mends mmany mkind mbid mbound mcheap mnights mreserve mbits mleast mmost) (mBS mdata msize mbits mleast mmost) (mDF mdata msize mends mmany mkind mchain mholds mnights mbits mleast mmost) x (outL (wbP mkind mbound mcheap mnights mreserve) (mNC mkind mnights) (mOT mdata msize mends mmany mkind mnights mbits mleast mmost) (mAK mdata msize mends mmany mkind mbid mbound mcheap mnights mreserve mbits mleast mmost) (mBS mdata msize mbits mleast mmost) (mDF mdata msize mends mmany mkind mchain mholds mnights mbits mleast mmost) mroom mbid x)) * wnt (wbP mkind mbound mcheap mnights mreserve) (mNC mkind mnights) (mOT mdata msize mends mmany mkind mnights mbits mleast mmost) (mBS mdata msize mbits mleast mmost) x (outL (wbP mkind mbound mcheap mnights mreserve) (mNC mkind mnights) (mOT mdata msize mends mmany mkind mnights mbits mleast mmost) (mAK mdata msize mends mmany mkind mbid mbound mcheap mnights mreserve mbits mleast mmost) (mBS mdata msize mbits mleast mmost) (mDF mdata msize mends mmany mkind mchain mholds mnights mbits mleast mmost) mroom mbid x) ∧ ∃ tt AS WT CS SV e1 m1 : Int → Int, LKe mends mmany e1 m1 ∧ MW g ad h0 0 mdata msize e1 m1 mkind mchain mholds mnights mbits mleast mmost mroom mreserve mmount mspeed mbid mbound mcheap mpromised mcoin mpaid mowed tt AS WT CS SV mitsRow mitsChunk h')) := by
  refine CT.of (by decide +kernel) rfl [some (.ref (ad 0)), some (.int (iI (x)))] rfl (Nat.le_of_ble_eq_true rfl) ?_
  intro p e s m args below meth c B hr hlk hnm
  refine r_aload_n B dX10_would_0 rfl rfl ?_
  refine r_iload_n B dX10_would_1 rfl ?_
  refine r_callS (n := 1) B dX10_would_2 (ct_X10_isClient l g sz0 _ (by omega)) gX10_would_X10_isClient rfl (by decide +kernel) ⟨Nat.le_of_ble_eq_true rfl, Nat.le_of_ble_eq_true rfl⟩ rfl rfl (Nat.le_of_ble_eq_true rfl) (Nat.le_of_ble_eq_true rfl) (Nat.le_of_ble_eq_true rfl) (fun v h' hp => ?_)
  obtain ⟨hv, hh⟩ := hp
  subst v
  subst h'
  dsimp only [Option.toList, List.cons_append, List.nil_append]
  refine r_if_eq B dX10_would_5 (tgt := 12) (by decide) (bI_rng _) (fun c5 => ?_) (fun c5 => ?_)
  · replace c5 := bI_0.mp c5
    refine r_iconst B dX10_would_12 ?_
    refine r_callV (n := 1) B dX10_would_13 (ct_X10_isFine l g sz0 ad hA hM _ (by omega)) gX10_would_X10_isFine rfl (by decide +kernel) ⟨Nat.le_of_ble_eq_true rfl, Nat.le_of_ble_eq_true rfl⟩ hM.obj rfl rfl rfl (Nat.le_of_ble_eq_true rfl) (Nat.le_of_ble_eq_true rfl) (Nat.le_of_ble_eq_true rfl) (fun v h hp => ?_)
    obtain ⟨hv, hM⟩ := hp
    subst v
    dsimp only [Option.toList, List.cons_append, List.nil_append]
    refine r_if_ne B dX10_would_16 (tgt := 21) (by decide) (bI_rng _) (fun c16 => ?_) (fun c16 => ?_)
    · replace c16 := bI_n0.mp c16
      exact absurd c16 (by decide)
    · replace c16 := bI_0.mp c16
      refine r_iconst B dX10_would_19 ?_
      exact r_iret B hr hlk dX10_would_20 (Nat.le_of_ble_eq_true rfl) (Nat.le_of_ble_eq_true rfl) (by
    have hT : tCl x = 1 := by
      unfold tCl
      (repeat' split) <;> omega
    exact ⟨_, rfl, fun _ => ⟨rfl, by rw [hT]; exact hM⟩, fun h9 => absurd (hT.symm.trans h9) (by decide)⟩)
  · replace c5 := bI_n0.mp c5
    refine r_iconst B dX10_would_8 ?_
    refine r_goto B dX10_would_9 (tgt := 13) (by decide) ?_
    refine r_callV (n := 1) B dX10_would_13 (ct_X10_isFine l g sz0 ad hA hM _ (by omega)) gX10_would_X10_isFine rfl (by decide +kernel) ⟨Nat.le_of_ble_eq_true rfl, Nat.le_of_ble_eq_true rfl⟩ hM.obj rfl rfl rfl (Nat.le_of_ble_eq_true rfl) (Nat.le_of_ble_eq_true rfl) (Nat.le_of_ble_eq_true rfl) (fun v h hp => ?_)
    obtain ⟨hv, hM⟩ := hp
    subst v
    dsimp only [Option.toList, List.cons_append, List.nil_append]
    refine r_if_ne B dX10_would_16 (tgt := 21) (by decide) (bI_rng _) (fun c16 => ?_) (fun c16 => ?_)
    · replace c16 := bI_n0.mp c16
      refine r_aload_n B dX10_would_21 rfl rfl ?_
      refine r_callV (n := 0) B dX10_would_22 (ct_X10_goes l g sz0 ad hA hM hn0 hLK hs hrm) gX10_would_X10_goes rfl (by decide +kernel) ⟨Nat.le_of_ble_eq_true rfl, Nat.le_of_ble_eq_true rfl⟩ hM.obj rfl rfl rfl (Nat.le_of_ble_eq_true rfl) (Nat.le_of_ble_eq_true rfl) (Nat.le_of_ble_eq_true rfl) (fun v h hp => ?_)
      obtain ⟨hv, tt, AS, WT, CS, SV, e1, m1, htt, k_e1, hgi, hM⟩ := hp
      subst v
      dsimp only [Option.toList, List.cons_append, List.nil_append]
      have hgo := gI_out htt hgi (c := x) (by omega)
      refine r_aload_n B dX10_would_25 rfl rfl ?_
      refine m_get_isServed B dX10_would_26 in_X10_would_X10 w_X10_would_f87 hM ?_
      refine r_iload_n B dX10_would_29 rfl ?_
      refine m_ld_isServed B dX10_would_30 hM (by omega) (by omega) (fun r30 => ?_)
      refine r_if_eq B dX10_would_31 (tgt := 43) (by decide) (by omega) (fun c31 => ?_) (fun c31 => ?_)
      · refine r_iconst B dX10_would_43 ?_
        exact r_iret B hr hlk dX10_would_44 (Nat.le_of_ble_eq_true rfl) (Nat.le_of_ble_eq_true rfl) (by
    have hT : tCl x = 0 := by
      unfold tCl
      (repeat' split) <;> omega
    exact ⟨_, rfl, fun h9 => absurd hT h9, fun _ => ⟨by rw [bI_f (bI_0.mp (show bI _ = 0 by rw [← hgo.2.2.2]; exact c31))]; omega, tt, AS, WT, CS, SV, e1, m1, k_e1, hM⟩⟩)
      · refine r_aload_n B dX10_would_34 rfl rfl ?_
        refine m_get_want B dX10_would_35 in_X10_would_X10 w_X10_would_f81 hM ?_
        refine r_iload_n B dX10_would_38 rfl ?_
        refine m_ld_want B dX10_would_39 hM (by omega) (by omega) (fun r39 => ?_)
        refine r_goto B dX10_would_40 (tgt := 44) (by decide) ?_
        exact r_iret B hr hlk dX10_would_44 (Nat.le_of_ble_eq_true rfl) (Nat.le_of_ble_eq_true rfl) (by
    have hT : tCl x = 0 := by
      unfold tCl
      (repeat' split) <;> omega
    exact ⟨_, rfl, fun h9 => absurd hT h9, fun _ => ⟨by rw [bI_t (bI_n0.mp (show ¬ bI _ = 0 by rw [← hgo.2.2.2]; exact c31)), hgo.2.1]; omega, tt, AS, WT, CS, SV, e1, m1, k_e1, hM⟩⟩)
    · replace c16 := bI_0.mp c16
      exact absurd c16 (by decide)
abbrev rmX10_links : Room := { frames := 5, cells := 0, slots := 0, locals := 121 }
theorem in_X10_links_X10 : ∀ w ∈ wsX100, w ∈ wsX10_links := by decide +kernel
theorem w_X10_links_f151 : Cond.fieldLink RX10 151 "DeltaNightsModel" "nights" "I" ∈ wsX10_links := by decide +kernel
theorem w_X10_links_f19 : Cond.fieldLink RX10 19 "DeltaNightsModel" "many" "[I" ∈ wsX10_links := by decide +kernel
theorem w_X10_links_f25 : Cond.fieldLink RX10 25 "DeltaNightsModel" "chain" "[I" ∈ wsX10_links := by decide +kernel
theorem w_X10_links_f13 : Cond.fieldLink RX10 13 "DeltaNightsModel" "size" "[I" ∈ wsX10_links := by decide +kernel
theorem w_X10_links_f22 : Cond.fieldLink RX10 22 "DeltaNightsModel" "kind" "[I" ∈ wsX10_links := by decide +kernel
theorem w_X10_links_f81 : Cond.fieldLink RX10 81 "DeltaNightsModel" "want" "[I" ∈ wsX10_links := by decide +kernel
theorem w_X10_links_f7 : Cond.fieldLink RX10 7 "DeltaNightsModel" "data" "[I" ∈ wsX10_links := by decide +kernel
theorem w_X10_links_f16 : Cond.fieldLink RX10 16 "DeltaNightsModel" "ends" "[I" ∈ wsX10_links := by decide +kernel
theorem w_X10_links_f28 : Cond.fieldLink RX10 28 "DeltaNightsModel" "holds" "[Z" ∈ wsX10_links := by decide +kernel
set_option maxHeartbeats 4000000 in
set_option maxRecDepth 100000 in
theorem ct_X10_links (l : Launch) (g : GG) (sz0 : Nat) (ad : Nat → Nat) (hA : ADok ad) {h h0 : AH} {mthrown mnights mbits mleast mmost mroom mreserve mmount mspeed : Int} {mdata msize mends mmany mkind mchain mholds mbid mbound mcheap mpromised mcoin mpaid mowed mturn misAsking mwant mcost misServed mitsRow mitsChunk : Int → Int} (hM : MW g ad h0 mthrown mdata msize mends mmany mkind mchain mholds mnights mbits mleast mmost mroom mreserve mmount mspeed mbid mbound mcheap mpromised mcoin mpaid mowed mturn misAsking mwant mcost misServed mitsRow mitsChunk h) (x : Int) (hx : 0 ≤ x ∧ x ≤ 3) (hsx : 0 ≤ msize (240 + x) ∧ msize (240 + x) ≤ 48)(hn0 : 0 ≤ mnights ∧ mnights ≤ 60) (hn1 : mnights < 60) (hLK : LKo mends mmany)(hw : ¬ mwant x = 1 → ¬ ltN (colF mkind x) mnights.toNat = -1) : CT l yX10_links wsX10_links rmX10_links g sz0 [.ref (ad 0), .int (iI (x))] h (fun v h' => v = none ∧ MW g ad h0 mthrown (cpyF mdata (48 * (60 * x + mnights)) (48 * (240 + x)) 48) (upZ msize (60 * x + mnights) (msize (240 + x))) (cpyF (putRow mends (48 * (240 + x)) (cutR (rowF mdata (240 + x)) (msize (240 + x)) mbits mleast mmost).2.1 (cutR (rowF mdata (240 + x)) (msize (240 + x)) mbits mleast mmost).2.2) (48 * (60 * x + mnights)) (48 * (240 + x)) 48) (upZ (upZ mmany (240 + x) (cutR (rowF mdata (240 + x)) (msize (240 + x)) mbits mleast mmost).2.1) (60 * x + mnights) (cutR (rowF mdata (240 + x)) (msize (240 + x)) mbits mleast mmost).2.1) (upZ mkind (60 * x + mnights) (mwant x)) (upZ mchain (60 * x + mnights) (if mwant x = 1 then mnights else mchain (60 * x + ltN (colF mkind x) mnights.toNat))) (putRow mholds (48 * (60 * x + mnights)) (cutR (rowF mdata (240 + x)) (msize (240 + x)) mbits mleast mmost).2.1 (fun k => bI (fstC (chk (rowF mdata (240 + x)) (cutR (rowF mdata (240 + x)) (msize (240 + x)) mbits mleast mmost).2.2) k ∧ (mwant x = 1 ∨ ¬ inCh mdata mends mmany mkind mchain mholds mnights x (chk (rowF mdata (240 + x)) (cutR (rowF mdata (240 + x)) (msize (240 + x)) mbits mleast mmost).2.2 k))))) mnights mbits mleast mmost mroom mreserve mmount mspeed mbid mbound mcheap mpromised mcoin mpaid mowed mturn misAsking mwant mcost misServed mitsRow mitsChunk h') := by
  refine CT.of (by decide +kernel) rfl [some (.ref (ad 0)), some (.int (iI (x))), none, none, none] rfl (Nat.le_of_ble_eq_true rfl) ?_
  intro p e s m args below meth c B hr hlk hnm
  refine r_aload_n B dX10_links_0 rfl rfl ?_
  refine r_iload_n B dX10_links_1 rfl ?_
  refine r_callV (n := 1) B dX10_links_2 (ct_X10_cuts l g sz0 ad hA hM _ (by omega) hsx) gX10_links_X10_cuts rfl (by decide +kernel) ⟨Nat.le_of_ble_eq_true rfl, Nat.le_of_ble_eq_true rfl⟩ hM.obj rfl rfl rfl (Nat.le_of_ble_eq_true rfl) (Nat.le_of_ble_eq_true rfl) (Nat.le_of_ble_eq_true rfl) (fun v h hp => ?_)
  obtain ⟨hv, hM⟩ := hp
  subst v
  dsimp only [Option.toList, List.cons_append, List.nil_append]
  have hco := cutR_ok (rowF mdata (240 + x)) (b := mbits) (ls := mleast) (ms := mmost) hsx.1 hsx.2
  have hrp : ∀ j : Int, 0 ≤ j → j < (cutR (rowF mdata (240 + x)) (msize (240 + x)) mbits mleast mmost).2.1 → (cutR (rowF mdata (240 + x)) (msize (240 + x)) mbits mleast mmost).2.2 j = (rowF (putRow mends (48 * (240 + x)) (cutR (rowF mdata (240 + x)) (msize (240 + x)) mbits mleast mmost).2.1 (cutR (rowF mdata (240 + x)) (msize (240 + x)) mbits mleast mmost).2.2) (240 + x)) j := fun j j0 j1 => (row_put mends (240 + x) (cutR (rowF mdata (240 + x)) (msize (240 + x)) mbits mleast mmost).2.1 (cutR (rowF mdata (240 + x)) (msize (240 + x)) mbits mleast mmost).2.2 j0 j1).symm
  have hEO : EOK (rowF (putRow mends (48 * (240 + x)) (cutR (rowF mdata (240 + x)) (msize (240 + x)) mbits mleast mmost).2.1 (cutR (rowF mdata (240 + x)) (msize (240 + x)) mbits mleast mmost).2.2) (240 + x)) (cutR (rowF mdata (240 + x)) (msize (240 + x)) mbits mleast mmost).2.1 := EOK_congr hrp hco.2.2
  have hfc : ∀ q : Int, 0 ≤ q → q < (cutR (rowF mdata (240 + x)) (msize (240 + x)) mbits mleast mmost).2.1 → (fstC (chk (rowF mdata (240 + x)) (rowF (putRow mends (48 * (240 + x)) (cutR (rowF mdata (240 + x)) (msize (240 + x)) mbits mleast mmost).2.1 (cutR (rowF mdata (240 + x)) (msize (240 + x)) mbits mleast mmost).2.2) (240 + x))) q ↔ fstC (chk (rowF mdata (240 + x)) (cutR (rowF mdata (240 + x)) (msize (240 + x)) mbits mleast mmost).2.2) q) := fun q q0 q1 => (fst_congr hrp hco.2.2 q0 q1).symm
  have hln : ∀ q : Int, 0 ≤ q → q < (cutR (rowF mdata (240 + x)) (msize (240 + x)) mbits mleast mmost).2.1 → lnF (rowF (putRow mends (48 * (240 + x)) (cutR (rowF mdata (240 + x)) (msize (240 + x)) mbits mleast mmost).2.1 (cutR (rowF mdata (240 + x)) (msize (240 + x)) mbits mleast mmost).2.2) (240 + x)) q = lnF (cutR (rowF mdata (240 + x)) (msize (240 + x)) mbits mleast mmost).2.2 q := fun q q0 q1 => (lnF_congr hrp q0 q1).symm
  have hle := lk_put mends mmany (cutR (rowF mdata (240 + x)) (msize (240 + x)) mbits mleast mmost).2.2 (n := (cutR (rowF mdata (240 + x)) (msize (240 + x)) mbits mleast mmost).2.1) hx.1 (by omega)
  have hlk1 := hLK.e hle
  have hic : ∀ q : Int, 0 ≤ q → q < (cutR (rowF mdata (240 + x)) (msize (240 + x)) mbits mleast mmost).2.1 → (inCh mdata (putRow mends (48 * (240 + x)) (cutR (rowF mdata (240 + x)) (msize (240 + x)) mbits mleast mmost).2.1 (cutR (rowF mdata (240 + x)) (msize (240 + x)) mbits mleast mmost).2.2) (upZ mmany (240 + x) (cutR (rowF mdata (240 + x)) (msize (240 + x)) mbits mleast mmost).2.1) mkind mchain mholds mnights x (chk (rowF mdata (240 + x)) (rowF (putRow mends (48 * (240 + x)) (cutR (rowF mdata (240 + x)) (msize (240 + x)) mbits mleast mmost).2.1 (cutR (rowF mdata (240 + x)) (msize (240 + x)) mbits mleast mmost).2.2) (240 + x)) q) ↔ inCh mdata mends mmany mkind mchain mholds mnights x (chk (rowF mdata (240 + x)) (cutR (rowF mdata (240 + x)) (msize (240 + x)) mbits mleast mmost).2.2 q)) := fun q q0 q1 => by
    rw [← chk_congr (G := (rowF mdata (240 + x))) (G' := (rowF mdata (240 + x))) hrp q0 q1 (hco.2.2 q q0 q1).1 (fun _ _ _ => rfl)]
    exact (inCh_congr hx hn0.2 hLK hle).symm
  have hih : ∀ q k : Int, 0 ≤ q → q ≤ (cutR (rowF mdata (240 + x)) (msize (240 + x)) mbits mleast mmost).2.1 → 0 ≤ k → k < (cutR (rowF mdata (240 + x)) (msize (240 + x)) mbits mleast mmost).2.1 → (inCh mdata (putRow mends (48 * (240 + x)) (cutR (rowF mdata (240 + x)) (msize (240 + x)) mbits mleast mmost).2.1 (cutR (rowF mdata (240 + x)) (msize (240 + x)) mbits mleast mmost).2.2) (upZ mmany (240 + x) (cutR (rowF mdata (240 + x)) (msize (240 + x)) mbits mleast mmost).2.1) mkind mchain (putRow mholds (48 * (60 * x + mnights)) q (fun k => bI (fstC (chk (rowF mdata (240 + x)) (cutR (rowF mdata (240 + x)) (msize (240 + x)) mbits mleast mmost).2.2) k ∧ (mwant x = 1 ∨ ¬ inCh mdata mends mmany mkind mchain mholds mnights x (chk (rowF mdata (240 + x)) (cutR (rowF mdata (240 + x)) (msize (240 + x)) mbits mleast mmost).2.2 k))))) mnights x (chk (rowF mdata (240 + x)) (rowF (putRow mends (48 * (240 + x)) (cutR (rowF mdata (240 + x)) (msize (240 + x)) mbits mleast mmost).2.1 (cutR (rowF mdata (240 + x)) (msize (240 + x)) mbits mleast mmost).2.2) (240 + x)) k) ↔ inCh mdata mends mmany mkind mchain mholds mnights x (chk (rowF mdata (240 + x)) (cutR (rowF mdata (240 + x)) (msize (240 + x)) mbits mleast mmost).2.2 k)) := fun q k q0 q1 k0 k1 =>
    (inCh_h hx hn0.2 hlk1 (fun j j0 j1 b b0 b1 => (row_putne mholds (60 * x + mnights) q (fun k => bI (fstC (chk (rowF mdata (240 + x)) (cutR (rowF mdata (240 + x)) (msize (240 + x)) mbits mleast mmost).2.2) k ∧ (mwant x = 1 ∨ ¬ inCh mdata mends mmany mkind mchain mholds mnights x (chk (rowF mdata (240 + x)) (cutR (rowF mdata (240 + x)) (msize (240 + x)) mbits mleast mmost).2.2 k)))) (by omega) b0 b1 (by omega)).symm)).symm.trans (hic k k0 k1)
  refine r_istore_n B dX10_links_5 rfl (by decide) (lcat_v rfl rfl) ?_
  refine r_bipush B dX10_links_6 (by decide) ?_
  refine r_iload_n B dX10_links_8 rfl ?_
  refine r_imul B dX10_links_9 ?_
  refine r_aload_n B dX10_links_10 rfl rfl ?_
  refine m_get_nights B dX10_links_11 in_X10_links_X10 w_X10_links_f151 hM (fun r11 => ?_)
  refine r_iadd B dX10_links_14 ?_
  refine r_istore_n B dX10_links_15 rfl (by decide) (lcat_v rfl rfl) ?_
  refine r_iconst B dX10_links_16 ?_
  refine r_istore B dX10_links_17 (by decide) (lcat_v rfl rfl) ?_
  have loop19 : ∀ (nn : Nat) (q : Int) (h : AH), MW g ad h0 mthrown mdata msize (putRow mends (48 * (240 + x)) (cutR (rowF mdata (240 + x)) (msize (240 + x)) mbits mleast mmost).2.1 (cutR (rowF mdata (240 + x)) (msize (240 + x)) mbits mleast mmost).2.2) (upZ mmany (240 + x) (cutR (rowF mdata (240 + x)) (msize (240 + x)) mbits mleast mmost).2.1) mkind mchain (putRow mholds (48 * (60 * x + mnights)) q (fun k => bI (fstC (chk (rowF mdata (240 + x)) (cutR (rowF mdata (240 + x)) (msize (240 + x)) mbits mleast mmost).2.2) k ∧ (mwant x = 1 ∨ ¬ inCh mdata mends mmany mkind mchain mholds mnights x (chk (rowF mdata (240 + x)) (cutR (rowF mdata (240 + x)) (msize (240 + x)) mbits mleast mmost).2.2 k))))) mnights mbits mleast mmost mroom mreserve mmount mspeed mbid mbound mcheap mpromised mcoin mpaid mowed mturn misAsking mwant mcost misServed mitsRow mitsChunk h → (0 ≤ q ∧ q ≤ (cutR (rowF mdata (240 + x)) (msize (240 + x)) mbits mleast mmost).2.1) → ((cutR (rowF mdata (240 + x)) (msize (240 + x)) mbits mleast mmost).2.1 - q).toNat < nn → WA p l e rmX10_links s m args below meth c g sz0 5 (MQ below (QQ g sz0 (fun v h' => v = none ∧ MW g ad h0 mthrown (cpyF mdata (48 * (60 * x + mnights)) (48 * (240 + x)) 48) (upZ msize (60 * x + mnights) (msize (240 + x))) (cpyF (putRow mends (48 * (240 + x)) (cutR (rowF mdata (240 + x)) (msize (240 + x)) mbits mleast mmost).2.1 (cutR (rowF mdata (240 + x)) (msize (240 + x)) mbits mleast mmost).2.2) (48 * (60 * x + mnights)) (48 * (240 + x)) 48) (upZ (upZ mmany (240 + x) (cutR (rowF mdata (240 + x)) (msize (240 + x)) mbits mleast mmost).2.1) (60 * x + mnights) (cutR (rowF mdata (240 + x)) (msize (240 + x)) mbits mleast mmost).2.1) (upZ mkind (60 * x + mnights) (mwant x)) (upZ mchain (60 * x + mnights) (if mwant x = 1 then mnights else mchain (60 * x + ltN (colF mkind x) mnights.toNat))) (putRow mholds (48 * (60 * x + mnights)) (cutR (rowF mdata (240 + x)) (msize (240 + x)) mbits mleast mmost).2.1 (fun k => bI (fstC (chk (rowF mdata (240 + x)) (cutR (rowF mdata (240 + x)) (msize (240 + x)) mbits mleast mmost).2.2) k ∧ (mwant x = 1 ∨ ¬ inCh mdata mends mmany mkind mchain mholds mnights x (chk (rowF mdata (240 + x)) (cutR (rowF mdata (240 + x)) (msize (240 + x)) mbits mleast mmost).2.2 k))))) mnights mbits mleast mmost mroom mreserve mmount mspeed mbid mbound mcheap mpromised mcoin mpaid mowed mturn misAsking mwant mcost misServed mitsRow mitsChunk h')) args s rmX10_links.cells rmX10_links.slots (A0 sz0)) h 0 0 [some (.ref (ad 0)), some (.int (iI (x))), some (.int (iI (240 + x))), some (.int (iI (60 * x + mnights))), some (.int (iI (q)))] 19 [] := by
    intro nn
    induction nn with
    | zero => intro q h hM i1 hn; exact absurd hn (Nat.not_lt_zero _)
    | succ nn ih =>
      intro q h hM i1 hn
      refine r_iload B dX10_links_19 rfl ?_
      refine r_aload_n B dX10_links_21 rfl rfl ?_
      refine m_get_many B dX10_links_22 in_X10_links_X10 w_X10_links_f19 hM ?_
      refine r_iload_n B dX10_links_25 rfl ?_
      refine m_ld_many B dX10_links_26 hM (by omega) (by omega) (fun r26 => ?_)
      rw [upZ_at]
      refine r_icmp_ge B dX10_links_27 (tgt := 84) (by decide) (by omega) (by omega) (fun c27 => ?_) (fun c27 => ?_)
      · have hqn : q = (cutR (rowF mdata (240 + x)) (msize (240 + x)) mbits mleast mmost).2.1 := by omega
        rw [hqn] at hM
        refine r_aload_n B dX10_links_84 rfl rfl ?_
        refine m_get_chain B dX10_links_85 in_X10_links_X10 w_X10_links_f25 hM ?_
        have join116 : WA p l e rmX10_links s m args below meth c g sz0 5 (MQ below (QQ g sz0 (fun v h' => v = none ∧ MW g ad h0 mthrown (cpyF mdata (48 * (60 * x + mnights)) (48 * (240 + x)) 48) (upZ msize (60 * x + mnights) (msize (240 + x))) (cpyF (putRow mends (48 * (240 + x)) (cutR (rowF mdata (240 + x)) (msize (240 + x)) mbits mleast mmost).2.1 (cutR (rowF mdata (240 + x)) (msize (240 + x)) mbits mleast mmost).2.2) (48 * (60 * x + mnights)) (48 * (240 + x)) 48) (upZ (upZ mmany (240 + x) (cutR (rowF mdata (240 + x)) (msize (240 + x)) mbits mleast mmost).2.1) (60 * x + mnights) (cutR (rowF mdata (240 + x)) (msize (240 + x)) mbits mleast mmost).2.1) (upZ mkind (60 * x + mnights) (mwant x)) (upZ mchain (60 * x + mnights) (if mwant x = 1 then mnights else mchain (60 * x + ltN (colF mkind x) mnights.toNat))) (putRow mholds (48 * (60 * x + mnights)) (cutR (rowF mdata (240 + x)) (msize (240 + x)) mbits mleast mmost).2.1 (fun k => bI (fstC (chk (rowF mdata (240 + x)) (cutR (rowF mdata (240 + x)) (msize (240 + x)) mbits mleast mmost).2.2) k ∧ (mwant x = 1 ∨ ¬ inCh mdata mends mmany mkind mchain mholds mnights x (chk (rowF mdata (240 + x)) (cutR (rowF mdata (240 + x)) (msize (240 + x)) mbits mleast mmost).2.2 k))))) mnights mbits mleast mmost mroom mreserve mmount mspeed mbid mbound mcheap mpromised mcoin mpaid mowed mturn misAsking mwant mcost misServed mitsRow mitsChunk h')) args s rmX10_links.cells rmX10_links.slots (A0 sz0)) h 0 0 [some (.ref (ad 0)), some (.int (iI (x))), some (.int (iI (240 + x))), some (.int (iI (60 * x + mnights))), none] 116 [.int (iI (if mwant x = 1 then mnights else mchain (60 * x + ltN (colF mkind x) mnights.toNat))), .int (iI (60 * x + mnights)), .ref (ad 6)] := by
          refine m_st_chain B dX10_links_116 hA hM (by omega) (by omega) (by split <;> first | exact hM.i_nights | exact hM.r_chain _) (fun h hM => ?_)
          refine r_aload_n B dX10_links_117 rfl rfl ?_
          refine m_get_size B dX10_links_118 in_X10_links_X10 w_X10_links_f13 hM ?_
          refine r_iload_n B dX10_links_121 rfl ?_
          refine r_aload_n B dX10_links_122 rfl rfl ?_
          refine m_get_size B dX10_links_123 in_X10_links_X10 w_X10_links_f13 hM ?_
          refine r_iload_n B dX10_links_126 rfl ?_
          refine m_ld_size B dX10_links_127 hM (by omega) (by omega) (fun r127 => ?_)
          refine m_st_size B dX10_links_128 hA hM (by omega) (by omega) (by omega) (fun h hM => ?_)
          refine r_aload_n B dX10_links_129 rfl rfl ?_
          refine m_get_many B dX10_links_130 in_X10_links_X10 w_X10_links_f19 hM ?_
          refine r_iload_n B dX10_links_133 rfl ?_
          refine r_aload_n B dX10_links_134 rfl rfl ?_
          refine m_get_many B dX10_links_135 in_X10_links_X10 w_X10_links_f19 hM ?_
          refine r_iload_n B dX10_links_138 rfl ?_
          refine m_ld_many B dX10_links_139 hM (by omega) (by omega) (fun r139 => ?_)
          rw [upZ_at]
          refine m_st_many B dX10_links_140 hA hM (by omega) (by omega) (by omega) (fun h hM => ?_)
          refine r_iconst B dX10_links_141 ?_
          refine r_istore B dX10_links_142 (by decide) (lcat_v rfl rfl) ?_
          have loop144 : ∀ (nn : Nat) (q : Int) (h : AH), MW g ad h0 mthrown (cpyF mdata (48 * (60 * x + mnights)) (48 * (240 + x)) q) (upZ msize (60 * x + mnights) (msize (240 + x))) (cpyF (putRow mends (48 * (240 + x)) (cutR (rowF mdata (240 + x)) (msize (240 + x)) mbits mleast mmost).2.1 (cutR (rowF mdata (240 + x)) (msize (240 + x)) mbits mleast mmost).2.2) (48 * (60 * x + mnights)) (48 * (240 + x)) q) (upZ (upZ mmany (240 + x) (cutR (rowF mdata (240 + x)) (msize (240 + x)) mbits mleast mmost).2.1) (60 * x + mnights) (cutR (rowF mdata (240 + x)) (msize (240 + x)) mbits mleast mmost).2.1) mkind (upZ mchain (60 * x + mnights) (if mwant x = 1 then mnights else mchain (60 * x + ltN (colF mkind x) mnights.toNat))) (putRow mholds (48 * (60 * x + mnights)) (cutR (rowF mdata (240 + x)) (msize (240 + x)) mbits mleast mmost).2.1 (fun k => bI (fstC (chk (rowF mdata (240 + x)) (cutR (rowF mdata (240 + x)) (msize (240 + x)) mbits mleast mmost).2.2) k ∧ (mwant x = 1 ∨ ¬ inCh mdata mends mmany mkind mchain mholds mnights x (chk (rowF mdata (240 + x)) (cutR (rowF mdata (240 + x)) (msize (240 + x)) mbits mleast mmost).2.2 k))))) mnights mbits mleast mmost mroom mreserve mmount mspeed mbid mbound mcheap mpromised mcoin mpaid mowed mturn misAsking mwant mcost misServed mitsRow mitsChunk h → (0 ≤ q ∧ q ≤ 48) → (48 - q).toNat < nn → WA p l e rmX10_links s m args below meth c g sz0 5 (MQ below (QQ g sz0 (fun v h' => v = none ∧ MW g ad h0 mthrown (cpyF mdata (48 * (60 * x + mnights)) (48 * (240 + x)) 48) (upZ msize (60 * x + mnights) (msize (240 + x))) (cpyF (putRow mends (48 * (240 + x)) (cutR (rowF mdata (240 + x)) (msize (240 + x)) mbits mleast mmost).2.1 (cutR (rowF mdata (240 + x)) (msize (240 + x)) mbits mleast mmost).2.2) (48 * (60 * x + mnights)) (48 * (240 + x)) 48) (upZ (upZ mmany (240 + x) (cutR (rowF mdata (240 + x)) (msize (240 + x)) mbits mleast mmost).2.1) (60 * x + mnights) (cutR (rowF mdata (240 + x)) (msize (240 + x)) mbits mleast mmost).2.1) (upZ mkind (60 * x + mnights) (mwant x)) (upZ mchain (60 * x + mnights) (if mwant x = 1 then mnights else mchain (60 * x + ltN (colF mkind x) mnights.toNat))) (putRow mholds (48 * (60 * x + mnights)) (cutR (rowF mdata (240 + x)) (msize (240 + x)) mbits mleast mmost).2.1 (fun k => bI (fstC (chk (rowF mdata (240 + x)) (cutR (rowF mdata (240 + x)) (msize (240 + x)) mbits mleast mmost).2.2) k ∧ (mwant x = 1 ∨ ¬ inCh mdata mends mmany mkind mchain mholds mnights x (chk (rowF mdata (240 + x)) (cutR (rowF mdata (240 + x)) (msize (240 + x)) mbits mleast mmost).2.2 k))))) mnights mbits mleast mmost mroom mreserve mmount mspeed mbid mbound mcheap mpromised mcoin mpaid mowed mturn misAsking mwant mcost misServed mitsRow mitsChunk h')) args s rmX10_links.cells rmX10_links.slots (A0 sz0)) h 0 0 [some (.ref (ad 0)), some (.int (iI (x))), some (.int (iI (240 + x))), some (.int (iI (60 * x + mnights))), some (.int (iI (q)))] 144 [] := by
            intro nn
            induction nn with
            | zero => intro q h hM j1 hn; exact absurd hn (Nat.not_lt_zero _)
            | succ nn ih =>
              intro q h hM j1 hn
              refine r_iload B dX10_links_144 rfl ?_
              refine r_bipush B dX10_links_146 (by decide) ?_
              refine r_icmp_ge B dX10_links_148 (tgt := 205) (by decide) (by omega) (by omega) (fun c148 => ?_) (fun c148 => ?_)
              · have hq48 : q = 48 := by omega
                subst hq48
                refine r_aload_n B dX10_links_205 rfl rfl ?_
                refine m_get_kind B dX10_links_206 in_X10_links_X10 w_X10_links_f22 hM ?_
                refine r_iload_n B dX10_links_209 rfl ?_
                refine r_aload_n B dX10_links_210 rfl rfl ?_
                refine m_get_want B dX10_links_211 in_X10_links_X10 w_X10_links_f81 hM ?_
                refine r_iload_n B dX10_links_214 rfl ?_
                refine m_ld_want B dX10_links_215 hM (by omega) (by omega) (fun r215 => ?_)
                refine m_st_kind B dX10_links_216 hA hM (by omega) (by omega) (by omega) (fun h hM => ?_)
                exact r_vret B hr hlk dX10_links_217 (Nat.le_of_ble_eq_true rfl) (Nat.le_of_ble_eq_true rfl) ⟨rfl, hM⟩
              · refine r_aload_n B dX10_links_151 rfl rfl ?_
                refine m_get_data B dX10_links_152 in_X10_links_X10 w_X10_links_f7 hM ?_
                refine r_bipush B dX10_links_155 (by decide) ?_
                refine r_iload_n B dX10_links_157 rfl ?_
                refine r_imul B dX10_links_158 ?_
                refine r_iload B dX10_links_159 rfl ?_
                refine r_iadd B dX10_links_161 ?_
                refine r_aload_n B dX10_links_162 rfl rfl ?_
                refine m_get_data B dX10_links_163 in_X10_links_X10 w_X10_links_f7 hM ?_
                refine r_bipush B dX10_links_166 (by decide) ?_
                refine r_iload_n B dX10_links_168 rfl ?_
                refine r_imul B dX10_links_169 ?_
                refine r_iload B dX10_links_170 rfl ?_
                refine r_iadd B dX10_links_172 ?_
                refine m_ld_data B dX10_links_173 hM (by omega) (by omega) (fun r173 => ?_)
                refine m_st_data B dX10_links_174 hA hM (by omega) (by omega) (by omega) (fun h hM => ?_)
                refine r_aload_n B dX10_links_175 rfl rfl ?_
                refine m_get_ends B dX10_links_176 in_X10_links_X10 w_X10_links_f16 hM ?_
                refine r_bipush B dX10_links_179 (by decide) ?_
                refine r_iload_n B dX10_links_181 rfl ?_
                refine r_imul B dX10_links_182 ?_
                refine r_iload B dX10_links_183 rfl ?_
                refine r_iadd B dX10_links_185 ?_
                refine r_aload_n B dX10_links_186 rfl rfl ?_
                refine m_get_ends B dX10_links_187 in_X10_links_X10 w_X10_links_f16 hM ?_
                refine r_bipush B dX10_links_190 (by decide) ?_
                refine r_iload_n B dX10_links_192 rfl ?_
                refine r_imul B dX10_links_193 ?_
                refine r_iload B dX10_links_194 rfl ?_
                refine r_iadd B dX10_links_196 ?_
                refine m_ld_ends B dX10_links_197 hM (by omega) (by omega) (fun r197 => ?_)
                refine m_st_ends B dX10_links_198 hA hM (by omega) (by omega) (by omega) (fun h hM => ?_)
                refine r_iinc B dX10_links_199 rfl (by decide) (lcat_v rfl rfl) ?_
                refine r_goto B dX10_links_202 (tgt := 144) (by decide) ?_
                exact r_lv (lvLe_s rfl (lvLe_s rfl (lvLe_s rfl (lvLe_s rfl (lvLe_s rfl lvLe_nil))))) (ih (q + 1) h (by rw [← cpyF_s mdata (48 * (60 * x + mnights)) (48 * (240 + x)) j1.1 (by omega), ← cpyF_s (putRow mends (48 * (240 + x)) (cutR (rowF mdata (240 + x)) (msize (240 + x)) mbits mleast mmost).2.1 (cutR (rowF mdata (240 + x)) (msize (240 + x)) mbits mleast mmost).2.2) (48 * (60 * x + mnights)) (48 * (240 + x)) j1.1 (by omega)]; exact hM) (by omega) (by omega))
          exact r_lv (lvLe_s rfl (lvLe_s rfl (lvLe_s rfl (lvLe_s rfl (lvLe_s rfl lvLe_nil))))) (loop144 _ 0 h (by rw [cpyF_0, cpyF_0]; exact hM) (by omega) (Nat.lt_succ_self _))
        refine r_iload_n B dX10_links_88 rfl ?_
        refine r_aload_n B dX10_links_89 rfl rfl ?_
        refine m_get_want B dX10_links_90 in_X10_links_X10 w_X10_links_f81 hM ?_
        refine r_iload_n B dX10_links_93 rfl ?_
        refine m_ld_want B dX10_links_94 hM (by omega) (by omega) (fun r94 => ?_)
        refine r_iconst B dX10_links_95 ?_
        refine r_icmp_ne B dX10_links_96 (tgt := 106) (by decide) (by omega) (by omega) (fun c96 => ?_) (fun c96 => ?_)
        · refine r_aload_n B dX10_links_106 rfl rfl ?_
          refine m_get_chain B dX10_links_107 in_X10_links_X10 w_X10_links_f25 hM ?_
          refine r_aload_n B dX10_links_110 rfl rfl ?_
          refine r_iload_n B dX10_links_111 rfl ?_
          refine r_callV (n := 1) B dX10_links_112 (ct_X10_latestNow l g sz0 ad hA hM _ (by omega) (by omega)) gX10_links_X10_latestNow rfl (by decide +kernel) ⟨Nat.le_of_ble_eq_true rfl, Nat.le_of_ble_eq_true rfl⟩ hM.obj rfl rfl rfl (Nat.le_of_ble_eq_true rfl) (Nat.le_of_ble_eq_true rfl) (Nat.le_of_ble_eq_true rfl) (fun v h' hp => ?_)
          obtain ⟨hv, hh⟩ := hp
          subst v
          subst h'
          dsimp only [Option.toList, List.cons_append, List.nil_append]
          have hw1 := hw c96
          have hlr := ltN_rng (colF mkind x) mnights.toNat
          have hlv : ltv x (ltN (colF mkind x) mnights.toNat) = 60 * x + ltN (colF mkind x) mnights.toNat := if_neg hw1
          refine m_ld_chain B dX10_links_115 hM (by omega) (by omega) (fun r115 => ?_)
          refine r_topz (y := (if mwant x = 1 then mnights else mchain (60 * x + ltN (colF mkind x) mnights.toNat))) (by rw [if_neg c96, hlv]) ?_
          exact r_lv (lvLe_s rfl (lvLe_s rfl (lvLe_s rfl (lvLe_s rfl (lvLe_n lvLe_nil))))) (join116)
        · refine r_aload_n B dX10_links_99 rfl rfl ?_
          refine m_get_nights B dX10_links_100 in_X10_links_X10 w_X10_links_f151 hM (fun r100 => ?_)
          refine r_goto B dX10_links_103 (tgt := 116) (by decide) ?_
          refine r_topz (y := (if mwant x = 1 then mnights else mchain (60 * x + ltN (colF mkind x) mnights.toNat))) ((if_pos c96).symm) ?_
          exact r_lv (lvLe_s rfl (lvLe_s rfl (lvLe_s rfl (lvLe_s rfl (lvLe_n lvLe_nil))))) (join116)
      · have join77 : WA p l e rmX10_links s m args below meth c g sz0 5 (MQ below (QQ g sz0 (fun v h' => v = none ∧ MW g ad h0 mthrown (cpyF mdata (48 * (60 * x + mnights)) (48 * (240 + x)) 48) (upZ msize (60 * x + mnights) (msize (240 + x))) (cpyF (putRow mends (48 * (240 + x)) (cutR (rowF mdata (240 + x)) (msize (240 + x)) mbits mleast mmost).2.1 (cutR (rowF mdata (240 + x)) (msize (240 + x)) mbits mleast mmost).2.2) (48 * (60 * x + mnights)) (48 * (240 + x)) 48) (upZ (upZ mmany (240 + x) (cutR (rowF mdata (240 + x)) (msize (240 + x)) mbits mleast mmost).2.1) (60 * x + mnights) (cutR (rowF mdata (240 + x)) (msize (240 + x)) mbits mleast mmost).2.1) (upZ mkind (60 * x + mnights) (mwant x)) (upZ mchain (60 * x + mnights) (if mwant x = 1 then mnights else mchain (60 * x + ltN (colF mkind x) mnights.toNat))) (putRow mholds (48 * (60 * x + mnights)) (cutR (rowF mdata (240 + x)) (msize (240 + x)) mbits mleast mmost).2.1 (fun k => bI (fstC (chk (rowF mdata (240 + x)) (cutR (rowF mdata (240 + x)) (msize (240 + x)) mbits mleast mmost).2.2) k ∧ (mwant x = 1 ∨ ¬ inCh mdata mends mmany mkind mchain mholds mnights x (chk (rowF mdata (240 + x)) (cutR (rowF mdata (240 + x)) (msize (240 + x)) mbits mleast mmost).2.2 k))))) mnights mbits mleast mmost mroom mreserve mmount mspeed mbid mbound mcheap mpromised mcoin mpaid mowed mturn misAsking mwant mcost misServed mitsRow mitsChunk h')) args s rmX10_links.cells rmX10_links.slots (A0 sz0)) h 0 0 [some (.ref (ad 0)), some (.int (iI (x))), some (.int (iI (240 + x))), some (.int (iI (60 * x + mnights))), some (.int (iI (q)))] 77 [.int (iI ((fun k => bI (fstC (chk (rowF mdata (240 + x)) (cutR (rowF mdata (240 + x)) (msize (240 + x)) mbits mleast mmost).2.2) k ∧ (mwant x = 1 ∨ ¬ inCh mdata mends mmany mkind mchain mholds mnights x (chk (rowF mdata (240 + x)) (cutR (rowF mdata (240 + x)) (msize (240 + x)) mbits mleast mmost).2.2 k)))) q)), .int (iI (48 * (60 * x + mnights) + q)), .ref (ad 7)] := by
          refine m_st_holds B dX10_links_77 hA hM (by omega) (by omega) (bI_01 _) (fun h hM => ?_)
          refine r_iinc B dX10_links_78 rfl (by decide) (lcat_v rfl rfl) ?_
          refine r_goto B dX10_links_81 (tgt := 19) (by decide) ?_
          exact r_lv (lvLe_s rfl (lvLe_s rfl (lvLe_s rfl (lvLe_s rfl (lvLe_s rfl lvLe_nil))))) (ih (q + 1) h (by rw [← putRow_f (old := mholds) (off := 48 * (60 * x + mnights)) (E := (fun k => bI (fstC (chk (rowF mdata (240 + x)) (cutR (rowF mdata (240 + x)) (msize (240 + x)) mbits mleast mmost).2.2) k ∧ (mwant x = 1 ∨ ¬ inCh mdata mends mmany mkind mchain mholds mnights x (chk (rowF mdata (240 + x)) (cutR (rowF mdata (240 + x)) (msize (240 + x)) mbits mleast mmost).2.2 k))))) i1.1]; exact hM) (by omega) (by omega))
        refine r_aload_n B dX10_links_30 rfl rfl ?_
        refine m_get_holds B dX10_links_31 in_X10_links_X10 w_X10_links_f28 hM ?_
        refine r_bipush B dX10_links_34 (by decide) ?_
        refine r_iload_n B dX10_links_36 rfl ?_
        refine r_imul B dX10_links_37 ?_
        refine r_iload B dX10_links_38 rfl ?_
        refine r_iadd B dX10_links_40 ?_
        refine r_aload_n B dX10_links_41 rfl rfl ?_
        refine r_iload_n B dX10_links_42 rfl ?_
        refine r_iload B dX10_links_43 rfl ?_
        refine r_callV (n := 2) B dX10_links_45 (ct_X10_isFirst l g sz0 ad hA hM _ _ (n := (cutR (rowF mdata (240 + x)) (msize (240 + x)) mbits mleast mmost).2.1) (by omega) (by omega) (by omega) hEO) gX10_links_X10_isFirst rfl (by decide +kernel) ⟨Nat.le_of_ble_eq_true rfl, Nat.le_of_ble_eq_true rfl⟩ hM.obj rfl rfl rfl (Nat.le_of_ble_eq_true rfl) (Nat.le_of_ble_eq_true rfl) (Nat.le_of_ble_eq_true rfl) (fun v h' hp => ?_)
        obtain ⟨hv, hh⟩ := hp
        subst v
        subst h'
        dsimp only [Option.toList, List.cons_append, List.nil_append]
        refine r_if_eq B dX10_links_48 (tgt := 76) (by decide) (bI_rng _) (fun c48 => ?_) (fun c48 => ?_)
        · replace c48 := bI_0.mp c48
          refine r_iconst B dX10_links_76 ?_
          refine r_topz (y := (fun k => bI (fstC (chk (rowF mdata (240 + x)) (cutR (rowF mdata (240 + x)) (msize (240 + x)) mbits mleast mmost).2.2) k ∧ (mwant x = 1 ∨ ¬ inCh mdata mends mmany mkind mchain mholds mnights x (chk (rowF mdata (240 + x)) (cutR (rowF mdata (240 + x)) (msize (240 + x)) mbits mleast mmost).2.2 k)))) q) ((bI_f (fun y9 => c48 ((hfc q i1.1 (by omega)).mpr y9.1))).symm) ?_
          exact r_lv (lvLe_s rfl (lvLe_s rfl (lvLe_s rfl (lvLe_s rfl (lvLe_s rfl lvLe_nil))))) (join77)
        · replace c48 := bI_n0.mp c48
          refine r_aload_n B dX10_links_51 rfl rfl ?_
          refine m_get_want B dX10_links_52 in_X10_links_X10 w_X10_links_f81 hM ?_
          refine r_iload_n B dX10_links_55 rfl ?_
          refine m_ld_want B dX10_links_56 hM (by omega) (by omega) (fun r56 => ?_)
          refine r_iconst B dX10_links_57 ?_
          refine r_icmp_eq B dX10_links_58 (tgt := 72) (by decide) (by omega) (by omega) (fun c58 => ?_) (fun c58 => ?_)
          · refine r_iconst B dX10_links_72 ?_
            refine r_goto B dX10_links_73 (tgt := 77) (by decide) ?_
            refine r_topz (y := (fun k => bI (fstC (chk (rowF mdata (240 + x)) (cutR (rowF mdata (240 + x)) (msize (240 + x)) mbits mleast mmost).2.2) k ∧ (mwant x = 1 ∨ ¬ inCh mdata mends mmany mkind mchain mholds mnights x (chk (rowF mdata (240 + x)) (cutR (rowF mdata (240 + x)) (msize (240 + x)) mbits mleast mmost).2.2 k)))) q) ((bI_t ⟨(hfc q i1.1 (by omega)).mp c48, Or.inl c58⟩).symm) ?_
            exact r_lv (lvLe_s rfl (lvLe_s rfl (lvLe_s rfl (lvLe_s rfl (lvLe_s rfl lvLe_nil))))) (join77)
          · refine r_aload_n B dX10_links_61 rfl rfl ?_
            refine r_iload_n B dX10_links_62 rfl ?_
            refine r_iload_n B dX10_links_63 rfl ?_
            refine r_iload B dX10_links_64 rfl ?_
            refine r_callV (n := 3) B dX10_links_66 (ct_X10_isInChain l g sz0 ad hA hM _ _ _ (by omega) (by omega) (by omega) (hEO q i1.1 (by omega)) hn0 (fun z z0 z1 => (hlk1 z z0 z1).1) (fun z z0 z1 => (hlk1 z z0 z1).2)) gX10_links_X10_isInChain rfl (by decide +kernel) ⟨Nat.le_of_ble_eq_true rfl, Nat.le_of_ble_eq_true rfl⟩ hM.obj rfl rfl rfl (Nat.le_of_ble_eq_true rfl) (Nat.le_of_ble_eq_true rfl) (Nat.le_of_ble_eq_true rfl) (fun v h' hp => ?_)
            obtain ⟨hv, hh⟩ := hp
            subst v
            subst h'
            dsimp only [Option.toList, List.cons_append, List.nil_append]
            refine r_if_ne B dX10_links_69 (tgt := 76) (by decide) (bI_rng _) (fun c69 => ?_) (fun c69 => ?_)
            · replace c69 := bI_n0.mp c69
              refine r_iconst B dX10_links_76 ?_
              refine r_topz (y := (fun k => bI (fstC (chk (rowF mdata (240 + x)) (cutR (rowF mdata (240 + x)) (msize (240 + x)) mbits mleast mmost).2.2) k ∧ (mwant x = 1 ∨ ¬ inCh mdata mends mmany mkind mchain mholds mnights x (chk (rowF mdata (240 + x)) (cutR (rowF mdata (240 + x)) (msize (240 + x)) mbits mleast mmost).2.2 k)))) q) ((bI_f (fun y9 => y9.2.elim c58 (fun w9 => w9 ((hih q q i1.1 (by omega) i1.1 (by omega)).mp c69)))).symm) ?_
              exact r_lv (lvLe_s rfl (lvLe_s rfl (lvLe_s rfl (lvLe_s rfl (lvLe_s rfl lvLe_nil))))) (join77)
            · replace c69 := bI_0.mp c69
              refine r_iconst B dX10_links_72 ?_
              refine r_goto B dX10_links_73 (tgt := 77) (by decide) ?_
              refine r_topz (y := (fun k => bI (fstC (chk (rowF mdata (240 + x)) (cutR (rowF mdata (240 + x)) (msize (240 + x)) mbits mleast mmost).2.2) k ∧ (mwant x = 1 ∨ ¬ inCh mdata mends mmany mkind mchain mholds mnights x (chk (rowF mdata (240 + x)) (cutR (rowF mdata (240 + x)) (msize (240 + x)) mbits mleast mmost).2.2 k)))) q) ((bI_t ⟨(hfc q i1.1 (by omega)).mp c48, Or.inr (fun w9 => c69 ((hih q q i1.1 (by omega) i1.1 (by omega)).mpr w9))⟩).symm) ?_
              exact r_lv (lvLe_s rfl (lvLe_s rfl (lvLe_s rfl (lvLe_s rfl (lvLe_s rfl lvLe_nil))))) (join77)
  exact r_lv (lvLe_s rfl (lvLe_s rfl (lvLe_s rfl (lvLe_s rfl (lvLe_s rfl lvLe_nil))))) (loop19 _ 0 h (by rw [putRow_0]; exact hM) (by omega) (Nat.lt_succ_self _))
