abbrev rmX10_forBase0 : Room := { frames := 4, cells := 0, slots := 0, locals := 95 }
theorem in_X10_forBase0_X10 : ∀ w ∈ wsX100, w ∈ wsX10_forBase0 := by decide +kernel
theorem w_X10_forBase0_f19 : Cond.fieldLink RX10 19 "DeltaNightsModel" "many" "[I" ∈ wsX10_forBase0 := by decide +kernel
set_option maxHeartbeats 4000000 in
set_option maxRecDepth 100000 in
theorem ct_X10_forBase0 (l : Launch) (g : GG) (sz0 : Nat) (ad : Nat → Nat) (hA : ADok ad) {h h0 : AH} {mthrown mnights mbits mleast mmost mroom mreserve mmount mspeed : Int} {mdata msize mends mmany mkind mchain mholds mbid mbound mcheap mpromised mcoin mpaid mowed mturn misAsking mwant mcost misServed mitsRow mitsChunk : Int → Int} (hM : MW g ad h0 mthrown mdata msize mends mmany mkind mchain mholds mnights mbits mleast mmost mroom mreserve mmount mspeed mbid mbound mcheap mpromised mcoin mpaid mowed mturn misAsking mwant mcost misServed mitsRow mitsChunk h) (x : Int) (hx : 0 ≤ x ∧ x ≤ 3) (hsx : 0 ≤ msize (240 + x) ∧ msize (240 + x) ≤ 48) : CT l yX10_forBase0 wsX10_forBase0 rmX10_forBase0 g sz0 [.ref (ad 0), .int (iI (x))] h (fun v h' => v = some (.int (iI (baseB (rowF mdata (240 + x)) (cutR (rowF mdata (240 + x)) (msize (240 + x)) mbits mleast mmost).2.2 (cutR (rowF mdata (240 + x)) (msize (240 + x)) mbits mleast mmost).2.1))) ∧ MW g ad h0 mthrown mdata msize (putRow mends (48 * (240 + x)) (cutR (rowF mdata (240 + x)) (msize (240 + x)) mbits mleast mmost).2.1 (cutR (rowF mdata (240 + x)) (msize (240 + x)) mbits mleast mmost).2.2) (upZ mmany (240 + x) (cutR (rowF mdata (240 + x)) (msize (240 + x)) mbits mleast mmost).2.1) mkind mchain mholds mnights mbits mleast mmost mroom mreserve mmount mspeed mbid mbound mcheap mpromised mcoin mpaid mowed mturn misAsking mwant mcost misServed mitsRow mitsChunk h') := by
  refine CT.of (by decide +kernel) rfl [some (.ref (ad 0)), some (.int (iI (x))), none, none, none] rfl (Nat.le_of_ble_eq_true rfl) ?_
  intro p e s m args below meth c B hr hlk hnm
  refine r_aload_n B dX10_forBase0_0 rfl rfl ?_
  refine r_iload_n B dX10_forBase0_1 rfl ?_
  refine r_callV (n := 1) B dX10_forBase0_2 (ct_X10_cuts l g sz0 ad hA hM _ (by omega) hsx) gX10_forBase0_X10_cuts rfl (by decide +kernel) ⟨Nat.le_of_ble_eq_true rfl, Nat.le_of_ble_eq_true rfl⟩ hM.obj rfl rfl rfl (Nat.le_of_ble_eq_true rfl) (Nat.le_of_ble_eq_true rfl) (Nat.le_of_ble_eq_true rfl) (fun v h hp => ?_)
  obtain ⟨hv, hM⟩ := hp
  subst v
  dsimp only [Option.toList, List.cons_append, List.nil_append]
  have hco := cutR_ok (rowF mdata (240 + x)) (b := mbits) (ls := mleast) (ms := mmost) hsx.1 hsx.2
  have hrp : ∀ j : Int, 0 ≤ j → j < (cutR (rowF mdata (240 + x)) (msize (240 + x)) mbits mleast mmost).2.1 → (cutR (rowF mdata (240 + x)) (msize (240 + x)) mbits mleast mmost).2.2 j = (rowF (putRow mends (48 * (240 + x)) (cutR (rowF mdata (240 + x)) (msize (240 + x)) mbits mleast mmost).2.1 (cutR (rowF mdata (240 + x)) (msize (240 + x)) mbits mleast mmost).2.2) (240 + x)) j := fun j j0 j1 => (row_put mends (240 + x) (cutR (rowF mdata (240 + x)) (msize (240 + x)) mbits mleast mmost).2.1 (cutR (rowF mdata (240 + x)) (msize (240 + x)) mbits mleast mmost).2.2 j0 j1).symm
  have hEO : EOK (rowF (putRow mends (48 * (240 + x)) (cutR (rowF mdata (240 + x)) (msize (240 + x)) mbits mleast mmost).2.1 (cutR (rowF mdata (240 + x)) (msize (240 + x)) mbits mleast mmost).2.2) (240 + x)) (cutR (rowF mdata (240 + x)) (msize (240 + x)) mbits mleast mmost).2.1 := EOK_congr hrp hco.2.2
  have hfc : ∀ q : Int, 0 ≤ q → q < (cutR (rowF mdata (240 + x)) (msize (240 + x)) mbits mleast mmost).2.1 → (fstC (chk (rowF mdata (240 + x)) (rowF (putRow mends (48 * (240 + x)) (cutR (rowF mdata (240 + x)) (msize (240 + x)) mbits mleast mmost).2.1 (cutR (rowF mdata (240 + x)) (msize (240 + x)) mbits mleast mmost).2.2) (240 + x))) q ↔ fstC (chk (rowF mdata (240 + x)) (cutR (rowF mdata (240 + x)) (msize (240 + x)) mbits mleast mmost).2.2) q) := fun q q0 q1 => (fst_congr hrp hco.2.2 q0 q1).symm
  have hln : ∀ q : Int, 0 ≤ q → q < (cutR (rowF mdata (240 + x)) (msize (240 + x)) mbits mleast mmost).2.1 → lnF (rowF (putRow mends (48 * (240 + x)) (cutR (rowF mdata (240 + x)) (msize (240 + x)) mbits mleast mmost).2.1 (cutR (rowF mdata (240 + x)) (msize (240 + x)) mbits mleast mmost).2.2) (240 + x)) q = lnF (cutR (rowF mdata (240 + x)) (msize (240 + x)) mbits mleast mmost).2.2 q := fun q q0 q1 => (lnF_congr hrp q0 q1).symm
  refine r_istore_n B dX10_forBase0_5 rfl (by decide) (lcat_v rfl rfl) ?_
  refine r_aload_n B dX10_forBase0_6 rfl rfl ?_
  refine m_get_many B dX10_forBase0_7 in_X10_forBase0_X10 w_X10_forBase0_f19 hM ?_
  refine r_iload_n B dX10_forBase0_10 rfl ?_
  refine m_ld_many B dX10_forBase0_11 hM (by omega) (by omega) (fun r11 => ?_)
  rw [upZ_at]
  refine r_istore_n B dX10_forBase0_12 rfl (by decide) (lcat_v rfl rfl) ?_
  refine r_iconst B dX10_forBase0_13 ?_
  refine r_istore B dX10_forBase0_14 (by decide) (lcat_v rfl rfl) ?_
  have loop16 : ∀ (nn : Nat) (q : Int) (sm : Int), (0 ≤ q ∧ q ≤ (cutR (rowF mdata (240 + x)) (msize (240 + x)) mbits mleast mmost).2.1) → (sm = (cutR (rowF mdata (240 + x)) (msize (240 + x)) mbits mleast mmost).2.1 + sumZ (fun k => bI (fstC (chk (rowF mdata (240 + x)) (cutR (rowF mdata (240 + x)) (msize (240 + x)) mbits mleast mmost).2.2) k) * lnF (cutR (rowF mdata (240 + x)) (msize (240 + x)) mbits mleast mmost).2.2 k) q.toNat) → ((cutR (rowF mdata (240 + x)) (msize (240 + x)) mbits mleast mmost).2.1 - q).toNat < nn → WA p l e rmX10_forBase0 s m args below meth c g sz0 5 (MQ below (QQ g sz0 (fun v h' => v = some (.int (iI (baseB (rowF mdata (240 + x)) (cutR (rowF mdata (240 + x)) (msize (240 + x)) mbits mleast mmost).2.2 (cutR (rowF mdata (240 + x)) (msize (240 + x)) mbits mleast mmost).2.1))) ∧ MW g ad h0 mthrown mdata msize (putRow mends (48 * (240 + x)) (cutR (rowF mdata (240 + x)) (msize (240 + x)) mbits mleast mmost).2.1 (cutR (rowF mdata (240 + x)) (msize (240 + x)) mbits mleast mmost).2.2) (upZ mmany (240 + x) (cutR (rowF mdata (240 + x)) (msize (240 + x)) mbits mleast mmost).2.1) mkind mchain mholds mnights mbits mleast mmost mroom mreserve mmount mspeed mbid mbound mcheap mpromised mcoin mpaid mowed mturn misAsking mwant mcost misServed mitsRow mitsChunk h')) args s rmX10_forBase0.cells rmX10_forBase0.slots (A0 sz0)) h 0 0 [some (.ref (ad 0)), some (.int (iI (x))), some (.int (iI (240 + x))), some (.int (iI (sm))), some (.int (iI (q)))] 16 [] := by
    intro nn
    induction nn with
    | zero => intro q sm i1 i2 hn; exact absurd hn (Nat.not_lt_zero _)
    | succ nn ih =>
      intro q sm i1 i2 hn
      refine r_iload B dX10_forBase0_16 rfl ?_
      refine r_aload_n B dX10_forBase0_18 rfl rfl ?_
      refine m_get_many B dX10_forBase0_19 in_X10_forBase0_X10 w_X10_forBase0_f19 hM ?_
      refine r_iload_n B dX10_forBase0_22 rfl ?_
      refine m_ld_many B dX10_forBase0_23 hM (by omega) (by omega) (fun r23 => ?_)
      rw [upZ_at]
      refine r_icmp_ge B dX10_forBase0_24 (tgt := 57) (by decide) (by omega) (by omega) (fun c24 => ?_) (fun c24 => ?_)
      · refine r_iload_n B dX10_forBase0_57 rfl ?_
        exact r_iret B hr hlk dX10_forBase0_58 (Nat.le_of_ble_eq_true rfl) (Nat.le_of_ble_eq_true rfl) ⟨by rw [i2, show q = (cutR (rowF mdata (240 + x)) (msize (240 + x)) mbits mleast mmost).2.1 by omega]; rfl, hM⟩
      · refine r_iload_n B dX10_forBase0_27 rfl ?_
        refine r_aload_n B dX10_forBase0_28 rfl rfl ?_
        refine r_iload_n B dX10_forBase0_29 rfl ?_
        refine r_iload B dX10_forBase0_30 rfl ?_
        refine r_callV (n := 2) B dX10_forBase0_32 (ct_X10_isFirst l g sz0 ad hA hM _ _ (n := (cutR (rowF mdata (240 + x)) (msize (240 + x)) mbits mleast mmost).2.1) (by omega) (by omega) (by omega) hEO) gX10_forBase0_X10_isFirst rfl (by decide +kernel) ⟨Nat.le_of_ble_eq_true rfl, Nat.le_of_ble_eq_true rfl⟩ hM.obj rfl rfl rfl (Nat.le_of_ble_eq_true rfl) (Nat.le_of_ble_eq_true rfl) (Nat.le_of_ble_eq_true rfl) (fun v h' hp => ?_)
        obtain ⟨hv, hh⟩ := hp
        subst v
        subst h'
        dsimp only [Option.toList, List.cons_append, List.nil_append]
        refine r_if_eq B dX10_forBase0_35 (tgt := 48) (by decide) (bI_rng _) (fun c35 => ?_) (fun c35 => ?_)
        · replace c35 := bI_0.mp c35
          refine r_iconst B dX10_forBase0_48 ?_
          refine r_iadd B dX10_forBase0_49 ?_
          refine r_istore_n B dX10_forBase0_50 rfl (by decide) (lcat_v rfl rfl) ?_
          refine r_iinc B dX10_forBase0_51 rfl (by decide) (lcat_v rfl rfl) ?_
          refine r_goto B dX10_forBase0_54 (tgt := 16) (by decide) ?_
          exact r_lv (lvLe_s rfl (lvLe_s rfl (lvLe_s rfl (lvLe_s rfl (lvLe_s rfl lvLe_nil))))) (ih (q + 1) _ (by omega) (by rw [sumZ_s _ i1.1, bI_f (fun z => c35 ((hfc q i1.1 (by omega)).mpr z)), i2]; omega) (by omega))
        · replace c35 := bI_n0.mp c35
          refine r_aload_n B dX10_forBase0_38 rfl rfl ?_
          refine r_iload_n B dX10_forBase0_39 rfl ?_
          refine r_iload B dX10_forBase0_40 rfl ?_
          refine r_callV (n := 2) B dX10_forBase0_42 (ct_X10_bytesOf l g sz0 ad hA hM _ _ (by omega) (by omega)) gX10_forBase0_X10_bytesOf rfl (by decide +kernel) ⟨Nat.le_of_ble_eq_true rfl, Nat.le_of_ble_eq_true rfl⟩ hM.obj rfl rfl rfl (Nat.le_of_ble_eq_true rfl) (Nat.le_of_ble_eq_true rfl) (Nat.le_of_ble_eq_true rfl) (fun v h' hp => ?_)
          obtain ⟨hv, hh⟩ := hp
          subst v
          subst h'
          dsimp only [Option.toList, List.cons_append, List.nil_append]
          refine r_goto B dX10_forBase0_45 (tgt := 49) (by decide) ?_
          refine r_iadd B dX10_forBase0_49 ?_
          refine r_istore_n B dX10_forBase0_50 rfl (by decide) (lcat_v rfl rfl) ?_
          refine r_iinc B dX10_forBase0_51 rfl (by decide) (lcat_v rfl rfl) ?_
          refine r_goto B dX10_forBase0_54 (tgt := 16) (by decide) ?_
          exact r_lv (lvLe_s rfl (lvLe_s rfl (lvLe_s rfl (lvLe_s rfl (lvLe_s rfl lvLe_nil))))) (ih (q + 1) _ (by omega) (by rw [sumZ_s _ i1.1, bI_t ((hfc q i1.1 (by omega)).mp c35), hln q i1.1 (by omega), i2]; omega) (by omega))
  exact r_lv (lvLe_s rfl (lvLe_s rfl (lvLe_s rfl (lvLe_s rfl (lvLe_s rfl lvLe_nil))))) (loop16 _ 0 _ (by omega) (Int.add_zero _).symm (Nat.lt_succ_self _))
abbrev rmX10_forDifference0 : Room := { frames := 5, cells := 0, slots := 0, locals := 121 }
theorem in_X10_forDifference0_X10 : ∀ w ∈ wsX100, w ∈ wsX10_forDifference0 := by decide +kernel
theorem w_X10_forDifference0_f19 : Cond.fieldLink RX10 19 "DeltaNightsModel" "many" "[I" ∈ wsX10_forDifference0 := by decide +kernel
set_option maxHeartbeats 4000000 in
set_option maxRecDepth 100000 in
theorem ct_X10_forDifference0 (l : Launch) (g : GG) (sz0 : Nat) (ad : Nat → Nat) (hA : ADok ad) {h h0 : AH} {mthrown mnights mbits mleast mmost mroom mreserve mmount mspeed : Int} {mdata msize mends mmany mkind mchain mholds mbid mbound mcheap mpromised mcoin mpaid mowed mturn misAsking mwant mcost misServed mitsRow mitsChunk : Int → Int} (hM : MW g ad h0 mthrown mdata msize mends mmany mkind mchain mholds mnights mbits mleast mmost mroom mreserve mmount mspeed mbid mbound mcheap mpromised mcoin mpaid mowed mturn misAsking mwant mcost misServed mitsRow mitsChunk h) (x : Int) (hx : 0 ≤ x ∧ x ≤ 3) (hsx : 0 ≤ msize (240 + x) ∧ msize (240 + x) ≤ 48)(hn0 : 0 ≤ mnights ∧ mnights ≤ 60)(hLK : LKo mends mmany) : CT l yX10_forDifference0 wsX10_forDifference0 rmX10_forDifference0 g sz0 [.ref (ad 0), .int (iI (x))] h (fun v h' => v = some (.int (iI (difB (rowF mdata (240 + x)) (cutR (rowF mdata (240 + x)) (msize (240 + x)) mbits mleast mmost).2.2 (cutR (rowF mdata (240 + x)) (msize (240 + x)) mbits mleast mmost).2.1 (inCh mdata mends mmany mkind mchain mholds mnights x)))) ∧ MW g ad h0 mthrown mdata msize (putRow mends (48 * (240 + x)) (cutR (rowF mdata (240 + x)) (msize (240 + x)) mbits mleast mmost).2.1 (cutR (rowF mdata (240 + x)) (msize (240 + x)) mbits mleast mmost).2.2) (upZ mmany (240 + x) (cutR (rowF mdata (240 + x)) (msize (240 + x)) mbits mleast mmost).2.1) mkind mchain mholds mnights mbits mleast mmost mroom mreserve mmount mspeed mbid mbound mcheap mpromised mcoin mpaid mowed mturn misAsking mwant mcost misServed mitsRow mitsChunk h') := by
  refine CT.of (by decide +kernel) rfl [some (.ref (ad 0)), some (.int (iI (x))), none, none, none] rfl (Nat.le_of_ble_eq_true rfl) ?_
  intro p e s m args below meth c B hr hlk hnm
  refine r_aload_n B dX10_forDifference0_0 rfl rfl ?_
  refine r_iload_n B dX10_forDifference0_1 rfl ?_
  refine r_callV (n := 1) B dX10_forDifference0_2 (ct_X10_cuts l g sz0 ad hA hM _ (by omega) hsx) gX10_forDifference0_X10_cuts rfl (by decide +kernel) ⟨Nat.le_of_ble_eq_true rfl, Nat.le_of_ble_eq_true rfl⟩ hM.obj rfl rfl rfl (Nat.le_of_ble_eq_true rfl) (Nat.le_of_ble_eq_true rfl) (Nat.le_of_ble_eq_true rfl) (fun v h hp => ?_)
  obtain ⟨hv, hM⟩ := hp
  subst v
  dsimp only [Option.toList, List.cons_append, List.nil_append]
  have hco := cutR_ok (rowF mdata (240 + x)) (b := mbits) (ls := mleast) (ms := mmost) hsx.1 hsx.2
  have hrp : ∀ j : Int, 0 ≤ j → j < (cutR (rowF mdata (240 + x)) (msize (240 + x)) mbits mleast mmost).2.1 → (cutR (rowF mdata (240 + x)) (msize (240 + x)) mbits mleast mmost).2.2 j = (rowF (putRow mends (48 * (240 + x)) (cutR (rowF mdata (240 + x)) (msize (240 + x)) mbits mleast mmost).2.1 (cutR (rowF mdata (240 + x)) (msize (240 + x)) mbits mleast mmost).2.2) (240 + x)) j := fun j j0 j1 => (row_put mends (240 + x) (cutR (rowF mdata (240 + x)) (msize (240 + x)) mbits mleast mmost).2.1 (cutR (rowF mdata (240 + x)) (msize (240 + x)) mbits mleast mmost).2.2 j0 j1).symm
  have hEO : EOK (rowF (putRow mends (48 * (240 + x)) (cutR (rowF mdata (240 + x)) (msize (240 + x)) mbits mleast mmost).2.1 (cutR (rowF mdata (240 + x)) (msize (240 + x)) mbits mleast mmost).2.2) (240 + x)) (cutR (rowF mdata (240 + x)) (msize (240 + x)) mbits mleast mmost).2.1 := EOK_congr hrp hco.2.2
  have hfc : ∀ q : Int, 0 ≤ q → q < (cutR (rowF mdata (240 + x)) (msize (240 + x)) mbits mleast mmost).2.1 → (fstC (chk (rowF mdata (240 + x)) (rowF (putRow mends (48 * (240 + x)) (cutR (rowF mdata (240 + x)) (msize (240 + x)) mbits mleast mmost).2.1 (cutR (rowF mdata (240 + x)) (msize (240 + x)) mbits mleast mmost).2.2) (240 + x))) q ↔ fstC (chk (rowF mdata (240 + x)) (cutR (rowF mdata (240 + x)) (msize (240 + x)) mbits mleast mmost).2.2) q) := fun q q0 q1 => (fst_congr hrp hco.2.2 q0 q1).symm
  have hln : ∀ q : Int, 0 ≤ q → q < (cutR (rowF mdata (240 + x)) (msize (240 + x)) mbits mleast mmost).2.1 → lnF (rowF (putRow mends (48 * (240 + x)) (cutR (rowF mdata (240 + x)) (msize (240 + x)) mbits mleast mmost).2.1 (cutR (rowF mdata (240 + x)) (msize (240 + x)) mbits mleast mmost).2.2) (240 + x)) q = lnF (cutR (rowF mdata (240 + x)) (msize (240 + x)) mbits mleast mmost).2.2 q := fun q q0 q1 => (lnF_congr hrp q0 q1).symm
  have hle := lk_put mends mmany (cutR (rowF mdata (240 + x)) (msize (240 + x)) mbits mleast mmost).2.2 (n := (cutR (rowF mdata (240 + x)) (msize (240 + x)) mbits mleast mmost).2.1) hx.1 (by omega)
  have hlk1 := hLK.e hle
  have hic : ∀ q : Int, 0 ≤ q → q < (cutR (rowF mdata (240 + x)) (msize (240 + x)) mbits mleast mmost).2.1 → (inCh mdata (putRow mends (48 * (240 + x)) (cutR (rowF mdata (240 + x)) (msize (240 + x)) mbits mleast mmost).2.1 (cutR (rowF mdata (240 + x)) (msize (240 + x)) mbits mleast mmost).2.2) (upZ mmany (240 + x) (cutR (rowF mdata (240 + x)) (msize (240 + x)) mbits mleast mmost).2.1) mkind mchain mholds mnights x (chk (rowF mdata (240 + x)) (rowF (putRow mends (48 * (240 + x)) (cutR (rowF mdata (240 + x)) (msize (240 + x)) mbits mleast mmost).2.1 (cutR (rowF mdata (240 + x)) (msize (240 + x)) mbits mleast mmost).2.2) (240 + x)) q) ↔ inCh mdata mends mmany mkind mchain mholds mnights x (chk (rowF mdata (240 + x)) (cutR (rowF mdata (240 + x)) (msize (240 + x)) mbits mleast mmost).2.2 q)) := fun q q0 q1 => by
    rw [← chk_congr (G := (rowF mdata (240 + x))) (G' := (rowF mdata (240 + x))) hrp q0 q1 (hco.2.2 q q0 q1).1 (fun _ _ _ => rfl)]
    exact (inCh_congr hx hn0.2 hLK hle).symm
  refine r_istore_n B dX10_forDifference0_5 rfl (by decide) (lcat_v rfl rfl) ?_
  refine r_aload_n B dX10_forDifference0_6 rfl rfl ?_
  refine m_get_many B dX10_forDifference0_7 in_X10_forDifference0_X10 w_X10_forDifference0_f19 hM ?_
  refine r_iload_n B dX10_forDifference0_10 rfl ?_
  refine m_ld_many B dX10_forDifference0_11 hM (by omega) (by omega) (fun r11 => ?_)
  rw [upZ_at]
  refine r_istore_n B dX10_forDifference0_12 rfl (by decide) (lcat_v rfl rfl) ?_
  refine r_iconst B dX10_forDifference0_13 ?_
  refine r_istore B dX10_forDifference0_14 (by decide) (lcat_v rfl rfl) ?_
  have loop16 : ∀ (nn : Nat) (q : Int) (sm : Int), (0 ≤ q ∧ q ≤ (cutR (rowF mdata (240 + x)) (msize (240 + x)) mbits mleast mmost).2.1) → (sm = (cutR (rowF mdata (240 + x)) (msize (240 + x)) mbits mleast mmost).2.1 + sumZ (fun k => bI (fstC (chk (rowF mdata (240 + x)) (cutR (rowF mdata (240 + x)) (msize (240 + x)) mbits mleast mmost).2.2) k ∧ ¬ inCh mdata mends mmany mkind mchain mholds mnights x (chk (rowF mdata (240 + x)) (cutR (rowF mdata (240 + x)) (msize (240 + x)) mbits mleast mmost).2.2 k)) * lnF (cutR (rowF mdata (240 + x)) (msize (240 + x)) mbits mleast mmost).2.2 k) q.toNat) → ((cutR (rowF mdata (240 + x)) (msize (240 + x)) mbits mleast mmost).2.1 - q).toNat < nn → WA p l e rmX10_forDifference0 s m args below meth c g sz0 5 (MQ below (QQ g sz0 (fun v h' => v = some (.int (iI (difB (rowF mdata (240 + x)) (cutR (rowF mdata (240 + x)) (msize (240 + x)) mbits mleast mmost).2.2 (cutR (rowF mdata (240 + x)) (msize (240 + x)) mbits mleast mmost).2.1 (inCh mdata mends mmany mkind mchain mholds mnights x)))) ∧ MW g ad h0 mthrown mdata msize (putRow mends (48 * (240 + x)) (cutR (rowF mdata (240 + x)) (msize (240 + x)) mbits mleast mmost).2.1 (cutR (rowF mdata (240 + x)) (msize (240 + x)) mbits mleast mmost).2.2) (upZ mmany (240 + x) (cutR (rowF mdata (240 + x)) (msize (240 + x)) mbits mleast mmost).2.1) mkind mchain mholds mnights mbits mleast mmost mroom mreserve mmount mspeed mbid mbound mcheap mpromised mcoin mpaid mowed mturn misAsking mwant mcost misServed mitsRow mitsChunk h')) args s rmX10_forDifference0.cells rmX10_forDifference0.slots (A0 sz0)) h 0 0 [some (.ref (ad 0)), some (.int (iI (x))), some (.int (iI (240 + x))), some (.int (iI (sm))), some (.int (iI (q)))] 16 [] := by
    intro nn
    induction nn with
    | zero => intro q sm i1 i2 hn; exact absurd hn (Nat.not_lt_zero _)
    | succ nn ih =>
      intro q sm i1 i2 hn
      refine r_iload B dX10_forDifference0_16 rfl ?_
      refine r_aload_n B dX10_forDifference0_18 rfl rfl ?_
      refine m_get_many B dX10_forDifference0_19 in_X10_forDifference0_X10 w_X10_forDifference0_f19 hM ?_
      refine r_iload_n B dX10_forDifference0_22 rfl ?_
      refine m_ld_many B dX10_forDifference0_23 hM (by omega) (by omega) (fun r23 => ?_)
      rw [upZ_at]
      refine r_icmp_ge B dX10_forDifference0_24 (tgt := 68) (by decide) (by omega) (by omega) (fun c24 => ?_) (fun c24 => ?_)
      · refine r_iload_n B dX10_forDifference0_68 rfl ?_
        exact r_iret B hr hlk dX10_forDifference0_69 (Nat.le_of_ble_eq_true rfl) (Nat.le_of_ble_eq_true rfl) ⟨by rw [i2, show q = (cutR (rowF mdata (240 + x)) (msize (240 + x)) mbits mleast mmost).2.1 by omega]; rfl, hM⟩
      · refine r_iload_n B dX10_forDifference0_27 rfl ?_
        refine r_aload_n B dX10_forDifference0_28 rfl rfl ?_
        refine r_iload_n B dX10_forDifference0_29 rfl ?_
        refine r_iload B dX10_forDifference0_30 rfl ?_
        refine r_callV (n := 2) B dX10_forDifference0_32 (ct_X10_isFirst l g sz0 ad hA hM _ _ (n := (cutR (rowF mdata (240 + x)) (msize (240 + x)) mbits mleast mmost).2.1) (by omega) (by omega) (by omega) hEO) gX10_forDifference0_X10_isFirst rfl (by decide +kernel) ⟨Nat.le_of_ble_eq_true rfl, Nat.le_of_ble_eq_true rfl⟩ hM.obj rfl rfl rfl (Nat.le_of_ble_eq_true rfl) (Nat.le_of_ble_eq_true rfl) (Nat.le_of_ble_eq_true rfl) (fun v h' hp => ?_)
        obtain ⟨hv, hh⟩ := hp
        subst v
        subst h'
        dsimp only [Option.toList, List.cons_append, List.nil_append]
        refine r_if_eq B dX10_forDifference0_35 (tgt := 59) (by decide) (bI_rng _) (fun c35 => ?_) (fun c35 => ?_)
        · replace c35 := bI_0.mp c35
          refine r_iconst B dX10_forDifference0_59 ?_
          refine r_iadd B dX10_forDifference0_60 ?_
          refine r_istore_n B dX10_forDifference0_61 rfl (by decide) (lcat_v rfl rfl) ?_
          refine r_iinc B dX10_forDifference0_62 rfl (by decide) (lcat_v rfl rfl) ?_
          refine r_goto B dX10_forDifference0_65 (tgt := 16) (by decide) ?_
          exact r_lv (lvLe_s rfl (lvLe_s rfl (lvLe_s rfl (lvLe_s rfl (lvLe_s rfl lvLe_nil))))) (ih (q + 1) _ (by omega) (by rw [sumZ_s _ i1.1, bI_f (fun z => c35 ((hfc q i1.1 (by omega)).mpr z.1)), i2]; omega) (by omega))
        · replace c35 := bI_n0.mp c35
          refine r_aload_n B dX10_forDifference0_38 rfl rfl ?_
          refine r_iload_n B dX10_forDifference0_39 rfl ?_
          refine r_iload_n B dX10_forDifference0_40 rfl ?_
          refine r_iload B dX10_forDifference0_41 rfl ?_
          refine r_callV (n := 3) B dX10_forDifference0_43 (ct_X10_isInChain l g sz0 ad hA hM _ _ _ (by omega) (by omega) (by omega) (hEO q i1.1 (by omega)) hn0 (fun z z0 z1 => (hlk1 z z0 z1).1) (fun z z0 z1 => (hlk1 z z0 z1).2)) gX10_forDifference0_X10_isInChain rfl (by decide +kernel) ⟨Nat.le_of_ble_eq_true rfl, Nat.le_of_ble_eq_true rfl⟩ hM.obj rfl rfl rfl (Nat.le_of_ble_eq_true rfl) (Nat.le_of_ble_eq_true rfl) (Nat.le_of_ble_eq_true rfl) (fun v h' hp => ?_)
          obtain ⟨hv, hh⟩ := hp
          subst v
          subst h'
          dsimp only [Option.toList, List.cons_append, List.nil_append]
          refine r_if_ne B dX10_forDifference0_46 (tgt := 59) (by decide) (bI_rng _) (fun c46 => ?_) (fun c46 => ?_)
          · replace c46 := bI_n0.mp c46
            refine r_iconst B dX10_forDifference0_59 ?_
            refine r_iadd B dX10_forDifference0_60 ?_
            refine r_istore_n B dX10_forDifference0_61 rfl (by decide) (lcat_v rfl rfl) ?_
            refine r_iinc B dX10_forDifference0_62 rfl (by decide) (lcat_v rfl rfl) ?_
            refine r_goto B dX10_forDifference0_65 (tgt := 16) (by decide) ?_
            exact r_lv (lvLe_s rfl (lvLe_s rfl (lvLe_s rfl (lvLe_s rfl (lvLe_s rfl lvLe_nil))))) (ih (q + 1) _ (by omega) (by rw [sumZ_s _ i1.1, bI_f (fun z => z.2 ((hic q i1.1 (by omega)).mp c46)), i2]; omega) (by omega))
          · replace c46 := bI_0.mp c46
            refine r_aload_n B dX10_forDifference0_49 rfl rfl ?_
            refine r_iload_n B dX10_forDifference0_50 rfl ?_
            refine r_iload B dX10_forDifference0_51 rfl ?_
            refine r_callV (n := 2) B dX10_forDifference0_53 (ct_X10_bytesOf l g sz0 ad hA hM _ _ (by omega) (by omega)) gX10_forDifference0_X10_bytesOf rfl (by decide +kernel) ⟨Nat.le_of_ble_eq_true rfl, Nat.le_of_ble_eq_true rfl⟩ hM.obj rfl rfl rfl (Nat.le_of_ble_eq_true rfl) (Nat.le_of_ble_eq_true rfl) (Nat.le_of_ble_eq_true rfl) (fun v h' hp => ?_)
            obtain ⟨hv, hh⟩ := hp
            subst v
            subst h'
            dsimp only [Option.toList, List.cons_append, List.nil_append]
            refine r_goto B dX10_forDifference0_56 (tgt := 60) (by decide) ?_
            refine r_iadd B dX10_forDifference0_60 ?_
            refine r_istore_n B dX10_forDifference0_61 rfl (by decide) (lcat_v rfl rfl) ?_
            refine r_iinc B dX10_forDifference0_62 rfl (by decide) (lcat_v rfl rfl) ?_
            refine r_goto B dX10_forDifference0_65 (tgt := 16) (by decide) ?_
            exact r_lv (lvLe_s rfl (lvLe_s rfl (lvLe_s rfl (lvLe_s rfl (lvLe_s rfl lvLe_nil))))) (ih (q + 1) _ (by omega) (by rw [sumZ_s _ i1.1, bI_t ⟨(hfc q i1.1 (by omega)).mp c35, fun z => c46 ((hic q i1.1 (by omega)).mpr z)⟩, hln q i1.1 (by omega), i2]; omega) (by omega))
  exact r_lv (lvLe_s rfl (lvLe_s rfl (lvLe_s rfl (lvLe_s rfl (lvLe_s rfl lvLe_nil))))) (loop16 _ 0 _ (by omega) (Int.add_zero _).symm (Nat.lt_succ_self _))
abbrev rmX10_held0 : Room := { frames := 0, cells := 0, slots := 0, locals := 0 }
theorem in_X10_held0_X10 : ∀ w ∈ wsX100, w ∈ wsX10_held0 := by decide +kernel
theorem w_X10_held0_f19 : Cond.fieldLink RX10 19 "DeltaNightsModel" "many" "[I" ∈ wsX10_held0 := by decide +kernel
theorem w_X10_held0_f28 : Cond.fieldLink RX10 28 "DeltaNightsModel" "holds" "[Z" ∈ wsX10_held0 := by decide +kernel
set_option maxHeartbeats 4000000 in
set_option maxRecDepth 100000 in
theorem ct_X10_held0 (l : Launch) (g : GG) (sz0 : Nat) (ad : Nat → Nat) (hA : ADok ad) {h h0 : AH} {mthrown mnights mbits mleast mmost mroom mreserve mmount mspeed : Int} {mdata msize mends mmany mkind mchain mholds mbid mbound mcheap mpromised mcoin mpaid mowed mturn misAsking mwant mcost misServed mitsRow mitsChunk : Int → Int} (hM : MW g ad h0 mthrown mdata msize mends mmany mkind mchain mholds mnights mbits mleast mmost mroom mreserve mmount mspeed mbid mbound mcheap mpromised mcoin mpaid mowed mturn misAsking mwant mcost misServed mitsRow mitsChunk h) (y : Int) (hy : 0 ≤ y ∧ y < 240) (hm : 0 ≤ mmany y ∧ mmany y ≤ 48) : CT l yX10_held0 wsX10_held0 rmX10_held0 g sz0 [.ref (ad 0), .int (iI (y))] h (fun v h' => v = some (.int (iI (sumZ (fun j => bI (rowF mholds y j ≠ 0)) (mmany y).toNat))) ∧ h' = h) := by
  refine CT.of (by decide +kernel) rfl [some (.ref (ad 0)), some (.int (iI (y))), none, none] rfl (Nat.le_of_ble_eq_true rfl) ?_
  intro p e s m args below meth c B hr hlk hnm
  refine r_iconst B dX10_held0_0 ?_
  refine r_istore_n B dX10_held0_1 rfl (by decide) (lcat_v rfl rfl) ?_
  refine r_iconst B dX10_held0_2 ?_
  refine r_istore_n B dX10_held0_3 rfl (by decide) (lcat_v rfl rfl) ?_
  have loop4 : ∀ (nn : Nat) (q : Int) (sm : Int), (0 ≤ q ∧ q ≤ mmany y) → (sm = sumZ (fun j => bI (rowF mholds y j ≠ 0)) q.toNat) → (mmany y - q).toNat < nn → WA p l e rmX10_held0 s m args below meth c g sz0 4 (MQ below (QQ g sz0 (fun v h' => v = some (.int (iI (sumZ (fun j => bI (rowF mholds y j ≠ 0)) (mmany y).toNat))) ∧ h' = h)) args s rmX10_held0.cells rmX10_held0.slots (A0 sz0)) h 0 0 [some (.ref (ad 0)), some (.int (iI (y))), some (.int (iI (sm))), some (.int (iI (q)))] 4 [] := by
    intro nn
    induction nn with
    | zero => intro q sm i1 i2 hn; exact absurd hn (Nat.not_lt_zero _)
    | succ nn ih =>
      intro q sm i1 i2 hn
      refine r_iload_n B dX10_held0_4 rfl ?_
      refine r_aload_n B dX10_held0_5 rfl rfl ?_
      refine m_get_many B dX10_held0_6 in_X10_held0_X10 w_X10_held0_f19 hM ?_
      refine r_iload_n B dX10_held0_9 rfl ?_
      refine m_ld_many B dX10_held0_10 hM (by omega) (by omega) (fun r10 => ?_)
      refine r_icmp_ge B dX10_held0_11 (tgt := 42) (by decide) (by omega) (by omega) (fun c11 => ?_) (fun c11 => ?_)
      · refine r_iload_n B dX10_held0_42 rfl ?_
        exact r_iret B hr hlk dX10_held0_43 (Nat.le_of_ble_eq_true rfl) (Nat.le_of_ble_eq_true rfl) ⟨by rw [i2, show q = mmany y by omega], rfl⟩
      · refine r_iload_n B dX10_held0_14 rfl ?_
        refine r_aload_n B dX10_held0_15 rfl rfl ?_
        refine m_get_holds B dX10_held0_16 in_X10_held0_X10 w_X10_held0_f28 hM ?_
        refine r_bipush B dX10_held0_19 (by decide) ?_
        refine r_iload_n B dX10_held0_21 rfl ?_
        refine r_imul B dX10_held0_22 ?_
        refine r_iload_n B dX10_held0_23 rfl ?_
        refine r_iadd B dX10_held0_24 ?_
        refine m_ld_holds B dX10_held0_25 hM (by omega) (by omega) (fun r25 => ?_)
        refine r_if_eq B dX10_held0_26 (tgt := 33) (by decide) (by omega) (fun c26 => ?_) (fun c26 => ?_)
        · refine r_iconst B dX10_held0_33 ?_
          refine r_iadd B dX10_held0_34 ?_
          refine r_istore_n B dX10_held0_35 rfl (by decide) (lcat_v rfl rfl) ?_
          refine r_iinc B dX10_held0_36 rfl (by decide) (lcat_v rfl rfl) ?_
          refine r_goto B dX10_held0_39 (tgt := 4) (by decide) ?_
          exact r_lv (lvLe_s rfl (lvLe_s rfl (lvLe_s rfl (lvLe_s rfl lvLe_nil)))) (ih (q + 1) _ (by omega) (by rw [sumZ_s _ i1.1, bI_f (fun z => z c26), i2]) (by omega))
        · refine r_iconst B dX10_held0_29 ?_
          refine r_goto B dX10_held0_30 (tgt := 34) (by decide) ?_
          refine r_iadd B dX10_held0_34 ?_
          refine r_istore_n B dX10_held0_35 rfl (by decide) (lcat_v rfl rfl) ?_
          refine r_iinc B dX10_held0_36 rfl (by decide) (lcat_v rfl rfl) ?_
          refine r_goto B dX10_held0_39 (tgt := 4) (by decide) ?_
          exact r_lv (lvLe_s rfl (lvLe_s rfl (lvLe_s rfl (lvLe_s rfl lvLe_nil)))) (ih (q + 1) _ (by omega) (by rw [sumZ_s _ i1.1, bI_t (show rowF mholds y q ≠ 0 from c26), i2]) (by omega))
  exact r_lv (lvLe_s rfl (lvLe_s rfl (lvLe_s rfl (lvLe_s rfl lvLe_nil)))) (loop4 _ 0 _ (by omega) rfl (Nat.lt_succ_self _))
