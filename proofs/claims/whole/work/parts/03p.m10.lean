abbrev rmX10_goes : Room := { frames := 6, cells := 0, slots := 0, locals := 145 }
theorem in_X10_goes_X10 : ∀ w ∈ wsX100, w ∈ wsX10_goes := by decide +kernel
theorem w_X10_goes_f42 : Cond.fieldLink RX10 42 "DeltaNightsModel" "room" "I" ∈ wsX10_goes := by decide +kernel
theorem w_X10_goes_f75 : Cond.fieldLink RX10 75 "DeltaNightsModel" "turn" "[I" ∈ wsX10_goes := by decide +kernel
theorem w_X10_goes_f87 : Cond.fieldLink RX10 87 "DeltaNightsModel" "isServed" "[Z" ∈ wsX10_goes := by decide +kernel
theorem w_X10_goes_f84 : Cond.fieldLink RX10 84 "DeltaNightsModel" "cost" "[I" ∈ wsX10_goes := by decide +kernel
theorem w_X10_goes_f78 : Cond.fieldLink RX10 78 "DeltaNightsModel" "isAsking" "[Z" ∈ wsX10_goes := by decide +kernel
theorem w_X10_goes_f81 : Cond.fieldLink RX10 81 "DeltaNightsModel" "want" "[I" ∈ wsX10_goes := by decide +kernel
theorem w_X10_goes_f54 : Cond.fieldLink RX10 54 "DeltaNightsModel" "bid" "[I" ∈ wsX10_goes := by decide +kernel
theorem w_X10_goes_f45 : Cond.fieldLink RX10 45 "DeltaNightsModel" "reserve" "I" ∈ wsX10_goes := by decide +kernel
set_option maxHeartbeats 4000000 in
set_option maxRecDepth 100000 in
theorem ct_X10_goes (l : Launch) (g : GG) (sz0 : Nat) (ad : Nat → Nat) (hA : ADok ad) {h h0 : AH} {mthrown mnights mbits mleast mmost mroom mreserve mmount mspeed : Int} {mdata msize mends mmany mkind mchain mholds mbid mbound mcheap mpromised mcoin mpaid mowed mturn misAsking mwant mcost misServed mitsRow mitsChunk : Int → Int} (hM : MW g ad h0 mthrown mdata msize mends mmany mkind mchain mholds mnights mbits mleast mmost mroom mreserve mmount mspeed mbid mbound mcheap mpromised mcoin mpaid mowed mturn misAsking mwant mcost misServed mitsRow mitsChunk h) (hn0 : 0 ≤ mnights ∧ mnights ≤ 60)(hLK : LKo mends mmany)(hs : ∀ z : Int, 0 ≤ z ∧ z ≤ 3 → 0 ≤ msize (240 + z) ∧ msize (240 + z) ≤ 48)(hrm : 0 ≤ mroom ∧ mroom ≤ 500) : CT l yX10_goes wsX10_goes rmX10_goes g sz0 [.ref (ad 0)] h (fun v h' => v = none ∧ ∃ tt AS WT CS SV e1 m1 : Int → Int, turnOK mbid tt ∧ LKe mends mmany e1 m1 ∧ gI (wbP mkind mbound mcheap mnights mreserve) (mNC mkind mnights) (mOT mdata msize mends mmany mkind mnights mbits mleast mmost) (mAK mdata msize mends mmany mkind mbid mbound mcheap mnights mreserve mbits mleast mmost) (mBS mdata msize mbits mleast mmost) (mDF mdata msize mends mmany mkind mchain mholds mnights mbits mleast mmost) mroom tt AS WT CS SV 4 ∧ MW g ad h0 mthrown mdata msize e1 m1 mkind mchain mholds mnights mbits mleast mmost mroom mreserve mmount mspeed mbid mbound mcheap mpromised mcoin mpaid mowed tt AS WT CS SV mitsRow mitsChunk h') := by
  refine CT.of (by decide +kernel) rfl [some (.ref (ad 0)), none, none, none, none, none, none] rfl (Nat.le_of_ble_eq_true rfl) ?_
  intro p e s m args below meth c B hr hlk hnm
  refine r_aload_n B dX10_goes_0 rfl rfl ?_
  refine r_callV (n := 0) B dX10_goes_1 (ct_X10_sorts l g sz0 ad hA hM) gX10_goes_X10_sorts rfl (by decide +kernel) ⟨Nat.le_of_ble_eq_true rfl, Nat.le_of_ble_eq_true rfl⟩ hM.obj rfl rfl rfl (Nat.le_of_ble_eq_true rfl) (Nat.le_of_ble_eq_true rfl) (Nat.le_of_ble_eq_true rfl) (fun v h hp => ?_)
  obtain ⟨hv, tt, htt, hM⟩ := hp
  subst v
  dsimp only [Option.toList, List.cons_append, List.nil_append]
  refine r_aload_n B dX10_goes_4 rfl rfl ?_
  refine m_get_room B dX10_goes_5 in_X10_goes_X10 w_X10_goes_f42 hM (fun r5 => ?_)
  refine r_istore_n B dX10_goes_8 rfl (by decide) (lcat_v rfl rfl) ?_
  refine r_iconst B dX10_goes_9 ?_
  refine r_istore_n B dX10_goes_10 rfl (by decide) (lcat_v rfl rfl) ?_
  have loop11 : ∀ (nn : Nat) (q : Int) (left : Int) (AS : Int → Int) (WT : Int → Int) (CS : Int → Int) (SV : Int → Int) (e1 : Int → Int) (m1 : Int → Int) (h : AH), MW g ad h0 mthrown mdata msize e1 m1 mkind mchain mholds mnights mbits mleast mmost mroom mreserve mmount mspeed mbid mbound mcheap mpromised mcoin mpaid mowed tt AS WT CS SV mitsRow mitsChunk h → (0 ≤ q ∧ q ≤ 4) → (left = lft (wbP mkind mbound mcheap mnights mreserve) (mNC mkind mnights) (mOT mdata msize mends mmany mkind mnights mbits mleast mmost) (mAK mdata msize mends mmany mkind mbid mbound mcheap mnights mreserve mbits mleast mmost) (mBS mdata msize mbits mleast mmost) (mDF mdata msize mends mmany mkind mchain mholds mnights mbits mleast mmost) mroom tt (q).toNat) → (0 ≤ left ∧ left ≤ mroom) → (LKe mends mmany e1 m1) → (gI (wbP mkind mbound mcheap mnights mreserve) (mNC mkind mnights) (mOT mdata msize mends mmany mkind mnights mbits mleast mmost) (mAK mdata msize mends mmany mkind mbid mbound mcheap mnights mreserve mbits mleast mmost) (mBS mdata msize mbits mleast mmost) (mDF mdata msize mends mmany mkind mchain mholds mnights mbits mleast mmost) mroom tt AS WT CS SV q) → (4 - q).toNat < nn → WA p l e rmX10_goes s m args below meth c g sz0 7 (MQ below (QQ g sz0 (fun v h' => v = none ∧ ∃ tt AS WT CS SV e1 m1 : Int → Int, turnOK mbid tt ∧ LKe mends mmany e1 m1 ∧ gI (wbP mkind mbound mcheap mnights mreserve) (mNC mkind mnights) (mOT mdata msize mends mmany mkind mnights mbits mleast mmost) (mAK mdata msize mends mmany mkind mbid mbound mcheap mnights mreserve mbits mleast mmost) (mBS mdata msize mbits mleast mmost) (mDF mdata msize mends mmany mkind mchain mholds mnights mbits mleast mmost) mroom tt AS WT CS SV 4 ∧ MW g ad h0 mthrown mdata msize e1 m1 mkind mchain mholds mnights mbits mleast mmost mroom mreserve mmount mspeed mbid mbound mcheap mpromised mcoin mpaid mowed tt AS WT CS SV mitsRow mitsChunk h')) args s rmX10_goes.cells rmX10_goes.slots (A0 sz0)) h 0 0 [some (.ref (ad 0)), some (.int (iI (left))), some (.int (iI (q))), none, none, none, none] 11 [] := by
    intro nn
    induction nn with
    | zero => intro q left AS WT CS SV e1 m1 h hM i1 i2 i3 k_e1 i5 hn; exact absurd hn (Nat.not_lt_zero _)
    | succ nn ih =>
      intro q left AS WT CS SV e1 m1 h hM i1 i2 i3 k_e1 i5 hn
      refine r_iload_n B dX10_goes_11 rfl ?_
      refine r_iconst B dX10_goes_12 ?_
      refine r_icmp_ge B dX10_goes_13 (tgt := 245) (by decide) (by omega) (by omega) (fun c13 => ?_) (fun c13 => ?_)
      · exact r_vret B hr hlk dX10_goes_245 (Nat.le_of_ble_eq_true rfl) (Nat.le_of_ble_eq_true rfl) ⟨rfl, tt, AS, WT, CS, SV, e1, m1, htt, k_e1, (show q = 4 by omega) ▸ i5, hM⟩
      · have htq := htt.2 q (by omega) (by omega)
        have hcq := htq.1
        have hsq := hs (tt q) hcq
        have hco := cutR_ok (rowF mdata (240 + (tt q))) (b := mbits) (ls := mleast) (ms := mmost) hsq.1 hsq.2
        have hld := ltN_rng (colF mkind (tt q)) mnights.toNat
        have hbs : 0 ≤ (mBS mdata msize mbits mleast mmost) (tt q) ∧ (mBS mdata msize mbits mleast mmost) (tt q) ≤ 3000 := baseB_rng (n := (cutR (rowF mdata (240 + (tt q))) (msize (240 + (tt q))) mbits mleast mmost).2.1) ⟨hco.1, Int.le_trans hco.2.1 hsq.2⟩ hco.2.2
        have hdf : 0 ≤ (mDF mdata msize mends mmany mkind mchain mholds mnights mbits mleast mmost) (tt q) ∧ (mDF mdata msize mends mmany mkind mchain mholds mnights mbits mleast mmost) (tt q) ≤ 3000 := difB_rng (n := (cutR (rowF mdata (240 + (tt q))) (msize (240 + (tt q))) mbits mleast mmost).2.1) ⟨hco.1, Int.le_trans hco.2.1 hsq.2⟩ hco.2.2
        have hcs := cst_rng (WB := (wbP mkind mbound mcheap mnights mreserve)) (NC := (mNC mkind mnights)) (OT := (mOT mdata msize mends mmany mkind mnights mbits mleast mmost)) hbs hdf left
        have hwn := wnt_rng (wbP mkind mbound mcheap mnights mreserve) (mNC mkind mnights) (mOT mdata msize mends mmany mkind mnights mbits mleast mmost) (mBS mdata msize mbits mleast mmost) (tt q) left
        have hdj : ∀ j : Int, 0 ≤ j → j < q → tt j ≠ tt q := fun j j0 j1 z9 => by
          have h8 := (htt.2 j j0 (by omega)).2
          rw [z9, htq.2] at h8
          omega
        have hrl := hM.i_room
        refine r_aload_n B dX10_goes_16 rfl rfl ?_
        refine m_get_turn B dX10_goes_17 in_X10_goes_X10 w_X10_goes_f75 hM ?_
        refine r_iload_n B dX10_goes_20 rfl ?_
        refine m_ld_turn B dX10_goes_21 hM (by omega) (by omega) (fun r21 => ?_)
        refine r_istore_n B dX10_goes_22 rfl (by decide) (lcat_v rfl rfl) ?_
        refine r_aload_n B dX10_goes_23 rfl rfl ?_
        refine r_iload_n B dX10_goes_24 rfl ?_
        refine r_callV (n := 1) B dX10_goes_25 (ct_X10_wantsBase l g sz0 ad hA hM _ hcq hn0) gX10_goes_X10_wantsBase rfl (by decide +kernel) ⟨Nat.le_of_ble_eq_true rfl, Nat.le_of_ble_eq_true rfl⟩ hM.obj rfl rfl rfl (Nat.le_of_ble_eq_true rfl) (Nat.le_of_ble_eq_true rfl) (Nat.le_of_ble_eq_true rfl) (fun v h' hp => ?_)
        obtain ⟨hv, hh⟩ := hp
        subst v
        subst h'
        dsimp only [Option.toList, List.cons_append, List.nil_append]
        refine r_istore B dX10_goes_28 (by decide) (lcat_v rfl rfl) ?_
        refine r_aload_n B dX10_goes_30 rfl rfl ?_
        refine r_iload_n B dX10_goes_31 rfl ?_
        refine r_callV (n := 1) B dX10_goes_32 (ct_X10_latestNow l g sz0 ad hA hM _ hcq hn0) gX10_goes_X10_latestNow rfl (by decide +kernel) ⟨Nat.le_of_ble_eq_true rfl, Nat.le_of_ble_eq_true rfl⟩ hM.obj rfl rfl rfl (Nat.le_of_ble_eq_true rfl) (Nat.le_of_ble_eq_true rfl) (Nat.le_of_ble_eq_true rfl) (fun v h' hp => ?_)
        obtain ⟨hv, hh⟩ := hp
        subst v
        subst h'
        dsimp only [Option.toList, List.cons_append, List.nil_append]
        have hz : ltv (tt q) (ltN (colF mkind (tt q)) mnights.toNat) = -1 ↔ (mNC mkind mnights) (tt q) := by unfold mNC ltv; split <;> omega
        have hzr : -1 ≤ ltv (tt q) (ltN (colF mkind (tt q)) mnights.toNat) ∧ ltv (tt q) (ltN (colF mkind (tt q)) mnights.toNat) < 300 := by unfold ltv; split <;> omega
        have join44 : WA p l e rmX10_goes s m args below meth c g sz0 7 (MQ below (QQ g sz0 (fun v h' => v = none ∧ ∃ tt AS WT CS SV e1 m1 : Int → Int, turnOK mbid tt ∧ LKe mends mmany e1 m1 ∧ gI (wbP mkind mbound mcheap mnights mreserve) (mNC mkind mnights) (mOT mdata msize mends mmany mkind mnights mbits mleast mmost) (mAK mdata msize mends mmany mkind mbid mbound mcheap mnights mreserve mbits mleast mmost) (mBS mdata msize mbits mleast mmost) (mDF mdata msize mends mmany mkind mchain mholds mnights mbits mleast mmost) mroom tt AS WT CS SV 4 ∧ MW g ad h0 mthrown mdata msize e1 m1 mkind mchain mholds mnights mbits mleast mmost mroom mreserve mmount mspeed mbid mbound mcheap mpromised mcoin mpaid mowed tt AS WT CS SV mitsRow mitsChunk h')) args s rmX10_goes.cells rmX10_goes.slots (A0 sz0)) h 0 0 [some (.ref (ad 0)), some (.int (iI (left))), some (.int (iI (q))), some (.int (iI (tt q))), some (.int (iI (bI ((wbP mkind mbound mcheap mnights mreserve) (tt q))))), none, none] 44 [.int (iI (bI (¬ (mNC mkind mnights) (tt q))))] := by
          refine r_istore B dX10_goes_44 (by decide) (lcat_v rfl rfl) ?_
          have join91 : ∀ (e2 : Int → Int) (m2 : Int → Int) (h : AH), MW g ad h0 mthrown mdata msize e2 m2 mkind mchain mholds mnights mbits mleast mmost mroom mreserve mmount mspeed mbid mbound mcheap mpromised mcoin mpaid mowed tt AS WT CS SV mitsRow mitsChunk h → (LKe mends mmany e2 m2) → WA p l e rmX10_goes s m args below meth c g sz0 7 (MQ below (QQ g sz0 (fun v h' => v = none ∧ ∃ tt AS WT CS SV e1 m1 : Int → Int, turnOK mbid tt ∧ LKe mends mmany e1 m1 ∧ gI (wbP mkind mbound mcheap mnights mreserve) (mNC mkind mnights) (mOT mdata msize mends mmany mkind mnights mbits mleast mmost) (mAK mdata msize mends mmany mkind mbid mbound mcheap mnights mreserve mbits mleast mmost) (mBS mdata msize mbits mleast mmost) (mDF mdata msize mends mmany mkind mchain mholds mnights mbits mleast mmost) mroom tt AS WT CS SV 4 ∧ MW g ad h0 mthrown mdata msize e1 m1 mkind mchain mholds mnights mbits mleast mmost mroom mreserve mmount mspeed mbid mbound mcheap mpromised mcoin mpaid mowed tt AS WT CS SV mitsRow mitsChunk h')) args s rmX10_goes.cells rmX10_goes.slots (A0 sz0)) h 0 0 [some (.ref (ad 0)), some (.int (iI (left))), some (.int (iI (q))), some (.int (iI (tt q))), some (.int (iI (bI ((wbP mkind mbound mcheap mnights mreserve) (tt q))))), some (.int (iI (bI (¬ (mNC mkind mnights) (tt q))))), none] 91 [.int (iI (bI ((mAK mdata msize mends mmany mkind mbid mbound mcheap mnights mreserve mbits mleast mmost) (tt q)))), .int (iI (tt q)), .ref (ad 24)] := by
            intro e2 m2 h hM k_e2
            refine m_st_isAsking B dX10_goes_91 hA hM (by omega) (by omega) (bI_01 _) (fun h hM => ?_)
            refine r_aload_n B dX10_goes_92 rfl rfl ?_
            refine r_iload_n B dX10_goes_93 rfl ?_
            refine r_callV (n := 1) B dX10_goes_94 (ct_X10_forBase0 l g sz0 ad hA hM _ hcq hsq) gX10_goes_X10_forBase0 rfl (by decide +kernel) ⟨Nat.le_of_ble_eq_true rfl, Nat.le_of_ble_eq_true rfl⟩ hM.obj rfl rfl rfl (Nat.le_of_ble_eq_true rfl) (Nat.le_of_ble_eq_true rfl) (Nat.le_of_ble_eq_true rfl) (fun v h hp => ?_)
            obtain ⟨hv, hM⟩ := hp
            subst v
            dsimp only [Option.toList, List.cons_append, List.nil_append]
            have k_e3 := LKe.trans k_e2 (lk_put e2 m2 (cutR (rowF mdata (240 + (tt q))) (msize (240 + (tt q))) mbits mleast mmost).2.2 (n := (cutR (rowF mdata (240 + (tt q))) (msize (240 + (tt q))) mbits mleast mmost).2.1) hcq.1 (by omega))
            refine r_topz (y := (mBS mdata msize mbits mleast mmost) (tt q)) rfl ?_
            refine r_istore B dX10_goes_97 (by decide) (lcat_v rfl rfl) ?_
            have join137 : ∀ (e4 : Int → Int) (m4 : Int → Int) (h : AH), MW g ad h0 mthrown mdata msize e4 m4 mkind mchain mholds mnights mbits mleast mmost mroom mreserve mmount mspeed mbid mbound mcheap mpromised mcoin mpaid mowed tt (upZ AS (tt q) (bI ((mAK mdata msize mends mmany mkind mbid mbound mcheap mnights mreserve mbits mleast mmost) (tt q)))) WT CS SV mitsRow mitsChunk h → (LKe mends mmany e4 m4) → WA p l e rmX10_goes s m args below meth c g sz0 7 (MQ below (QQ g sz0 (fun v h' => v = none ∧ ∃ tt AS WT CS SV e1 m1 : Int → Int, turnOK mbid tt ∧ LKe mends mmany e1 m1 ∧ gI (wbP mkind mbound mcheap mnights mreserve) (mNC mkind mnights) (mOT mdata msize mends mmany mkind mnights mbits mleast mmost) (mAK mdata msize mends mmany mkind mbid mbound mcheap mnights mreserve mbits mleast mmost) (mBS mdata msize mbits mleast mmost) (mDF mdata msize mends mmany mkind mchain mholds mnights mbits mleast mmost) mroom tt AS WT CS SV 4 ∧ MW g ad h0 mthrown mdata msize e1 m1 mkind mchain mholds mnights mbits mleast mmost mroom mreserve mmount mspeed mbid mbound mcheap mpromised mcoin mpaid mowed tt AS WT CS SV mitsRow mitsChunk h')) args s rmX10_goes.cells rmX10_goes.slots (A0 sz0)) h 0 0 [some (.ref (ad 0)), some (.int (iI (left))), some (.int (iI (q))), some (.int (iI (tt q))), some (.int (iI (bI ((wbP mkind mbound mcheap mnights mreserve) (tt q))))), some (.int (iI (bI (¬ (mNC mkind mnights) (tt q))))), some (.int (iI ((mBS mdata msize mbits mleast mmost) (tt q))))] 137 [.int (iI (wnt (wbP mkind mbound mcheap mnights mreserve) (mNC mkind mnights) (mOT mdata msize mends mmany mkind mnights mbits mleast mmost) (mBS mdata msize mbits mleast mmost) (tt q) left)), .int (iI (tt q)), .ref (ad 25)] := by
              intro e4 m4 h hM k_e4
              refine m_st_want B dX10_goes_137 hA hM (by omega) (by omega) (by omega) (fun h hM => ?_)
              have join177 : ∀ (e5 : Int → Int) (m5 : Int → Int) (h : AH), MW g ad h0 mthrown mdata msize e5 m5 mkind mchain mholds mnights mbits mleast mmost mroom mreserve mmount mspeed mbid mbound mcheap mpromised mcoin mpaid mowed tt (upZ AS (tt q) (bI ((mAK mdata msize mends mmany mkind mbid mbound mcheap mnights mreserve mbits mleast mmost) (tt q)))) (upZ WT (tt q) (wnt (wbP mkind mbound mcheap mnights mreserve) (mNC mkind mnights) (mOT mdata msize mends mmany mkind mnights mbits mleast mmost) (mBS mdata msize mbits mleast mmost) (tt q) left)) CS SV mitsRow mitsChunk h → (LKe mends mmany e5 m5) → WA p l e rmX10_goes s m args below meth c g sz0 7 (MQ below (QQ g sz0 (fun v h' => v = none ∧ ∃ tt AS WT CS SV e1 m1 : Int → Int, turnOK mbid tt ∧ LKe mends mmany e1 m1 ∧ gI (wbP mkind mbound mcheap mnights mreserve) (mNC mkind mnights) (mOT mdata msize mends mmany mkind mnights mbits mleast mmost) (mAK mdata msize mends mmany mkind mbid mbound mcheap mnights mreserve mbits mleast mmost) (mBS mdata msize mbits mleast mmost) (mDF mdata msize mends mmany mkind mchain mholds mnights mbits mleast mmost) mroom tt AS WT CS SV 4 ∧ MW g ad h0 mthrown mdata msize e1 m1 mkind mchain mholds mnights mbits mleast mmost mroom mreserve mmount mspeed mbid mbound mcheap mpromised mcoin mpaid mowed tt AS WT CS SV mitsRow mitsChunk h')) args s rmX10_goes.cells rmX10_goes.slots (A0 sz0)) h 0 0 [some (.ref (ad 0)), some (.int (iI (left))), some (.int (iI (q))), some (.int (iI (tt q))), some (.int (iI (bI ((wbP mkind mbound mcheap mnights mreserve) (tt q))))), some (.int (iI (bI (¬ (mNC mkind mnights) (tt q))))), some (.int (iI ((mBS mdata msize mbits mleast mmost) (tt q))))] 177 [.int (iI (cst (wbP mkind mbound mcheap mnights mreserve) (mNC mkind mnights) (mOT mdata msize mends mmany mkind mnights mbits mleast mmost) (mBS mdata msize mbits mleast mmost) (mDF mdata msize mends mmany mkind mchain mholds mnights mbits mleast mmost) (tt q) left)), .int (iI (tt q)), .ref (ad 26)] := by
                intro e5 m5 h hM k_e5
                refine m_st_cost B dX10_goes_177 hA hM (by omega) (by omega) (by omega) (fun h hM => ?_)
                have join216 : WA p l e rmX10_goes s m args below meth c g sz0 7 (MQ below (QQ g sz0 (fun v h' => v = none ∧ ∃ tt AS WT CS SV e1 m1 : Int → Int, turnOK mbid tt ∧ LKe mends mmany e1 m1 ∧ gI (wbP mkind mbound mcheap mnights mreserve) (mNC mkind mnights) (mOT mdata msize mends mmany mkind mnights mbits mleast mmost) (mAK mdata msize mends mmany mkind mbid mbound mcheap mnights mreserve mbits mleast mmost) (mBS mdata msize mbits mleast mmost) (mDF mdata msize mends mmany mkind mchain mholds mnights mbits mleast mmost) mroom tt AS WT CS SV 4 ∧ MW g ad h0 mthrown mdata msize e1 m1 mkind mchain mholds mnights mbits mleast mmost mroom mreserve mmount mspeed mbid mbound mcheap mpromised mcoin mpaid mowed tt AS WT CS SV mitsRow mitsChunk h')) args s rmX10_goes.cells rmX10_goes.slots (A0 sz0)) h 0 0 [some (.ref (ad 0)), some (.int (iI (left))), some (.int (iI (q))), some (.int (iI (tt q))), some (.int (iI (bI ((wbP mkind mbound mcheap mnights mreserve) (tt q))))), some (.int (iI (bI (¬ (mNC mkind mnights) (tt q))))), some (.int (iI ((mBS mdata msize mbits mleast mmost) (tt q))))] 216 [.int (iI (bI (srv (wbP mkind mbound mcheap mnights mreserve) (mNC mkind mnights) (mOT mdata msize mends mmany mkind mnights mbits mleast mmost) (mAK mdata msize mends mmany mkind mbid mbound mcheap mnights mreserve mbits mleast mmost) (mBS mdata msize mbits mleast mmost) (mDF mdata msize mends mmany mkind mchain mholds mnights mbits mleast mmost) (tt q) left))), .int (iI (tt q)), .ref (ad 27)] := by
                  refine m_st_isServed B dX10_goes_216 hA hM (by omega) (by omega) (bI_01 _) (fun h hM => ?_)
                  have join237 : WA p l e rmX10_goes s m args below meth c g sz0 7 (MQ below (QQ g sz0 (fun v h' => v = none ∧ ∃ tt AS WT CS SV e1 m1 : Int → Int, turnOK mbid tt ∧ LKe mends mmany e1 m1 ∧ gI (wbP mkind mbound mcheap mnights mreserve) (mNC mkind mnights) (mOT mdata msize mends mmany mkind mnights mbits mleast mmost) (mAK mdata msize mends mmany mkind mbid mbound mcheap mnights mreserve mbits mleast mmost) (mBS mdata msize mbits mleast mmost) (mDF mdata msize mends mmany mkind mchain mholds mnights mbits mleast mmost) mroom tt AS WT CS SV 4 ∧ MW g ad h0 mthrown mdata msize e1 m1 mkind mchain mholds mnights mbits mleast mmost mroom mreserve mmount mspeed mbid mbound mcheap mpromised mcoin mpaid mowed tt AS WT CS SV mitsRow mitsChunk h')) args s rmX10_goes.cells rmX10_goes.slots (A0 sz0)) h 0 0 [some (.ref (ad 0)), some (.int (iI (left))), some (.int (iI (q))), some (.int (iI (tt q))), some (.int (iI (bI ((wbP mkind mbound mcheap mnights mreserve) (tt q))))), some (.int (iI (bI (¬ (mNC mkind mnights) (tt q))))), some (.int (iI ((mBS mdata msize mbits mleast mmost) (tt q))))] 237 [.int (iI (bI (srv (wbP mkind mbound mcheap mnights mreserve) (mNC mkind mnights) (mOT mdata msize mends mmany mkind mnights mbits mleast mmost) (mAK mdata msize mends mmany mkind mbid mbound mcheap mnights mreserve mbits mleast mmost) (mBS mdata msize mbits mleast mmost) (mDF mdata msize mends mmany mkind mchain mholds mnights mbits mleast mmost) (tt q) left) * cst (wbP mkind mbound mcheap mnights mreserve) (mNC mkind mnights) (mOT mdata msize mends mmany mkind mnights mbits mleast mmost) (mBS mdata msize mbits mleast mmost) (mDF mdata msize mends mmany mkind mchain mholds mnights mbits mleast mmost) (tt q) left)), .int (iI left)] := by
                    have hL9 : 0 ≤ left - bI (srv (wbP mkind mbound mcheap mnights mreserve) (mNC mkind mnights) (mOT mdata msize mends mmany mkind mnights mbits mleast mmost) (mAK mdata msize mends mmany mkind mbid mbound mcheap mnights mreserve mbits mleast mmost) (mBS mdata msize mbits mleast mmost) (mDF mdata msize mends mmany mkind mchain mholds mnights mbits mleast mmost) (tt q) left) * cst (wbP mkind mbound mcheap mnights mreserve) (mNC mkind mnights) (mOT mdata msize mends mmany mkind mnights mbits mleast mmost) (mBS mdata msize mbits mleast mmost) (mDF mdata msize mends mmany mkind mchain mholds mnights mbits mleast mmost) (tt q) left ∧ left - bI (srv (wbP mkind mbound mcheap mnights mreserve) (mNC mkind mnights) (mOT mdata msize mends mmany mkind mnights mbits mleast mmost) (mAK mdata msize mends mmany mkind mbid mbound mcheap mnights mreserve mbits mleast mmost) (mBS mdata msize mbits mleast mmost) (mDF mdata msize mends mmany mkind mchain mholds mnights mbits mleast mmost) (tt q) left) * cst (wbP mkind mbound mcheap mnights mreserve) (mNC mkind mnights) (mOT mdata msize mends mmany mkind mnights mbits mleast mmost) (mBS mdata msize mbits mleast mmost) (mDF mdata msize mends mmany mkind mchain mholds mnights mbits mleast mmost) (tt q) left ≤ mroom := by
                      by_cases hsv : srv (wbP mkind mbound mcheap mnights mreserve) (mNC mkind mnights) (mOT mdata msize mends mmany mkind mnights mbits mleast mmost) (mAK mdata msize mends mmany mkind mbid mbound mcheap mnights mreserve mbits mleast mmost) (mBS mdata msize mbits mleast mmost) (mDF mdata msize mends mmany mkind mchain mholds mnights mbits mleast mmost) (tt q) left
                      · have := hsv.2.2; rw [bI_t hsv]; omega
                      · rw [bI_f hsv]; omega
                    refine r_isub B dX10_goes_237 ?_
                    refine r_istore_n B dX10_goes_238 rfl (by decide) (lcat_v rfl rfl) ?_
                    refine r_iinc B dX10_goes_239 rfl (by decide) (lcat_v rfl rfl) ?_
                    refine r_goto B dX10_goes_242 (tgt := 11) (by decide) ?_
                    exact r_lv (lvLe_s rfl (lvLe_s rfl (lvLe_s rfl (lvLe_n (lvLe_n (lvLe_n (lvLe_n lvLe_nil))))))) (ih (q + 1) _ _ _ _ _ _ _ h hM (by omega) (by rw [lft_s (wbP mkind mbound mcheap mnights mreserve) (mNC mkind mnights) (mOT mdata msize mends mmany mkind mnights mbits mleast mmost) (mAK mdata msize mends mmany mkind mbid mbound mcheap mnights mreserve mbits mleast mmost) (mBS mdata msize mbits mleast mmost) (mDF mdata msize mends mmany mkind mchain mholds mnights mbits mleast mmost) mroom tt i1.1, ← i2]) hL9 k_e5 (gI_s i5 i2 hdj) (by omega))
                  refine r_iload_n B dX10_goes_217 rfl ?_
                  refine r_aload_n B dX10_goes_218 rfl rfl ?_
                  refine m_get_isServed B dX10_goes_219 in_X10_goes_X10 w_X10_goes_f87 hM ?_
                  refine r_iload_n B dX10_goes_222 rfl ?_
                  refine m_ld_isServed B dX10_goes_223 hM (by omega) (by omega) (fun r223 => ?_)
                  rw [upZ_at]
                  refine r_if_eq B dX10_goes_224 (tgt := 236) (by decide) (bI_rng _) (fun c224 => ?_) (fun c224 => ?_)
                  · replace c224 := bI_0.mp c224
                    refine r_iconst B dX10_goes_236 ?_
                    have hL9 : 0 ≤ left - bI (srv (wbP mkind mbound mcheap mnights mreserve) (mNC mkind mnights) (mOT mdata msize mends mmany mkind mnights mbits mleast mmost) (mAK mdata msize mends mmany mkind mbid mbound mcheap mnights mreserve mbits mleast mmost) (mBS mdata msize mbits mleast mmost) (mDF mdata msize mends mmany mkind mchain mholds mnights mbits mleast mmost) (tt q) left) * cst (wbP mkind mbound mcheap mnights mreserve) (mNC mkind mnights) (mOT mdata msize mends mmany mkind mnights mbits mleast mmost) (mBS mdata msize mbits mleast mmost) (mDF mdata msize mends mmany mkind mchain mholds mnights mbits mleast mmost) (tt q) left ∧ left - bI (srv (wbP mkind mbound mcheap mnights mreserve) (mNC mkind mnights) (mOT mdata msize mends mmany mkind mnights mbits mleast mmost) (mAK mdata msize mends mmany mkind mbid mbound mcheap mnights mreserve mbits mleast mmost) (mBS mdata msize mbits mleast mmost) (mDF mdata msize mends mmany mkind mchain mholds mnights mbits mleast mmost) (tt q) left) * cst (wbP mkind mbound mcheap mnights mreserve) (mNC mkind mnights) (mOT mdata msize mends mmany mkind mnights mbits mleast mmost) (mBS mdata msize mbits mleast mmost) (mDF mdata msize mends mmany mkind mchain mholds mnights mbits mleast mmost) (tt q) left ≤ mroom := by
                      by_cases hsv : srv (wbP mkind mbound mcheap mnights mreserve) (mNC mkind mnights) (mOT mdata msize mends mmany mkind mnights mbits mleast mmost) (mAK mdata msize mends mmany mkind mbid mbound mcheap mnights mreserve mbits mleast mmost) (mBS mdata msize mbits mleast mmost) (mDF mdata msize mends mmany mkind mchain mholds mnights mbits mleast mmost) (tt q) left
                      · have := hsv.2.2; rw [bI_t hsv]; omega
                      · rw [bI_f hsv]; omega
                    refine r_topz (y := bI (srv (wbP mkind mbound mcheap mnights mreserve) (mNC mkind mnights) (mOT mdata msize mends mmany mkind mnights mbits mleast mmost) (mAK mdata msize mends mmany mkind mbid mbound mcheap mnights mreserve mbits mleast mmost) (mBS mdata msize mbits mleast mmost) (mDF mdata msize mends mmany mkind mchain mholds mnights mbits mleast mmost) (tt q) left) * cst (wbP mkind mbound mcheap mnights mreserve) (mNC mkind mnights) (mOT mdata msize mends mmany mkind mnights mbits mleast mmost) (mBS mdata msize mbits mleast mmost) (mDF mdata msize mends mmany mkind mchain mholds mnights mbits mleast mmost) (tt q) left) (by rw [bI_f c224]; omega) ?_
                    exact r_lv (lvLe_s rfl (lvLe_s rfl (lvLe_s rfl (lvLe_s rfl (lvLe_s rfl (lvLe_s rfl (lvLe_s rfl lvLe_nil))))))) (join237)
                  · replace c224 := bI_n0.mp c224
                    refine r_aload_n B dX10_goes_227 rfl rfl ?_
                    refine m_get_cost B dX10_goes_228 in_X10_goes_X10 w_X10_goes_f84 hM ?_
                    refine r_iload_n B dX10_goes_231 rfl ?_
                    refine m_ld_cost B dX10_goes_232 hM (by omega) (by omega) (fun r232 => ?_)
                    rw [upZ_at]
                    refine r_goto B dX10_goes_233 (tgt := 237) (by decide) ?_
                    have hL9 : 0 ≤ left - bI (srv (wbP mkind mbound mcheap mnights mreserve) (mNC mkind mnights) (mOT mdata msize mends mmany mkind mnights mbits mleast mmost) (mAK mdata msize mends mmany mkind mbid mbound mcheap mnights mreserve mbits mleast mmost) (mBS mdata msize mbits mleast mmost) (mDF mdata msize mends mmany mkind mchain mholds mnights mbits mleast mmost) (tt q) left) * cst (wbP mkind mbound mcheap mnights mreserve) (mNC mkind mnights) (mOT mdata msize mends mmany mkind mnights mbits mleast mmost) (mBS mdata msize mbits mleast mmost) (mDF mdata msize mends mmany mkind mchain mholds mnights mbits mleast mmost) (tt q) left ∧ left - bI (srv (wbP mkind mbound mcheap mnights mreserve) (mNC mkind mnights) (mOT mdata msize mends mmany mkind mnights mbits mleast mmost) (mAK mdata msize mends mmany mkind mbid mbound mcheap mnights mreserve mbits mleast mmost) (mBS mdata msize mbits mleast mmost) (mDF mdata msize mends mmany mkind mchain mholds mnights mbits mleast mmost) (tt q) left) * cst (wbP mkind mbound mcheap mnights mreserve) (mNC mkind mnights) (mOT mdata msize mends mmany mkind mnights mbits mleast mmost) (mBS mdata msize mbits mleast mmost) (mDF mdata msize mends mmany mkind mchain mholds mnights mbits mleast mmost) (tt q) left ≤ mroom := by
                      by_cases hsv : srv (wbP mkind mbound mcheap mnights mreserve) (mNC mkind mnights) (mOT mdata msize mends mmany mkind mnights mbits mleast mmost) (mAK mdata msize mends mmany mkind mbid mbound mcheap mnights mreserve mbits mleast mmost) (mBS mdata msize mbits mleast mmost) (mDF mdata msize mends mmany mkind mchain mholds mnights mbits mleast mmost) (tt q) left
                      · have := hsv.2.2; rw [bI_t hsv]; omega
                      · rw [bI_f hsv]; omega
                    refine r_topz (y := bI (srv (wbP mkind mbound mcheap mnights mreserve) (mNC mkind mnights) (mOT mdata msize mends mmany mkind mnights mbits mleast mmost) (mAK mdata msize mends mmany mkind mbid mbound mcheap mnights mreserve mbits mleast mmost) (mBS mdata msize mbits mleast mmost) (mDF mdata msize mends mmany mkind mchain mholds mnights mbits mleast mmost) (tt q) left) * cst (wbP mkind mbound mcheap mnights mreserve) (mNC mkind mnights) (mOT mdata msize mends mmany mkind mnights mbits mleast mmost) (mBS mdata msize mbits mleast mmost) (mDF mdata msize mends mmany mkind mchain mholds mnights mbits mleast mmost) (tt q) left) (by rw [bI_t c224]; omega) ?_
                    exact r_lv (lvLe_s rfl (lvLe_s rfl (lvLe_s rfl (lvLe_s rfl (lvLe_s rfl (lvLe_s rfl (lvLe_s rfl lvLe_nil))))))) (join237)
                refine r_aload_n B dX10_goes_178 rfl rfl ?_
                refine m_get_isServed B dX10_goes_179 in_X10_goes_X10 w_X10_goes_f87 hM ?_
                refine r_iload_n B dX10_goes_182 rfl ?_
                refine r_aload_n B dX10_goes_183 rfl rfl ?_
                refine m_get_isAsking B dX10_goes_184 in_X10_goes_X10 w_X10_goes_f78 hM ?_
                refine r_iload_n B dX10_goes_187 rfl ?_
                refine m_ld_isAsking B dX10_goes_188 hM (by omega) (by omega) (fun r188 => ?_)
                rw [upZ_at]
                refine r_if_eq B dX10_goes_189 (tgt := 215) (by decide) (bI_rng _) (fun c189 => ?_) (fun c189 => ?_)
                · replace c189 := bI_0.mp c189
                  refine r_iconst B dX10_goes_215 ?_
                  refine r_topz (y := bI (srv (wbP mkind mbound mcheap mnights mreserve) (mNC mkind mnights) (mOT mdata msize mends mmany mkind mnights mbits mleast mmost) (mAK mdata msize mends mmany mkind mbid mbound mcheap mnights mreserve mbits mleast mmost) (mBS mdata msize mbits mleast mmost) (mDF mdata msize mends mmany mkind mchain mholds mnights mbits mleast mmost) (tt q) left)) ((bI_f (fun y9 => c189 y9.1)).symm) ?_
                  exact r_lv (lvLe_s rfl (lvLe_s rfl (lvLe_s rfl (lvLe_s rfl (lvLe_s rfl (lvLe_s rfl (lvLe_s rfl lvLe_nil))))))) (join216)
                · replace c189 := bI_n0.mp c189
                  refine r_aload_n B dX10_goes_192 rfl rfl ?_
                  refine m_get_want B dX10_goes_193 in_X10_goes_X10 w_X10_goes_f81 hM ?_
                  refine r_iload_n B dX10_goes_196 rfl ?_
                  refine m_ld_want B dX10_goes_197 hM (by omega) (by omega) (fun r197 => ?_)
                  rw [upZ_at]
                  refine r_if_le B dX10_goes_198 (tgt := 215) (by decide) (by omega) (fun c198 => ?_) (fun c198 => ?_)
                  · refine r_iconst B dX10_goes_215 ?_
                    refine r_topz (y := bI (srv (wbP mkind mbound mcheap mnights mreserve) (mNC mkind mnights) (mOT mdata msize mends mmany mkind mnights mbits mleast mmost) (mAK mdata msize mends mmany mkind mbid mbound mcheap mnights mreserve mbits mleast mmost) (mBS mdata msize mbits mleast mmost) (mDF mdata msize mends mmany mkind mchain mholds mnights mbits mleast mmost) (tt q) left)) ((bI_f (fun y9 => by have := y9.2.1; omega)).symm) ?_
                    exact r_lv (lvLe_s rfl (lvLe_s rfl (lvLe_s rfl (lvLe_s rfl (lvLe_s rfl (lvLe_s rfl (lvLe_s rfl lvLe_nil))))))) (join216)
                  · refine r_aload_n B dX10_goes_201 rfl rfl ?_
                    refine m_get_cost B dX10_goes_202 in_X10_goes_X10 w_X10_goes_f84 hM ?_
                    refine r_iload_n B dX10_goes_205 rfl ?_
                    refine m_ld_cost B dX10_goes_206 hM (by omega) (by omega) (fun r206 => ?_)
                    rw [upZ_at]
                    refine r_iload_n B dX10_goes_207 rfl ?_
                    refine r_icmp_gt B dX10_goes_208 (tgt := 215) (by decide) (by omega) (by omega) (fun c208 => ?_) (fun c208 => ?_)
                    · refine r_iconst B dX10_goes_215 ?_
                      refine r_topz (y := bI (srv (wbP mkind mbound mcheap mnights mreserve) (mNC mkind mnights) (mOT mdata msize mends mmany mkind mnights mbits mleast mmost) (mAK mdata msize mends mmany mkind mbid mbound mcheap mnights mreserve mbits mleast mmost) (mBS mdata msize mbits mleast mmost) (mDF mdata msize mends mmany mkind mchain mholds mnights mbits mleast mmost) (tt q) left)) ((bI_f (fun y9 => by have := y9.2.2; omega)).symm) ?_
                      exact r_lv (lvLe_s rfl (lvLe_s rfl (lvLe_s rfl (lvLe_s rfl (lvLe_s rfl (lvLe_s rfl (lvLe_s rfl lvLe_nil))))))) (join216)
                    · refine r_iconst B dX10_goes_211 ?_
                      refine r_goto B dX10_goes_212 (tgt := 216) (by decide) ?_
                      refine r_topz (y := bI (srv (wbP mkind mbound mcheap mnights mreserve) (mNC mkind mnights) (mOT mdata msize mends mmany mkind mnights mbits mleast mmost) (mAK mdata msize mends mmany mkind mbid mbound mcheap mnights mreserve mbits mleast mmost) (mBS mdata msize mbits mleast mmost) (mDF mdata msize mends mmany mkind mchain mholds mnights mbits mleast mmost) (tt q) left)) ((bI_t ⟨c189, by omega, by omega⟩).symm) ?_
                      exact r_lv (lvLe_s rfl (lvLe_s rfl (lvLe_s rfl (lvLe_s rfl (lvLe_s rfl (lvLe_s rfl (lvLe_s rfl lvLe_nil))))))) (join216)
              refine r_aload_n B dX10_goes_138 rfl rfl ?_
              refine m_get_cost B dX10_goes_139 in_X10_goes_X10 w_X10_goes_f84 hM ?_
              refine r_iload_n B dX10_goes_142 rfl ?_
              refine r_aload_n B dX10_goes_143 rfl rfl ?_
              refine m_get_want B dX10_goes_144 in_X10_goes_X10 w_X10_goes_f81 hM ?_
              refine r_iload_n B dX10_goes_147 rfl ?_
              refine m_ld_want B dX10_goes_148 hM (by omega) (by omega) (fun r148 => ?_)
              rw [upZ_at]
              refine r_iconst B dX10_goes_149 ?_
              refine r_icmp_ne B dX10_goes_150 (tgt := 158) (by decide) (by omega) (by omega) (fun c150 => ?_) (fun c150 => ?_)
              · refine r_aload_n B dX10_goes_158 rfl rfl ?_
                refine m_get_want B dX10_goes_159 in_X10_goes_X10 w_X10_goes_f81 hM ?_
                refine r_iload_n B dX10_goes_162 rfl ?_
                refine m_ld_want B dX10_goes_163 hM (by omega) (by omega) (fun r163 => ?_)
                rw [upZ_at]
                refine r_iconst B dX10_goes_164 ?_
                refine r_icmp_ne B dX10_goes_165 (tgt := 176) (by decide) (by omega) (by omega) (fun c165 => ?_) (fun c165 => ?_)
                · refine r_iconst B dX10_goes_176 ?_
                  refine r_topz (y := cst (wbP mkind mbound mcheap mnights mreserve) (mNC mkind mnights) (mOT mdata msize mends mmany mkind mnights mbits mleast mmost) (mBS mdata msize mbits mleast mmost) (mDF mdata msize mends mmany mkind mchain mholds mnights mbits mleast mmost) (tt q) left) (by unfold cst; rw [if_neg c150, if_neg c165]) ?_
                  exact r_lv (lvLe_s rfl (lvLe_s rfl (lvLe_s rfl (lvLe_s rfl (lvLe_s rfl (lvLe_s rfl (lvLe_s rfl lvLe_nil))))))) (join177 _ _ h hM k_e4)
                · refine r_aload_n B dX10_goes_168 rfl rfl ?_
                  refine r_iload_n B dX10_goes_169 rfl ?_
                  refine r_callV (n := 1) B dX10_goes_170 (ct_X10_forDifference0 l g sz0 ad hA hM _ hcq hsq hn0 (hLK.e k_e4)) gX10_goes_X10_forDifference0 rfl (by decide +kernel) ⟨Nat.le_of_ble_eq_true rfl, Nat.le_of_ble_eq_true rfl⟩ hM.obj rfl rfl rfl (Nat.le_of_ble_eq_true rfl) (Nat.le_of_ble_eq_true rfl) (Nat.le_of_ble_eq_true rfl) (fun v h hp => ?_)
                  obtain ⟨hv, hM⟩ := hp
                  subst v
                  dsimp only [Option.toList, List.cons_append, List.nil_append]
                  have k_e4o := LKe.trans k_e4 (lk_put e4 m4 (cutR (rowF mdata (240 + (tt q))) (msize (240 + (tt q))) mbits mleast mmost).2.2 (n := (cutR (rowF mdata (240 + (tt q))) (msize (240 + (tt q))) mbits mleast mmost).2.1) hcq.1 (by omega))
                  refine r_goto B dX10_goes_173 (tgt := 177) (by decide) ?_
                  refine r_topz (y := cst (wbP mkind mbound mcheap mnights mreserve) (mNC mkind mnights) (mOT mdata msize mends mmany mkind mnights mbits mleast mmost) (mBS mdata msize mbits mleast mmost) (mDF mdata msize mends mmany mkind mchain mholds mnights mbits mleast mmost) (tt q) left) (by unfold cst; rw [if_neg c150, if_pos c165]; exact difB_congr (fun a9 => (inCh_congr hcq hn0.2 hLK k_e4).symm)) ?_
                  exact r_lv (lvLe_s rfl (lvLe_s rfl (lvLe_s rfl (lvLe_s rfl (lvLe_s rfl (lvLe_s rfl (lvLe_s rfl lvLe_nil))))))) (join177 _ _ h hM k_e4o)
              · refine r_iload B dX10_goes_153 rfl ?_
                refine r_goto B dX10_goes_155 (tgt := 177) (by decide) ?_
                refine r_topz (y := cst (wbP mkind mbound mcheap mnights mreserve) (mNC mkind mnights) (mOT mdata msize mends mmany mkind mnights mbits mleast mmost) (mBS mdata msize mbits mleast mmost) (mDF mdata msize mends mmany mkind mchain mholds mnights mbits mleast mmost) (tt q) left) (by unfold cst; rw [if_pos c150]) ?_
                exact r_lv (lvLe_s rfl (lvLe_s rfl (lvLe_s rfl (lvLe_s rfl (lvLe_s rfl (lvLe_s rfl (lvLe_s rfl lvLe_nil))))))) (join177 _ _ h hM k_e4)
            refine r_aload_n B dX10_goes_99 rfl rfl ?_
            refine m_get_want B dX10_goes_100 in_X10_goes_X10 w_X10_goes_f81 hM ?_
            refine r_iload_n B dX10_goes_103 rfl ?_
            refine r_iload B dX10_goes_104 rfl ?_
            refine r_if_eq B dX10_goes_106 (tgt := 124) (by decide) (bI_rng _) (fun c106 => ?_) (fun c106 => ?_)
            · replace c106 := bI_0.mp c106
              refine r_aload_n B dX10_goes_124 rfl rfl ?_
              refine r_iload_n B dX10_goes_125 rfl ?_
              refine r_callV (n := 1) B dX10_goes_126 (ct_X10_isOther l g sz0 ad hA hM _ hcq (hs _ hcq) hn0 (hLK.e k_e3)) gX10_goes_X10_isOther rfl (by decide +kernel) ⟨Nat.le_of_ble_eq_true rfl, Nat.le_of_ble_eq_true rfl⟩ hM.obj rfl rfl rfl (Nat.le_of_ble_eq_true rfl) (Nat.le_of_ble_eq_true rfl) (Nat.le_of_ble_eq_true rfl) (fun v h hp => ?_)
              obtain ⟨hv, hM⟩ := hp
              subst v
              dsimp only [Option.toList, List.cons_append, List.nil_append]
              have ho3 : otP (rowF mdata (240 + (tt q))) (cutR (rowF mdata (240 + (tt q))) (msize (240 + (tt q))) mbits mleast mmost).2.2 (cutR (rowF mdata (240 + (tt q))) (msize (240 + (tt q))) mbits mleast mmost).2.1 mdata (putRow e2 (48 * (240 + (tt q))) (cutR (rowF mdata (240 + (tt q))) (msize (240 + (tt q))) mbits mleast mmost).2.1 (cutR (rowF mdata (240 + (tt q))) (msize (240 + (tt q))) mbits mleast mmost).2.2) (upZ m2 (240 + (tt q)) (cutR (rowF mdata (240 + (tt q))) (msize (240 + (tt q))) mbits mleast mmost).2.1) (tt q) (ltN (colF mkind (tt q)) mnights.toNat) ↔ (mOT mdata msize mends mmany mkind mnights mbits mleast mmost) (tt q) := (otP_congr hcq (by omega) hLK k_e3).symm
              have k_e3o := LKe.trans k_e3 (lk_put (putRow e2 (48 * (240 + (tt q))) (cutR (rowF mdata (240 + (tt q))) (msize (240 + (tt q))) mbits mleast mmost).2.1 (cutR (rowF mdata (240 + (tt q))) (msize (240 + (tt q))) mbits mleast mmost).2.2) (upZ m2 (240 + (tt q)) (cutR (rowF mdata (240 + (tt q))) (msize (240 + (tt q))) mbits mleast mmost).2.1) (cutR (rowF mdata (240 + (tt q))) (msize (240 + (tt q))) mbits mleast mmost).2.2 (n := (cutR (rowF mdata (240 + (tt q))) (msize (240 + (tt q))) mbits mleast mmost).2.1) hcq.1 (by omega))
              refine r_if_eq B dX10_goes_129 (tgt := 136) (by decide) (bI_rng _) (fun c129 => ?_) (fun c129 => ?_)
              · replace c129 := bI_0.mp c129
                refine r_iconst B dX10_goes_136 ?_
                refine r_topz (y := wnt (wbP mkind mbound mcheap mnights mreserve) (mNC mkind mnights) (mOT mdata msize mends mmany mkind mnights mbits mleast mmost) (mBS mdata msize mbits mleast mmost) (tt q) left) ((wnt_0 (fun y9 => c106 y9.1) (fun w9 => c129 (ho3.mpr w9))).symm) ?_
                exact r_lv (lvLe_s rfl (lvLe_s rfl (lvLe_s rfl (lvLe_s rfl (lvLe_s rfl (lvLe_s rfl (lvLe_s rfl lvLe_nil))))))) (join137 _ _ h hM k_e3o)
              · replace c129 := bI_n0.mp c129
                refine r_iconst B dX10_goes_132 ?_
                refine r_goto B dX10_goes_133 (tgt := 137) (by decide) ?_
                refine r_topz (y := wnt (wbP mkind mbound mcheap mnights mreserve) (mNC mkind mnights) (mOT mdata msize mends mmany mkind mnights mbits mleast mmost) (mBS mdata msize mbits mleast mmost) (tt q) left) ((wnt_2 (fun y9 => c106 y9.1) (ho3.mp c129)).symm) ?_
                exact r_lv (lvLe_s rfl (lvLe_s rfl (lvLe_s rfl (lvLe_s rfl (lvLe_s rfl (lvLe_s rfl (lvLe_s rfl lvLe_nil))))))) (join137 _ _ h hM k_e3o)
            · replace c106 := bI_n0.mp c106
              refine r_iload B dX10_goes_109 rfl ?_
              refine r_if_eq B dX10_goes_111 (tgt := 120) (by decide) (bI_rng _) (fun c111 => ?_) (fun c111 => ?_)
              · replace c111 := bI_0.mp c111
                refine r_iconst B dX10_goes_120 ?_
                refine r_goto B dX10_goes_121 (tgt := 137) (by decide) ?_
                refine r_topz (y := wnt (wbP mkind mbound mcheap mnights mreserve) (mNC mkind mnights) (mOT mdata msize mends mmany mkind mnights mbits mleast mmost) (mBS mdata msize mbits mleast mmost) (tt q) left) ((wnt_1 ⟨c106, Or.inl (Classical.not_not.mp c111)⟩).symm) ?_
                exact r_lv (lvLe_s rfl (lvLe_s rfl (lvLe_s rfl (lvLe_s rfl (lvLe_s rfl (lvLe_s rfl (lvLe_s rfl lvLe_nil))))))) (join137 _ _ h hM k_e3)
              · replace c111 := bI_n0.mp c111
                refine r_iload B dX10_goes_114 rfl ?_
                refine r_iload_n B dX10_goes_116 rfl ?_
                refine r_icmp_gt B dX10_goes_117 (tgt := 124) (by decide) (by omega) (by omega) (fun c117 => ?_) (fun c117 => ?_)
                · refine r_aload_n B dX10_goes_124 rfl rfl ?_
                  refine r_iload_n B dX10_goes_125 rfl ?_
                  refine r_callV (n := 1) B dX10_goes_126 (ct_X10_isOther l g sz0 ad hA hM _ hcq (hs _ hcq) hn0 (hLK.e k_e3)) gX10_goes_X10_isOther rfl (by decide +kernel) ⟨Nat.le_of_ble_eq_true rfl, Nat.le_of_ble_eq_true rfl⟩ hM.obj rfl rfl rfl (Nat.le_of_ble_eq_true rfl) (Nat.le_of_ble_eq_true rfl) (Nat.le_of_ble_eq_true rfl) (fun v h hp => ?_)
                  obtain ⟨hv, hM⟩ := hp
                  subst v
                  dsimp only [Option.toList, List.cons_append, List.nil_append]
                  have ho3 : otP (rowF mdata (240 + (tt q))) (cutR (rowF mdata (240 + (tt q))) (msize (240 + (tt q))) mbits mleast mmost).2.2 (cutR (rowF mdata (240 + (tt q))) (msize (240 + (tt q))) mbits mleast mmost).2.1 mdata (putRow e2 (48 * (240 + (tt q))) (cutR (rowF mdata (240 + (tt q))) (msize (240 + (tt q))) mbits mleast mmost).2.1 (cutR (rowF mdata (240 + (tt q))) (msize (240 + (tt q))) mbits mleast mmost).2.2) (upZ m2 (240 + (tt q)) (cutR (rowF mdata (240 + (tt q))) (msize (240 + (tt q))) mbits mleast mmost).2.1) (tt q) (ltN (colF mkind (tt q)) mnights.toNat) ↔ (mOT mdata msize mends mmany mkind mnights mbits mleast mmost) (tt q) := (otP_congr hcq (by omega) hLK k_e3).symm
                  have k_e3o := LKe.trans k_e3 (lk_put (putRow e2 (48 * (240 + (tt q))) (cutR (rowF mdata (240 + (tt q))) (msize (240 + (tt q))) mbits mleast mmost).2.1 (cutR (rowF mdata (240 + (tt q))) (msize (240 + (tt q))) mbits mleast mmost).2.2) (upZ m2 (240 + (tt q)) (cutR (rowF mdata (240 + (tt q))) (msize (240 + (tt q))) mbits mleast mmost).2.1) (cutR (rowF mdata (240 + (tt q))) (msize (240 + (tt q))) mbits mleast mmost).2.2 (n := (cutR (rowF mdata (240 + (tt q))) (msize (240 + (tt q))) mbits mleast mmost).2.1) hcq.1 (by omega))
                  refine r_if_eq B dX10_goes_129 (tgt := 136) (by decide) (bI_rng _) (fun c129 => ?_) (fun c129 => ?_)
                  · replace c129 := bI_0.mp c129
                    refine r_iconst B dX10_goes_136 ?_
                    refine r_topz (y := wnt (wbP mkind mbound mcheap mnights mreserve) (mNC mkind mnights) (mOT mdata msize mends mmany mkind mnights mbits mleast mmost) (mBS mdata msize mbits mleast mmost) (tt q) left) ((wnt_0 (fun y9 => y9.2.elim c111 (fun w9 => absurd w9 (by omega))) (fun w9 => c129 (ho3.mpr w9))).symm) ?_
                    exact r_lv (lvLe_s rfl (lvLe_s rfl (lvLe_s rfl (lvLe_s rfl (lvLe_s rfl (lvLe_s rfl (lvLe_s rfl lvLe_nil))))))) (join137 _ _ h hM k_e3o)
                  · replace c129 := bI_n0.mp c129
                    refine r_iconst B dX10_goes_132 ?_
                    refine r_goto B dX10_goes_133 (tgt := 137) (by decide) ?_
                    refine r_topz (y := wnt (wbP mkind mbound mcheap mnights mreserve) (mNC mkind mnights) (mOT mdata msize mends mmany mkind mnights mbits mleast mmost) (mBS mdata msize mbits mleast mmost) (tt q) left) ((wnt_2 (fun y9 => y9.2.elim c111 (fun w9 => absurd w9 (by omega))) (ho3.mp c129)).symm) ?_
                    exact r_lv (lvLe_s rfl (lvLe_s rfl (lvLe_s rfl (lvLe_s rfl (lvLe_s rfl (lvLe_s rfl (lvLe_s rfl lvLe_nil))))))) (join137 _ _ h hM k_e3o)
                · refine r_iconst B dX10_goes_120 ?_
                  refine r_goto B dX10_goes_121 (tgt := 137) (by decide) ?_
                  refine r_topz (y := wnt (wbP mkind mbound mcheap mnights mreserve) (mNC mkind mnights) (mOT mdata msize mends mmany mkind mnights mbits mleast mmost) (mBS mdata msize mbits mleast mmost) (tt q) left) ((wnt_1 ⟨c106, Or.inr (by omega)⟩).symm) ?_
                  exact r_lv (lvLe_s rfl (lvLe_s rfl (lvLe_s rfl (lvLe_s rfl (lvLe_s rfl (lvLe_s rfl (lvLe_s rfl lvLe_nil))))))) (join137 _ _ h hM k_e3)
          refine r_aload_n B dX10_goes_46 rfl rfl ?_
          refine m_get_isAsking B dX10_goes_47 in_X10_goes_X10 w_X10_goes_f78 hM ?_
          refine r_iload_n B dX10_goes_50 rfl ?_
          refine r_aload_n B dX10_goes_51 rfl rfl ?_
          refine m_get_bid B dX10_goes_52 in_X10_goes_X10 w_X10_goes_f54 hM ?_
          refine r_iload_n B dX10_goes_55 rfl ?_
          refine m_ld_bid B dX10_goes_56 hM (by omega) (by omega) (fun r56 => ?_)
          refine r_if_le B dX10_goes_57 (tgt := 90) (by decide) (by omega) (fun c57 => ?_) (fun c57 => ?_)
          · refine r_iconst B dX10_goes_90 ?_
            refine r_topz (y := bI ((mAK mdata msize mends mmany mkind mbid mbound mcheap mnights mreserve mbits mleast mmost) (tt q))) ((bI_f (fun y9 => by have := y9.1; omega)).symm) ?_
            exact r_lv (lvLe_s rfl (lvLe_s rfl (lvLe_s rfl (lvLe_s rfl (lvLe_s rfl (lvLe_s rfl (lvLe_n lvLe_nil))))))) (join91 _ _ h hM k_e1)
          · refine r_aload_n B dX10_goes_60 rfl rfl ?_
            refine m_get_bid B dX10_goes_61 in_X10_goes_X10 w_X10_goes_f54 hM ?_
            refine r_iload_n B dX10_goes_64 rfl ?_
            refine m_ld_bid B dX10_goes_65 hM (by omega) (by omega) (fun r65 => ?_)
            refine r_aload_n B dX10_goes_66 rfl rfl ?_
            refine m_get_reserve B dX10_goes_67 in_X10_goes_X10 w_X10_goes_f45 hM (fun r67 => ?_)
            refine r_icmp_lt B dX10_goes_70 (tgt := 90) (by decide) (by omega) (by omega) (fun c70 => ?_) (fun c70 => ?_)
            · refine r_iconst B dX10_goes_90 ?_
              refine r_topz (y := bI ((mAK mdata msize mends mmany mkind mbid mbound mcheap mnights mreserve mbits mleast mmost) (tt q))) ((bI_f (fun y9 => by have := y9.2.1; omega)).symm) ?_
              exact r_lv (lvLe_s rfl (lvLe_s rfl (lvLe_s rfl (lvLe_s rfl (lvLe_s rfl (lvLe_s rfl (lvLe_n lvLe_nil))))))) (join91 _ _ h hM k_e1)
            · refine r_iload B dX10_goes_73 rfl ?_
              refine r_if_ne B dX10_goes_75 (tgt := 86) (by decide) (bI_rng _) (fun c75 => ?_) (fun c75 => ?_)
              · replace c75 := bI_n0.mp c75
                refine r_iconst B dX10_goes_86 ?_
                refine r_goto B dX10_goes_87 (tgt := 91) (by decide) ?_
                refine r_topz (y := bI ((mAK mdata msize mends mmany mkind mbid mbound mcheap mnights mreserve mbits mleast mmost) (tt q))) ((bI_t ⟨by omega, by omega, Or.inl c75⟩).symm) ?_
                exact r_lv (lvLe_s rfl (lvLe_s rfl (lvLe_s rfl (lvLe_s rfl (lvLe_s rfl (lvLe_s rfl (lvLe_n lvLe_nil))))))) (join91 _ _ h hM k_e1)
              · replace c75 := bI_0.mp c75
                refine r_aload_n B dX10_goes_78 rfl rfl ?_
                refine r_iload_n B dX10_goes_79 rfl ?_
                refine r_callV (n := 1) B dX10_goes_80 (ct_X10_isOther l g sz0 ad hA hM _ hcq (hs _ hcq) hn0 (hLK.e k_e1)) gX10_goes_X10_isOther rfl (by decide +kernel) ⟨Nat.le_of_ble_eq_true rfl, Nat.le_of_ble_eq_true rfl⟩ hM.obj rfl rfl rfl (Nat.le_of_ble_eq_true rfl) (Nat.le_of_ble_eq_true rfl) (Nat.le_of_ble_eq_true rfl) (fun v h hp => ?_)
                obtain ⟨hv, hM⟩ := hp
                subst v
                dsimp only [Option.toList, List.cons_append, List.nil_append]
                have ho1 : otP (rowF mdata (240 + (tt q))) (cutR (rowF mdata (240 + (tt q))) (msize (240 + (tt q))) mbits mleast mmost).2.2 (cutR (rowF mdata (240 + (tt q))) (msize (240 + (tt q))) mbits mleast mmost).2.1 mdata e1 m1 (tt q) (ltN (colF mkind (tt q)) mnights.toNat) ↔ (mOT mdata msize mends mmany mkind mnights mbits mleast mmost) (tt q) := (otP_congr hcq (by omega) hLK k_e1).symm
                have k_e1o := LKe.trans k_e1 (lk_put e1 m1 (cutR (rowF mdata (240 + (tt q))) (msize (240 + (tt q))) mbits mleast mmost).2.2 (n := (cutR (rowF mdata (240 + (tt q))) (msize (240 + (tt q))) mbits mleast mmost).2.1) hcq.1 (by omega))
                refine r_if_eq B dX10_goes_83 (tgt := 90) (by decide) (bI_rng _) (fun c83 => ?_) (fun c83 => ?_)
                · replace c83 := bI_0.mp c83
                  refine r_iconst B dX10_goes_90 ?_
                  refine r_topz (y := bI ((mAK mdata msize mends mmany mkind mbid mbound mcheap mnights mreserve mbits mleast mmost) (tt q))) ((bI_f (fun y9 => y9.2.2.elim c75 (fun w9 => c83 (ho1.mpr w9)))).symm) ?_
                  exact r_lv (lvLe_s rfl (lvLe_s rfl (lvLe_s rfl (lvLe_s rfl (lvLe_s rfl (lvLe_s rfl (lvLe_n lvLe_nil))))))) (join91 _ _ h hM k_e1o)
                · replace c83 := bI_n0.mp c83
                  refine r_iconst B dX10_goes_86 ?_
                  refine r_goto B dX10_goes_87 (tgt := 91) (by decide) ?_
                  refine r_topz (y := bI ((mAK mdata msize mends mmany mkind mbid mbound mcheap mnights mreserve mbits mleast mmost) (tt q))) ((bI_t ⟨by omega, by omega, Or.inr (ho1.mp c83)⟩).symm) ?_
                  exact r_lv (lvLe_s rfl (lvLe_s rfl (lvLe_s rfl (lvLe_s rfl (lvLe_s rfl (lvLe_s rfl (lvLe_n lvLe_nil))))))) (join91 _ _ h hM k_e1o)
        refine r_iconst B dX10_goes_35 ?_
        refine r_icmp_eq B dX10_goes_36 (tgt := 43) (by decide) (by omega) (by omega) (fun c36 => ?_) (fun c36 => ?_)
        · refine r_iconst B dX10_goes_43 ?_
          refine r_topz (y := bI (¬ (mNC mkind mnights) (tt q))) ((bI_f (fun y9 => y9 (hz.mp c36))).symm) ?_
          exact r_lv (lvLe_s rfl (lvLe_s rfl (lvLe_s rfl (lvLe_s rfl (lvLe_s rfl (lvLe_n (lvLe_n lvLe_nil))))))) (join44)
        · refine r_iconst B dX10_goes_39 ?_
          refine r_goto B dX10_goes_40 (tgt := 44) (by decide) ?_
          refine r_topz (y := bI (¬ (mNC mkind mnights) (tt q))) ((bI_t (fun y9 => c36 (hz.mpr y9))).symm) ?_
          exact r_lv (lvLe_s rfl (lvLe_s rfl (lvLe_s rfl (lvLe_s rfl (lvLe_s rfl (lvLe_n (lvLe_n lvLe_nil))))))) (join44)
  exact r_lv (lvLe_s rfl (lvLe_s rfl (lvLe_s rfl (lvLe_n (lvLe_n (lvLe_n (lvLe_n lvLe_nil))))))) (loop11 _ 0 mroom misAsking mwant mcost misServed mends mmany h hM (by omega) rfl (by omega) (LKe.rfl _ _) (gI_0 _ _ _ _ _ _ _ _ _ _ _ _) (Nat.lt_succ_self _))
