abbrev rmX10_night : Room := { frames := 7, cells := 0, slots := 0, locals := 171 }
theorem in_X10_night_X10 : ∀ w ∈ wsX100, w ∈ wsX10_night := by decide +kernel
theorem w_X10_night_f151 : Cond.fieldLink RX10 151 "DeltaNightsModel" "nights" "I" ∈ wsX10_night := by decide +kernel
theorem w_X10_night_f75 : Cond.fieldLink RX10 75 "DeltaNightsModel" "turn" "[I" ∈ wsX10_night := by decide +kernel
theorem w_X10_night_f87 : Cond.fieldLink RX10 87 "DeltaNightsModel" "isServed" "[Z" ∈ wsX10_night := by decide +kernel
theorem w_X10_night_f69 : Cond.fieldLink RX10 69 "DeltaNightsModel" "paid" "[I" ∈ wsX10_night := by decide +kernel
theorem w_X10_night_f84 : Cond.fieldLink RX10 84 "DeltaNightsModel" "cost" "[I" ∈ wsX10_night := by decide +kernel
set_option maxHeartbeats 4000000 in
set_option maxRecDepth 100000 in
theorem ct_X10_night (l : Launch) (g : GG) (sz0 : Nat) (ad : Nat → Nat) (hA : ADok ad) {h h0 : AH} {mthrown mnights mbits mleast mmost mroom mreserve mmount mspeed : Int} {mdata msize mends mmany mkind mchain mholds mbid mbound mcheap mpromised mcoin mpaid mowed mturn misAsking mwant mcost misServed mitsRow mitsChunk : Int → Int} (hM : MW g ad h0 mthrown mdata msize mends mmany mkind mchain mholds mnights mbits mleast mmost mroom mreserve mmount mspeed mbid mbound mcheap mpromised mcoin mpaid mowed mturn misAsking mwant mcost misServed mitsRow mitsChunk h) (hn0 : 0 ≤ mnights ∧ mnights ≤ 60)(hLK : LKo mends mmany)(hs : ∀ z : Int, 0 ≤ z ∧ z ≤ 3 → 0 ≤ msize (240 + z) ∧ msize (240 + z) ≤ 48)(hrm : 0 ≤ mroom ∧ mroom ≤ 500)(hbd : ∀ z : Int, 0 ≤ z ∧ z ≤ 3 → 0 ≤ mbid z ∧ mbid z ≤ 100) (hrs : 0 ≤ mreserve ∧ mreserve ≤ 50)(hpd : ∀ z : Int, 0 ≤ z ∧ z ≤ 3 → 0 ≤ mpaid z ∧ mpaid z ≤ 300000 * mnights) : CT l yX10_night wsX10_night rmX10_night g sz0 [.ref (ad 0)] h (fun v h' => (mnights = 60 → v = some (.int (iI 0)) ∧ MW g ad h0 1 mdata msize mends mmany mkind mchain mholds mnights mbits mleast mmost mroom mreserve mmount mspeed mbid mbound mcheap mpromised mcoin mpaid mowed mturn misAsking mwant mcost misServed mitsRow mitsChunk h') ∧ (¬ mnights = 60 → ∃ tt AS WT CS SV dd ss ee mm kk cc hh pp : Int → Int, turnOK mbid tt ∧ gI (wbP mkind mbound mcheap mnights mreserve) (mNC mkind mnights) (mOT mdata msize mends mmany mkind mnights mbits mleast mmost) (mAK mdata msize mends mmany mkind mbid mbound mcheap mnights mreserve mbits mleast mmost) (mBS mdata msize mbits mleast mmost) (mDF mdata msize mends mmany mkind mchain mholds mnights mbits mleast mmost) mroom tt AS WT CS SV 4 ∧ (∀ y : Int, 0 ≤ y → y ≤ 3 → nwC mdata msize mends mmany mkind mchain mholds mnights mbits mleast mmost (WT y) (SV y) dd ss ee mm kk cc hh y) ∧ (∀ y : Int, 0 ≤ y → y ≤ 3 → pp y = mpaid y + payF mbid tt AS SV CS mreserve ((4 : Int)) y) ∧ LKo ee mm ∧ v = some (.int (iI (sumZ (fun j => SV (tt j)) ((4 : Int) : Int).toNat))) ∧ MW g ad h0 0 dd ss ee mm kk cc hh (mnights + 1) mbits mleast mmost mroom mreserve mmount mspeed mbid mbound mcheap mpromised mcoin pp mowed tt AS WT CS SV mitsRow mitsChunk h')) := by
  refine CT.of (by decide +kernel) rfl [some (.ref (ad 0)), none, none, none] rfl (Nat.le_of_ble_eq_true rfl) ?_
  intro p e s m args below meth c B hr hlk hnm
  refine r_aload_n B dX10_night_0 rfl rfl ?_
  refine r_aload_n B dX10_night_1 rfl rfl ?_
  refine m_get_nights B dX10_night_2 in_X10_night_X10 w_X10_night_f151 hM (fun r2 => ?_)
  refine r_bipush B dX10_night_5 (by decide) ?_
  refine r_icmp_ne B dX10_night_7 (tgt := 14) (by decide) (by omega) (by omega) (fun c7 => ?_) (fun c7 => ?_)
  · refine r_iconst B dX10_night_14 ?_
    refine r_callV (n := 1) B dX10_night_15 (ct_X10_isFine l g sz0 ad hA hM _ (by omega)) gX10_night_X10_isFine rfl (by decide +kernel) ⟨Nat.le_of_ble_eq_true rfl, Nat.le_of_ble_eq_true rfl⟩ hM.obj rfl rfl rfl (Nat.le_of_ble_eq_true rfl) (Nat.le_of_ble_eq_true rfl) (Nat.le_of_ble_eq_true rfl) (fun v h hp => ?_)
    obtain ⟨hv, hM⟩ := hp
    subst v
    dsimp only [Option.toList, List.cons_append, List.nil_append]
    refine r_if_ne B dX10_night_18 (tgt := 23) (by decide) (bI_rng _) (fun c18 => ?_) (fun c18 => ?_)
    · replace c18 := bI_n0.mp c18
      refine r_aload_n B dX10_night_23 rfl rfl ?_
      refine r_callV (n := 0) B dX10_night_24 (ct_X10_goes l g sz0 ad hA hM hn0 hLK hs hrm) gX10_night_X10_goes rfl (by decide +kernel) ⟨Nat.le_of_ble_eq_true rfl, Nat.le_of_ble_eq_true rfl⟩ hM.obj rfl rfl rfl (Nat.le_of_ble_eq_true rfl) (Nat.le_of_ble_eq_true rfl) (Nat.le_of_ble_eq_true rfl) (fun v h hp => ?_)
      obtain ⟨hv, tt, AS, WT, CS, SV, e1, m1, htt, k_e1, hgi, hM⟩ := hp
      subst v
      dsimp only [Option.toList, List.cons_append, List.nil_append]
      have hn60 : mnights < 60 := by omega
      have hlt : ∀ k : Int, 0 ≤ k → k ≤ 3 → 0 ≤ tt k ∧ tt k ≤ 3 := fun k k0 k1 => (htt.2 k k0 k1).1
      refine r_iconst B dX10_night_27 ?_
      refine r_istore_n B dX10_night_28 rfl (by decide) (lcat_v rfl rfl) ?_
      refine r_iconst B dX10_night_29 ?_
      refine r_istore_n B dX10_night_30 rfl (by decide) (lcat_v rfl rfl) ?_
      have loop31 : ∀ (nn : Nat) (dd : Int → Int) (ss : Int → Int) (ee : Int → Int) (mm : Int → Int) (kk : Int → Int) (cc : Int → Int) (hh : Int → Int) (pp : Int → Int) (n : Int) (q : Int) (h : AH), MW g ad h0 0 dd ss ee mm kk cc hh mnights mbits mleast mmost mroom mreserve mmount mspeed mbid mbound mcheap mpromised mcoin pp mowed tt AS WT CS SV mitsRow mitsChunk h → (0 ≤ q ∧ q ≤ 4) → (∀ y : Int, 0 ≤ y → y ≤ 3 → nwC mdata msize mends mmany mkind mchain mholds mnights mbits mleast mmost (WT y) (if ahB mbid y < q then SV y else 0) dd ss ee mm kk cc hh y) → (∀ y : Int, 0 ≤ y → y ≤ 3 → pp y = mpaid y + payF mbid tt AS SV CS mreserve (q) y) → (n = sumZ (fun j => SV (tt j)) (q : Int).toNat) → (4 - q).toNat < nn → WA p l e rmX10_night s m args below meth c g sz0 4 (MQ below (QQ g sz0 (fun v h' => (mnights = 60 → v = some (.int (iI 0)) ∧ MW g ad h0 1 mdata msize mends mmany mkind mchain mholds mnights mbits mleast mmost mroom mreserve mmount mspeed mbid mbound mcheap mpromised mcoin mpaid mowed mturn misAsking mwant mcost misServed mitsRow mitsChunk h') ∧ (¬ mnights = 60 → ∃ tt AS WT CS SV dd ss ee mm kk cc hh pp : Int → Int, turnOK mbid tt ∧ gI (wbP mkind mbound mcheap mnights mreserve) (mNC mkind mnights) (mOT mdata msize mends mmany mkind mnights mbits mleast mmost) (mAK mdata msize mends mmany mkind mbid mbound mcheap mnights mreserve mbits mleast mmost) (mBS mdata msize mbits mleast mmost) (mDF mdata msize mends mmany mkind mchain mholds mnights mbits mleast mmost) mroom tt AS WT CS SV 4 ∧ (∀ y : Int, 0 ≤ y → y ≤ 3 → nwC mdata msize mends mmany mkind mchain mholds mnights mbits mleast mmost (WT y) (SV y) dd ss ee mm kk cc hh y) ∧ (∀ y : Int, 0 ≤ y → y ≤ 3 → pp y = mpaid y + payF mbid tt AS SV CS mreserve ((4 : Int)) y) ∧ LKo ee mm ∧ v = some (.int (iI (sumZ (fun j => SV (tt j)) ((4 : Int) : Int).toNat))) ∧ MW g ad h0 0 dd ss ee mm kk cc hh (mnights + 1) mbits mleast mmost mroom mreserve mmount mspeed mbid mbound mcheap mpromised mcoin pp mowed tt AS WT CS SV mitsRow mitsChunk h'))) args s rmX10_night.cells rmX10_night.slots (A0 sz0)) h 0 0 [some (.ref (ad 0)), some (.int (iI (n))), some (.int (iI (q))), none] 31 [] := by
        intro nn
        induction nn with
        | zero => intro dd ss ee mm kk cc hh pp n q h hM i1 i2 i3 i4 hn; exact absurd hn (Nat.not_lt_zero _)
        | succ nn ih =>
          intro dd ss ee mm kk cc hh pp n q h hM i1 i2 i3 i4 hn
          refine r_iload_n B dX10_night_31 rfl ?_
          refine r_iconst B dX10_night_32 ?_
          refine r_icmp_ge B dX10_night_33 (tgt := 87) (by decide) (by omega) (by omega) (fun c33 => ?_) (fun c33 => ?_)
          · have hq4 : q = 4 := by omega
            subst hq4
            refine r_aload_n B dX10_night_87 rfl rfl ?_
            refine r_dup B dX10_night_88 rfl ?_
            refine m_get_nights B dX10_night_89 in_X10_night_X10 w_X10_night_f151 hM (fun r89 => ?_)
            refine r_iconst B dX10_night_92 ?_
            refine r_iadd B dX10_night_93 ?_
            refine m_put_nights B dX10_night_94 in_X10_night_X10 w_X10_night_f151 hA hM (by omega) (fun h hM => ?_)
            refine r_iload_n B dX10_night_97 rfl ?_
            exact r_iret B hr hlk dX10_night_98 (Nat.le_of_ble_eq_true rfl) (Nat.le_of_ble_eq_true rfl) ⟨fun w9 => absurd w9 (by omega), fun _ => ⟨tt, AS, WT, CS, SV, dd, ss, ee, mm, kk, cc, hh, pp, htt, hgi, fun y y0 y1 => (by have := i2 y y0 y1; rw [if_pos (by have := ahB_rng mbid (c := y) ⟨y0, y1⟩; omega)] at this; exact this), i3, nwC_LKo ⟨hn0.1, hn60⟩ hs hLK i2, by rw [i4], hM⟩⟩
          · refine r_aload_n B dX10_night_36 rfl rfl ?_
            have htq := htt.2 q i1.1 (by omega)
            have hgq := hgi q i1.1 (by omega)
            refine m_get_turn B dX10_night_37 in_X10_night_X10 w_X10_night_f75 hM ?_
            refine r_iload_n B dX10_night_40 rfl ?_
            refine m_ld_turn B dX10_night_41 hM (by omega) (by omega) (fun r41 => ?_)
            refine r_istore_n B dX10_night_42 rfl (by decide) (lcat_v rfl rfl) ?_
            refine r_aload_n B dX10_night_43 rfl rfl ?_
            refine m_get_isServed B dX10_night_44 in_X10_night_X10 w_X10_night_f87 hM ?_
            refine r_iload_n B dX10_night_47 rfl ?_
            refine m_ld_isServed B dX10_night_48 hM (by omega) (by omega) (fun r48 => ?_)
            refine r_if_eq B dX10_night_49 (tgt := 81) (by decide) (by omega) (fun c49 => ?_) (fun c49 => ?_)
            · refine r_iinc B dX10_night_81 rfl (by decide) (lcat_v rfl rfl) ?_
              refine r_goto B dX10_night_84 (tgt := 31) (by decide) ?_
              have htt1 : ∀ y : Int, 0 ≤ y → y ≤ 3 → ahB mbid y = q → y = tt q := fun y y0 y1 z => by rw [← z]; exact (htt.1 y y0 y1).symm
              have hst : ∀ y : Int, 0 ≤ y → y ≤ 3 → (¬ ahB mbid y = q ∨ SV y = 0) → (if ahB mbid y < q + 1 then SV y else 0) = (if ahB mbid y < q then SV y else 0) := fun y y0 y1 z => by
                by_cases w : ahB mbid y < q
                · rw [if_pos (by omega), if_pos w]
                · by_cases w2 : ahB mbid y = q
                  · rw [if_pos (by omega), if_neg w]; omega
                  · rw [if_neg (by omega), if_neg w]
              have hs0 : ∀ y : Int, 0 ≤ y → y ≤ 3 → (¬ ahB mbid y = q ∨ SV y = 0) := fun y y0 y1 => by
                by_cases z : ahB mbid y = q
                · right; rw [htt1 y y0 y1 z]; exact c49
                · exact Or.inl z
              exact r_lv (lvLe_s rfl (lvLe_s rfl (lvLe_s rfl (lvLe_n lvLe_nil)))) (ih dd ss ee mm kk cc hh pp n (q + 1) h hM (by omega) (fun y y0 y1 => by rw [hst y y0 y1 (hs0 y y0 y1)]; exact i2 y y0 y1) (fun y y0 y1 => by rw [payF_s (hs0 y y0 y1)]; exact i3 y y0 y1) (by rw [sumZ_s _ i1.1, i4]; show _ = _ + SV (tt q); rw [c49]; omega) (by omega))
            · refine r_aload_n B dX10_night_52 rfl rfl ?_
              refine m_get_paid B dX10_night_53 in_X10_night_X10 w_X10_night_f69 hM ?_
              refine r_iload_n B dX10_night_56 rfl ?_
              refine r_dup2 B dX10_night_57 rfl rfl ?_
              refine m_ld_paid B dX10_night_58 hM (by omega) (by omega) (fun r58 => ?_)
              refine r_aload_n B dX10_night_59 rfl rfl ?_
              refine r_iload_n B dX10_night_60 rfl ?_
              refine r_callV (n := 1) B dX10_night_61 (ct_X10_price l g sz0 ad hA hM _ (by omega) hlt) gX10_night_X10_price rfl (by decide +kernel) ⟨Nat.le_of_ble_eq_true rfl, Nat.le_of_ble_eq_true rfl⟩ hM.obj rfl rfl rfl (Nat.le_of_ble_eq_true rfl) (Nat.le_of_ble_eq_true rfl) (Nat.le_of_ble_eq_true rfl) (fun v h' hp => ?_)
              obtain ⟨hv, hh⟩ := hp
              subst v
              subst h'
              dsimp only [Option.toList, List.cons_append, List.nil_append]
              refine r_aload_n B dX10_night_64 rfl rfl ?_
              refine m_get_cost B dX10_night_65 in_X10_night_X10 w_X10_night_f84 hM ?_
              refine r_iload_n B dX10_night_68 rfl ?_
              refine m_ld_cost B dX10_night_69 hM (by omega) (by omega) (fun r69 => ?_)
              refine r_imul B dX10_night_70 ?_
              refine r_iadd B dX10_night_71 ?_
              have hsz := hs (tt q) htq.1
              have hco := cutR_ok (rowF mdata (240 + tt q)) (b := mbits) (ls := mleast) (ms := mmost) hsz.1 hsz.2
              have hbs : 0 ≤ (mBS mdata msize mbits mleast mmost) (tt q) ∧ (mBS mdata msize mbits mleast mmost) (tt q) ≤ 3000 := baseB_rng (n := (cutR (rowF mdata (240 + tt q)) (msize (240 + tt q)) mbits mleast mmost).2.1) ⟨hco.1, Int.le_trans hco.2.1 hsz.2⟩ hco.2.2
              have hdf : 0 ≤ (mDF mdata msize mends mmany mkind mchain mholds mnights mbits mleast mmost) (tt q) ∧ (mDF mdata msize mends mmany mkind mchain mholds mnights mbits mleast mmost) (tt q) ≤ 3000 := difB_rng (n := (cutR (rowF mdata (240 + tt q)) (msize (240 + tt q)) mbits mleast mmost).2.1) ⟨hco.1, Int.le_trans hco.2.1 hsz.2⟩ hco.2.2
              have hcs : 0 ≤ CS (tt q) ∧ CS (tt q) ≤ 3000 := by rw [hgq.2.2.1]; exact cst_rng hbs hdf _
              have hpr := prc_rng (mbid := mbid) (t := tt) (A := AS) (S := SV) (best := mreserve) (k := q) (n := (4 - q - 1).toNat) ⟨hrs.1, by omega⟩ (fun j j0 j1 => hbd _ (hlt j (by omega) (by omega)))
              have hml := mul_rng hpr hcs
              have hp0 := i3 (tt q) htq.1.1 htq.1.2
              rw [payF_f (by have := htq.2; omega)] at hp0
              have hp1 := hpd (tt q) htq.1
              refine m_st_paid B dX10_night_72 hA hM (by omega) (by omega) (by omega) (fun h hM => ?_)
              refine r_aload_n B dX10_night_73 rfl rfl ?_
              refine r_iload_n B dX10_night_74 rfl ?_
              have hsq : 0 ≤ ss (240 + tt q) ∧ ss (240 + tt q) ≤ 48 := by rw [← (i2 (tt q) htq.1.1 htq.1.2).2.1.1]; exact hs _ htq.1
              have hLq : LKo ee mm := nwC_LKo ⟨hn0.1, hn60⟩ hs hLK i2
              have hwq : ¬ WT (tt q) = 1 → ¬ ltN (colF mkind (tt q)) mnights.toNat = -1 := fun z w => z (by rw [hgq.2.1]; exact wnt_1 ⟨Or.inl (dfN_neg.mpr w), Or.inl w⟩)
              have hwq1 : ¬ WT (tt q) = 1 → ¬ ltN (colF kk (tt q)) mnights.toNat = -1 := by
                rw [← ltN_congr (K := colF mkind (tt q)) (K' := colF kk (tt q)) (n := mnights.toNat) (fun j j0 j1 => ((i2 (tt q) htq.1.1 htq.1.2).1 j j0 (by omega) (by omega)).2.2.1)]; exact hwq
              have hRq := cutR_ok (rowF dd (240 + tt q)) (b := mbits) (ls := mleast) (ms := mmost) hsq.1 hsq.2
              have hRq : 0 ≤ (cutR (rowF dd (240 + tt q)) (ss (240 + tt q)) mbits mleast mmost).2.1 ∧ (cutR (rowF dd (240 + tt q)) (ss (240 + tt q)) mbits mleast mmost).2.1 ≤ 48 := by omega
              refine r_callV (n := 1) B dX10_night_75 (ct_X10_links l g sz0 ad hA hM _ htq.1 hsq hn0 hn60 hLq hwq1) gX10_night_X10_links rfl (by decide +kernel) ⟨Nat.le_of_ble_eq_true rfl, Nat.le_of_ble_eq_true rfl⟩ hM.obj rfl rfl rfl (Nat.le_of_ble_eq_true rfl) (Nat.le_of_ble_eq_true rfl) (Nat.le_of_ble_eq_true rfl) (fun v h hp => ?_)
              obtain ⟨hv, hM⟩ := hp
              subst v
              dsimp only [Option.toList, List.cons_append, List.nil_append]
              refine r_iinc B dX10_night_78 rfl (by decide) (lcat_v rfl rfl) ?_
              refine r_iinc B dX10_night_81 rfl (by decide) (lcat_v rfl rfl) ?_
              refine r_goto B dX10_night_84 (tgt := 31) (by decide) ?_
              have htt1 : ∀ y : Int, 0 ≤ y → y ≤ 3 → ahB mbid y = q → y = tt q := fun y y0 y1 z => by rw [← z]; exact (htt.1 y y0 y1).symm
              have hst : ∀ y : Int, 0 ≤ y → y ≤ 3 → (¬ ahB mbid y = q ∨ SV y = 0) → (if ahB mbid y < q + 1 then SV y else 0) = (if ahB mbid y < q then SV y else 0) := fun y y0 y1 z => by
                by_cases w : ahB mbid y < q
                · rw [if_pos (by omega), if_pos w]
                · by_cases w2 : ahB mbid y = q
                  · rw [if_pos (by omega), if_neg w]; omega
                  · rw [if_neg (by omega), if_neg w]
              have hqa : ahB mbid (tt q) = q := htq.2
              have hs1 : SV (tt q) = 1 := by rcases bI_01 (srv (wbP mkind mbound mcheap mnights mreserve) (mNC mkind mnights) (mOT mdata msize mends mmany mkind mnights mbits mleast mmost) (mAK mdata msize mends mmany mkind mbid mbound mcheap mnights mreserve mbits mleast mmost) (mBS mdata msize mbits mleast mmost) (mDF mdata msize mends mmany mkind mchain mholds mnights mbits mleast mmost) (tt q) (lft (wbP mkind mbound mcheap mnights mreserve) (mNC mkind mnights) (mOT mdata msize mends mmany mkind mnights mbits mleast mmost) (mAK mdata msize mends mmany mkind mbid mbound mcheap mnights mreserve mbits mleast mmost) (mBS mdata msize mbits mleast mmost) (mDF mdata msize mends mmany mkind mchain mholds mnights mbits mleast mmost) mroom tt q.toNat)) with z | z <;> omega
              have hN2 : ∀ y : Int, 0 ≤ y → y ≤ 3 → nwC mdata msize mends mmany mkind mchain mholds mnights mbits mleast mmost (WT y) (if ahB mbid y < q + 1 then SV y else 0) (cpyF dd (48 * (60 * tt q + mnights)) (48 * (240 + tt q)) 48) (upZ ss (60 * tt q + mnights) (ss (240 + tt q))) (cpyF (putRow ee (48 * (240 + tt q)) (cutR (rowF dd (240 + tt q)) (ss (240 + tt q)) mbits mleast mmost).2.1 (cutR (rowF dd (240 + tt q)) (ss (240 + tt q)) mbits mleast mmost).2.2) (48 * (60 * tt q + mnights)) (48 * (240 + tt q)) 48) (upZ (upZ mm (240 + tt q) (cutR (rowF dd (240 + tt q)) (ss (240 + tt q)) mbits mleast mmost).2.1) (60 * tt q + mnights) (cutR (rowF dd (240 + tt q)) (ss (240 + tt q)) mbits mleast mmost).2.1) (upZ kk (60 * tt q + mnights) (WT (tt q))) (upZ cc (60 * tt q + mnights) (if WT (tt q) = 1 then mnights else cc (60 * tt q + ltN (colF kk (tt q)) mnights.toNat))) (putRow hh (48 * (60 * tt q + mnights)) (cutR (rowF dd (240 + tt q)) (ss (240 + tt q)) mbits mleast mmost).2.1 (fun k => bI (fstC (chk (rowF dd (240 + tt q)) (cutR (rowF dd (240 + tt q)) (ss (240 + tt q)) mbits mleast mmost).2.2) k ∧ (WT (tt q) = 1 ∨ ¬ inCh dd ee mm kk cc hh mnights (tt q) (chk (rowF dd (240 + tt q)) (cutR (rowF dd (240 + tt q)) (ss (240 + tt q)) mbits mleast mmost).2.2 k))))) y := fun y y0 y1 => by
                by_cases z : ahB mbid y = q
                · have z1 := htt1 y y0 y1 z
                  have z2 := i2 (tt q) htq.1.1 htq.1.2
                  rw [if_neg (by omega)] at z2
                  rw [z1, if_pos (by omega)]
                  exact ⟨fun j j0 j1 j2 => (z2.1 j j0 j1 j2).tr (lk_rowE htq.1 htq.1 ⟨hn0.1, hn60⟩ ⟨j0, j1⟩ hRq (Or.inr j2)), z2.2.1.tr (lk_fileE htq.1 htq.1 ⟨hn0.1, hn60⟩), fun w => absurd w c49, fun _ => lk_new htq.1 ⟨hn0.1, hn60⟩ (hs _ htq.1) hLK hwq z2⟩
                · rw [hst y y0 y1 (Or.inl z)]
                  exact (i2 y y0 y1).out (Or.inr trivial) (fun j j0 j1 => lk_rowE htq.1 ⟨y0, y1⟩ ⟨hn0.1, hn60⟩ ⟨j0, j1⟩ hRq (Or.inl (fun w => z (by rw [w]; exact hqa)))) (lk_fileE htq.1 ⟨y0, y1⟩ ⟨hn0.1, hn60⟩) ⟨hn0.1, hn60⟩ (hs y ⟨y0, y1⟩)
              have hP2 : ∀ y : Int, 0 ≤ y → y ≤ 3 → (upZ pp (tt q) (pp (tt q) + prc mbid tt AS SV mreserve q (4 - q - 1).toNat * CS (tt q))) y = mpaid y + payF mbid tt AS SV CS mreserve (q + 1) y := fun y y0 y1 => by
                by_cases z : ahB mbid y = q
                · have z1 := htt1 y y0 y1 z
                  rw [z1, upZ_at, payF_t ⟨by omega, c49⟩, hqa, i3 (tt q) htq.1.1 htq.1.2, payF_f (by omega)]
                  omega
                · rw [upZ_ne _ _ (fun w => z (by rw [w]; exact hqa)), payF_s (Or.inl z)]
                  exact i3 y y0 y1
              have hC2 : n + 1 = sumZ (fun j => SV (tt j)) (q + 1 : Int).toNat := by rw [sumZ_s _ i1.1, i4]; show _ = _ + SV (tt q); rw [hs1]
              exact r_lv (lvLe_s rfl (lvLe_s rfl (lvLe_s rfl (lvLe_n lvLe_nil)))) (ih _ _ _ _ _ _ _ _ (n + 1) (q + 1) h hM (by omega) hN2 hP2 hC2 (by omega))
      exact r_lv (lvLe_s rfl (lvLe_s rfl (lvLe_s rfl (lvLe_n lvLe_nil)))) (loop31 _ mdata msize e1 m1 mkind mchain mholds mpaid 0 0 h hM (by omega) (fun y y0 y1 => by rw [if_neg (by have := ahB_rng mbid (c := y) ⟨y0, y1⟩; omega)]; exact nwC_0 ⟨y0, y1⟩ ⟨hn0.1, hn60⟩ k_e1) (fun y y0 y1 => by rw [payF_f (by have := ahB_rng mbid (c := y) ⟨y0, y1⟩; omega)]; omega) rfl (Nat.lt_succ_self _))
    · replace c18 := bI_0.mp c18
      exact absurd c18 (by decide)
  · refine r_iconst B dX10_night_10 ?_
    refine r_goto B dX10_night_11 (tgt := 15) (by decide) ?_
    refine r_callV (n := 1) B dX10_night_15 (ct_X10_isFine l g sz0 ad hA hM _ (by omega)) gX10_night_X10_isFine rfl (by decide +kernel) ⟨Nat.le_of_ble_eq_true rfl, Nat.le_of_ble_eq_true rfl⟩ hM.obj rfl rfl rfl (Nat.le_of_ble_eq_true rfl) (Nat.le_of_ble_eq_true rfl) (Nat.le_of_ble_eq_true rfl) (fun v h hp => ?_)
    obtain ⟨hv, hM⟩ := hp
    subst v
    dsimp only [Option.toList, List.cons_append, List.nil_append]
    refine r_if_ne B dX10_night_18 (tgt := 23) (by decide) (bI_rng _) (fun c18 => ?_) (fun c18 => ?_)
    · replace c18 := bI_n0.mp c18
      exact absurd c18 (by decide)
    · replace c18 := bI_0.mp c18
      refine r_iconst B dX10_night_21 ?_
      exact r_iret B hr hlk dX10_night_22 (Nat.le_of_ble_eq_true rfl) (Nat.le_of_ble_eq_true rfl) (by
    exact ⟨fun _ => ⟨rfl, hM⟩, fun w9 => absurd (by omega) w9⟩)
