abbrev rmL_asks_0 : Room := { frames := 9, cells := 3, slots := 18, locals := 167 }
set_option maxHeartbeats 4000000 in
set_option maxRecDepth 100000 in
theorem ct_L_asks_0 (l : Launch) (g : GG) (sz0 : Nat) {A : Nat → Nat} {Z : Nat → Prop} (hA : AOK A) {h : AH} {mnights mbits mleast mmost mroom mreserve mmount mspeed : Int} {mdata msize mends mmany mkind mchain mholds mbid mbound mcheap mpromised mcoin mpaid mowed : Int → Int} (hT : ST g A Z h mdata msize mends mmany mkind mchain mholds mnights mbits mleast mmost mroom mreserve mmount mspeed mbid mbound mcheap mpromised mcoin mpaid mowed h) (hG : RGm mnights mbits mleast mmost mroom mreserve mmount mspeed msize mbid mbound mcheap mpromised mcoin mpaid mowed) (x k : Int) (hl0 : l.stackTraces = false) (qx : -2147483648 ≤ x ∧ x < 2147483648) (qk : -2147483648 ≤ k ∧ k < 2147483648) : CTX l yL_asks wsL_asks rmL_asks_0 g sz0 [.ref (A 0), .int (iI 0), .int (iI x), .int (iI k)] h (fun v h' => tDif x (ltN (colF mkind x) mnights.toNat) = 0 ∧ v = some (.int (iI (difB (rowF mdata (240 + x)) (cutR (rowF mdata (240 + x)) (msize (240 + x)) mbits mleast mmost).2.2 (cutR (rowF mdata (240 + x)) (msize (240 + x)) mbits mleast mmost).2.1 (inCh mdata mends mmany mkind mchain mholds mnights x)))) ∧ ST g A Z h mdata msize mends mmany mkind mchain mholds mnights mbits mleast mmost mroom mreserve mmount mspeed mbid mbound mcheap mpromised mcoin mpaid mowed h') (fun E h' => ((E = "java/lang/IllegalArgumentException" ∧ tDif x (ltN (colF mkind x) mnights.toNat) = 1) ∨ (E = "java/lang/IllegalStateException" ∧ tDif x (ltN (colF mkind x) mnights.toNat) = 2)) ∧ ST g A Z h mdata msize mends mmany mkind mchain mholds mnights mbits mleast mmost mroom mreserve mmount mspeed mbid mbound mcheap mpromised mcoin mpaid mowed h') := by
  obtain ⟨fs0, hro⟩ := hT.ro
  refine CTX.of (by decide +kernel) rfl [some (.ref (A 0)), some (.int (iI 0)), some (.int (iI x)), some (.int (iI k))] rfl (Nat.le_of_ble_eq_true rfl) ?_
  intro p e s m args below meth c B hr hlk hout
  refine r_iload_n B dL_asks_0 rfl ?_
  refine r_if_ne B dL_asks_1 (tgt := 12) (by decide) (by omega) (fun c1 => ?_) (fun c1 => ?_)
  · exact absurd c1 (by decide)
  · refine r_aload_n B dL_asks_4 rfl rfl ?_
    refine r_iload_n B dL_asks_5 rfl ?_
    refine r_callVX (n := 1) B dL_asks_6 (ct_X9_forDifference l g sz0 hA hT hG x hl0 (by omega)) gL_asks_X9_forDifference rfl (by decide +kernel) ⟨Nat.le_of_ble_eq_true rfl, Nat.le_of_ble_eq_true rfl⟩ hro rfl rfl rfl (Nat.le_of_ble_eq_true rfl) (by show 0 + 3 ≤ 3; omega) (by show 0 + 18 ≤ 18; omega) (fun E h' hp => wx_out hout hlk ?_ (Nat.le_of_ble_eq_true rfl) (Nat.le_of_ble_eq_true rfl)) (fun v h hp => ?_)
    · exact hp
    obtain ⟨ht0, hv, hST⟩ := hp
    subst v
    dsimp only [Option.toList, List.cons_append, List.nil_append]
    refine r_goto B dL_asks_9 (tgt := 100) (by decide) ?_
    exact x_ret (r_iret B hr hlk dL_asks_100 (by show 0 + 3 ≤ 3; omega) (by show 0 + 18 ≤ 18; omega) ⟨ht0, rfl, hST⟩)
abbrev rmL_asks_1 : Room := { frames := 9, cells := 3, slots := 18, locals := 168 }
set_option maxHeartbeats 4000000 in
set_option maxRecDepth 100000 in
theorem ct_L_asks_1 (l : Launch) (g : GG) (sz0 : Nat) {A : Nat → Nat} {Z : Nat → Prop} (hA : AOK A) {h : AH} {mnights mbits mleast mmost mroom mreserve mmount mspeed : Int} {mdata msize mends mmany mkind mchain mholds mbid mbound mcheap mpromised mcoin mpaid mowed : Int → Int} (hT : ST g A Z h mdata msize mends mmany mkind mchain mholds mnights mbits mleast mmost mroom mreserve mmount mspeed mbid mbound mcheap mpromised mcoin mpaid mowed h) (hG : RGm mnights mbits mleast mmost mroom mreserve mmount mspeed msize mbid mbound mcheap mpromised mcoin mpaid mowed) (x k : Int) (hl0 : l.stackTraces = false) (qx : -2147483648 ≤ x ∧ x < 2147483648) (qk : -2147483648 ≤ k ∧ k < 2147483648) : CTX l yL_asks wsL_asks rmL_asks_1 g sz0 [.ref (A 0), .int (iI 1), .int (iI x), .int (iI k)] h (fun v h' => tAsk x k mnights (mkind (60 * x + k)) = 0 ∧ v = some (.int (iI (mmany (60 * x + k) + sumZ (fun j => bI (rowF mholds (60 * x + k) j ≠ 0) * lnF (rowF mends (60 * x + k)) j) (mmany (60 * x + k)).toNat))) ∧ ST g A Z h mdata msize mends mmany mkind mchain mholds mnights mbits mleast mmost mroom mreserve mmount mspeed mbid mbound mcheap mpromised mcoin mpaid mowed h') (fun E h' => ((E = "java/lang/IllegalArgumentException" ∧ tAsk x k mnights (mkind (60 * x + k)) = 1) ∨ (E = "java/lang/IndexOutOfBoundsException" ∧ tAsk x k mnights (mkind (60 * x + k)) = 2) ∨ (E = "java/lang/IllegalStateException" ∧ tAsk x k mnights (mkind (60 * x + k)) = 3)) ∧ ST g A Z h mdata msize mends mmany mkind mchain mholds mnights mbits mleast mmost mroom mreserve mmount mspeed mbid mbound mcheap mpromised mcoin mpaid mowed h') := by
  obtain ⟨fs0, hro⟩ := hT.ro
  refine CTX.of (by decide +kernel) rfl [some (.ref (A 0)), some (.int (iI 1)), some (.int (iI x)), some (.int (iI k))] rfl (Nat.le_of_ble_eq_true rfl) ?_
  intro p e s m args below meth c B hr hlk hout
  refine r_iload_n B dL_asks_0 rfl ?_
  refine r_if_ne B dL_asks_1 (tgt := 12) (by decide) (by omega) (fun c1 => ?_) (fun c1 => ?_)
  · refine r_iload_n B dL_asks_12 rfl ?_
    refine r_iconst B dL_asks_13 ?_
    refine r_icmp_ne B dL_asks_14 (tgt := 26) (by decide) (by omega) (by omega) (fun c14 => ?_) (fun c14 => ?_)
    · exact absurd c14 (by decide)
    · refine r_aload_n B dL_asks_17 rfl rfl ?_
      refine r_iload_n B dL_asks_18 rfl ?_
      refine r_iload_n B dL_asks_19 rfl ?_
      refine r_callVX (n := 2) B dL_asks_20 (ct_X9_bytes l g sz0 hA hT hG x k hl0 (by omega) (by omega)) gL_asks_X9_bytes rfl (by decide +kernel) ⟨Nat.le_of_ble_eq_true rfl, Nat.le_of_ble_eq_true rfl⟩ hro rfl rfl rfl (Nat.le_of_ble_eq_true rfl) (by show 0 + 3 ≤ 3; omega) (by show 0 + 18 ≤ 18; omega) (fun E h' hp => wx_out hout hlk ?_ (Nat.le_of_ble_eq_true rfl) (Nat.le_of_ble_eq_true rfl)) (fun v h hp => ?_)
      · exact hp
      obtain ⟨ht0, hv, hST⟩ := hp
      subst v
      dsimp only [Option.toList, List.cons_append, List.nil_append]
      refine r_goto B dL_asks_23 (tgt := 100) (by decide) ?_
      exact x_ret (r_iret B hr hlk dL_asks_100 (by show 0 + 3 ≤ 3; omega) (by show 0 + 18 ≤ 18; omega) ⟨ht0, rfl, hST⟩)
  · exact absurd c1 (by decide)
abbrev rmL_asks_2 : Room := { frames := 9, cells := 3, slots := 18, locals := 168 }
set_option maxHeartbeats 4000000 in
set_option maxRecDepth 100000 in
theorem ct_L_asks_2 (l : Launch) (g : GG) (sz0 : Nat) {A : Nat → Nat} {Z : Nat → Prop} (hA : AOK A) {h : AH} {mnights mbits mleast mmost mroom mreserve mmount mspeed : Int} {mdata msize mends mmany mkind mchain mholds mbid mbound mcheap mpromised mcoin mpaid mowed : Int → Int} (hT : ST g A Z h mdata msize mends mmany mkind mchain mholds mnights mbits mleast mmost mroom mreserve mmount mspeed mbid mbound mcheap mpromised mcoin mpaid mowed h) (hG : RGm mnights mbits mleast mmost mroom mreserve mmount mspeed msize mbid mbound mcheap mpromised mcoin mpaid mowed) (x k : Int) (hl0 : l.stackTraces = false) (qx : -2147483648 ≤ x ∧ x < 2147483648) (qk : -2147483648 ≤ k ∧ k < 2147483648) : CTX l yL_asks wsL_asks rmL_asks_2 g sz0 [.ref (A 0), .int (iI 2), .int (iI x), .int (iI k)] h (fun v h' => tAsk x k mnights (mkind (60 * x + k)) = 0 ∧ v = some (.int (iI (sumZ (fun j => bI (rowF mholds (60 * x + k) j ≠ 0)) (mmany (60 * x + k)).toNat))) ∧ ST g A Z h mdata msize mends mmany mkind mchain mholds mnights mbits mleast mmost mroom mreserve mmount mspeed mbid mbound mcheap mpromised mcoin mpaid mowed h') (fun E h' => ((E = "java/lang/IllegalArgumentException" ∧ tAsk x k mnights (mkind (60 * x + k)) = 1) ∨ (E = "java/lang/IndexOutOfBoundsException" ∧ tAsk x k mnights (mkind (60 * x + k)) = 2) ∨ (E = "java/lang/IllegalStateException" ∧ tAsk x k mnights (mkind (60 * x + k)) = 3)) ∧ ST g A Z h mdata msize mends mmany mkind mchain mholds mnights mbits mleast mmost mroom mreserve mmount mspeed mbid mbound mcheap mpromised mcoin mpaid mowed h') := by
  obtain ⟨fs0, hro⟩ := hT.ro
  refine CTX.of (by decide +kernel) rfl [some (.ref (A 0)), some (.int (iI 2)), some (.int (iI x)), some (.int (iI k))] rfl (Nat.le_of_ble_eq_true rfl) ?_
  intro p e s m args below meth c B hr hlk hout
  refine r_iload_n B dL_asks_0 rfl ?_
  refine r_if_ne B dL_asks_1 (tgt := 12) (by decide) (by omega) (fun c1 => ?_) (fun c1 => ?_)
  · refine r_iload_n B dL_asks_12 rfl ?_
    refine r_iconst B dL_asks_13 ?_
    refine r_icmp_ne B dL_asks_14 (tgt := 26) (by decide) (by omega) (by omega) (fun c14 => ?_) (fun c14 => ?_)
    · refine r_iload_n B dL_asks_26 rfl ?_
      refine r_iconst B dL_asks_27 ?_
      refine r_icmp_ne B dL_asks_28 (tgt := 40) (by decide) (by omega) (by omega) (fun c28 => ?_) (fun c28 => ?_)
      · exact absurd c28 (by decide)
      · refine r_aload_n B dL_asks_31 rfl rfl ?_
        refine r_iload_n B dL_asks_32 rfl ?_
        refine r_iload_n B dL_asks_33 rfl ?_
        refine r_callVX (n := 2) B dL_asks_34 (ct_X9_held l g sz0 hA hT hG x k hl0 (by omega) (by omega)) gL_asks_X9_held rfl (by decide +kernel) ⟨Nat.le_of_ble_eq_true rfl, Nat.le_of_ble_eq_true rfl⟩ hro rfl rfl rfl (Nat.le_of_ble_eq_true rfl) (by show 0 + 3 ≤ 3; omega) (by show 0 + 18 ≤ 18; omega) (fun E h' hp => wx_out hout hlk ?_ (Nat.le_of_ble_eq_true rfl) (Nat.le_of_ble_eq_true rfl)) (fun v h hp => ?_)
        · exact hp
        obtain ⟨ht0, hv, hST⟩ := hp
        subst v
        dsimp only [Option.toList, List.cons_append, List.nil_append]
        refine r_goto B dL_asks_37 (tgt := 100) (by decide) ?_
        exact x_ret (r_iret B hr hlk dL_asks_100 (by show 0 + 3 ≤ 3; omega) (by show 0 + 18 ≤ 18; omega) ⟨ht0, rfl, hST⟩)
    · exact absurd c14 (by decide)
  · exact absurd c1 (by decide)
abbrev rmL_asks_3 : Room := { frames := 9, cells := 3, slots := 18, locals := 168 }
set_option maxHeartbeats 4000000 in
set_option maxRecDepth 100000 in
theorem ct_L_asks_3 (l : Launch) (g : GG) (sz0 : Nat) {A : Nat → Nat} {Z : Nat → Prop} (hA : AOK A) {h : AH} {mnights mbits mleast mmost mroom mreserve mmount mspeed : Int} {mdata msize mends mmany mkind mchain mholds mbid mbound mcheap mpromised mcoin mpaid mowed : Int → Int} (hT : ST g A Z h mdata msize mends mmany mkind mchain mholds mnights mbits mleast mmost mroom mreserve mmount mspeed mbid mbound mcheap mpromised mcoin mpaid mowed h) (hG : RGm mnights mbits mleast mmost mroom mreserve mmount mspeed msize mbid mbound mcheap mpromised mcoin mpaid mowed) (x k : Int) (hl0 : l.stackTraces = false) (qx : -2147483648 ≤ x ∧ x < 2147483648) (qk : -2147483648 ≤ k ∧ k < 2147483648) : CTX l yL_asks wsL_asks rmL_asks_3 g sz0 [.ref (A 0), .int (iI 3), .int (iI x), .int (iI k)] h (fun v h' => tAsk x k mnights (mkind (60 * x + k)) = 0 ∧ v = some (.int (iI (msize (60 * x + k)))) ∧ ST g A Z h mdata msize mends mmany mkind mchain mholds mnights mbits mleast mmost mroom mreserve mmount mspeed mbid mbound mcheap mpromised mcoin mpaid mowed h') (fun E h' => ((E = "java/lang/IllegalArgumentException" ∧ tAsk x k mnights (mkind (60 * x + k)) = 1) ∨ (E = "java/lang/IndexOutOfBoundsException" ∧ tAsk x k mnights (mkind (60 * x + k)) = 2) ∨ (E = "java/lang/IllegalStateException" ∧ tAsk x k mnights (mkind (60 * x + k)) = 3)) ∧ ST g A Z h mdata msize mends mmany mkind mchain mholds mnights mbits mleast mmost mroom mreserve mmount mspeed mbid mbound mcheap mpromised mcoin mpaid mowed h') := by
  obtain ⟨fs0, hro⟩ := hT.ro
  refine CTX.of (by decide +kernel) rfl [some (.ref (A 0)), some (.int (iI 3)), some (.int (iI x)), some (.int (iI k))] rfl (Nat.le_of_ble_eq_true rfl) ?_
  intro p e s m args below meth c B hr hlk hout
  refine r_iload_n B dL_asks_0 rfl ?_
  refine r_if_ne B dL_asks_1 (tgt := 12) (by decide) (by omega) (fun c1 => ?_) (fun c1 => ?_)
  · refine r_iload_n B dL_asks_12 rfl ?_
    refine r_iconst B dL_asks_13 ?_
    refine r_icmp_ne B dL_asks_14 (tgt := 26) (by decide) (by omega) (by omega) (fun c14 => ?_) (fun c14 => ?_)
    · refine r_iload_n B dL_asks_26 rfl ?_
      refine r_iconst B dL_asks_27 ?_
      refine r_icmp_ne B dL_asks_28 (tgt := 40) (by decide) (by omega) (by omega) (fun c28 => ?_) (fun c28 => ?_)
      · refine r_iload_n B dL_asks_40 rfl ?_
        refine r_iconst B dL_asks_41 ?_
        refine r_icmp_ne B dL_asks_42 (tgt := 54) (by decide) (by omega) (by omega) (fun c42 => ?_) (fun c42 => ?_)
        · exact absurd c42 (by decide)
        · refine r_aload_n B dL_asks_45 rfl rfl ?_
          refine r_iload_n B dL_asks_46 rfl ?_
          refine r_iload_n B dL_asks_47 rfl ?_
          refine r_callVX (n := 2) B dL_asks_48 (ct_X9_lengthOf l g sz0 hA hT hG x k hl0 (by omega) (by omega)) gL_asks_X9_lengthOf rfl (by decide +kernel) ⟨Nat.le_of_ble_eq_true rfl, Nat.le_of_ble_eq_true rfl⟩ hro rfl rfl rfl (Nat.le_of_ble_eq_true rfl) (by show 0 + 3 ≤ 3; omega) (by show 0 + 18 ≤ 18; omega) (fun E h' hp => wx_out hout hlk ?_ (Nat.le_of_ble_eq_true rfl) (Nat.le_of_ble_eq_true rfl)) (fun v h hp => ?_)
          · exact hp
          obtain ⟨ht0, hv, hST⟩ := hp
          subst v
          dsimp only [Option.toList, List.cons_append, List.nil_append]
          refine r_goto B dL_asks_51 (tgt := 100) (by decide) ?_
          exact x_ret (r_iret B hr hlk dL_asks_100 (by show 0 + 3 ≤ 3; omega) (by show 0 + 18 ≤ 18; omega) ⟨ht0, rfl, hST⟩)
      · exact absurd c28 (by decide)
    · exact absurd c14 (by decide)
  · exact absurd c1 (by decide)
abbrev rmL_asks_4 : Room := { frames := 9, cells := 3, slots := 18, locals := 168 }
set_option maxHeartbeats 4000000 in
set_option maxRecDepth 100000 in
theorem ct_L_asks_4 (l : Launch) (g : GG) (sz0 : Nat) {A : Nat → Nat} {Z : Nat → Prop} (hA : AOK A) {h : AH} {mnights mbits mleast mmost mroom mreserve mmount mspeed : Int} {mdata msize mends mmany mkind mchain mholds mbid mbound mcheap mpromised mcoin mpaid mowed : Int → Int} (hT : ST g A Z h mdata msize mends mmany mkind mchain mholds mnights mbits mleast mmost mroom mreserve mmount mspeed mbid mbound mcheap mpromised mcoin mpaid mowed h) (hG : RGm mnights mbits mleast mmost mroom mreserve mmount mspeed msize mbid mbound mcheap mpromised mcoin mpaid mowed) (x k : Int) (hl0 : l.stackTraces = false) (qx : -2147483648 ≤ x ∧ x < 2147483648) (qk : -2147483648 ≤ k ∧ k < 2147483648) : CTX l yL_asks wsL_asks rmL_asks_4 g sz0 [.ref (A 0), .int (iI 4), .int (iI x), .int (iI k)] h (fun v h' => tAsk x k mnights (mkind (60 * x + k)) = 0 ∧ v = some (.int (iI (mntM mdata mends mmany mkind mchain mholds mnights x k))) ∧ ST g A Z h mdata msize mends mmany mkind mchain mholds mnights mbits mleast mmost mroom mreserve mmount mspeed mbid mbound mcheap mpromised mcoin mpaid mowed h') (fun E h' => ((E = "java/lang/IllegalArgumentException" ∧ tAsk x k mnights (mkind (60 * x + k)) = 1) ∨ (E = "java/lang/IndexOutOfBoundsException" ∧ tAsk x k mnights (mkind (60 * x + k)) = 2) ∨ (E = "java/lang/IllegalStateException" ∧ tAsk x k mnights (mkind (60 * x + k)) = 3)) ∧ ST g A Z h mdata msize mends mmany mkind mchain mholds mnights mbits mleast mmost mroom mreserve mmount mspeed mbid mbound mcheap mpromised mcoin mpaid mowed h') := by
  obtain ⟨fs0, hro⟩ := hT.ro
  refine CTX.of (by decide +kernel) rfl [some (.ref (A 0)), some (.int (iI 4)), some (.int (iI x)), some (.int (iI k))] rfl (Nat.le_of_ble_eq_true rfl) ?_
  intro p e s m args below meth c B hr hlk hout
  refine r_iload_n B dL_asks_0 rfl ?_
  refine r_if_ne B dL_asks_1 (tgt := 12) (by decide) (by omega) (fun c1 => ?_) (fun c1 => ?_)
  · refine r_iload_n B dL_asks_12 rfl ?_
    refine r_iconst B dL_asks_13 ?_
    refine r_icmp_ne B dL_asks_14 (tgt := 26) (by decide) (by omega) (by omega) (fun c14 => ?_) (fun c14 => ?_)
    · refine r_iload_n B dL_asks_26 rfl ?_
      refine r_iconst B dL_asks_27 ?_
      refine r_icmp_ne B dL_asks_28 (tgt := 40) (by decide) (by omega) (by omega) (fun c28 => ?_) (fun c28 => ?_)
      · refine r_iload_n B dL_asks_40 rfl ?_
        refine r_iconst B dL_asks_41 ?_
        refine r_icmp_ne B dL_asks_42 (tgt := 54) (by decide) (by omega) (by omega) (fun c42 => ?_) (fun c42 => ?_)
        · refine r_iload_n B dL_asks_54 rfl ?_
          refine r_iconst B dL_asks_55 ?_
          refine r_icmp_ne B dL_asks_56 (tgt := 68) (by decide) (by omega) (by omega) (fun c56 => ?_) (fun c56 => ?_)
          · exact absurd c56 (by decide)
          · refine r_aload_n B dL_asks_59 rfl rfl ?_
            refine r_iload_n B dL_asks_60 rfl ?_
            refine r_iload_n B dL_asks_61 rfl ?_
            refine r_callVX (n := 2) B dL_asks_62 (ct_X9_mounts l g sz0 hA hT hG x k hl0 (by omega) (by omega)) gL_asks_X9_mounts rfl (by decide +kernel) ⟨Nat.le_of_ble_eq_true rfl, Nat.le_of_ble_eq_true rfl⟩ hro rfl rfl rfl (Nat.le_of_ble_eq_true rfl) (by show 0 + 3 ≤ 3; omega) (by show 0 + 18 ≤ 18; omega) (fun E h' hp => wx_out hout hlk ?_ (Nat.le_of_ble_eq_true rfl) (Nat.le_of_ble_eq_true rfl)) (fun v h hp => ?_)
            · exact hp
            obtain ⟨ht0, hv, hST⟩ := hp
            subst v
            dsimp only [Option.toList, List.cons_append, List.nil_append]
            refine r_goto B dL_asks_65 (tgt := 100) (by decide) ?_
            exact x_ret (r_iret B hr hlk dL_asks_100 (by show 0 + 3 ≤ 3; omega) (by show 0 + 18 ≤ 18; omega) ⟨ht0, rfl, hST⟩)
        · exact absurd c42 (by decide)
      · exact absurd c28 (by decide)
    · exact absurd c14 (by decide)
  · exact absurd c1 (by decide)
abbrev rmL_asks_5 : Room := { frames := 9, cells := 4, slots := 24, locals := 169 }
set_option maxHeartbeats 4000000 in
set_option maxRecDepth 100000 in
theorem ct_L_asks_5 (l : Launch) (g : GG) (sz0 : Nat) {A : Nat → Nat} {Z : Nat → Prop} (hA : AOK A) {h : AH} {mnights mbits mleast mmost mroom mreserve mmount mspeed : Int} {mdata msize mends mmany mkind mchain mholds mbid mbound mcheap mpromised mcoin mpaid mowed : Int → Int} (hT : ST g A Z h mdata msize mends mmany mkind mchain mholds mnights mbits mleast mmost mroom mreserve mmount mspeed mbid mbound mcheap mpromised mcoin mpaid mowed h) (hG : RGm mnights mbits mleast mmost mroom mreserve mmount mspeed msize mbid mbound mcheap mpromised mcoin mpaid mowed) (x k : Int) (hl0 : l.stackTraces = false) (qx : -2147483648 ≤ x ∧ x < 2147483648) (qk : -2147483648 ≤ k ∧ k < 2147483648) : CTX l yL_asks wsL_asks rmL_asks_5 g sz0 [.ref (A 0), .int (iI 5), .int (iI x), .int (iI k)] h (fun v h' => tAsk x k mnights (mkind (60 * x + k)) = 0 ∧ v = some (.int (iI (sumZ (fun j => bI (((j < msize (240 + x)) ↔ ¬ (j < msize (60 * x + k))) ∨ (j < msize (60 * x + k) ∧ ¬ mdata (48 * (240 + x) + j) = mdata (48 * (60 * x + k) + j)))) 48))) ∧ ST g A Z h (cpyF mdata (48 * (240 + x)) (48 * (60 * x + k)) (msize (60 * x + k))) (upZ msize (240 + x) (msize (60 * x + k))) mends mmany mkind mchain mholds mnights mbits mleast mmost mroom mreserve mmount mspeed mbid mbound mcheap mpromised mcoin mpaid mowed h') (fun E h' => ((E = "java/lang/IllegalArgumentException" ∧ tAsk x k mnights (mkind (60 * x + k)) = 1) ∨ (E = "java/lang/IndexOutOfBoundsException" ∧ tAsk x k mnights (mkind (60 * x + k)) = 2) ∨ (E = "java/lang/IllegalStateException" ∧ tAsk x k mnights (mkind (60 * x + k)) = 3)) ∧ ST g A Z h mdata msize mends mmany mkind mchain mholds mnights mbits mleast mmost mroom mreserve mmount mspeed mbid mbound mcheap mpromised mcoin mpaid mowed h') := by
  obtain ⟨fs0, hro⟩ := hT.ro
  refine CTX.of (by decide +kernel) rfl [some (.ref (A 0)), some (.int (iI 5)), some (.int (iI x)), some (.int (iI k))] rfl (Nat.le_of_ble_eq_true rfl) ?_
  intro p e s m args below meth c B hr hlk hout
  refine r_iload_n B dL_asks_0 rfl ?_
  refine r_if_ne B dL_asks_1 (tgt := 12) (by decide) (by omega) (fun c1 => ?_) (fun c1 => ?_)
  · refine r_iload_n B dL_asks_12 rfl ?_
    refine r_iconst B dL_asks_13 ?_
    refine r_icmp_ne B dL_asks_14 (tgt := 26) (by decide) (by omega) (by omega) (fun c14 => ?_) (fun c14 => ?_)
    · refine r_iload_n B dL_asks_26 rfl ?_
      refine r_iconst B dL_asks_27 ?_
      refine r_icmp_ne B dL_asks_28 (tgt := 40) (by decide) (by omega) (by omega) (fun c28 => ?_) (fun c28 => ?_)
      · refine r_iload_n B dL_asks_40 rfl ?_
        refine r_iconst B dL_asks_41 ?_
        refine r_icmp_ne B dL_asks_42 (tgt := 54) (by decide) (by omega) (by omega) (fun c42 => ?_) (fun c42 => ?_)
        · refine r_iload_n B dL_asks_54 rfl ?_
          refine r_iconst B dL_asks_55 ?_
          refine r_icmp_ne B dL_asks_56 (tgt := 68) (by decide) (by omega) (by omega) (fun c56 => ?_) (fun c56 => ?_)
          · refine r_iload_n B dL_asks_68 rfl ?_
            refine r_iconst B dL_asks_69 ?_
            refine r_icmp_ne B dL_asks_70 (tgt := 82) (by decide) (by omega) (by omega) (fun c70 => ?_) (fun c70 => ?_)
            · exact absurd c70 (by decide)
            · refine r_aload_n B dL_asks_73 rfl rfl ?_
              refine r_iload_n B dL_asks_74 rfl ?_
              refine r_iload_n B dL_asks_75 rfl ?_
              refine r_callVX (n := 2) B dL_asks_76 (ct_X9_restore l g sz0 hA hT hG x k hl0 (by omega) (by omega)) gL_asks_X9_restore rfl (by decide +kernel) ⟨Nat.le_of_ble_eq_true rfl, Nat.le_of_ble_eq_true rfl⟩ hro rfl rfl rfl (Nat.le_of_ble_eq_true rfl) (by show 0 + 4 ≤ 4; omega) (by show 0 + 24 ≤ 24; omega) (fun E h' hp => wx_out hout hlk ?_ (Nat.le_of_ble_eq_true rfl) (Nat.le_of_ble_eq_true rfl)) (fun v h hp => ?_)
              · exact hp
              obtain ⟨ht0, hv, hST⟩ := hp
              subst v
              dsimp only [Option.toList, List.cons_append, List.nil_append]
              refine r_goto B dL_asks_79 (tgt := 100) (by decide) ?_
              exact x_ret (r_iret B hr hlk dL_asks_100 (by show 0 + 4 ≤ 4; omega) (by show 0 + 24 ≤ 24; omega) ⟨ht0, rfl, hST⟩)
          · exact absurd c56 (by decide)
        · exact absurd c42 (by decide)
      · exact absurd c28 (by decide)
    · exact absurd c14 (by decide)
  · exact absurd c1 (by decide)
abbrev rmL_asks_6 : Room := { frames := 8, cells := 2, slots := 12, locals := 145 }
set_option maxHeartbeats 4000000 in
set_option maxRecDepth 100000 in
theorem ct_L_asks_6 (l : Launch) (g : GG) (sz0 : Nat) {A : Nat → Nat} {Z : Nat → Prop} (hA : AOK A) {h : AH} {mnights mbits mleast mmost mroom mreserve mmount mspeed : Int} {mdata msize mends mmany mkind mchain mholds mbid mbound mcheap mpromised mcoin mpaid mowed : Int → Int} (hT : ST g A Z h mdata msize mends mmany mkind mchain mholds mnights mbits mleast mmost mroom mreserve mmount mspeed mbid mbound mcheap mpromised mcoin mpaid mowed h) (hG : RGm mnights mbits mleast mmost mroom mreserve mmount mspeed msize mbid mbound mcheap mpromised mcoin mpaid mowed) (x k : Int) (hl0 : l.stackTraces = false) (qx : -2147483648 ≤ x ∧ x < 2147483648) (qk : -2147483648 ≤ k ∧ k < 2147483648) : CTX l yL_asks wsL_asks rmL_asks_6 g sz0 [.ref (A 0), .int (iI 6), .int (iI x), .int (iI k)] h (fun v h' => tDif x (ltN (colF mkind x) mnights.toNat) = 0 ∧ v = some (.int (iI (amtF (FP.fsub (mnF (mmount * (mntM mdata mends mmany mkind mchain mholds mnights x (ltN (colF mkind x) mnights.toNat))) (baseB (rowF mdata (60 * x + (ltN (colF mkind x) mnights.toNat))) (rowF mends (60 * x + (ltN (colF mkind x) mnights.toNat))) (mmany (60 * x + (ltN (colF mkind x) mnights.toNat)))) mspeed) (FP.i2f (iI (mpromised x)))) (mcoin x)))) ∧ ST g A Z h mdata msize mends mmany mkind mchain mholds mnights mbits mleast mmost mroom mreserve mmount mspeed mbid mbound mcheap mpromised mcoin mpaid (upZ mowed x (i32z (iI (mowed x + (amtF (FP.fsub (mnF (mmount * (mntM mdata mends mmany mkind mchain mholds mnights x (ltN (colF mkind x) mnights.toNat))) (baseB (rowF mdata (60 * x + (ltN (colF mkind x) mnights.toNat))) (rowF mends (60 * x + (ltN (colF mkind x) mnights.toNat))) (mmany (60 * x + (ltN (colF mkind x) mnights.toNat)))) mspeed) (FP.i2f (iI (mpromised x)))) (mcoin x)))))) h') (fun E h' => ((E = "java/lang/IllegalArgumentException" ∧ tDif x (ltN (colF mkind x) mnights.toNat) = 1) ∨ (E = "java/lang/IllegalStateException" ∧ tDif x (ltN (colF mkind x) mnights.toNat) = 2)) ∧ ST g A Z h mdata msize mends mmany mkind mchain mholds mnights mbits mleast mmost mroom mreserve mmount mspeed mbid mbound mcheap mpromised mcoin mpaid mowed h') := by
  obtain ⟨fs0, hro⟩ := hT.ro
  refine CTX.of (by decide +kernel) rfl [some (.ref (A 0)), some (.int (iI 6)), some (.int (iI x)), some (.int (iI k))] rfl (Nat.le_of_ble_eq_true rfl) ?_
  intro p e s m args below meth c B hr hlk hout
  refine r_iload_n B dL_asks_0 rfl ?_
  refine r_if_ne B dL_asks_1 (tgt := 12) (by decide) (by omega) (fun c1 => ?_) (fun c1 => ?_)
  · refine r_iload_n B dL_asks_12 rfl ?_
    refine r_iconst B dL_asks_13 ?_
    refine r_icmp_ne B dL_asks_14 (tgt := 26) (by decide) (by omega) (by omega) (fun c14 => ?_) (fun c14 => ?_)
    · refine r_iload_n B dL_asks_26 rfl ?_
      refine r_iconst B dL_asks_27 ?_
      refine r_icmp_ne B dL_asks_28 (tgt := 40) (by decide) (by omega) (by omega) (fun c28 => ?_) (fun c28 => ?_)
      · refine r_iload_n B dL_asks_40 rfl ?_
        refine r_iconst B dL_asks_41 ?_
        refine r_icmp_ne B dL_asks_42 (tgt := 54) (by decide) (by omega) (by omega) (fun c42 => ?_) (fun c42 => ?_)
        · refine r_iload_n B dL_asks_54 rfl ?_
          refine r_iconst B dL_asks_55 ?_
          refine r_icmp_ne B dL_asks_56 (tgt := 68) (by decide) (by omega) (by omega) (fun c56 => ?_) (fun c56 => ?_)
          · refine r_iload_n B dL_asks_68 rfl ?_
            refine r_iconst B dL_asks_69 ?_
            refine r_icmp_ne B dL_asks_70 (tgt := 82) (by decide) (by omega) (by omega) (fun c70 => ?_) (fun c70 => ?_)
            · refine r_iload_n B dL_asks_82 rfl ?_
              refine r_bipush B dL_asks_83 (by decide) ?_
              refine r_icmp_ne B dL_asks_85 (tgt := 96) (by decide) (by omega) (by omega) (fun c85 => ?_) (fun c85 => ?_)
              · exact absurd c85 (by decide)
              · refine r_aload_n B dL_asks_88 rfl rfl ?_
                refine r_iload_n B dL_asks_89 rfl ?_
                refine r_callVX (n := 1) B dL_asks_90 (ct_X9_drill l g sz0 hA hT hG x hl0 (by omega)) gL_asks_X9_drill rfl (by decide +kernel) ⟨Nat.le_of_ble_eq_true rfl, Nat.le_of_ble_eq_true rfl⟩ hro rfl rfl rfl (Nat.le_of_ble_eq_true rfl) (by show 0 + 2 ≤ 2; omega) (by show 0 + 12 ≤ 12; omega) (fun E h' hp => wx_out hout hlk ?_ (Nat.le_of_ble_eq_true rfl) (Nat.le_of_ble_eq_true rfl)) (fun v h hp => ?_)
                · exact hp
                obtain ⟨ht0, hv, hST⟩ := hp
                subst v
                dsimp only [Option.toList, List.cons_append, List.nil_append]
                refine r_goto B dL_asks_93 (tgt := 100) (by decide) ?_
                exact x_ret (r_iret B hr hlk dL_asks_100 (by show 0 + 2 ≤ 2; omega) (by show 0 + 12 ≤ 12; omega) ⟨ht0, rfl, hST⟩)
            · exact absurd c70 (by decide)
          · exact absurd c56 (by decide)
        · exact absurd c42 (by decide)
      · exact absurd c28 (by decide)
    · exact absurd c14 (by decide)
  · exact absurd c1 (by decide)
abbrev rmL_asks_7 : Room := { frames := 7, cells := 421, slots := 10406, locals := 170 }
set_option maxHeartbeats 4000000 in
set_option maxRecDepth 100000 in
theorem ct_L_asks_7 (l : Launch) (g : GG) (sz0 : Nat) {A : Nat → Nat} {Z : Nat → Prop} (hA : AOK A) {h : AH} {mnights mbits mleast mmost mroom mreserve mmount mspeed : Int} {mdata msize mends mmany mkind mchain mholds mbid mbound mcheap mpromised mcoin mpaid mowed : Int → Int} (hT : ST g A Z h mdata msize mends mmany mkind mchain mholds mnights mbits mleast mmost mroom mreserve mmount mspeed mbid mbound mcheap mpromised mcoin mpaid mowed h) (hG : RGm mnights mbits mleast mmost mroom mreserve mmount mspeed msize mbid mbound mcheap mpromised mcoin mpaid mowed) (x k : Int) (hl0 : l.stackTraces = false) (qx : -2147483648 ≤ x ∧ x < 2147483648) (qk : -2147483648 ≤ k ∧ k < 2147483648) (hZs : ∀ q : Nat, Z q → h q ≠ none) : CTX l yL_asks wsL_asks rmL_asks_7 g sz0 [.ref (A 0), .int (iI 7), .int (iI x), .int (iI k)] h (fun v h' => tNg mnights = 0 ∧ (∀ q : Nat, h q ≠ none → (∀ i : Nat, i < 27 → q ≠ A i) → h' q = h q) ∧ ∃ n : Int, v = some (.int (iI n)) ∧ (∀ tt AS WT CS SV dd ss ee mm kk cc hh pp : Int → Int, turnOK mbid tt → gI (wbP mkind mbound mcheap mnights mreserve) (mNC mkind mnights) (mOT mdata msize mends mmany mkind mnights mbits mleast mmost) (mAK mdata msize mends mmany mkind mbid mbound mcheap mnights mreserve mbits mleast mmost) (mBS mdata msize mbits mleast mmost) (mDF mdata msize mends mmany mkind mchain mholds mnights mbits mleast mmost) mroom tt AS WT CS SV 4 → (∀ y : Int, 0 ≤ y → y ≤ 3 → nwC mdata msize mends mmany mkind mchain mholds mnights mbits mleast mmost (WT y) (SV y) dd ss ee mm kk cc hh y) → (∀ y : Int, 0 ≤ y → y ≤ 3 → pp y = mpaid y + payF mbid tt AS SV CS mreserve (4 : Int) y) → LKo ee mm → n = sumZ (fun j => SV (tt j)) 4 ∧ ST g A Z h dd ss ee mm kk cc hh (mnights + 1) mbits mleast mmost mroom mreserve mmount mspeed mbid mbound mcheap mpromised mcoin pp mowed h')) (fun E h' => ((E = "java/lang/IllegalStateException" ∧ tNg mnights = 1)) ∧ ST g A Z h mdata msize mends mmany mkind mchain mholds mnights mbits mleast mmost mroom mreserve mmount mspeed mbid mbound mcheap mpromised mcoin mpaid mowed h') := by
  obtain ⟨fs0, hro⟩ := hT.ro
  refine CTX.of (by decide +kernel) rfl [some (.ref (A 0)), some (.int (iI 7)), some (.int (iI x)), some (.int (iI k))] rfl (Nat.le_of_ble_eq_true rfl) ?_
  intro p e s m args below meth c B hr hlk hout
  refine r_iload_n B dL_asks_0 rfl ?_
  refine r_if_ne B dL_asks_1 (tgt := 12) (by decide) (by omega) (fun c1 => ?_) (fun c1 => ?_)
  · refine r_iload_n B dL_asks_12 rfl ?_
    refine r_iconst B dL_asks_13 ?_
    refine r_icmp_ne B dL_asks_14 (tgt := 26) (by decide) (by omega) (by omega) (fun c14 => ?_) (fun c14 => ?_)
    · refine r_iload_n B dL_asks_26 rfl ?_
      refine r_iconst B dL_asks_27 ?_
      refine r_icmp_ne B dL_asks_28 (tgt := 40) (by decide) (by omega) (by omega) (fun c28 => ?_) (fun c28 => ?_)
      · refine r_iload_n B dL_asks_40 rfl ?_
        refine r_iconst B dL_asks_41 ?_
        refine r_icmp_ne B dL_asks_42 (tgt := 54) (by decide) (by omega) (by omega) (fun c42 => ?_) (fun c42 => ?_)
        · refine r_iload_n B dL_asks_54 rfl ?_
          refine r_iconst B dL_asks_55 ?_
          refine r_icmp_ne B dL_asks_56 (tgt := 68) (by decide) (by omega) (by omega) (fun c56 => ?_) (fun c56 => ?_)
          · refine r_iload_n B dL_asks_68 rfl ?_
            refine r_iconst B dL_asks_69 ?_
            refine r_icmp_ne B dL_asks_70 (tgt := 82) (by decide) (by omega) (by omega) (fun c70 => ?_) (fun c70 => ?_)
            · refine r_iload_n B dL_asks_82 rfl ?_
              refine r_bipush B dL_asks_83 (by decide) ?_
              refine r_icmp_ne B dL_asks_85 (tgt := 96) (by decide) (by omega) (by omega) (fun c85 => ?_) (fun c85 => ?_)
              · refine r_aload_n B dL_asks_96 rfl rfl ?_
                refine r_callVX (n := 0) B dL_asks_97 (ct_X9_night2 l g sz0 hA hT hG hl0 hZs) gL_asks_X9_night rfl (by decide +kernel) ⟨Nat.le_of_ble_eq_true rfl, Nat.le_of_ble_eq_true rfl⟩ hro rfl rfl rfl (Nat.le_of_ble_eq_true rfl) (by show 0 + 421 ≤ 421; omega) (by show 0 + 10406 ≤ 10406; omega) (fun E h' hp => wx_out hout hlk ?_ (Nat.le_of_ble_eq_true rfl) (Nat.le_of_ble_eq_true rfl)) (fun v h hp => ?_)
                · exact hp
                obtain ⟨ht0, hfr9, nn9, hv, hfin⟩ := hp
                subst v
                dsimp only [Option.toList, List.cons_append, List.nil_append]
                exact x_ret (r_iret B hr hlk dL_asks_100 (by show 0 + 421 ≤ 421; omega) (by show 0 + 10406 ≤ 10406; omega) ⟨ht0, hfr9, nn9, rfl, hfin⟩)
              · exact absurd c85 (by decide)
            · exact absurd c70 (by decide)
          · exact absurd c56 (by decide)
        · exact absurd c42 (by decide)
      · exact absurd c28 (by decide)
    · exact absurd c14 (by decide)
  · exact absurd c1 (by decide)
