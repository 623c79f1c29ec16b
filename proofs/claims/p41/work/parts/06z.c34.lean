abbrev rmX9_dayOf : Room := { frames := 7, cells := 2, slots := 12, locals := 122 }
set_option maxHeartbeats 4000000 in
set_option maxRecDepth 100000 in
theorem ct_X9_dayOf (l : Launch) (g : GG) (sz0 : Nat) {A : Nat → Nat} {Z : Nat → Prop} (hA : AOK A) {h : AH} {mnights mbits mleast mmost mroom mreserve mmount mspeed : Int} {mdata msize mends mmany mkind mchain mholds mbid mbound mcheap mpromised mcoin mpaid mowed : Int → Int} (hT : ST g A Z h mdata msize mends mmany mkind mchain mholds mnights mbits mleast mmost mroom mreserve mmount mspeed mbid mbound mcheap mpromised mcoin mpaid mowed h) (hG : RGm mnights mbits mleast mmost mroom mreserve mmount mspeed msize mbid mbound mcheap mpromised mcoin mpaid mowed) (x k : Int) (hl0 : l.stackTraces = false) (qx : -2147483648 ≤ x ∧ x < 2147483648) (qk : -2147483648 ≤ k ∧ k < 2147483648)  : CTX l yX9_dayOf wsX9_dayOf rmX9_dayOf g sz0 [.ref (A 0), .int (iI (x)), .int (iI (k))] h (fun v h' => tNi x k mnights = 0 ∧ v = some (.int (iI (ltN (colF mkind x) (k + 1).toNat))) ∧ ST g A Z h mdata msize mends mmany mkind mchain mholds mnights mbits mleast mmost mroom mreserve mmount mspeed mbid mbound mcheap mpromised mcoin mpaid mowed h') (fun E h' => ((E = "java/lang/IllegalArgumentException" ∧ tNi x k mnights = 1) ∨ (E = "java/lang/IndexOutOfBoundsException" ∧ tNi x k mnights = 2)) ∧ ST g A Z h mdata msize mends mmany mkind mchain mholds mnights mbits mleast mmost mroom mreserve mmount mspeed mbid mbound mcheap mpromised mcoin mpaid mowed h') := by
  refine CTX.of (by decide +kernel) rfl [some (.ref (A 0)), some (.int (iI (x))), some (.int (iI (k))), none] rfl (Nat.le_of_ble_eq_true rfl) ?_
  intro p e s m args below meth c B hr hlk hout
  have hT0 := hT
  obtain ⟨hK, LE, RK1, RN, HK1, HN, CA, PV, CF, CN, Ha, hN, tq, G, Eg, sz, pt, wt, gt, pc, LN, lt, hC, hSub, hZn, hX, hM⟩ := hT
  have hN0 := hG.1
  obtain ⟨fc, hQC, hfc⟩ := hC.qc
  refine r_aload_n B dX9_dayOf_0 rfl rfl ?_
  refine r_iload_n B dX9_dayOf_1 rfl ?_
  refine r_callVX (n := 1) B dX9_dayOf_2 (ct_X9_clientOf l g sz0 hC.ro hQC hfc _ hl0 (by omega)) gX9_dayOf_X9_clientOf rfl (by decide +kernel) ⟨Nat.le_of_ble_eq_true rfl, Nat.le_of_ble_eq_true rfl⟩ hC.ro rfl rfl rfl (Nat.le_of_ble_eq_true rfl) (Nat.le_of_ble_eq_true rfl) (Nat.le_of_ble_eq_true rfl) (fun E h' hp => wx_out hout hlk ?_ (Nat.le_of_ble_eq_true rfl) (Nat.le_of_ble_eq_true rfl)) (fun v h' hp => ?_)
  · have hx9 := hp.2.2
    exact ⟨(Or.inl ⟨hp.1, (by unfold tNi; (repeat' split) <;> omega)⟩), by rw [hp.2.1]; exact hT0⟩
  obtain ⟨hv, hh, hb1⟩ := hp
  subst v
  subst h'
  dsimp only [Option.toList, List.cons_append, List.nil_append]
  refine r_astore_n B dX9_dayOf_5 rfl rfl (by decide) (lcat_v rfl rfl) ?_
  refine r_aload_n B dX9_dayOf_6 rfl rfl ?_
  refine r_iload_n B dX9_dayOf_7 rfl ?_
  refine r_callVX (n := 1) B dX9_dayOf_8 (ct_X9_needNight l g sz0 hC.ro hQC hfc _ hl0 (by omega) hN0) gX9_dayOf_X9_needNight rfl (by decide +kernel) ⟨Nat.le_of_ble_eq_true rfl, Nat.le_of_ble_eq_true rfl⟩ hC.ro rfl rfl rfl (Nat.le_of_ble_eq_true rfl) (Nat.le_of_ble_eq_true rfl) (Nat.le_of_ble_eq_true rfl) (fun E h' hp => wx_out hout hlk ?_ (Nat.le_of_ble_eq_true rfl) (Nat.le_of_ble_eq_true rfl)) (fun v h' hp => ?_)
  · have hx9 := hp.2.2
    exact ⟨(Or.inr ⟨hp.1, (by unfold tNi; (repeat' split) <;> omega)⟩), by rw [hp.2.1]; exact hT0⟩
  obtain ⟨hv, hh, hb2⟩ := hp
  subst v
  subst h'
  dsimp only [Option.toList, List.cons_append, List.nil_append]
  refine r_aload_n B dX9_dayOf_11 rfl rfl ?_
  refine r_iload_n B dX9_dayOf_12 rfl ?_
  refine r_callV (n := 1) B dX9_dayOf_13 (ct_X3_latestDayUpTo l g sz0 (hC.cl hb1.1 hb1.2) (hC.ln hb1.1 hb1.2) _ (by omega)) gX9_dayOf_X3_latestDayUpTo rfl (by decide +kernel) ⟨Nat.le_of_ble_eq_true rfl, Nat.le_of_ble_eq_true rfl⟩ (hC.cl hb1.1 hb1.2) rfl rfl rfl (Nat.le_of_ble_eq_true rfl) (Nat.le_of_ble_eq_true rfl) (Nat.le_of_ble_eq_true rfl) (fun v h' hp => ?_)
  obtain ⟨hv, hh⟩ := hp
  subst v
  subst h'
  dsimp only [Option.toList, List.cons_append, List.nil_append]
  exact x_ret (r_iret B hr hlk dX9_dayOf_16 (Nat.le_of_ble_eq_true rfl) (Nat.le_of_ble_eq_true rfl) ⟨(by unfold tNi; (repeat' split) <;> omega), by rw [ltN_z2 (K' := colF mkind x) (fun j j0 j1 => nzL_iff.trans (hX.2.2.1 x hb1.1 hb1.2 j j0 (by omega)).nz)], hT0⟩)
abbrev rmX9_got : Room := { frames := 7, cells := 2, slots := 12, locals := 122 }
theorem in_X9_got_X5 : ∀ w ∈ wsX50, w ∈ wsX9_got := by decide +kernel
theorem w_X9_got_f187 : Cond.fieldLink RX9 187 "DeltaNights$Link" "earlier" "LDeltaNights$Link;" ∈ wsX9_got := by decide +kernel
set_option maxHeartbeats 4000000 in
set_option maxRecDepth 100000 in
theorem ct_X9_got (l : Launch) (g : GG) (sz0 : Nat) {A : Nat → Nat} {Z : Nat → Prop} (hA : AOK A) {h : AH} {mnights mbits mleast mmost mroom mreserve mmount mspeed : Int} {mdata msize mends mmany mkind mchain mholds mbid mbound mcheap mpromised mcoin mpaid mowed : Int → Int} (hT : ST g A Z h mdata msize mends mmany mkind mchain mholds mnights mbits mleast mmost mroom mreserve mmount mspeed mbid mbound mcheap mpromised mcoin mpaid mowed h) (hG : RGm mnights mbits mleast mmost mroom mreserve mmount mspeed msize mbid mbound mcheap mpromised mcoin mpaid mowed) (x k : Int) (hl0 : l.stackTraces = false) (qx : -2147483648 ≤ x ∧ x < 2147483648) (qk : -2147483648 ≤ k ∧ k < 2147483648)  : CTX l yX9_got wsX9_got rmX9_got g sz0 [.ref (A 0), .int (iI (x)), .int (iI (k))] h (fun v h' => tNi x k mnights = 0 ∧ v = some (.int (iI (mkind (60 * x + k)))) ∧ ST g A Z h mdata msize mends mmany mkind mchain mholds mnights mbits mleast mmost mroom mreserve mmount mspeed mbid mbound mcheap mpromised mcoin mpaid mowed h') (fun E h' => ((E = "java/lang/IllegalArgumentException" ∧ tNi x k mnights = 1) ∨ (E = "java/lang/IndexOutOfBoundsException" ∧ tNi x k mnights = 2)) ∧ ST g A Z h mdata msize mends mmany mkind mchain mholds mnights mbits mleast mmost mroom mreserve mmount mspeed mbid mbound mcheap mpromised mcoin mpaid mowed h') := by
  refine CTX.of (by decide +kernel) rfl [some (.ref (A 0)), some (.int (iI (x))), some (.int (iI (k))), none, none] rfl (Nat.le_of_ble_eq_true rfl) ?_
  intro p e s m args below meth c B hr hlk hout
  have hT0 := hT
  obtain ⟨hK, LE, RK1, RN, HK1, HN, CA, PV, CF, CN, Ha, hN, tq, G, Eg, sz, pt, wt, gt, pc, LN, lt, hC, hSub, hZn, hX, hM⟩ := hT
  have hN0 := hG.1
  obtain ⟨fc, hQC, hfc⟩ := hC.qc
  refine r_aload_n B dX9_got_0 rfl rfl ?_
  refine r_iload_n B dX9_got_1 rfl ?_
  refine r_callVX (n := 1) B dX9_got_2 (ct_X9_clientOf l g sz0 hC.ro hQC hfc _ hl0 (by omega)) gX9_got_X9_clientOf rfl (by decide +kernel) ⟨Nat.le_of_ble_eq_true rfl, Nat.le_of_ble_eq_true rfl⟩ hC.ro rfl rfl rfl (Nat.le_of_ble_eq_true rfl) (Nat.le_of_ble_eq_true rfl) (Nat.le_of_ble_eq_true rfl) (fun E h' hp => wx_out hout hlk ?_ (Nat.le_of_ble_eq_true rfl) (Nat.le_of_ble_eq_true rfl)) (fun v h' hp => ?_)
  · have hx9 := hp.2.2
    exact ⟨(Or.inl ⟨hp.1, (by unfold tNi; (repeat' split) <;> omega)⟩), by rw [hp.2.1]; exact hT0⟩
  obtain ⟨hv, hh, hb1⟩ := hp
  subst v
  subst h'
  dsimp only [Option.toList, List.cons_append, List.nil_append]
  refine r_astore_n B dX9_got_5 rfl rfl (by decide) (lcat_v rfl rfl) ?_
  refine r_aload_n B dX9_got_6 rfl rfl ?_
  refine r_iload_n B dX9_got_7 rfl ?_
  refine r_callVX (n := 1) B dX9_got_8 (ct_X9_needNight l g sz0 hC.ro hQC hfc _ hl0 (by omega) hN0) gX9_got_X9_needNight rfl (by decide +kernel) ⟨Nat.le_of_ble_eq_true rfl, Nat.le_of_ble_eq_true rfl⟩ hC.ro rfl rfl rfl (Nat.le_of_ble_eq_true rfl) (Nat.le_of_ble_eq_true rfl) (Nat.le_of_ble_eq_true rfl) (fun E h' hp => wx_out hout hlk ?_ (Nat.le_of_ble_eq_true rfl) (Nat.le_of_ble_eq_true rfl)) (fun v h' hp => ?_)
  · have hx9 := hp.2.2
    exact ⟨(Or.inr ⟨hp.1, (by unfold tNi; (repeat' split) <;> omega)⟩), by rw [hp.2.1]; exact hT0⟩
  obtain ⟨hv, hh, hb2⟩ := hp
  subst v
  subst h'
  dsimp only [Option.toList, List.cons_append, List.nil_append]
  have hk9 := hX.2.2.1 x hb1.1 hb1.2 k hb2.1 (by omega)
  refine r_aload_n B dX9_got_11 rfl rfl ?_
  refine r_iload_n B dX9_got_12 rfl ?_
  refine r_callV (n := 1) B dX9_got_13 (ct_X3_linkAt l g sz0 (hC.cl hb1.1 hb1.2) (hC.ln hb1.1 hb1.2) _ (by omega)) gX9_got_X3_linkAt rfl (by decide +kernel) ⟨Nat.le_of_ble_eq_true rfl, Nat.le_of_ble_eq_true rfl⟩ (hC.cl hb1.1 hb1.2) rfl rfl rfl (Nat.le_of_ble_eq_true rfl) (Nat.le_of_ble_eq_true rfl) (Nat.le_of_ble_eq_true rfl) (fun v h' hp => ?_)
  obtain ⟨hv, hh⟩ := hp
  subst v
  subst h'
  dsimp only [Option.toList, List.cons_append, List.nil_append]
  refine r_astore B dX9_got_16 (va_rf_isRef _) (by decide) (lcat_v rfl rfl) ?_
  refine r_aload B dX9_got_18 rfl (va_rf_isRef _) ?_
  refine r_ifnonnull B dX9_got_20 (tgt := 25) (by decide) (fun a20 c20 => ?_) (fun c20 => ?_)
  · have hE9 : (mkind (60 * x + k) = 1 ∧ LE a20 = none) ∨ (mkind (60 * x + k) = 2 ∧ LE a20 ≠ none) := by
      rcases hk9 with y | ⟨b, b1, b2, b3, b4, b5⟩
      · rw [y.2.1] at c20; cases c20
      · rw [b1] at c20
        obtain rfl := Option.some.inj c20
        rcases b4 with w | ⟨w1, w2, w3, w4⟩
        · exact Or.inl ⟨w.1, w.2.1⟩
        · refine Or.inr ⟨w1, fun v => ?_⟩
          rw [w3] at v
          have hr9 := ltN_rng (colF mkind x) k.toNat
          have := (hX.2.2.1 x hb1.1 hb1.2 (ltN (colF mkind x) k.toNat) (by omega) (by omega)).nz.mp v
          exact ltN_at (colF mkind x) k.toNat w2 this
    obtain ⟨rr, rra, rh, rha, fq1, fq2, hl1, hl2, hl3⟩ := (hk9.at c20).1.sub (hC.sub hSub)
    refine r_aload B dX9_got_25 rfl (va_rf_isRef _) ?_
    refine r_topr c20 ?_
    refine r_get (C := RX5) (T := TX5) (N := 3) (ci := 5) B dX9_got_27 in_X9_got_X5 rfl 0 (by decide) w_X9_got_f187 rfl hl1 rfl ?_
    refine r_ifnonnull B dX9_got_30 (tgt := 37) (by decide) (fun a30 c30 => ?_) (fun c30 => ?_)
    · refine r_iconst B dX9_got_37 ?_
      exact x_ret (r_iret B hr hlk dX9_got_38 (Nat.le_of_ble_eq_true rfl) (Nat.le_of_ble_eq_true rfl) ⟨(by unfold tNi; (repeat' split) <;> omega), by rcases hE9 with w | w <;> first | exact absurd (w.2.symm.trans c30) (by intro y; cases y) | rw [w.1], hT0⟩)
    · refine r_iconst B dX9_got_33 ?_
      refine r_goto B dX9_got_34 (tgt := 38) (by decide) ?_
      exact x_ret (r_iret B hr hlk dX9_got_38 (Nat.le_of_ble_eq_true rfl) (Nat.le_of_ble_eq_true rfl) ⟨(by unfold tNi; (repeat' split) <;> omega), by rcases hE9 with w | w <;> first | exact absurd c30 w.2 | rw [w.1], hT0⟩)
  · refine r_iconst B dX9_got_23 ?_
    exact x_ret (r_iret B hr hlk dX9_got_24 (Nat.le_of_ble_eq_true rfl) (Nat.le_of_ble_eq_true rfl) ⟨(by unfold tNi; (repeat' split) <;> omega), by rw [hk9.nz.mp c20], hT0⟩)
abbrev rmX9_chain : Room := { frames := 7, cells := 1, slots := 6, locals := 122 }
theorem in_X9_chain_X3 : ∀ w ∈ wsX30, w ∈ wsX9_chain := by decide +kernel
theorem w_X9_chain_f160 : Cond.fieldLink RX9 160 "DeltaNights$Client" "latest" "LDeltaNights$Link;" ∈ wsX9_chain := by decide +kernel
set_option maxHeartbeats 4000000 in
set_option maxRecDepth 100000 in
theorem ct_X9_chain (l : Launch) (g : GG) (sz0 : Nat) {A : Nat → Nat} {Z : Nat → Prop} (hA : AOK A) {h : AH} {mnights mbits mleast mmost mroom mreserve mmount mspeed : Int} {mdata msize mends mmany mkind mchain mholds mbid mbound mcheap mpromised mcoin mpaid mowed : Int → Int} (hT : ST g A Z h mdata msize mends mmany mkind mchain mholds mnights mbits mleast mmost mroom mreserve mmount mspeed mbid mbound mcheap mpromised mcoin mpaid mowed h) (hG : RGm mnights mbits mleast mmost mroom mreserve mmount mspeed msize mbid mbound mcheap mpromised mcoin mpaid mowed) (x : Int) (hl0 : l.stackTraces = false) (qx : -2147483648 ≤ x ∧ x < 2147483648)  : CTX l yX9_chain wsX9_chain rmX9_chain g sz0 [.ref (A 0), .int (iI (x))] h (fun v h' => tCl x = 0 ∧ v = some (.int (iI (dfN (colF mkind x) mnights.toNat))) ∧ ST g A Z h mdata msize mends mmany mkind mchain mholds mnights mbits mleast mmost mroom mreserve mmount mspeed mbid mbound mcheap mpromised mcoin mpaid mowed h') (fun E h' => ((E = "java/lang/IllegalArgumentException" ∧ tCl x = 1)) ∧ ST g A Z h mdata msize mends mmany mkind mchain mholds mnights mbits mleast mmost mroom mreserve mmount mspeed mbid mbound mcheap mpromised mcoin mpaid mowed h') := by
  refine CTX.of (by decide +kernel) rfl [some (.ref (A 0)), some (.int (iI (x))), none] rfl (Nat.le_of_ble_eq_true rfl) ?_
  intro p e s m args below meth c B hr hlk hout
  have hT0 := hT
  obtain ⟨hK, LE, RK1, RN, HK1, HN, CA, PV, CF, CN, Ha, hN, tq, G, Eg, sz, pt, wt, gt, pc, LN, lt, hC, hSub, hZn, hX, hM⟩ := hT
  have hN0 := hG.1
  obtain ⟨fc, hQC, hfc⟩ := hC.qc
  obtain ⟨La, nt, len, hchc, hlen, hchn⟩ := hX.chc hN0
  have hchh := hchc.sub (hC.sub hSub)
  refine r_aload_n B dX9_chain_0 rfl rfl ?_
  refine r_iload_n B dX9_chain_1 rfl ?_
  refine r_callVX (n := 1) B dX9_chain_2 (ct_X9_clientOf l g sz0 hC.ro hQC hfc _ hl0 (by omega)) gX9_chain_X9_clientOf rfl (by decide +kernel) ⟨Nat.le_of_ble_eq_true rfl, Nat.le_of_ble_eq_true rfl⟩ hC.ro rfl rfl rfl (Nat.le_of_ble_eq_true rfl) (Nat.le_of_ble_eq_true rfl) (Nat.le_of_ble_eq_true rfl) (fun E h' hp => wx_out hout hlk ?_ (Nat.le_of_ble_eq_true rfl) (Nat.le_of_ble_eq_true rfl)) (fun v h' hp => ?_)
  · have hx9 := hp.2.2
    exact ⟨⟨hp.1, (by unfold tCl; (repeat' split) <;> omega)⟩, by rw [hp.2.1]; exact hT0⟩
  obtain ⟨hv, hh, hb1⟩ := hp
  subst v
  subst h'
  dsimp only [Option.toList, List.cons_append, List.nil_append]
  have hx9 := hchh x hb1.1 hb1.2
  have hd9 := (hlen x hb1.1 hb1.2).1
  refine r_get (C := RX3) (T := TX3) (N := 13) (ci := 3) B dX9_chain_5 in_X9_chain_X3 rfl 2 (by decide) w_X9_chain_f160 rfl (hC.cl hb1.1 hb1.2) rfl ?_
  refine r_topv hx9.1 ?_
  refine r_astore_n B dX9_chain_8 rfl (va_rf_isRef _) (by decide) (lcat_v rfl rfl) ?_
  refine r_aload_n B dX9_chain_9 rfl (va_rf_isRef _) ?_
  refine r_ifnonnull B dX9_chain_10 (tgt := 17) (by decide) (fun a10 c10 => ?_) (fun c10 => ?_)
  · have hl9 := ptr_some c10
    refine r_aload_n B dX9_chain_17 rfl (va_rf_isRef _) ?_
    refine r_topr (ptr_in hl9) ?_
    refine r_callV (n := 0) B dX9_chain_18 (ct_X5_differencesUpToHere l g sz0 hx9.2.2.1 hl9) gX9_chain_X5_differencesUpToHere rfl (by decide +kernel) ⟨Nat.le_of_ble_eq_true rfl, Nat.le_of_ble_eq_true rfl⟩ (hx9.2.2.1 0 (by omega) hl9).2.choose_spec.choose_spec.choose_spec.choose_spec.choose_spec.choose_spec.1 rfl rfl rfl (Nat.le_of_ble_eq_true rfl) (Nat.le_of_ble_eq_true rfl) (Nat.le_of_ble_eq_true rfl) (fun v h' hp => ?_)
    obtain ⟨hv, hh⟩ := hp
    subst v
    subst h'
    dsimp only [Option.toList, List.cons_append, List.nil_append]
    exact x_ret (r_iret B hr hlk dX9_chain_21 (Nat.le_of_ble_eq_true rfl) (Nat.le_of_ble_eq_true rfl) ⟨(by unfold tCl; (repeat' split) <;> omega), by rw [hd9]; congr 3; omega, hT0⟩)
  · have hl9 := ptr_none c10
    refine r_iconst B dX9_chain_13 ?_
    refine r_goto B dX9_chain_14 (tgt := 21) (by decide) ?_
    exact x_ret (r_iret B hr hlk dX9_chain_21 (Nat.le_of_ble_eq_true rfl) (Nat.le_of_ble_eq_true rfl) ⟨(by unfold tCl; (repeat' split) <;> omega), by rw [show dfN (colF mkind x) mnights.toNat = -1 by omega], hT0⟩)
abbrev rmX9_store : Room := { frames := 0, cells := 0, slots := 0, locals := 0 }
theorem in_X9_store_X9 : ∀ w ∈ wsX90, w ∈ wsX9_store := by decide +kernel
theorem w_X9_store_f25 : Cond.fieldLink RX9 25 "DeltaNights" "house" "LDeltaNights$House;" ∈ wsX9_store := by decide +kernel
theorem in_X9_store_X4 : ∀ w ∈ wsX40, w ∈ wsX9_store := by decide +kernel
theorem w_X9_store_f138 : Cond.fieldLink RX9 138 "DeltaNights$House" "kept" "I" ∈ wsX9_store := by decide +kernel
set_option maxHeartbeats 4000000 in
set_option maxRecDepth 100000 in
theorem ct_X9_store (l : Launch) (g : GG) (sz0 : Nat) {A : Nat → Nat} {Z : Nat → Prop} (hA : AOK A) {h : AH} {mnights mbits mleast mmost mroom mreserve mmount mspeed : Int} {mdata msize mends mmany mkind mchain mholds mbid mbound mcheap mpromised mcoin mpaid mowed : Int → Int} (hT : ST g A Z h mdata msize mends mmany mkind mchain mholds mnights mbits mleast mmost mroom mreserve mmount mspeed mbid mbound mcheap mpromised mcoin mpaid mowed h) (hG : RGm mnights mbits mleast mmost mroom mreserve mmount mspeed msize mbid mbound mcheap mpromised mcoin mpaid mowed)   : CT l yX9_store wsX9_store rmX9_store g sz0 [.ref (A 0)] h (fun v h' => ∃ n : Int, v = some (.int (iI n)) ∧ (∀ L : List (List Int), L.Nodup → (∀ w : List Int, w ∈ L ↔ exN (fun z => hldC (rowF mholds z) (chk (rowF mdata z) (rowF mends z)) (mmany z) w) 240) → n = (L.length : Int)) ∧ ST g A Z h mdata msize mends mmany mkind mchain mholds mnights mbits mleast mmost mroom mreserve mmount mspeed mbid mbound mcheap mpromised mcoin mpaid mowed h') := by
  refine CT.of (by decide +kernel) rfl [some (.ref (A 0))] rfl (Nat.le_of_ble_eq_true rfl) ?_
  intro p e s m args below meth c B hr hlk hnm
  have hT0 := hT
  obtain ⟨hK, LE, RK1, RN, HK1, HN, CA, PV, CF, CN, Ha, hN, tq, G, Eg, sz, pt, wt, gt, pc, LN, lt, hC, hSub, hZn, hX, hM⟩ := hT
  have hN0 := hG.1
  obtain ⟨fc, hQC, hfc⟩ := hC.qc
  refine r_aload_n B dX9_store_0 rfl rfl ?_
  refine r_get (C := RX9) (T := TX9) (N := 6) (ci := 9) B dX9_store_1 in_X9_store_X9 rfl 2 (by decide) w_X9_store_f25 rfl hC.ro rfl ?_
  refine r_get (C := RX4) (T := TX4) (N := 2) (ci := 4) B dX9_store_4 in_X9_store_X4 rfl 1 (by decide) w_X9_store_f138 rfl hC.ho rfl ?_
  exact r_iret B hr hlk dX9_store_7 (Nat.le_of_ble_eq_true rfl) (Nat.le_of_ble_eq_true rfl) ⟨hN, rfl, fun L hL hm => kept_len hX hL hm, hT0⟩
abbrev rmX9_purse : Room := { frames := 0, cells := 0, slots := 0, locals := 0 }
theorem in_X9_purse_X9 : ∀ w ∈ wsX90, w ∈ wsX9_purse := by decide +kernel
theorem w_X9_purse_f11 : Cond.fieldLink RX9 11 "DeltaNights" "clients" "[LDeltaNights$Client;" ∈ wsX9_purse := by decide +kernel
theorem in_X9_purse_X3 : ∀ w ∈ wsX30, w ∈ wsX9_purse := by decide +kernel
theorem w_X9_purse_f260 : Cond.fieldLink RX9 260 "DeltaNights$Client" "paid" "I" ∈ wsX9_purse := by decide +kernel
theorem w_X9_purse_f257 : Cond.fieldLink RX9 257 "DeltaNights$Client" "owed" "I" ∈ wsX9_purse := by decide +kernel
set_option maxHeartbeats 4000000 in
set_option maxRecDepth 100000 in
theorem ct_X9_purse (l : Launch) (g : GG) (sz0 : Nat) {A : Nat → Nat} {Z : Nat → Prop} (hA : AOK A) {h : AH} {mnights mbits mleast mmost mroom mreserve mmount mspeed : Int} {mdata msize mends mmany mkind mchain mholds mbid mbound mcheap mpromised mcoin mpaid mowed : Int → Int} (hT : ST g A Z h mdata msize mends mmany mkind mchain mholds mnights mbits mleast mmost mroom mreserve mmount mspeed mbid mbound mcheap mpromised mcoin mpaid mowed h) (hG : RGm mnights mbits mleast mmost mroom mreserve mmount mspeed msize mbid mbound mcheap mpromised mcoin mpaid mowed)   : CT l yX9_purse wsX9_purse rmX9_purse g sz0 [.ref (A 0)] h (fun v h' => v = some (.int (iI (sumZ (fun k => mpaid k - mowed k) 4))) ∧ ST g A Z h mdata msize mends mmany mkind mchain mholds mnights mbits mleast mmost mroom mreserve mmount mspeed mbid mbound mcheap mpromised mcoin mpaid mowed h') := by
  refine CT.of (by decide +kernel) rfl [some (.ref (A 0)), none, none, none] rfl (Nat.le_of_ble_eq_true rfl) ?_
  intro p e s m args below meth c B hr hlk hnm
  have hT0 := hT
  obtain ⟨hK, LE, RK1, RN, HK1, HN, CA, PV, CF, CN, Ha, hN, tq, G, Eg, sz, pt, wt, gt, pc, LN, lt, hC, hSub, hZn, hX, hM⟩ := hT
  have hN0 := hG.1
  obtain ⟨fc, hQC, hfc⟩ := hC.qc
  refine r_iconst B dX9_purse_0 ?_
  refine r_istore_n B dX9_purse_1 rfl (by decide) (lcat_v rfl rfl) ?_
  refine r_iconst B dX9_purse_2 ?_
  refine r_istore_n B dX9_purse_3 rfl (by decide) (lcat_v rfl rfl) ?_
  have loop4 : ∀ (nn : Nat) (q : Int) (u : Int), (0 ≤ q ∧ q ≤ 4) → (u = sumZ (fun k => mpaid k - mowed k) q.toNat) → (4 - q).toNat < nn → WA p l e rmX9_purse s m args below meth c g sz0 4 (MQ below (QQ g sz0 (fun v h' => v = some (.int (iI (sumZ (fun k => mpaid k - mowed k) 4))) ∧ ST g A Z h mdata msize mends mmany mkind mchain mholds mnights mbits mleast mmost mroom mreserve mmount mspeed mbid mbound mcheap mpromised mcoin mpaid mowed h')) args s rmX9_purse.cells rmX9_purse.slots (A0 sz0)) h 0 0 [some (.ref (A 0)), some (.int (iI (u))), some (.int (iI (q))), none] 4 [] := by
    intro nn
    induction nn with
    | zero => intro q u i1 i2 hn; exact absurd hn (Nat.not_lt_zero _)
    | succ nn ih =>
      intro q u i1 i2 hn
      refine r_iload_n B dX9_purse_4 rfl ?_
      refine r_aload_n B dX9_purse_5 rfl rfl ?_
      refine r_get (C := RX9) (T := TX9) (N := 6) (ci := 9) B dX9_purse_6 in_X9_purse_X9 rfl 0 (by decide) w_X9_purse_f11 rfl hC.ro rfl ?_
      refine r_alen_q B dX9_purse_9 rfl hQC ?_
      refine r_icmp_ge B dX9_purse_10 (tgt := 42) (by decide) (by omega) (by omega) (fun c10 => ?_) (fun c10 => ?_)
      · refine r_iload_n B dX9_purse_42 rfl ?_
        exact r_iret B hr hlk dX9_purse_43 (Nat.le_of_ble_eq_true rfl) (Nat.le_of_ble_eq_true rfl) ⟨by rw [i2, show q = 4 by omega]; rfl, hT0⟩
      · refine r_aload_n B dX9_purse_13 rfl rfl ?_
        refine r_get (C := RX9) (T := TX9) (N := 6) (ci := 9) B dX9_purse_14 in_X9_purse_X9 rfl 0 (by decide) w_X9_purse_f11 rfl hC.ro rfl ?_
        refine r_iload_n B dX9_purse_17 rfl ?_
        refine r_aald B dX9_purse_18 rfl hQC (by decide) (by omega) (by omega) ?_
        refine r_topr (hfc q i1.1 (by omega)) ?_
        refine r_astore_n B dX9_purse_19 rfl rfl (by decide) (lcat_v rfl rfl) ?_
        refine r_aload_n B dX9_purse_20 rfl rfl ?_
        refine r_ifnull_r B dX9_purse_21 ?_
        refine r_iload_n B dX9_purse_24 rfl ?_
        refine r_aload_n B dX9_purse_25 rfl rfl ?_
        refine r_get (C := RX3) (T := TX3) (N := 13) (ci := 3) B dX9_purse_26 in_X9_purse_X3 rfl 8 (by decide) w_X9_purse_f260 rfl (hC.cl i1.1 (by omega)) rfl ?_
        refine r_aload_n B dX9_purse_29 rfl rfl ?_
        refine r_get (C := RX3) (T := TX3) (N := 13) (ci := 3) B dX9_purse_30 in_X9_purse_X3 rfl 9 (by decide) w_X9_purse_f257 rfl (hC.cl i1.1 (by omega)) rfl ?_
        refine r_isub B dX9_purse_33 ?_
        refine r_iadd B dX9_purse_34 ?_
        refine r_istore_n B dX9_purse_35 rfl (by decide) (lcat_v rfl rfl) ?_
        refine r_iinc B dX9_purse_36 rfl (by decide) (lcat_v rfl rfl) ?_
        refine r_goto B dX9_purse_39 (tgt := 4) (by decide) ?_
        exact r_lv (lvLe_s rfl (lvLe_s rfl (lvLe_s rfl (lvLe_n lvLe_nil)))) (ih (q + 1) _ (by omega) (by rw [sumZ_s _ i1.1, i2]) (by omega))
  exact r_lv (lvLe_s rfl (lvLe_s rfl (lvLe_s rfl (lvLe_n lvLe_nil)))) (loop4 _ 0 _ (by omega) rfl (Nat.lt_succ_self _))
