abbrev rmJxf58ca_isNaN_12338 : Room := { frames := 0, cells := 0, slots := 0, locals := 0 }
set_option maxHeartbeats 4000000 in
set_option maxRecDepth 100000 in
theorem ct_Jxf58ca_isNaN_12338 (l : Launch) (g : GG) (sz0 : Nat) {h : AH} (x : UInt32) (hx : Jvm.FP.Core.fIsNaN x = false) : CT l yJxf58ca_isNaN_12338 wsJxf58ca_isNaN_12338 rmJxf58ca_isNaN_12338 g sz0 [.float x] h (fun v h' => v = some (.int (iI 0)) ∧ h' = h) := by
  refine CT.ofF (by decide +kernel) rfl [some (.float x)] rfl (Nat.le_of_ble_eq_true rfl) ?_
  intro p e s m args below meth c B hr hlk hnm
  refine r_fload_n B dJxf58ca_isNaN_12338_0 rfl ?_
  refine r_fload_n B dJxf58ca_isNaN_12338_1 rfl ?_
  refine r_fcmp B dJxf58ca_isNaN_12338_2 ?_
  refine r_if_eq B dJxf58ca_isNaN_12338_3 (tgt := 10) (by decide) (i32z_rng _) (fun c3 => ?_) (fun c3 => ?_)
  · refine r_iconst B dJxf58ca_isNaN_12338_10 ?_
    exact r_zret B hr hlk dJxf58ca_isNaN_12338_11 (Nat.le_of_ble_eq_true rfl) (Nat.le_of_ble_eq_true rfl) (by first | exact nar_0 | exact nar_1 | exact nar_bI _) ⟨rfl, rfl⟩
  · exact absurd (fcl_self hx) c3
abbrev rmJxf58ca_floatToIntBits_5c35a : Room := { frames := 1, cells := 0, slots := 0, locals := 40 }
set_option maxHeartbeats 4000000 in
set_option maxRecDepth 100000 in
theorem ct_Jxf58ca_floatToIntBits_5c35a (l : Launch) (g : GG) (sz0 : Nat) {h : AH} (x : UInt32) (hx : Jvm.FP.Core.fIsNaN x = false) : CT l yJxf58ca_floatToIntBits_5c35a wsJxf58ca_floatToIntBits_5c35a rmJxf58ca_floatToIntBits_5c35a g sz0 [.float x] h (fun v h' => v = some (.int (iI (i32z x.toInt32))) ∧ h' = h) := by
  refine CT.ofF (by decide +kernel) rfl [some (.float x)] rfl (Nat.le_of_ble_eq_true rfl) ?_
  intro p e s m args below meth c B hr hlk hnm
  refine r_fload_n B dJxf58ca_floatToIntBits_5c35a_0 rfl ?_
  refine r_callS (n := 1) B dJxf58ca_floatToIntBits_5c35a_1 (ct_Jxf58ca_isNaN_12338 l g sz0 _ hx) gJxf58ca_floatToIntBits_5c35a_Jxf58ca_isNaN_12338 rfl (by decide +kernel) ⟨Nat.le_of_ble_eq_true rfl, Nat.le_of_ble_eq_true rfl⟩ rfl rfl (Nat.le_of_ble_eq_true rfl) (Nat.le_of_ble_eq_true rfl) (Nat.le_of_ble_eq_true rfl) (fun v h' hp => ?_)
  obtain ⟨hv, hh⟩ := hp
  subst v
  subst h'
  dsimp only [Option.toList, List.cons_append, List.nil_append]
  refine r_if_ne B dJxf58ca_floatToIntBits_5c35a_4 (tgt := 12) (by decide) (by omega) (fun c4 => ?_) (fun c4 => ?_)
  · exact absurd c4 (by decide)
  · refine r_fload_n B dJxf58ca_floatToIntBits_5c35a_7 rfl ?_
    refine r_f2bits B dJxf58ca_floatToIntBits_5c35a_8 (by decide +kernel) (by decide +kernel) (by decide +kernel) (by decide +kernel) (Nat.le_of_ble_eq_true rfl) (Nat.le_of_ble_eq_true rfl) ?_
    exact r_iret B hr hlk dJxf58ca_floatToIntBits_5c35a_11 (Nat.le_of_ble_eq_true rfl) (Nat.le_of_ble_eq_true rfl) ⟨rfl, rfl⟩
abbrev rmX10_hourBits : Room := { frames := 7, cells := 0, slots := 0, locals := 172 }
theorem w_X10_hourBits_cf219 : Cond.constantFloat RX10 219 (1114636288) ∈ wsX10_hourBits := by decide +kernel
set_option maxHeartbeats 4000000 in
set_option maxRecDepth 100000 in
theorem ct_X10_hourBits (l : Launch) (g : GG) (sz0 : Nat) (ad : Nat → Nat) (hA : ADok ad) {h h0 : AH} {mthrown mnights mbits mleast mmost mroom mreserve mmount mspeed : Int} {mdata msize mends mmany mkind mchain mholds mbid mbound mcheap mpromised mcoin mpaid mowed mturn misAsking mwant mcost misServed mitsRow mitsChunk : Int → Int} (hM : MW g ad h0 mthrown mdata msize mends mmany mkind mchain mholds mnights mbits mleast mmost mroom mreserve mmount mspeed mbid mbound mcheap mpromised mcoin mpaid mowed mturn misAsking mwant mcost misServed mitsRow mitsChunk h) (x k : Int) (qx : -2147483648 ≤ x ∧ x < 2147483648) (qk : -2147483648 ≤ k ∧ k < 2147483648)(hn0 : 0 ≤ mnights ∧ mnights ≤ 60)(hLK : LKo mends mmany)(hsp : 0 < mspeed ∧ mspeed < 2147483648) : CT l yX10_hourBits wsX10_hourBits rmX10_hourBits g sz0 [.ref (ad 0), .int (iI (x)), .int (iI (k))] h (fun v h' => ∃ r : Int, v = some (.int (iI r)) ∧ (¬ tAsk x k mnights (mkind (60 * x + k)) = 0 → r = 0 ∧ MW g ad h0 (tAsk x k mnights (mkind (60 * x + k))) mdata msize mends mmany mkind mchain mholds mnights mbits mleast mmost mroom mreserve mmount mspeed mbid mbound mcheap mpromised mcoin mpaid mowed mturn misAsking mwant mcost misServed mitsRow mitsChunk h') ∧ (tAsk x k mnights (mkind (60 * x + k)) = 0 → r = i32z (FP.fdiv (mnF (mmount * (mntM mdata mends mmany mkind mchain mholds mnights x k)) (baseB (rowF mdata (60 * x + k)) (rowF mends (60 * x + k)) (mmany (60 * x + k))) mspeed) 1114636288).toInt32 ∧ MW g ad h0 0 mdata msize mends mmany mkind mchain mholds mnights mbits mleast mmost mroom mreserve mmount mspeed mbid mbound mcheap mpromised mcoin mpaid mowed mturn misAsking mwant mcost misServed mitsRow mitsChunk h')) := by
  refine CT.of (by decide +kernel) rfl [some (.ref (ad 0)), some (.int (iI (x))), some (.int (iI (k)))] rfl (Nat.le_of_ble_eq_true rfl) ?_
  intro p e s m args below meth c B hr hlk hnm
  refine r_aload_n B dX10_hourBits_0 rfl rfl ?_
  refine r_iload_n B dX10_hourBits_1 rfl ?_
  refine r_iload_n B dX10_hourBits_2 rfl ?_
  refine r_callV (n := 2) B dX10_hourBits_3 (ct_X10_asks l g sz0 ad hA hM _ _ (by omega) (by omega) (by omega)) gX10_hourBits_X10_asks rfl (by decide +kernel) ⟨Nat.le_of_ble_eq_true rfl, Nat.le_of_ble_eq_true rfl⟩ hM.obj rfl rfl rfl (Nat.le_of_ble_eq_true rfl) (Nat.le_of_ble_eq_true rfl) (Nat.le_of_ble_eq_true rfl) (fun v h hp => ?_)
  obtain ⟨hv, hM⟩ := hp
  subst v
  dsimp only [Option.toList, List.cons_append, List.nil_append]
  refine r_if_eq B dX10_hourBits_6 (tgt := 24) (by decide) (bI_rng _) (fun c6 => ?_) (fun c6 => ?_)
  · replace c6 := bI_0.mp c6
    refine r_iconst B dX10_hourBits_24 ?_
    exact r_iret B hr hlk dX10_hourBits_25 (Nat.le_of_ble_eq_true rfl) (Nat.le_of_ble_eq_true rfl) (by first | exact ⟨_, rfl, fun _ => ⟨rfl, hM⟩, fun h9 => absurd h9 c6⟩ | exact ⟨_, rfl, fun h9 => absurd c6 h9, fun _ => ⟨rfl, hM⟩⟩)
  · replace c6 := bI_n0.mp c6
    rw [c6] at hM
    have hT := tAsk_0.mp c6
    refine r_aload_n B dX10_hourBits_9 rfl rfl ?_
    refine r_iload_n B dX10_hourBits_10 rfl ?_
    refine r_iload_n B dX10_hourBits_11 rfl ?_
    refine r_callV (n := 2) B dX10_hourBits_12 (ct_X10_minutes0 l g sz0 ad hA hM _ _ (by omega) (by omega) hn0 hLK hsp) gX10_hourBits_X10_minutes0 rfl (by decide +kernel) ⟨Nat.le_of_ble_eq_true rfl, Nat.le_of_ble_eq_true rfl⟩ hM.obj rfl rfl rfl (Nat.le_of_ble_eq_true rfl) (Nat.le_of_ble_eq_true rfl) (Nat.le_of_ble_eq_true rfl) (fun v h' hp => ?_)
    obtain ⟨hv, hh⟩ := hp
    subst v
    subst h'
    dsimp only [Option.toList, List.cons_append, List.nil_append]
    refine r_ldcf B dX10_hourBits_15 w_X10_hourBits_cf219 ?_
    refine r_fdiv B dX10_hourBits_17 (vf_of (hv_ok (mn_ok (a := mmount * (mntM mdata mends mmany mkind mchain mholds mnights x k)) (b := (baseB (rowF mdata (60 * x + k)) (rowF mends (60 * x + k)) (mmany (60 * x + k)))) hsp))) ?_
    refine r_callS (n := 1) B dX10_hourBits_18 (ct_Jxf58ca_floatToIntBits_5c35a l g sz0 _ (hv_ok (mn_ok (a := mmount * (mntM mdata mends mmany mkind mchain mholds mnights x k)) (b := (baseB (rowF mdata (60 * x + k)) (rowF mends (60 * x + k)) (mmany (60 * x + k)))) hsp))) gX10_hourBits_Jxf58ca_floatToIntBits_5c35a rfl (by decide +kernel) ⟨Nat.le_of_ble_eq_true rfl, Nat.le_of_ble_eq_true rfl⟩ rfl rfl (Nat.le_of_ble_eq_true rfl) (Nat.le_of_ble_eq_true rfl) (Nat.le_of_ble_eq_true rfl) (fun v h' hp => ?_)
    obtain ⟨hv, hh⟩ := hp
    subst v
    subst h'
    dsimp only [Option.toList, List.cons_append, List.nil_append]
    refine r_goto B dX10_hourBits_21 (tgt := 25) (by decide) ?_
    exact r_iret B hr hlk dX10_hourBits_25 (Nat.le_of_ble_eq_true rfl) (Nat.le_of_ble_eq_true rfl) (by first | exact ⟨_, rfl, fun _ => ⟨rfl, hM⟩, fun h9 => absurd h9 c6⟩ | exact ⟨_, rfl, fun h9 => absurd c6 h9, fun _ => ⟨rfl, hM⟩⟩)
