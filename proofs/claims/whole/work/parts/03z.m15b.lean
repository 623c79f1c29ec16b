abbrev rmX10_minutes : Room := { frames := 7, cells := 0, slots := 0, locals := 172 }
set_option maxHeartbeats 4000000 in
set_option maxRecDepth 100000 in
theorem ct_X10_minutes (l : Launch) (g : GG) (sz0 : Nat) (ad : Nat → Nat) (hA : ADok ad) {h h0 : AH} {mthrown mnights mbits mleast mmost mroom mreserve mmount mspeed : Int} {mdata msize mends mmany mkind mchain mholds mbid mbound mcheap mpromised mcoin mpaid mowed mturn misAsking mwant mcost misServed mitsRow mitsChunk : Int → Int} (hM : MW g ad h0 mthrown mdata msize mends mmany mkind mchain mholds mnights mbits mleast mmost mroom mreserve mmount mspeed mbid mbound mcheap mpromised mcoin mpaid mowed mturn misAsking mwant mcost misServed mitsRow mitsChunk h) (x k : Int) (qx : -2147483648 ≤ x ∧ x < 2147483648) (qk : -2147483648 ≤ k ∧ k < 2147483648)(hn0 : 0 ≤ mnights ∧ mnights ≤ 60)(hLK : LKo mends mmany)(hsp : 0 < mspeed ∧ mspeed < 2147483648) : CT l yX10_minutes wsX10_minutes rmX10_minutes g sz0 [.ref (ad 0), .int (iI (x)), .int (iI (k))] h (fun v h' => ∃ r : UInt32, v = some (.float r) ∧ (¬ tAsk x k mnights (mkind (60 * x + k)) = 0 → r = FP.fconst0 ∧ MW g ad h0 (tAsk x k mnights (mkind (60 * x + k))) mdata msize mends mmany mkind mchain mholds mnights mbits mleast mmost mroom mreserve mmount mspeed mbid mbound mcheap mpromised mcoin mpaid mowed mturn misAsking mwant mcost misServed mitsRow mitsChunk h') ∧ (tAsk x k mnights (mkind (60 * x + k)) = 0 → r = (mnF (mmount * (mntM mdata mends mmany mkind mchain mholds mnights x k)) (baseB (rowF mdata (60 * x + k)) (rowF mends (60 * x + k)) (mmany (60 * x + k))) mspeed) ∧ MW g ad h0 0 mdata msize mends mmany mkind mchain mholds mnights mbits mleast mmost mroom mreserve mmount mspeed mbid mbound mcheap mpromised mcoin mpaid mowed mturn misAsking mwant mcost misServed mitsRow mitsChunk h')) := by
  refine CT.of (by decide +kernel) rfl [some (.ref (ad 0)), some (.int (iI (x))), some (.int (iI (k)))] rfl (Nat.le_of_ble_eq_true rfl) ?_
  intro p e s m args below meth c B hr hlk hnm
  refine r_aload_n B dX10_minutes_0 rfl rfl ?_
  refine r_iload_n B dX10_minutes_1 rfl ?_
  refine r_iload_n B dX10_minutes_2 rfl ?_
  refine r_callV (n := 2) B dX10_minutes_3 (ct_X10_asks l g sz0 ad hA hM _ _ (by omega) (by omega) (by omega)) gX10_minutes_X10_asks rfl (by decide +kernel) ⟨Nat.le_of_ble_eq_true rfl, Nat.le_of_ble_eq_true rfl⟩ hM.obj rfl rfl rfl (Nat.le_of_ble_eq_true rfl) (Nat.le_of_ble_eq_true rfl) (Nat.le_of_ble_eq_true rfl) (fun v h hp => ?_)
  obtain ⟨hv, hM⟩ := hp
  subst v
  dsimp only [Option.toList, List.cons_append, List.nil_append]
  refine r_if_eq B dX10_minutes_6 (tgt := 18) (by decide) (bI_rng _) (fun c6 => ?_) (fun c6 => ?_)
  · replace c6 := bI_0.mp c6
    refine r_fconst0 B dX10_minutes_18 ?_
    exact r_fret B hr hlk dX10_minutes_19 (Nat.le_of_ble_eq_true rfl) (Nat.le_of_ble_eq_true rfl) (by first | exact ⟨_, rfl, fun _ => ⟨rfl, hM⟩, fun h9 => absurd h9 c6⟩ | exact ⟨_, rfl, fun h9 => absurd c6 h9, fun _ => ⟨rfl, hM⟩⟩)
  · replace c6 := bI_n0.mp c6
    rw [c6] at hM
    have hT := tAsk_0.mp c6
    refine r_aload_n B dX10_minutes_9 rfl rfl ?_
    refine r_iload_n B dX10_minutes_10 rfl ?_
    refine r_iload_n B dX10_minutes_11 rfl ?_
    refine r_callV (n := 2) B dX10_minutes_12 (ct_X10_minutes0 l g sz0 ad hA hM _ _ (by omega) (by omega) hn0 hLK hsp) gX10_minutes_X10_minutes0 rfl (by decide +kernel) ⟨Nat.le_of_ble_eq_true rfl, Nat.le_of_ble_eq_true rfl⟩ hM.obj rfl rfl rfl (Nat.le_of_ble_eq_true rfl) (Nat.le_of_ble_eq_true rfl) (Nat.le_of_ble_eq_true rfl) (fun v h' hp => ?_)
    obtain ⟨hv, hh⟩ := hp
    subst v
    subst h'
    dsimp only [Option.toList, List.cons_append, List.nil_append]
    refine r_goto B dX10_minutes_15 (tgt := 19) (by decide) ?_
    exact r_fret B hr hlk dX10_minutes_19 (Nat.le_of_ble_eq_true rfl) (Nat.le_of_ble_eq_true rfl) (by first | exact ⟨_, rfl, fun _ => ⟨rfl, hM⟩, fun h9 => absurd h9 c6⟩ | exact ⟨_, rfl, fun h9 => absurd c6 h9, fun _ => ⟨rfl, hM⟩⟩)
