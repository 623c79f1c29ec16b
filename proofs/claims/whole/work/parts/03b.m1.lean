abbrev rmX10_isIn : Room := { frames := 0, cells := 0, slots := 0, locals := 0 }
set_option maxHeartbeats 4000000 in
set_option maxRecDepth 100000 in
theorem ct_X10_isIn (l : Launch) (g : GG) (sz0 : Nat) {h : AH} (x lo hi : Int) (qx : -2147483648 ≤ x ∧ x < 2147483648) (qlo : -2147483648 ≤ lo ∧ lo < 2147483648) (qhi : -2147483648 ≤ hi ∧ hi < 2147483648) : CT l yX10_isIn wsX10_isIn rmX10_isIn g sz0 [.int (iI (x)), .int (iI (lo)), .int (iI (hi))] h (fun v h' => v = some (.int (iI (bI (lo ≤ x ∧ x ≤ hi)))) ∧ h' = h) := by
  refine CT.of (by decide +kernel) rfl [some (.int (iI (x))), some (.int (iI (lo))), some (.int (iI (hi)))] rfl (Nat.le_of_ble_eq_true rfl) ?_
  intro p e s m args below meth c B hr hlk hnm
  refine r_iload_n B dX10_isIn_0 rfl ?_
  refine r_iload_n B dX10_isIn_1 rfl ?_
  refine r_icmp_lt B dX10_isIn_2 (tgt := 14) (by decide) (by omega) (by omega) (fun c2 => ?_) (fun c2 => ?_)
  · refine r_iconst B dX10_isIn_14 ?_
    exact r_zret B hr hlk dX10_isIn_15 (Nat.le_of_ble_eq_true rfl) (Nat.le_of_ble_eq_true rfl) (by first | exact nar_0 | exact nar_1 | exact nar_bI _) ⟨by first | rw [bI_t (by omega)] | rw [bI_f (by omega)], rfl⟩
  · refine r_iload_n B dX10_isIn_5 rfl ?_
    refine r_iload_n B dX10_isIn_6 rfl ?_
    refine r_icmp_gt B dX10_isIn_7 (tgt := 14) (by decide) (by omega) (by omega) (fun c7 => ?_) (fun c7 => ?_)
    · refine r_iconst B dX10_isIn_14 ?_
      exact r_zret B hr hlk dX10_isIn_15 (Nat.le_of_ble_eq_true rfl) (Nat.le_of_ble_eq_true rfl) (by first | exact nar_0 | exact nar_1 | exact nar_bI _) ⟨by first | rw [bI_t (by omega)] | rw [bI_f (by omega)], rfl⟩
    · refine r_iconst B dX10_isIn_10 ?_
      refine r_goto B dX10_isIn_11 (tgt := 15) (by decide) ?_
      exact r_zret B hr hlk dX10_isIn_15 (Nat.le_of_ble_eq_true rfl) (Nat.le_of_ble_eq_true rfl) (by first | exact nar_0 | exact nar_1 | exact nar_bI _) ⟨by first | rw [bI_t (by omega)] | rw [bI_f (by omega)], rfl⟩
abbrev rmX10_isClient : Room := { frames := 1, cells := 0, slots := 0, locals := 22 }
set_option maxHeartbeats 4000000 in
set_option maxRecDepth 100000 in
theorem ct_X10_isClient (l : Launch) (g : GG) (sz0 : Nat) {h : AH} (x : Int) (qx : -2147483648 ≤ x ∧ x < 2147483648) : CT l yX10_isClient wsX10_isClient rmX10_isClient g sz0 [.int (iI (x))] h (fun v h' => v = some (.int (iI (bI (0 ≤ x ∧ x ≤ 3)))) ∧ h' = h) := by
  refine CT.of (by decide +kernel) rfl [some (.int (iI (x)))] rfl (Nat.le_of_ble_eq_true rfl) ?_
  intro p e s m args below meth c B hr hlk hnm
  refine r_iload_n B dX10_isClient_0 rfl ?_
  refine r_iconst B dX10_isClient_1 ?_
  refine r_iconst B dX10_isClient_2 ?_
  refine r_callS (n := 3) B dX10_isClient_3 (ct_X10_isIn l g sz0 _ _ _ (by omega) (by omega) (by omega)) gX10_isClient_X10_isIn rfl (by decide +kernel) ⟨Nat.le_of_ble_eq_true rfl, Nat.le_of_ble_eq_true rfl⟩ rfl rfl (Nat.le_of_ble_eq_true rfl) (Nat.le_of_ble_eq_true rfl) (Nat.le_of_ble_eq_true rfl) (fun v h' hp => ?_)
  obtain ⟨hv, hh⟩ := hp
  subst v
  subst h'
  dsimp only [Option.toList, List.cons_append, List.nil_append]
  exact r_zret B hr hlk dX10_isClient_6 (Nat.le_of_ble_eq_true rfl) (Nat.le_of_ble_eq_true rfl) (by first | exact nar_0 | exact nar_1 | exact nar_bI _) ⟨rfl, rfl⟩
abbrev rmX10_isByte : Room := { frames := 1, cells := 0, slots := 0, locals := 22 }
set_option maxHeartbeats 4000000 in
set_option maxRecDepth 100000 in
theorem ct_X10_isByte (l : Launch) (g : GG) (sz0 : Nat) {h : AH} (x : Int) (qx : -2147483648 ≤ x ∧ x < 2147483648) : CT l yX10_isByte wsX10_isByte rmX10_isByte g sz0 [.int (iI (x))] h (fun v h' => v = some (.int (iI (bI (0 ≤ x ∧ x ≤ 255)))) ∧ h' = h) := by
  refine CT.of (by decide +kernel) rfl [some (.int (iI (x)))] rfl (Nat.le_of_ble_eq_true rfl) ?_
  intro p e s m args below meth c B hr hlk hnm
  refine r_iload_n B dX10_isByte_0 rfl ?_
  refine r_iconst B dX10_isByte_1 ?_
  refine r_sipush B dX10_isByte_2 (by decide) ?_
  refine r_callS (n := 3) B dX10_isByte_5 (ct_X10_isIn l g sz0 _ _ _ (by omega) (by omega) (by omega)) gX10_isByte_X10_isIn rfl (by decide +kernel) ⟨Nat.le_of_ble_eq_true rfl, Nat.le_of_ble_eq_true rfl⟩ rfl rfl (Nat.le_of_ble_eq_true rfl) (Nat.le_of_ble_eq_true rfl) (Nat.le_of_ble_eq_true rfl) (fun v h' hp => ?_)
  obtain ⟨hv, hh⟩ := hp
  subst v
  subst h'
  dsimp only [Option.toList, List.cons_append, List.nil_append]
  exact r_zret B hr hlk dX10_isByte_8 (Nat.le_of_ble_eq_true rfl) (Nat.le_of_ble_eq_true rfl) (by first | exact nar_0 | exact nar_1 | exact nar_bI _) ⟨rfl, rfl⟩
abbrev rmX10_thrown : Room := { frames := 0, cells := 0, slots := 0, locals := 0 }
theorem in_X10_thrown_X10 : ∀ w ∈ wsX100, w ∈ wsX10_thrown := by decide +kernel
theorem w_X10_thrown_f96 : Cond.fieldLink RX10 96 "DeltaNightsModel" "thrown" "I" ∈ wsX10_thrown := by decide +kernel
set_option maxHeartbeats 4000000 in
set_option maxRecDepth 100000 in
theorem ct_X10_thrown (l : Launch) (g : GG) (sz0 : Nat) (ad : Nat → Nat) (hA : ADok ad) {h h0 : AH} {mthrown mnights mbits mleast mmost mroom mreserve mmount mspeed : Int} {mdata msize mends mmany mkind mchain mholds mbid mbound mcheap mpromised mcoin mpaid mowed mturn misAsking mwant mcost misServed mitsRow mitsChunk : Int → Int} (hM : MW g ad h0 mthrown mdata msize mends mmany mkind mchain mholds mnights mbits mleast mmost mroom mreserve mmount mspeed mbid mbound mcheap mpromised mcoin mpaid mowed mturn misAsking mwant mcost misServed mitsRow mitsChunk h)  : CT l yX10_thrown wsX10_thrown rmX10_thrown g sz0 [.ref (ad 0)] h (fun v h' => v = some (.int (iI (mthrown))) ∧ h' = h) := by
  refine CT.of (by decide +kernel) rfl [some (.ref (ad 0))] rfl (Nat.le_of_ble_eq_true rfl) ?_
  intro p e s m args below meth c B hr hlk hnm
  refine r_aload_n B dX10_thrown_0 rfl rfl ?_
  refine m_get_thrown B dX10_thrown_1 in_X10_thrown_X10 w_X10_thrown_f96 hM (fun r1 => ?_)
  exact r_iret B hr hlk dX10_thrown_4 (Nat.le_of_ble_eq_true rfl) (Nat.le_of_ble_eq_true rfl) ⟨rfl, rfl⟩
abbrev rmX10_isFine : Room := { frames := 0, cells := 0, slots := 0, locals := 0 }
theorem in_X10_isFine_X10 : ∀ w ∈ wsX100, w ∈ wsX10_isFine := by decide +kernel
theorem w_X10_isFine_f96 : Cond.fieldLink RX10 96 "DeltaNightsModel" "thrown" "I" ∈ wsX10_isFine := by decide +kernel
set_option maxHeartbeats 4000000 in
set_option maxRecDepth 100000 in
theorem ct_X10_isFine (l : Launch) (g : GG) (sz0 : Nat) (ad : Nat → Nat) (hA : ADok ad) {h h0 : AH} {mthrown mnights mbits mleast mmost mroom mreserve mmount mspeed : Int} {mdata msize mends mmany mkind mchain mholds mbid mbound mcheap mpromised mcoin mpaid mowed mturn misAsking mwant mcost misServed mitsRow mitsChunk : Int → Int} (hM : MW g ad h0 mthrown mdata msize mends mmany mkind mchain mholds mnights mbits mleast mmost mroom mreserve mmount mspeed mbid mbound mcheap mpromised mcoin mpaid mowed mturn misAsking mwant mcost misServed mitsRow mitsChunk h) (x : Int) (qx : -2147483648 ≤ x ∧ x < 2147483648) : CT l yX10_isFine wsX10_isFine rmX10_isFine g sz0 [.ref (ad 0), .int (iI (x))] h (fun v h' => v = some (.int (iI (bI (x = 0)))) ∧ MW g ad h0 x mdata msize mends mmany mkind mchain mholds mnights mbits mleast mmost mroom mreserve mmount mspeed mbid mbound mcheap mpromised mcoin mpaid mowed mturn misAsking mwant mcost misServed mitsRow mitsChunk h') := by
  refine CT.of (by decide +kernel) rfl [some (.ref (ad 0)), some (.int (iI (x)))] rfl (Nat.le_of_ble_eq_true rfl) ?_
  intro p e s m args below meth c B hr hlk hnm
  refine r_aload_n B dX10_isFine_0 rfl rfl ?_
  refine r_iload_n B dX10_isFine_1 rfl ?_
  refine m_put_thrown B dX10_isFine_2 in_X10_isFine_X10 w_X10_isFine_f96 hA hM (by omega) (fun h hM => ?_)
  refine r_iload_n B dX10_isFine_5 rfl ?_
  refine r_if_ne B dX10_isFine_6 (tgt := 13) (by decide) (by omega) (fun c6 => ?_) (fun c6 => ?_)
  · refine r_iconst B dX10_isFine_13 ?_
    exact r_zret B hr hlk dX10_isFine_14 (Nat.le_of_ble_eq_true rfl) (Nat.le_of_ble_eq_true rfl) (by first | exact nar_0 | exact nar_1 | exact nar_bI _) ⟨by first | rw [bI_t (by omega)] | rw [bI_f (by omega)], hM⟩
  · refine r_iconst B dX10_isFine_9 ?_
    refine r_goto B dX10_isFine_10 (tgt := 14) (by decide) ?_
    exact r_zret B hr hlk dX10_isFine_14 (Nat.le_of_ble_eq_true rfl) (Nat.le_of_ble_eq_true rfl) (by first | exact nar_0 | exact nar_1 | exact nar_bI _) ⟨by first | rw [bI_t (by omega)] | rw [bI_f (by omega)], hM⟩
abbrev rmX10_length0 : Room := { frames := 0, cells := 0, slots := 0, locals := 0 }
theorem in_X10_length0_X10 : ∀ w ∈ wsX100, w ∈ wsX10_length0 := by decide +kernel
theorem w_X10_length0_f13 : Cond.fieldLink RX10 13 "DeltaNightsModel" "size" "[I" ∈ wsX10_length0 := by decide +kernel
set_option maxHeartbeats 4000000 in
set_option maxRecDepth 100000 in
theorem ct_X10_length0 (l : Launch) (g : GG) (sz0 : Nat) (ad : Nat → Nat) (hA : ADok ad) {h h0 : AH} {mthrown mnights mbits mleast mmost mroom mreserve mmount mspeed : Int} {mdata msize mends mmany mkind mchain mholds mbid mbound mcheap mpromised mcoin mpaid mowed mturn misAsking mwant mcost misServed mitsRow mitsChunk : Int → Int} (hM : MW g ad h0 mthrown mdata msize mends mmany mkind mchain mholds mnights mbits mleast mmost mroom mreserve mmount mspeed mbid mbound mcheap mpromised mcoin mpaid mowed mturn misAsking mwant mcost misServed mitsRow mitsChunk h) (x : Int) (hx : 0 ≤ x ∧ x ≤ 3) : CT l yX10_length0 wsX10_length0 rmX10_length0 g sz0 [.ref (ad 0), .int (iI (x))] h (fun v h' => v = some (.int (iI (msize (240 + x)))) ∧ h' = h) := by
  refine CT.of (by decide +kernel) rfl [some (.ref (ad 0)), some (.int (iI (x)))] rfl (Nat.le_of_ble_eq_true rfl) ?_
  intro p e s m args below meth c B hr hlk hnm
  refine r_aload_n B dX10_length0_0 rfl rfl ?_
  refine m_get_size B dX10_length0_1 in_X10_length0_X10 w_X10_length0_f13 hM ?_
  refine r_sipush B dX10_length0_4 (by decide) ?_
  refine r_iload_n B dX10_length0_7 rfl ?_
  refine r_iadd B dX10_length0_8 ?_
  refine m_ld_size B dX10_length0_9 hM (by omega) (by omega) (fun r9 => ?_)
  exact r_iret B hr hlk dX10_length0_10 (Nat.le_of_ble_eq_true rfl) (Nat.le_of_ble_eq_true rfl) ⟨rfl, rfl⟩
abbrev rmX10_at0 : Room := { frames := 0, cells := 0, slots := 0, locals := 0 }
theorem in_X10_at0_X10 : ∀ w ∈ wsX100, w ∈ wsX10_at0 := by decide +kernel
theorem w_X10_at0_f7 : Cond.fieldLink RX10 7 "DeltaNightsModel" "data" "[I" ∈ wsX10_at0 := by decide +kernel
set_option maxHeartbeats 4000000 in
set_option maxRecDepth 100000 in
theorem ct_X10_at0 (l : Launch) (g : GG) (sz0 : Nat) (ad : Nat → Nat) (hA : ADok ad) {h h0 : AH} {mthrown mnights mbits mleast mmost mroom mreserve mmount mspeed : Int} {mdata msize mends mmany mkind mchain mholds mbid mbound mcheap mpromised mcoin mpaid mowed mturn misAsking mwant mcost misServed mitsRow mitsChunk : Int → Int} (hM : MW g ad h0 mthrown mdata msize mends mmany mkind mchain mholds mnights mbits mleast mmost mroom mreserve mmount mspeed mbid mbound mcheap mpromised mcoin mpaid mowed mturn misAsking mwant mcost misServed mitsRow mitsChunk h) (r k : Int) (hk : 0 ≤ 48 * r + k ∧ 48 * r + k < 11712) : CT l yX10_at0 wsX10_at0 rmX10_at0 g sz0 [.ref (ad 0), .int (iI (r)), .int (iI (k))] h (fun v h' => v = some (.int (iI (mdata (48 * r + k)))) ∧ h' = h) := by
  refine CT.of (by decide +kernel) rfl [some (.ref (ad 0)), some (.int (iI (r))), some (.int (iI (k)))] rfl (Nat.le_of_ble_eq_true rfl) ?_
  intro p e s m args below meth c B hr hlk hnm
  refine r_aload_n B dX10_at0_0 rfl rfl ?_
  refine m_get_data B dX10_at0_1 in_X10_at0_X10 w_X10_at0_f7 hM ?_
  refine r_bipush B dX10_at0_4 (by decide) ?_
  refine r_iload_n B dX10_at0_6 rfl ?_
  refine r_imul B dX10_at0_7 ?_
  refine r_iload_n B dX10_at0_8 rfl ?_
  refine r_iadd B dX10_at0_9 ?_
  refine m_ld_data B dX10_at0_10 hM (by omega) (by omega) (fun r10 => ?_)
  exact r_iret B hr hlk dX10_at0_11 (Nat.le_of_ble_eq_true rfl) (Nat.le_of_ble_eq_true rfl) ⟨rfl, rfl⟩
abbrev rmX10_isPlace : Room := { frames := 1, cells := 0, slots := 0, locals := 22 }
set_option maxHeartbeats 4000000 in
set_option maxRecDepth 100000 in
theorem ct_X10_isPlace (l : Launch) (g : GG) (sz0 : Nat) (ad : Nat → Nat) (hA : ADok ad) {h h0 : AH} {mthrown mnights mbits mleast mmost mroom mreserve mmount mspeed : Int} {mdata msize mends mmany mkind mchain mholds mbid mbound mcheap mpromised mcoin mpaid mowed mturn misAsking mwant mcost misServed mitsRow mitsChunk : Int → Int} (hM : MW g ad h0 mthrown mdata msize mends mmany mkind mchain mholds mnights mbits mleast mmost mroom mreserve mmount mspeed mbid mbound mcheap mpromised mcoin mpaid mowed mturn misAsking mwant mcost misServed mitsRow mitsChunk h) (x k : Int) (hx : 0 ≤ x ∧ x ≤ 3) (qk : -2147483648 ≤ k ∧ k < 2147483648) (hs : 0 ≤ msize (240 + x) ∧ msize (240 + x) ≤ 48) : CT l yX10_isPlace wsX10_isPlace rmX10_isPlace g sz0 [.ref (ad 0), .int (iI (x)), .int (iI (k))] h (fun v h' => v = some (.int (iI (bI (0 ≤ k ∧ k < msize (240 + x))))) ∧ h' = h) := by
  refine CT.of (by decide +kernel) rfl [some (.ref (ad 0)), some (.int (iI (x))), some (.int (iI (k)))] rfl (Nat.le_of_ble_eq_true rfl) ?_
  intro p e s m args below meth c B hr hlk hnm
  refine r_iload_n B dX10_isPlace_0 rfl ?_
  refine r_iconst B dX10_isPlace_1 ?_
  refine r_aload_n B dX10_isPlace_2 rfl rfl ?_
  refine r_iload_n B dX10_isPlace_3 rfl ?_
  refine r_callV (n := 1) B dX10_isPlace_4 (ct_X10_length0 l g sz0 ad hA hM _ (by omega)) gX10_isPlace_X10_length0 rfl (by decide +kernel) ⟨Nat.le_of_ble_eq_true rfl, Nat.le_of_ble_eq_true rfl⟩ hM.obj rfl rfl rfl (Nat.le_of_ble_eq_true rfl) (Nat.le_of_ble_eq_true rfl) (Nat.le_of_ble_eq_true rfl) (fun v h' hp => ?_)
  obtain ⟨hv, hh⟩ := hp
  subst v
  subst h'
  dsimp only [Option.toList, List.cons_append, List.nil_append]
  refine r_iconst B dX10_isPlace_7 ?_
  refine r_isub B dX10_isPlace_8 ?_
  refine r_callS (n := 3) B dX10_isPlace_9 (ct_X10_isIn l g sz0 _ _ _ (by omega) (by omega) (by omega)) gX10_isPlace_X10_isIn rfl (by decide +kernel) ⟨Nat.le_of_ble_eq_true rfl, Nat.le_of_ble_eq_true rfl⟩ rfl rfl (Nat.le_of_ble_eq_true rfl) (Nat.le_of_ble_eq_true rfl) (Nat.le_of_ble_eq_true rfl) (fun v h' hp => ?_)
  obtain ⟨hv, hh⟩ := hp
  subst v
  subst h'
  dsimp only [Option.toList, List.cons_append, List.nil_append]
  exact r_zret B hr hlk dX10_isPlace_12 (Nat.le_of_ble_eq_true rfl) (Nat.le_of_ble_eq_true rfl) (by first | exact nar_0 | exact nar_1 | exact nar_bI _) ⟨by rw [bI_eq (Q := 0 ≤ k ∧ k < msize (240 + x)) (by omega)], rfl⟩
abbrev rmX10_isNight : Room := { frames := 1, cells := 0, slots := 0, locals := 22 }
theorem in_X10_isNight_X10 : ∀ w ∈ wsX100, w ∈ wsX10_isNight := by decide +kernel
theorem w_X10_isNight_f151 : Cond.fieldLink RX10 151 "DeltaNightsModel" "nights" "I" ∈ wsX10_isNight := by decide +kernel
set_option maxHeartbeats 4000000 in
set_option maxRecDepth 100000 in
theorem ct_X10_isNight (l : Launch) (g : GG) (sz0 : Nat) (ad : Nat → Nat) (hA : ADok ad) {h h0 : AH} {mthrown mnights mbits mleast mmost mroom mreserve mmount mspeed : Int} {mdata msize mends mmany mkind mchain mholds mbid mbound mcheap mpromised mcoin mpaid mowed mturn misAsking mwant mcost misServed mitsRow mitsChunk : Int → Int} (hM : MW g ad h0 mthrown mdata msize mends mmany mkind mchain mholds mnights mbits mleast mmost mroom mreserve mmount mspeed mbid mbound mcheap mpromised mcoin mpaid mowed mturn misAsking mwant mcost misServed mitsRow mitsChunk h) (k : Int) (qk : -2147483648 ≤ k ∧ k < 2147483648) (hs : 0 ≤ mnights ∧ mnights ≤ 60) : CT l yX10_isNight wsX10_isNight rmX10_isNight g sz0 [.ref (ad 0), .int (iI (k))] h (fun v h' => v = some (.int (iI (bI (0 ≤ k ∧ k < mnights)))) ∧ h' = h) := by
  refine CT.of (by decide +kernel) rfl [some (.ref (ad 0)), some (.int (iI (k)))] rfl (Nat.le_of_ble_eq_true rfl) ?_
  intro p e s m args below meth c B hr hlk hnm
  refine r_iload_n B dX10_isNight_0 rfl ?_
  refine r_iconst B dX10_isNight_1 ?_
  refine r_aload_n B dX10_isNight_2 rfl rfl ?_
  refine m_get_nights B dX10_isNight_3 in_X10_isNight_X10 w_X10_isNight_f151 hM (fun r3 => ?_)
  refine r_iconst B dX10_isNight_6 ?_
  refine r_isub B dX10_isNight_7 ?_
  refine r_callS (n := 3) B dX10_isNight_8 (ct_X10_isIn l g sz0 _ _ _ (by omega) (by omega) (by omega)) gX10_isNight_X10_isIn rfl (by decide +kernel) ⟨Nat.le_of_ble_eq_true rfl, Nat.le_of_ble_eq_true rfl⟩ rfl rfl (Nat.le_of_ble_eq_true rfl) (Nat.le_of_ble_eq_true rfl) (Nat.le_of_ble_eq_true rfl) (fun v h' hp => ?_)
  obtain ⟨hv, hh⟩ := hp
  subst v
  subst h'
  dsimp only [Option.toList, List.cons_append, List.nil_append]
  exact r_zret B hr hlk dX10_isNight_11 (Nat.le_of_ble_eq_true rfl) (Nat.le_of_ble_eq_true rfl) (by first | exact nar_0 | exact nar_1 | exact nar_bI _) ⟨by rw [bI_eq (Q := 0 ≤ k ∧ k < mnights) (by omega)], rfl⟩
