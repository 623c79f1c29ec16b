abbrev rmX9_needByte : Room := { frames := 6, cells := 1, slots := 6, locals := 100 }
theorem w_X9_needByte_k65 : Cond.classLink RX9 65 "java/lang/IndexOutOfBoundsException" ∈ wsX9_needByte := by decide +kernel
theorem w_X9_needByte_ii65 : Cond.initialized "java/lang/IndexOutOfBoundsException" ∈ wsX9_needByte := by decide +kernel
theorem xg_X9_needByte_69 : ∀ w ∈ (vx_atS RX9 69 "java/lang/IndexOutOfBoundsException" xnm).filter goodWord, w ∈ wsX9_needByte := by decide +kernel
theorem in_X9_needByte_X0 : ∀ w ∈ wsX00, w ∈ wsX9_needByte := by decide +kernel
theorem w_X9_needByte_f60 : Cond.fieldLink RX9 60 "DeltaNights$ByteFile" "size" "I" ∈ wsX9_needByte := by decide +kernel
set_option maxHeartbeats 4000000 in
set_option maxRecDepth 100000 in
theorem ct_X9_needByte (l : Launch) (g : GG) (sz0 : Nat) {h h0 : AH} {f ac ae : Nat} {G Eg : Int → Int} {sz pt : Int} (hF : FL g f ac ae G Eg sz pt h0 h) (x : Int) (hl0 : l.stackTraces = false) (qx : -2147483648 ≤ x ∧ x < 2147483648)  : CTX l yX9_needByte wsX9_needByte rmX9_needByte g sz0 [.ref f, .int (iI x)] h (fun v h' => v = none ∧ h' = h ∧ (0 ≤ x ∧ x < sz)) (fun E h' => E = "java/lang/IndexOutOfBoundsException" ∧ h' = h ∧ ¬ (0 ≤ x ∧ x < sz)) := by
  refine CTX.of (by decide +kernel) rfl [some (.ref f), some (.int (iI (x)))] rfl (Nat.le_of_ble_eq_true rfl) ?_
  intro p e s m args below meth c B hr hlk hout
  have hs9 := hF.s
  refine r_iload_n B dX9_needByte_0 rfl ?_
  refine r_if_lt B dX9_needByte_1 (tgt := 12) (by decide) (by omega) (fun c1 => ?_) (fun c1 => ?_)
  · exact r_throwSW (text := "no byte at this place") B hl0 xat_IO w_X9_needByte_k65 w_X9_needByte_ii65 xg_X9_needByte_69 (by decide +kernel) dX9_needByte_12 dX9_needByte_15 dX9_needByte_16 dX9_needByte_19 dX9_needByte_22 hout hlk (Nat.le_of_ble_eq_true rfl) (Nat.le_of_ble_eq_true rfl) (Nat.le_of_ble_eq_true rfl) (Nat.le_of_ble_eq_true rfl) (Nat.le_of_ble_eq_true rfl) (Nat.le_of_ble_eq_true rfl) ⟨rfl, rfl, by omega⟩
  · refine r_iload_n B dX9_needByte_4 rfl ?_
    refine r_aload_n B dX9_needByte_5 rfl rfl ?_
    refine r_get (C := RX0) (T := TX0) (N := 4) (ci := 0) B dX9_needByte_6 in_X9_needByte_X0 rfl 2 (by decide) w_X9_needByte_f60 rfl hF.1 rfl ?_
    refine r_icmp_lt B dX9_needByte_9 (tgt := 23) (by decide) (by omega) (by omega) (fun c9 => ?_) (fun c9 => ?_)
    · exact x_ret (r_vret B hr hlk dX9_needByte_23 (Nat.le_of_ble_eq_true rfl) (Nat.le_of_ble_eq_true rfl) ⟨rfl, rfl, by omega⟩)
    · exact r_throwSW (text := "no byte at this place") B hl0 xat_IO w_X9_needByte_k65 w_X9_needByte_ii65 xg_X9_needByte_69 (by decide +kernel) dX9_needByte_12 dX9_needByte_15 dX9_needByte_16 dX9_needByte_19 dX9_needByte_22 hout hlk (Nat.le_of_ble_eq_true rfl) (Nat.le_of_ble_eq_true rfl) (Nat.le_of_ble_eq_true rfl) (Nat.le_of_ble_eq_true rfl) (Nat.le_of_ble_eq_true rfl) (Nat.le_of_ble_eq_true rfl) ⟨rfl, rfl, by omega⟩
abbrev rmX9_needRun : Room := { frames := 6, cells := 1, slots := 6, locals := 100 }
theorem w_X9_needRun_k65 : Cond.classLink RX9 65 "java/lang/IndexOutOfBoundsException" ∈ wsX9_needRun := by decide +kernel
theorem w_X9_needRun_ii65 : Cond.initialized "java/lang/IndexOutOfBoundsException" ∈ wsX9_needRun := by decide +kernel
theorem xg_X9_needRun_69 : ∀ w ∈ (vx_atS RX9 69 "java/lang/IndexOutOfBoundsException" xnm).filter goodWord, w ∈ wsX9_needRun := by decide +kernel
set_option maxHeartbeats 4000000 in
set_option maxRecDepth 100000 in
theorem ct_X9_needRun (l : Launch) (g : GG) (sz0 : Nat) {h h0 : AH} {f ac ae : Nat} {G Eg : Int → Int} {sz pt : Int} (hF : FL g f ac ae G Eg sz pt h0 h) (x w : Int) (hl0 : l.stackTraces = false) (qx : -2147483648 ≤ x ∧ x < 2147483648) (qw : -2147483648 ≤ w ∧ w < 2147483648)  : CTX l yX9_needRun wsX9_needRun rmX9_needRun g sz0 [.ref f, .int (iI x), .int (iI w)] h (fun v h' => v = none ∧ h' = h ∧ (0 ≤ x ∧ 0 ≤ w ∧ x + w ≤ sz)) (fun E h' => E = "java/lang/IndexOutOfBoundsException" ∧ h' = h ∧ ¬ (0 ≤ x ∧ 0 ≤ w ∧ x + w ≤ sz)) := by
  refine CTX.of (by decide +kernel) rfl [some (.ref f), some (.int (iI (x))), some (.int (iI (w)))] rfl (Nat.le_of_ble_eq_true rfl) ?_
  intro p e s m args below meth c B hr hlk hout
  refine r_aload_n B dX9_needRun_0 rfl rfl ?_
  refine r_iload_n B dX9_needRun_1 rfl ?_
  refine r_iload_n B dX9_needRun_2 rfl ?_
  refine r_callV (n := 2) B dX9_needRun_3 (ct_X0_hasRun l g sz0 hF _ _ (by omega) (by omega)) gX9_needRun_X0_hasRun rfl (by decide +kernel) ⟨Nat.le_of_ble_eq_true rfl, Nat.le_of_ble_eq_true rfl⟩ hF.1 rfl rfl rfl (Nat.le_of_ble_eq_true rfl) (Nat.le_of_ble_eq_true rfl) (Nat.le_of_ble_eq_true rfl) (fun v h' hp => ?_)
  obtain ⟨hv, hh⟩ := hp
  subst v
  subst h'
  dsimp only [Option.toList, List.cons_append, List.nil_append]
  refine r_if_ne B dX9_needRun_6 (tgt := 20) (by decide) (bI_rng _) (fun c6 => ?_) (fun c6 => ?_)
  · replace c6 := bI_n0.mp c6
    exact x_ret (r_vret B hr hlk dX9_needRun_20 (Nat.le_of_ble_eq_true rfl) (Nat.le_of_ble_eq_true rfl) ⟨rfl, rfl, c6⟩)
  · replace c6 := bI_0.mp c6
    exact r_throwSW (text := "no such bytes") B hl0 xat_IO w_X9_needRun_k65 w_X9_needRun_ii65 xg_X9_needRun_69 (by decide +kernel) dX9_needRun_9 dX9_needRun_12 dX9_needRun_13 dX9_needRun_16 dX9_needRun_19 hout hlk (Nat.le_of_ble_eq_true rfl) (Nat.le_of_ble_eq_true rfl) (Nat.le_of_ble_eq_true rfl) (Nat.le_of_ble_eq_true rfl) (Nat.le_of_ble_eq_true rfl) (Nat.le_of_ble_eq_true rfl) ⟨rfl, rfl, c6⟩
abbrev rmX9_needNight : Room := { frames := 6, cells := 1, slots := 6, locals := 100 }
theorem w_X9_needNight_k65 : Cond.classLink RX9 65 "java/lang/IndexOutOfBoundsException" ∈ wsX9_needNight := by decide +kernel
theorem w_X9_needNight_ii65 : Cond.initialized "java/lang/IndexOutOfBoundsException" ∈ wsX9_needNight := by decide +kernel
theorem xg_X9_needNight_69 : ∀ w ∈ (vx_atS RX9 69 "java/lang/IndexOutOfBoundsException" xnm).filter goodWord, w ∈ wsX9_needNight := by decide +kernel
theorem in_X9_needNight_X9 : ∀ w ∈ wsX90, w ∈ wsX9_needNight := by decide +kernel
theorem w_X9_needNight_f43 : Cond.fieldLink RX9 43 "DeltaNights" "nightsGone" "I" ∈ wsX9_needNight := by decide +kernel
set_option maxHeartbeats 4000000 in
set_option maxRecDepth 100000 in
theorem ct_X9_needNight (l : Launch) (g : GG) (sz0 : Nat) {h : AH} {ro qc mk ho mt rc : Nat} {ng : Int} {fc : Int → Option Nat} {cl : Int → Nat} (hRO : h ro = some (oE 9 [.ref qc, .ref mk, .ref ho, .ref mt, .ref rc, .int (iI ng)])) (hQC : h qc = some (qE g 5 4 fc)) (hfc : ∀ i : Int, 0 ≤ i → i < 4 → fc i = some (cl i)) (x : Int) (hl0 : l.stackTraces = false) (qx : -2147483648 ≤ x ∧ x < 2147483648) (hng : 0 ≤ ng ∧ ng ≤ 60)  : CTX l yX9_needNight wsX9_needNight rmX9_needNight g sz0 [.ref ro, .int (iI x)] h (fun v h' => v = none ∧ h' = h ∧ (0 ≤ x ∧ x < ng)) (fun E h' => E = "java/lang/IndexOutOfBoundsException" ∧ h' = h ∧ ¬ (0 ≤ x ∧ x < ng)) := by
  refine CTX.of (by decide +kernel) rfl [some (.ref ro), some (.int (iI (x)))] rfl (Nat.le_of_ble_eq_true rfl) ?_
  intro p e s m args below meth c B hr hlk hout
  refine r_iload_n B dX9_needNight_0 rfl ?_
  refine r_if_lt B dX9_needNight_1 (tgt := 12) (by decide) (by omega) (fun c1 => ?_) (fun c1 => ?_)
  · exact r_throwSW (text := "no such night has gone by") B hl0 xat_IO w_X9_needNight_k65 w_X9_needNight_ii65 xg_X9_needNight_69 (by decide +kernel) dX9_needNight_12 dX9_needNight_15 dX9_needNight_16 dX9_needNight_19 dX9_needNight_22 hout hlk (Nat.le_of_ble_eq_true rfl) (Nat.le_of_ble_eq_true rfl) (Nat.le_of_ble_eq_true rfl) (Nat.le_of_ble_eq_true rfl) (Nat.le_of_ble_eq_true rfl) (Nat.le_of_ble_eq_true rfl) ⟨rfl, rfl, by omega⟩
  · refine r_iload_n B dX9_needNight_4 rfl ?_
    refine r_aload_n B dX9_needNight_5 rfl rfl ?_
    refine r_get (C := RX9) (T := TX9) (N := 6) (ci := 9) B dX9_needNight_6 in_X9_needNight_X9 rfl 5 (by decide) w_X9_needNight_f43 rfl hRO rfl ?_
    refine r_icmp_lt B dX9_needNight_9 (tgt := 23) (by decide) (by omega) (by omega) (fun c9 => ?_) (fun c9 => ?_)
    · exact x_ret (r_vret B hr hlk dX9_needNight_23 (Nat.le_of_ble_eq_true rfl) (Nat.le_of_ble_eq_true rfl) ⟨rfl, rfl, by omega⟩)
    · exact r_throwSW (text := "no such night has gone by") B hl0 xat_IO w_X9_needNight_k65 w_X9_needNight_ii65 xg_X9_needNight_69 (by decide +kernel) dX9_needNight_12 dX9_needNight_15 dX9_needNight_16 dX9_needNight_19 dX9_needNight_22 hout hlk (Nat.le_of_ble_eq_true rfl) (Nat.le_of_ble_eq_true rfl) (Nat.le_of_ble_eq_true rfl) (Nat.le_of_ble_eq_true rfl) (Nat.le_of_ble_eq_true rfl) (Nat.le_of_ble_eq_true rfl) ⟨rfl, rfl, by omega⟩
