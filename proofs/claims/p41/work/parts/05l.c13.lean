abbrev rmX8_minutesFor : Room := { frames := 4, cells := 0, slots := 0, locals := 88 }
theorem in_X8_minutesFor_X8 : ∀ w ∈ wsX80, w ∈ wsX8_minutesFor := by decide +kernel
theorem w_X8_minutesFor_f7 : Cond.fieldLink RX8 7 "DeltaNights$Recovery" "mount" "I" ∈ wsX8_minutesFor := by decide +kernel
theorem w_X8_minutesFor_f13 : Cond.fieldLink RX8 13 "DeltaNights$Recovery" "speed" "I" ∈ wsX8_minutesFor := by decide +kernel
set_option maxHeartbeats 4000000 in
set_option maxRecDepth 100000 in
theorem ct_X8_minutesFor (l : Launch) (g : GG) (sz0 : Nat) {h : AH} {LE : Nat → Option Nat} {RK1 : Nat → Int → Nat} {RN : Nat → Int} {HK1 : Nat → Int → Nat} {HN : Nat → Int} {La : Int → Nat} {len : Int} (hCH : CHN g LE RK1 RN HK1 HN La len h) {CA : Nat → Nat} {PV : Nat → Option Nat} {CF : Nat → Int → Int} {CN : Nat → Int} {rc : Nat} {mo sp : Int} (hRC : h rc = some (oE 8 [.int (iI mo), .int (iI sp)])) (hlen : 0 < len) (hRK : RK g CA PV CF CN (RK1 (La 0)) (RN (La 0)) h) (hsp : 0 < sp ∧ sp < 2147483648)  : CT l yX8_minutesFor wsX8_minutesFor rmX8_minutesFor g sz0 [.ref rc, .ref (La 0)] h (fun v h' => v = some (.float (mnF (mo * (1 + sumZ (fun i => bI (exN (fun q => exN (fun j => HK1 (La (i + 1)) j = RK1 (La 0) q) (HN (La (i + 1)))) (RN (La 0)))) (len - 1).toNat)) (RN (La 0) + sumZ (fun j => bI (¬ exN (fun i => RK1 (La 0) i = RK1 (La 0) j) j) * CN (RK1 (La 0) j)) (RN (La 0)).toNat) sp)) ∧ h' = h) := by
  refine CT.of (by decide +kernel) rfl [some (.ref rc), some (.ref (La 0)), none] rfl (Nat.le_of_ble_eq_true rfl) ?_
  intro p e s m args below meth c B hr hlk hnm
  obtain ⟨hl0, hLK0⟩ := hCH 0 (by omega) hlen
  have hLK1 := hLK0
  obtain ⟨rr, rra, rh, rha, fq1, fq2, hl1, hl2, hl3⟩ := hLK0
  refine r_aload_n B dX8_minutesFor_0 rfl rfl ?_
  refine r_get (C := RX8) (T := TX8) (N := 2) (ci := 8) B dX8_minutesFor_1 in_X8_minutesFor_X8 rfl 0 (by decide) w_X8_minutesFor_f7 rfl hRC rfl ?_
  refine r_aload_n B dX8_minutesFor_4 rfl rfl ?_
  refine r_callV (n := 0) B dX8_minutesFor_5 (ct_X5_linksToMount l g sz0 hCH hlen) gX8_minutesFor_X5_linksToMount rfl (by decide +kernel) ⟨Nat.le_of_ble_eq_true rfl, Nat.le_of_ble_eq_true rfl⟩ hl1 rfl rfl rfl (Nat.le_of_ble_eq_true rfl) (Nat.le_of_ble_eq_true rfl) (Nat.le_of_ble_eq_true rfl) (fun v h' hp => ?_)
  obtain ⟨hv, hh⟩ := hp
  subst v
  subst h'
  dsimp only [Option.toList, List.cons_append, List.nil_append]
  refine r_imul B dX8_minutesFor_8 ?_
  refine r_i2f B dX8_minutesFor_9 ?_
  refine r_fstore_n B dX8_minutesFor_10 rfl (by decide) (lcat_v rfl rfl) ?_
  refine r_fload_n B dX8_minutesFor_11 rfl ?_
  refine r_aload_n B dX8_minutesFor_12 rfl rfl ?_
  refine r_callV (n := 0) B dX8_minutesFor_13 (ct_X5_bytesToRead l g sz0 hLK1 hRK) gX8_minutesFor_X5_bytesToRead rfl (by decide +kernel) ⟨Nat.le_of_ble_eq_true rfl, Nat.le_of_ble_eq_true rfl⟩ hl1 rfl rfl rfl (Nat.le_of_ble_eq_true rfl) (Nat.le_of_ble_eq_true rfl) (Nat.le_of_ble_eq_true rfl) (fun v h' hp => ?_)
  obtain ⟨hv, hh⟩ := hp
  subst v
  subst h'
  dsimp only [Option.toList, List.cons_append, List.nil_append]
  refine r_i2f B dX8_minutesFor_16 ?_
  refine r_aload_n B dX8_minutesFor_17 rfl rfl ?_
  refine r_get (C := RX8) (T := TX8) (N := 2) (ci := 8) B dX8_minutesFor_18 in_X8_minutesFor_X8 rfl 1 (by decide) w_X8_minutesFor_f13 rfl hRC rfl ?_
  refine r_iconst B dX8_minutesFor_21 ?_
  refine r_mmax B dX8_minutesFor_22 (by decide +kernel) (by decide +kernel) (by decide +kernel) (by decide +kernel) (by omega) (by omega) (Nat.le_of_ble_eq_true rfl) (Nat.le_of_ble_eq_true rfl) (Nat.le_of_ble_eq_true rfl) (Nat.le_of_ble_eq_true rfl) ?_
  refine r_topz (y := sp) (by unfold mxZ; split <;> omega) ?_
  refine r_i2f B dX8_minutesFor_25 ?_
  refine r_fdiv B dX8_minutesFor_26 (vf_of (dv_ok hsp)) ?_
  refine r_fadd B dX8_minutesFor_27 (vf_of (mn_ok hsp)) ?_
  exact r_fret B hr hlk dX8_minutesFor_28 (Nat.le_of_ble_eq_true rfl) (Nat.le_of_ble_eq_true rfl) ⟨rfl, rfl⟩
