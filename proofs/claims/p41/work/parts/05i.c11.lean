abbrev rmX3_wantsDifference : Room := { frames := 2, cells := 0, slots := 0, locals := 48 }
theorem in_X3_wantsDifference_X3 : ∀ w ∈ wsX30, w ∈ wsX3_wantsDifference := by decide +kernel
theorem w_X3_wantsDifference_f24 : Cond.fieldLink RX3 24 "DeltaNights$Client" "latest" "LDeltaNights$Link;" ∈ wsX3_wantsDifference := by decide +kernel
theorem w_X3_wantsDifference_f12 : Cond.fieldLink RX3 12 "DeltaNights$Client" "file" "LDeltaNights$ByteFile;" ∈ wsX3_wantsDifference := by decide +kernel
theorem in_X3_wantsDifference_X5 : ∀ w ∈ wsX50, w ∈ wsX3_wantsDifference := by decide +kernel
theorem w_X3_wantsDifference_f70 : Cond.fieldLink RX3 70 "DeltaNights$Link" "row" "LDeltaNights$ChunkRow;" ∈ wsX3_wantsDifference := by decide +kernel
set_option maxHeartbeats 4000000 in
set_option maxRecDepth 100000 in
theorem ct_X3_wantsDifference (l : Launch) (g : GG) (sz0 : Nat) {h h0 : AH} {f ac ae : Nat} {G Eg : Int → Int} {sz pt : Int} (hF : FL g f ac ae G Eg sz pt h0 h) {LE : Nat → Option Nat} {RK1 : Nat → Int → Nat} {RN : Nat → Int} {HK1 : Nat → Int → Nat} {HN : Nat → Int} {La : Int → Nat} {len : Int} (hCH : CHN g LE RK1 RN HK1 HN La len h) {CA : Nat → Nat} {PV : Nat → Option Nat} {CF : Nat → Int → Int} {CN : Nat → Int} {c0 lk : Nat} {bd bo cp pr co pa ow wt gt pc : Int} (hCL : h c0 = some (oE 3 [.ref f, .ref lk, va_rf (ptr La len 0), .int (iI bd), .int (iI bo), .int (iI cp), .int (iI pr), .int (iI co), .int (iI pa), .int (iI ow), .int (iI wt), .int (iI gt), .int (iI pc)])) (hE : EOK Eg pt) (hRK : ∀ i : Int, 0 ≤ i → i < len → RK g CA PV CF CN (RK1 (La i)) (RN (La i)) h) (hHK : ∀ i : Int, 0 ≤ i → i < len → RK g CA PV CF CN (HK1 (La i)) (HN (La i)) h)  : CT l yX3_wantsDifference wsX3_wantsDifference rmX3_wantsDifference g sz0 [.ref c0] h (fun v h' => v = some (.int (iI (bI (0 < len ∧ ¬ (RN (La 0) = pt ∧ allN (fun k => runP CF CN G (bgF Eg k) (lnF Eg k) (RK1 (La 0) k)) pt))))) ∧ h' = h) := by
  refine CT.of (by decide +kernel) rfl [some (.ref c0)] rfl (Nat.le_of_ble_eq_true rfl) ?_
  intro p e s m args below meth c B hr hlk hnm
  refine r_aload_n B dX3_wantsDifference_0 rfl rfl ?_
  refine r_get (C := RX3) (T := TX3) (N := 13) (ci := 3) B dX3_wantsDifference_1 in_X3_wantsDifference_X3 rfl 2 (by decide) w_X3_wantsDifference_f24 rfl hCL rfl ?_
  refine r_ifnull B dX3_wantsDifference_4 (tgt := 28) (by decide) (fun c4 => ?_) (fun a4 c4 => ?_)
  · refine r_iconst B dX3_wantsDifference_28 ?_
    exact r_zret B hr hlk dX3_wantsDifference_29 (Nat.le_of_ble_eq_true rfl) (Nat.le_of_ble_eq_true rfl) (by first | exact nar_0 | exact nar_1 | exact nar_bI _) ⟨by rw [bI_f (show ¬ (0 < len ∧ ¬ (RN (La 0) = pt ∧ allN (fun k => runP CF CN G (bgF Eg k) (lnF Eg k) (RK1 (La 0) k)) pt)) from fun y => ptr_none c4 y.1)], rfl⟩
  · have hl9 := ptr_some c4
    obtain ⟨hl0, rr, rra, rh, rha, fq1, fq2, hl1, hl2, hl3⟩ := hCH 0 (by omega) hl9
    refine r_aload_n B dX3_wantsDifference_7 rfl rfl ?_
    refine r_get (C := RX3) (T := TX3) (N := 13) (ci := 3) B dX3_wantsDifference_8 in_X3_wantsDifference_X3 rfl 0 (by decide) w_X3_wantsDifference_f12 rfl hCL rfl ?_
    refine r_aload_n B dX3_wantsDifference_11 rfl rfl ?_
    refine r_get (C := RX3) (T := TX3) (N := 13) (ci := 3) B dX3_wantsDifference_12 in_X3_wantsDifference_X3 rfl 2 (by decide) w_X3_wantsDifference_f24 rfl hCL rfl ?_
    refine r_topr (ptr_in (ptr_some c4)) ?_
    refine r_get (C := RX5) (T := TX5) (N := 3) (ci := 5) B dX3_wantsDifference_15 in_X3_wantsDifference_X5 rfl 1 (by decide) w_X3_wantsDifference_f70 rfl hl1 rfl ?_
    refine r_callV (n := 1) B dX3_wantsDifference_18 (ct_X0_isCutAs l g sz0 hF hl2 (hRK 0 (by omega) hl9) hE) gX3_wantsDifference_X0_isCutAs rfl (by decide +kernel) ⟨Nat.le_of_ble_eq_true rfl, Nat.le_of_ble_eq_true rfl⟩ hF.1 rfl rfl rfl (Nat.le_of_ble_eq_true rfl) (Nat.le_of_ble_eq_true rfl) (Nat.le_of_ble_eq_true rfl) (fun v h' hp => ?_)
    obtain ⟨hv, hh⟩ := hp
    subst v
    subst h'
    dsimp only [Option.toList, List.cons_append, List.nil_append]
    refine r_if_ne B dX3_wantsDifference_21 (tgt := 28) (by decide) (bI_rng _) (fun c21 => ?_) (fun c21 => ?_)
    · replace c21 := bI_n0.mp c21
      refine r_iconst B dX3_wantsDifference_28 ?_
      exact r_zret B hr hlk dX3_wantsDifference_29 (Nat.le_of_ble_eq_true rfl) (Nat.le_of_ble_eq_true rfl) (by first | exact nar_0 | exact nar_1 | exact nar_bI _) ⟨by rw [bI_f (show ¬ (0 < len ∧ ¬ (RN (La 0) = pt ∧ allN (fun k => runP CF CN G (bgF Eg k) (lnF Eg k) (RK1 (La 0) k)) pt)) from fun y => y.2 c21)], rfl⟩
    · replace c21 := bI_0.mp c21
      refine r_iconst B dX3_wantsDifference_24 ?_
      refine r_goto B dX3_wantsDifference_25 (tgt := 29) (by decide) ?_
      exact r_zret B hr hlk dX3_wantsDifference_29 (Nat.le_of_ble_eq_true rfl) (Nat.le_of_ble_eq_true rfl) (by first | exact nar_0 | exact nar_1 | exact nar_bI _) ⟨by rw [bI_t (show (0 < len ∧ ¬ (RN (La 0) = pt ∧ allN (fun k => runP CF CN G (bgF Eg k) (lnF Eg k) (RK1 (La 0) k)) pt)) from ⟨hl9, c21⟩)], rfl⟩
abbrev rmX3_asks : Room := { frames := 3, cells := 0, slots := 0, locals := 68 }
theorem in_X3_asks_X3 : ∀ w ∈ wsX30, w ∈ wsX3_asks := by decide +kernel
theorem w_X3_asks_f28 : Cond.fieldLink RX3 28 "DeltaNights$Client" "bid" "I" ∈ wsX3_asks := by decide +kernel
set_option maxHeartbeats 4000000 in
set_option maxRecDepth 100000 in
theorem ct_X3_asks (l : Launch) (g : GG) (sz0 : Nat) {h h0 : AH} {f ac ae : Nat} {G Eg : Int → Int} {sz pt : Int} (hF : FL g f ac ae G Eg sz pt h0 h) {LE : Nat → Option Nat} {RK1 : Nat → Int → Nat} {RN : Nat → Int} {HK1 : Nat → Int → Nat} {HN : Nat → Int} {La : Int → Nat} {len : Int} (hCH : CHN g LE RK1 RN HK1 HN La len h) {CA : Nat → Nat} {PV : Nat → Option Nat} {CF : Nat → Int → Int} {CN : Nat → Int} {c0 lk : Nat} {bd bo cp pr co pa ow wt gt pc : Int} (hCL : h c0 = some (oE 3 [.ref f, .ref lk, va_rf (ptr La len 0), .int (iI bd), .int (iI bo), .int (iI cp), .int (iI pr), .int (iI co), .int (iI pa), .int (iI ow), .int (iI wt), .int (iI gt), .int (iI pc)])) (x : Int) (hx : 0 ≤ x ∧ x ≤ 50) (hrg : (0 ≤ len ∧ len ≤ 60) ∧ (0 ≤ bo ∧ bo ≤ 30) ∧ (0 ≤ cp ∧ cp ≤ 50) ∧ (0 ≤ bd ∧ bd ≤ 100)) (hE : EOK Eg pt) (hRK : ∀ i : Int, 0 ≤ i → i < len → RK g CA PV CF CN (RK1 (La i)) (RN (La i)) h) (hHK : ∀ i : Int, 0 ≤ i → i < len → RK g CA PV CF CN (HK1 (La i)) (HN (La i)) h)  : CT l yX3_asks wsX3_asks rmX3_asks g sz0 [.ref c0, .int (iI (x))] h (fun v h' => v = some (.int (iI (bI (0 < bd ∧ x ≤ bd ∧ ((len = 0 ∨ (bo ≤ len - 1 ∧ x ≤ cp)) ∨ (0 < len ∧ ¬ (RN (La 0) = pt ∧ allN (fun k => runP CF CN G (bgF Eg k) (lnF Eg k) (RK1 (La 0) k)) pt))))))) ∧ h' = h) := by
  refine CT.of (by decide +kernel) rfl [some (.ref c0), some (.int (iI (x)))] rfl (Nat.le_of_ble_eq_true rfl) ?_
  intro p e s m args below meth c B hr hlk hnm
  refine r_aload_n B dX3_asks_0 rfl rfl ?_
  refine r_get (C := RX3) (T := TX3) (N := 13) (ci := 3) B dX3_asks_1 in_X3_asks_X3 rfl 3 (by decide) w_X3_asks_f28 rfl hCL rfl ?_
  refine r_if_le B dX3_asks_4 (tgt := 34) (by decide) (by omega) (fun c4 => ?_) (fun c4 => ?_)
  · refine r_iconst B dX3_asks_34 ?_
    exact r_zret B hr hlk dX3_asks_35 (Nat.le_of_ble_eq_true rfl) (Nat.le_of_ble_eq_true rfl) (by first | exact nar_0 | exact nar_1 | exact nar_bI _) ⟨by rw [bI_f (fun y => by omega)], rfl⟩
  · refine r_aload_n B dX3_asks_7 rfl rfl ?_
    refine r_get (C := RX3) (T := TX3) (N := 13) (ci := 3) B dX3_asks_8 in_X3_asks_X3 rfl 3 (by decide) w_X3_asks_f28 rfl hCL rfl ?_
    refine r_iload_n B dX3_asks_11 rfl ?_
    refine r_icmp_lt B dX3_asks_12 (tgt := 34) (by decide) (by omega) (by omega) (fun c12 => ?_) (fun c12 => ?_)
    · refine r_iconst B dX3_asks_34 ?_
      exact r_zret B hr hlk dX3_asks_35 (Nat.le_of_ble_eq_true rfl) (Nat.le_of_ble_eq_true rfl) (by first | exact nar_0 | exact nar_1 | exact nar_bI _) ⟨by rw [bI_f (fun y => by omega)], rfl⟩
    · refine r_aload_n B dX3_asks_15 rfl rfl ?_
      refine r_iload_n B dX3_asks_16 rfl ?_
      refine r_callV (n := 1) B dX3_asks_17 (ct_X3_wantsBase l g sz0 hCH hCL _ (by omega) hrg) gX3_asks_X3_wantsBase rfl (by decide +kernel) ⟨Nat.le_of_ble_eq_true rfl, Nat.le_of_ble_eq_true rfl⟩ hCL rfl rfl rfl (Nat.le_of_ble_eq_true rfl) (Nat.le_of_ble_eq_true rfl) (Nat.le_of_ble_eq_true rfl) (fun v h' hp => ?_)
      obtain ⟨hv, hh⟩ := hp
      subst v
      subst h'
      dsimp only [Option.toList, List.cons_append, List.nil_append]
      refine r_if_ne B dX3_asks_20 (tgt := 30) (by decide) (bI_rng _) (fun c20 => ?_) (fun c20 => ?_)
      · replace c20 := bI_n0.mp c20
        refine r_iconst B dX3_asks_30 ?_
        refine r_goto B dX3_asks_31 (tgt := 35) (by decide) ?_
        exact r_zret B hr hlk dX3_asks_35 (Nat.le_of_ble_eq_true rfl) (Nat.le_of_ble_eq_true rfl) (by first | exact nar_0 | exact nar_1 | exact nar_bI _) ⟨by rw [bI_t ⟨by omega, by omega, Or.inl c20⟩], rfl⟩
      · replace c20 := bI_0.mp c20
        refine r_aload_n B dX3_asks_23 rfl rfl ?_
        refine r_callV (n := 0) B dX3_asks_24 (ct_X3_wantsDifference l g sz0 hF hCH hCL hE hRK hHK) gX3_asks_X3_wantsDifference rfl (by decide +kernel) ⟨Nat.le_of_ble_eq_true rfl, Nat.le_of_ble_eq_true rfl⟩ hCL rfl rfl rfl (Nat.le_of_ble_eq_true rfl) (Nat.le_of_ble_eq_true rfl) (Nat.le_of_ble_eq_true rfl) (fun v h' hp => ?_)
        obtain ⟨hv, hh⟩ := hp
        subst v
        subst h'
        dsimp only [Option.toList, List.cons_append, List.nil_append]
        refine r_if_eq B dX3_asks_27 (tgt := 34) (by decide) (bI_rng _) (fun c27 => ?_) (fun c27 => ?_)
        · replace c27 := bI_0.mp c27
          refine r_iconst B dX3_asks_34 ?_
          exact r_zret B hr hlk dX3_asks_35 (Nat.le_of_ble_eq_true rfl) (Nat.le_of_ble_eq_true rfl) (by first | exact nar_0 | exact nar_1 | exact nar_bI _) ⟨by rw [bI_f (fun y => y.2.2.elim c20 c27)], rfl⟩
        · replace c27 := bI_n0.mp c27
          refine r_iconst B dX3_asks_30 ?_
          refine r_goto B dX3_asks_31 (tgt := 35) (by decide) ?_
          exact r_zret B hr hlk dX3_asks_35 (Nat.le_of_ble_eq_true rfl) (Nat.le_of_ble_eq_true rfl) (by first | exact nar_0 | exact nar_1 | exact nar_bI _) ⟨by rw [bI_t ⟨by omega, by omega, Or.inr c27⟩], rfl⟩
