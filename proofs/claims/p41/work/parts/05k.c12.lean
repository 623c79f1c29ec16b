abbrev rmX3_takeTurn : Room := { frames := 4, cells := 0, slots := 0, locals := 99 }
theorem in_X3_takeTurn_X3 : ∀ w ∈ wsX30, w ∈ wsX3_takeTurn := by decide +kernel
theorem w_X3_takeTurn_f12 : Cond.fieldLink RX3 12 "DeltaNights$Client" "file" "LDeltaNights$ByteFile;" ∈ wsX3_takeTurn := by decide +kernel
theorem w_X3_takeTurn_f24 : Cond.fieldLink RX3 24 "DeltaNights$Client" "latest" "LDeltaNights$Link;" ∈ wsX3_takeTurn := by decide +kernel
theorem w_X3_takeTurn_f54 : Cond.fieldLink RX3 54 "DeltaNights$Client" "gets" "I" ∈ wsX3_takeTurn := by decide +kernel
set_option maxHeartbeats 4000000 in
set_option maxRecDepth 100000 in
theorem ct_X3_takeTurn (l : Launch) (g : GG) (sz0 : Nat) {h h0 : AH} {f ac ae : Nat} {G Eg : Int → Int} {sz pt : Int} (hF : FL g f ac ae G Eg sz pt h0 h) {LE : Nat → Option Nat} {RK1 : Nat → Int → Nat} {RN : Nat → Int} {HK1 : Nat → Int → Nat} {HN : Nat → Int} {La : Int → Nat} {len : Int} (hCH : CHN g LE RK1 RN HK1 HN La len h) {CA : Nat → Nat} {PV : Nat → Option Nat} {CF : Nat → Int → Int} {CN : Nat → Int} {c0 lk : Nat} {bd bo cp pr co pa ow wt gt pc : Int} (hCL : h c0 = some (oE 3 [.ref f, .ref lk, va_rf (ptr La len 0), .int (iI bd), .int (iI bo), .int (iI cp), .int (iI pr), .int (iI co), .int (iI pa), .int (iI ow), .int (iI wt), .int (iI gt), .int (iI pc)])) (x y : Int) (hx : -100000 ≤ x ∧ x ≤ 500) (hy : 0 ≤ y ∧ y ≤ 50) (hrg : (0 ≤ len ∧ len ≤ 60) ∧ (0 ≤ bo ∧ bo ≤ 30) ∧ (0 ≤ cp ∧ cp ≤ 50) ∧ (0 ≤ bd ∧ bd ≤ 100)) (hE : EOK Eg pt) (hRK : ∀ i : Int, 0 ≤ i → i < len → RK g CA PV CF CN (RK1 (La i)) (RN (La i)) h) (hHK : ∀ i : Int, 0 ≤ i → i < len → RK g CA PV CF CN (HK1 (La i)) (HN (La i)) h)  : CT l yX3_takeTurn wsX3_takeTurn rmX3_takeTurn g sz0 [.ref c0, .int (iI (x)), .int (iI (y))] h (fun v h' => ((len = 0 ∨ (bo ≤ len - 1 ∧ y ≤ cp)) ∧ (difB G Eg pt (chP CF CN HK1 HN La 0)) ≤ x → v = some (.int (iI (difB G Eg pt (chP CF CN HK1 HN La 0)))) ∧ h' = ah_up h c0 (oE 3 [.ref f, .ref lk, va_rf (ptr La len 0), .int (iI bd), .int (iI bo), .int (iI cp), .int (iI pr), .int (iI co), .int (iI pa), .int (iI ow), .int (iI wt), .int (iI 1), .int (iI pc)])) ∧ (¬ ((len = 0 ∨ (bo ≤ len - 1 ∧ y ≤ cp)) ∧ (difB G Eg pt (chP CF CN HK1 HN La 0)) ≤ x) → (0 < len ∧ ¬ (RN (La 0) = pt ∧ allN (fun k => runP CF CN G (bgF Eg k) (lnF Eg k) (RK1 (La 0) k)) pt)) ∧ (difB G Eg pt (chP CF CN HK1 HN La len)) ≤ x → v = some (.int (iI (difB G Eg pt (chP CF CN HK1 HN La len)))) ∧ h' = ah_up h c0 (oE 3 [.ref f, .ref lk, va_rf (ptr La len 0), .int (iI bd), .int (iI bo), .int (iI cp), .int (iI pr), .int (iI co), .int (iI pa), .int (iI ow), .int (iI wt), .int (iI 2), .int (iI pc)])) ∧ (¬ ((len = 0 ∨ (bo ≤ len - 1 ∧ y ≤ cp)) ∧ (difB G Eg pt (chP CF CN HK1 HN La 0)) ≤ x) → ¬ ((0 < len ∧ ¬ (RN (La 0) = pt ∧ allN (fun k => runP CF CN G (bgF Eg k) (lnF Eg k) (RK1 (La 0) k)) pt)) ∧ (difB G Eg pt (chP CF CN HK1 HN La len)) ≤ x) → v = some (.int (iI 0)) ∧ h' = h)) := by
  refine CT.of (by decide +kernel) rfl [some (.ref c0), some (.int (iI (x))), some (.int (iI (y))), none] rfl (Nat.le_of_ble_eq_true rfl) ?_
  intro p e s m args below meth c B hr hlk hnm
  have ht9 := hF.t
  have hd0 := difB_rng (G := G) (P := chP CF CN HK1 HN La 0) ht9 hE
  have hd1 := difB_rng (G := G) (P := chP CF CN HK1 HN La len) ht9 hE
  have hC0 : CHN g LE RK1 RN HK1 HN La 0 h := fun i i0 i1 => absurd i1 (by omega)
  have hH0 : ∀ i : Int, 0 ≤ i → i < 0 → RK g CA PV CF CN (HK1 (La i)) (HN (La i)) h := fun i i0 i1 => absurd i1 (by omega)
  refine r_aload_n B dX3_takeTurn_0 rfl rfl ?_
  refine r_iload_n B dX3_takeTurn_1 rfl ?_
  refine r_callV (n := 1) B dX3_takeTurn_2 (ct_X3_wantsBase l g sz0 hCH hCL _ (by omega) hrg) gX3_takeTurn_X3_wantsBase rfl (by decide +kernel) ⟨Nat.le_of_ble_eq_true rfl, Nat.le_of_ble_eq_true rfl⟩ hCL rfl rfl rfl (Nat.le_of_ble_eq_true rfl) (Nat.le_of_ble_eq_true rfl) (Nat.le_of_ble_eq_true rfl) (fun v h' hp => ?_)
  obtain ⟨hv, hh⟩ := hp
  subst v
  subst h'
  dsimp only [Option.toList, List.cons_append, List.nil_append]
  have join29 : (¬ ((len = 0 ∨ (bo ≤ len - 1 ∧ y ≤ cp)) ∧ (difB G Eg pt (chP CF CN HK1 HN La 0)) ≤ x)) → WA p l e rmX3_takeTurn s m args below meth c g sz0 4 (MQ below (QQ g sz0 (fun v h' => ((len = 0 ∨ (bo ≤ len - 1 ∧ y ≤ cp)) ∧ (difB G Eg pt (chP CF CN HK1 HN La 0)) ≤ x → v = some (.int (iI (difB G Eg pt (chP CF CN HK1 HN La 0)))) ∧ h' = ah_up h c0 (oE 3 [.ref f, .ref lk, va_rf (ptr La len 0), .int (iI bd), .int (iI bo), .int (iI cp), .int (iI pr), .int (iI co), .int (iI pa), .int (iI ow), .int (iI wt), .int (iI 1), .int (iI pc)])) ∧ (¬ ((len = 0 ∨ (bo ≤ len - 1 ∧ y ≤ cp)) ∧ (difB G Eg pt (chP CF CN HK1 HN La 0)) ≤ x) → (0 < len ∧ ¬ (RN (La 0) = pt ∧ allN (fun k => runP CF CN G (bgF Eg k) (lnF Eg k) (RK1 (La 0) k)) pt)) ∧ (difB G Eg pt (chP CF CN HK1 HN La len)) ≤ x → v = some (.int (iI (difB G Eg pt (chP CF CN HK1 HN La len)))) ∧ h' = ah_up h c0 (oE 3 [.ref f, .ref lk, va_rf (ptr La len 0), .int (iI bd), .int (iI bo), .int (iI cp), .int (iI pr), .int (iI co), .int (iI pa), .int (iI ow), .int (iI wt), .int (iI 2), .int (iI pc)])) ∧ (¬ ((len = 0 ∨ (bo ≤ len - 1 ∧ y ≤ cp)) ∧ (difB G Eg pt (chP CF CN HK1 HN La 0)) ≤ x) → ¬ ((0 < len ∧ ¬ (RN (La 0) = pt ∧ allN (fun k => runP CF CN G (bgF Eg k) (lnF Eg k) (RK1 (La 0) k)) pt)) ∧ (difB G Eg pt (chP CF CN HK1 HN La len)) ≤ x) → v = some (.int (iI 0)) ∧ h' = h))) args s rmX3_takeTurn.cells rmX3_takeTurn.slots (A0 sz0)) h 0 0 [some (.ref c0), some (.int (iI (x))), some (.int (iI (y))), none] 29 [] := by
    intro  hno
    refine r_aload_n B dX3_takeTurn_29 rfl rfl ?_
    refine r_callV (n := 0) B dX3_takeTurn_30 (ct_X3_wantsDifference l g sz0 hF hCH hCL hE hRK hHK) gX3_takeTurn_X3_wantsDifference rfl (by decide +kernel) ⟨Nat.le_of_ble_eq_true rfl, Nat.le_of_ble_eq_true rfl⟩ hCL rfl rfl rfl (Nat.le_of_ble_eq_true rfl) (Nat.le_of_ble_eq_true rfl) (Nat.le_of_ble_eq_true rfl) (fun v h' hp => ?_)
    obtain ⟨hv, hh⟩ := hp
    subst v
    subst h'
    dsimp only [Option.toList, List.cons_append, List.nil_append]
    refine r_if_eq B dX3_takeTurn_33 (tgt := 60) (by decide) (bI_rng _) (fun c33 => ?_) (fun c33 => ?_)
    · replace c33 := bI_0.mp c33
      refine r_iconst B dX3_takeTurn_60 ?_
      exact r_iret B hr hlk dX3_takeTurn_61 (Nat.le_of_ble_eq_true rfl) (Nat.le_of_ble_eq_true rfl) ⟨fun y => absurd y hno, fun _ y => absurd y.1 c33, fun _ _ => ⟨rfl, rfl⟩⟩
    · replace c33 := bI_n0.mp c33
      refine r_aload_n B dX3_takeTurn_36 rfl rfl ?_
      refine r_get (C := RX3) (T := TX3) (N := 13) (ci := 3) B dX3_takeTurn_37 in_X3_takeTurn_X3 rfl 0 (by decide) w_X3_takeTurn_f12 rfl hCL rfl ?_
      refine r_aload_n B dX3_takeTurn_40 rfl rfl ?_
      refine r_get (C := RX3) (T := TX3) (N := 13) (ci := 3) B dX3_takeTurn_41 in_X3_takeTurn_X3 rfl 2 (by decide) w_X3_takeTurn_f24 rfl hCL rfl ?_
      refine r_callV (n := 1) B dX3_takeTurn_44 (ct_X0_linkBytes l g sz0 hF hCH hE hHK) gX3_takeTurn_X0_linkBytes rfl (by decide +kernel) ⟨Nat.le_of_ble_eq_true rfl, Nat.le_of_ble_eq_true rfl⟩ hF.1 rfl rfl rfl (Nat.le_of_ble_eq_true rfl) (Nat.le_of_ble_eq_true rfl) (Nat.le_of_ble_eq_true rfl) (fun v h' hp => ?_)
      obtain ⟨hv, hh⟩ := hp
      subst v
      subst h'
      dsimp only [Option.toList, List.cons_append, List.nil_append]
      rw [lb_dif ht9.1 hHK hE]
      refine r_istore_n B dX3_takeTurn_47 rfl (by decide) (lcat_v rfl rfl) ?_
      refine r_iload_n B dX3_takeTurn_48 rfl ?_
      refine r_iload_n B dX3_takeTurn_49 rfl ?_
      refine r_icmp_gt B dX3_takeTurn_50 (tgt := 60) (by decide) (by omega) (by omega) (fun c50 => ?_) (fun c50 => ?_)
      · refine r_iconst B dX3_takeTurn_60 ?_
        exact r_iret B hr hlk dX3_takeTurn_61 (Nat.le_of_ble_eq_true rfl) (Nat.le_of_ble_eq_true rfl) ⟨fun y => absurd y hno, fun _ y => absurd y.2 (by omega), fun _ _ => ⟨rfl, rfl⟩⟩
      · refine r_aload_n B dX3_takeTurn_53 rfl rfl ?_
        refine r_iconst B dX3_takeTurn_54 ?_
        refine r_put (C := RX3) (T := TX3) (N := 13) (ci := 3) B dX3_takeTurn_55 in_X3_takeTurn_X3 tyX3 tyX3_ok nmX3 rfl 11 (by decide) w_X3_takeTurn_f54 rfl rfl (ty := .int) (by decide +kernel) rfl rfl hCL (by show 11 < 13; decide) ?_
        refine r_iload_n B dX3_takeTurn_58 rfl ?_
        exact r_iret B hr hlk dX3_takeTurn_59 (Nat.le_of_ble_eq_true rfl) (Nat.le_of_ble_eq_true rfl) ⟨fun y => absurd y hno, fun _ _ => ⟨rfl, rfl⟩, fun _ y => absurd ⟨c33, by omega⟩ y⟩
  refine r_if_eq B dX3_takeTurn_5 (tgt := 29) (by decide) (bI_rng _) (fun c5 => ?_) (fun c5 => ?_)
  · replace c5 := bI_0.mp c5
    exact r_lv (lvLe_s rfl (lvLe_s rfl (lvLe_s rfl (lvLe_n lvLe_nil)))) (join29 (fun y => c5 y.1))
  · replace c5 := bI_n0.mp c5
    refine r_aload_n B dX3_takeTurn_8 rfl rfl ?_
    refine r_get (C := RX3) (T := TX3) (N := 13) (ci := 3) B dX3_takeTurn_9 in_X3_takeTurn_X3 rfl 0 (by decide) w_X3_takeTurn_f12 rfl hCL rfl ?_
    refine r_null B dX3_takeTurn_12 ?_
    refine r_callV (n := 1) B dX3_takeTurn_13 (ct_X0_linkBytes l g sz0 hF hC0 hE hH0) gX3_takeTurn_X0_linkBytes rfl (by decide +kernel) ⟨Nat.le_of_ble_eq_true rfl, Nat.le_of_ble_eq_true rfl⟩ hF.1 rfl rfl rfl (Nat.le_of_ble_eq_true rfl) (Nat.le_of_ble_eq_true rfl) (Nat.le_of_ble_eq_true rfl) (fun v h' hp => ?_)
    obtain ⟨hv, hh⟩ := hp
    subst v
    subst h'
    dsimp only [Option.toList, List.cons_append, List.nil_append]
    rw [lb_dif ht9.1 hH0 hE]
    refine r_istore_n B dX3_takeTurn_16 rfl (by decide) (lcat_v rfl rfl) ?_
    refine r_iload_n B dX3_takeTurn_17 rfl ?_
    refine r_iload_n B dX3_takeTurn_18 rfl ?_
    refine r_icmp_gt B dX3_takeTurn_19 (tgt := 29) (by decide) (by omega) (by omega) (fun c19 => ?_) (fun c19 => ?_)
    · exact r_lv (lvLe_s rfl (lvLe_s rfl (lvLe_s rfl (lvLe_n lvLe_nil)))) (join29 (fun y => by omega))
    · refine r_aload_n B dX3_takeTurn_22 rfl rfl ?_
      refine r_iconst B dX3_takeTurn_23 ?_
      refine r_put (C := RX3) (T := TX3) (N := 13) (ci := 3) B dX3_takeTurn_24 in_X3_takeTurn_X3 tyX3 tyX3_ok nmX3 rfl 11 (by decide) w_X3_takeTurn_f54 rfl rfl (ty := .int) (by decide +kernel) rfl rfl hCL (by show 11 < 13; decide) ?_
      refine r_iload_n B dX3_takeTurn_27 rfl ?_
      exact r_iret B hr hlk dX3_takeTurn_28 (Nat.le_of_ble_eq_true rfl) (Nat.le_of_ble_eq_true rfl) ⟨fun _ => ⟨rfl, rfl⟩, fun y => absurd ⟨c5, by omega⟩ y, fun y => absurd ⟨c5, by omega⟩ y⟩
