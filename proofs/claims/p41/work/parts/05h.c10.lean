abbrev rmX3_payFor : Room := { frames := 1, cells := 0, slots := 0, locals := 40 }
theorem in_X3_payFor_X3 : ∀ w ∈ wsX30, w ∈ wsX3_payFor := by decide +kernel
theorem w_X3_payFor_f38 : Cond.fieldLink RX3 38 "DeltaNights$Client" "promised" "I" ∈ wsX3_payFor := by decide +kernel
theorem w_X3_payFor_f41 : Cond.fieldLink RX3 41 "DeltaNights$Client" "coin" "I" ∈ wsX3_payFor := by decide +kernel
set_option maxHeartbeats 4000000 in
set_option maxRecDepth 100000 in
theorem ct_X3_payFor (l : Launch) (g : GG) (sz0 : Nat) {h : AH} {c0 fi lk : Nat} {lt : Option Nat} {bd bo cp pr co pa ow wt gt pc : Int} (hCL : h c0 = some (oE 3 [.ref fi, .ref lk, va_rf lt, .int (iI bd), .int (iI bo), .int (iI cp), .int (iI pr), .int (iI co), .int (iI pa), .int (iI ow), .int (iI wt), .int (iI gt), .int (iI pc)])) (x : UInt32)  : CT l yX3_payFor wsX3_payFor rmX3_payFor g sz0 [.ref c0, .float x] h (fun v h' => v = some (.int (iI (mxZ (i32z (iI (upC x - pr))) 0 * co))) ∧ h' = h) := by
  refine CT.of (by decide +kernel) rfl [some (.ref c0), some (.float x), none] rfl (Nat.le_of_ble_eq_true rfl) ?_
  intro p e s m args below meth c B hr hlk hnm
  refine r_fload_n B dX3_payFor_0 rfl ?_
  refine r_f2i B dX3_payFor_1 ?_
  refine r_istore_n B dX3_payFor_2 rfl (by decide) (lcat_v rfl rfl) ?_
  refine r_iload_n B dX3_payFor_3 rfl ?_
  refine r_i2f B dX3_payFor_4 ?_
  refine r_fload_n B dX3_payFor_5 rfl ?_
  refine r_fcmp B dX3_payFor_6 ?_
  have join13 : ∀ (u : Int), (iI u = iI (upC x)) → WA p l e rmX3_payFor s m args below meth c g sz0 3 (MQ below (QQ g sz0 (fun v h' => v = some (.int (iI (mxZ (i32z (iI (upC x - pr))) 0 * co))) ∧ h' = h)) args s rmX3_payFor.cells rmX3_payFor.slots (A0 sz0)) h 0 0 [some (.ref c0), some (.float x), some (.int (iI (u)))] 13 [] := by
    intro u hu
    refine r_iload_n B dX3_payFor_13 rfl ?_
    refine r_aload_n B dX3_payFor_14 rfl rfl ?_
    refine r_get (C := RX3) (T := TX3) (N := 13) (ci := 3) B dX3_payFor_15 in_X3_payFor_X3 rfl 6 (by decide) w_X3_payFor_f38 rfl hCL rfl ?_
    refine r_isub B dX3_payFor_18 ?_
    rw [show iI (u - pr) = iI (upC x - pr) by rw [← iI_sub, hu, iI_sub]]
    refine r_wrap ?_
    refine r_iconst B dX3_payFor_19 ?_
    refine r_mmax B dX3_payFor_20 (by decide +kernel) (by decide +kernel) (by decide +kernel) (by decide +kernel) (i32z_rng _) (by omega) (Nat.le_of_ble_eq_true rfl) (Nat.le_of_ble_eq_true rfl) (Nat.le_of_ble_eq_true rfl) (Nat.le_of_ble_eq_true rfl) ?_
    refine r_aload_n B dX3_payFor_23 rfl rfl ?_
    refine r_get (C := RX3) (T := TX3) (N := 13) (ci := 3) B dX3_payFor_24 in_X3_payFor_X3 rfl 7 (by decide) w_X3_payFor_f41 rfl hCL rfl ?_
    refine r_imul B dX3_payFor_27 ?_
    exact r_iret B hr hlk dX3_payFor_28 (Nat.le_of_ble_eq_true rfl) (Nat.le_of_ble_eq_true rfl) ⟨rfl, rfl⟩
  refine r_if_ge B dX3_payFor_7 (tgt := 13) (by decide) (i32z_rng _) (fun c7 => ?_) (fun c7 => ?_)
  · exact r_lv (lvLe_s rfl (lvLe_s rfl (lvLe_s rfl lvLe_nil))) (join13 _ (by rw [upC_f (by omega)]))
  · refine r_iinc B dX3_payFor_10 rfl (by decide) (lcat_v rfl rfl) ?_
    exact r_lv (lvLe_s rfl (lvLe_s rfl (lvLe_s rfl lvLe_nil))) (join13 _ (by rw [upC_t (by omega), iI_i32z]))
abbrev rmX3_linkAt : Room := { frames := 0, cells := 0, slots := 0, locals := 0 }
theorem in_X3_linkAt_X3 : ∀ w ∈ wsX30, w ∈ wsX3_linkAt := by decide +kernel
theorem w_X3_linkAt_f20 : Cond.fieldLink RX3 20 "DeltaNights$Client" "links" "[LDeltaNights$Link;" ∈ wsX3_linkAt := by decide +kernel
set_option maxHeartbeats 4000000 in
set_option maxRecDepth 100000 in
theorem ct_X3_linkAt (l : Launch) (g : GG) (sz0 : Nat) {h : AH} {c0 fi lk : Nat} {lt : Option Nat} {bd bo cp pr co pa ow wt gt pc : Int} (hCL : h c0 = some (oE 3 [.ref fi, .ref lk, va_rf lt, .int (iI bd), .int (iI bo), .int (iI cp), .int (iI pr), .int (iI co), .int (iI pa), .int (iI ow), .int (iI wt), .int (iI gt), .int (iI pc)])) {ln : Int → Option Nat} (hLN : h lk = some (qE g 6 60 ln)) (x : Int) (hx : 0 ≤ x ∧ x < 60) : CT l yX3_linkAt wsX3_linkAt rmX3_linkAt g sz0 [.ref c0, .int (iI (x))] h (fun v h' => v = some (va_rf (ln x)) ∧ h' = h) := by
  refine CT.of (by decide +kernel) rfl [some (.ref c0), some (.int (iI (x)))] rfl (Nat.le_of_ble_eq_true rfl) ?_
  intro p e s m args below meth c B hr hlk hnm
  refine r_iload_n B dX3_linkAt_0 rfl ?_
  refine r_if_lt B dX3_linkAt_1 (tgt := 22) (by decide) (by omega) (fun c1 => ?_) (fun c1 => ?_)
  · refine r_null B dX3_linkAt_22 ?_
    exact r_aret B hr hlk dX3_linkAt_23 rfl (Nat.le_of_ble_eq_true rfl) (Nat.le_of_ble_eq_true rfl) (by exfalso; omega)
  · refine r_iload_n B dX3_linkAt_4 rfl ?_
    refine r_aload_n B dX3_linkAt_5 rfl rfl ?_
    refine r_get (C := RX3) (T := TX3) (N := 13) (ci := 3) B dX3_linkAt_6 in_X3_linkAt_X3 rfl 1 (by decide) w_X3_linkAt_f20 rfl hCL rfl ?_
    refine r_alen_q B dX3_linkAt_9 rfl hLN ?_
    refine r_icmp_ge B dX3_linkAt_10 (tgt := 22) (by decide) (by omega) (by omega) (fun c10 => ?_) (fun c10 => ?_)
    · refine r_null B dX3_linkAt_22 ?_
      exact r_aret B hr hlk dX3_linkAt_23 rfl (Nat.le_of_ble_eq_true rfl) (Nat.le_of_ble_eq_true rfl) (by exfalso; omega)
    · refine r_aload_n B dX3_linkAt_13 rfl rfl ?_
      refine r_get (C := RX3) (T := TX3) (N := 13) (ci := 3) B dX3_linkAt_14 in_X3_linkAt_X3 rfl 1 (by decide) w_X3_linkAt_f20 rfl hCL rfl ?_
      refine r_iload_n B dX3_linkAt_17 rfl ?_
      refine r_aald B dX3_linkAt_18 rfl hLN (by decide) (by omega) (by omega) ?_
      refine r_goto B dX3_linkAt_19 (tgt := 23) (by decide) ?_
      exact r_aret B hr hlk dX3_linkAt_23 (va_rf_isRef _) (Nat.le_of_ble_eq_true rfl) (Nat.le_of_ble_eq_true rfl) ⟨rfl, rfl⟩
abbrev rmX3_latestDayUpTo : Room := { frames := 1, cells := 0, slots := 0, locals := 40 }
theorem in_X3_latestDayUpTo_X3 : ∀ w ∈ wsX30, w ∈ wsX3_latestDayUpTo := by decide +kernel
theorem w_X3_latestDayUpTo_f20 : Cond.fieldLink RX3 20 "DeltaNights$Client" "links" "[LDeltaNights$Link;" ∈ wsX3_latestDayUpTo := by decide +kernel
set_option maxHeartbeats 4000000 in
set_option maxRecDepth 100000 in
theorem ct_X3_latestDayUpTo (l : Launch) (g : GG) (sz0 : Nat) {h : AH} {c0 fi lk : Nat} {lt : Option Nat} {bd bo cp pr co pa ow wt gt pc : Int} (hCL : h c0 = some (oE 3 [.ref fi, .ref lk, va_rf lt, .int (iI bd), .int (iI bo), .int (iI cp), .int (iI pr), .int (iI co), .int (iI pa), .int (iI ow), .int (iI wt), .int (iI gt), .int (iI pc)])) {ln : Int → Option Nat} (hLN : h lk = some (qE g 6 60 ln)) (x : Int) (hx : 0 ≤ x ∧ x < 60) : CT l yX3_latestDayUpTo wsX3_latestDayUpTo rmX3_latestDayUpTo g sz0 [.ref c0, .int (iI (x))] h (fun v h' => v = some (.int (iI (ltN (nzL ln) (x + 1).toNat))) ∧ h' = h) := by
  refine CT.of (by decide +kernel) rfl [some (.ref c0), some (.int (iI (x))), none] rfl (Nat.le_of_ble_eq_true rfl) ?_
  intro p e s m args below meth c B hr hlk hnm
  refine r_iload_n B dX3_latestDayUpTo_0 rfl ?_
  refine r_aload_n B dX3_latestDayUpTo_1 rfl rfl ?_
  refine r_get (C := RX3) (T := TX3) (N := 13) (ci := 3) B dX3_latestDayUpTo_2 in_X3_latestDayUpTo_X3 rfl 1 (by decide) w_X3_latestDayUpTo_f20 rfl hCL rfl ?_
  refine r_alen_q B dX3_latestDayUpTo_5 rfl hLN ?_
  refine r_iconst B dX3_latestDayUpTo_6 ?_
  refine r_isub B dX3_latestDayUpTo_7 ?_
  refine r_mmin B dX3_latestDayUpTo_8 (by decide +kernel) (by decide +kernel) (by decide +kernel) (by decide +kernel) (by omega) (by omega) (Nat.le_of_ble_eq_true rfl) (Nat.le_of_ble_eq_true rfl) (Nat.le_of_ble_eq_true rfl) (Nat.le_of_ble_eq_true rfl) ?_
  refine r_topz (y := x) (by unfold mnZ; split <;> omega) ?_
  refine r_istore_n B dX3_latestDayUpTo_11 rfl (by decide) (lcat_v rfl rfl) ?_
  have loop12 : ∀ (nn : Nat) (q : Int), (-1 ≤ q ∧ q ≤ x) → (ltN (nzL ln) (x + 1).toNat = ltN (nzL ln) (q + 1).toNat) → (q + 1).toNat < nn → WA p l e rmX3_latestDayUpTo s m args below meth c g sz0 3 (MQ below (QQ g sz0 (fun v h' => v = some (.int (iI (ltN (nzL ln) (x + 1).toNat))) ∧ h' = h)) args s rmX3_latestDayUpTo.cells rmX3_latestDayUpTo.slots (A0 sz0)) h 0 0 [some (.ref c0), some (.int (iI (x))), some (.int (iI (q)))] 12 [] := by
    intro nn
    induction nn with
    | zero => intro q i1 i2 hn; exact absurd hn (Nat.not_lt_zero _)
    | succ nn ih =>
      intro q i1 i2 hn
      refine r_iload_n B dX3_latestDayUpTo_12 rfl ?_
      refine r_if_lt B dX3_latestDayUpTo_13 (tgt := 33) (by decide) (by omega) (fun c13 => ?_) (fun c13 => ?_)
      · refine r_iconst B dX3_latestDayUpTo_33 ?_
        exact r_iret B hr hlk dX3_latestDayUpTo_34 (Nat.le_of_ble_eq_true rfl) (Nat.le_of_ble_eq_true rfl) ⟨by rw [i2, show q = -1 by omega]; rfl, rfl⟩
      · refine r_aload_n B dX3_latestDayUpTo_16 rfl rfl ?_
        refine r_get (C := RX3) (T := TX3) (N := 13) (ci := 3) B dX3_latestDayUpTo_17 in_X3_latestDayUpTo_X3 rfl 1 (by decide) w_X3_latestDayUpTo_f20 rfl hCL rfl ?_
        refine r_iload_n B dX3_latestDayUpTo_20 rfl ?_
        refine r_aald B dX3_latestDayUpTo_21 rfl hLN (by decide) (by omega) (by omega) ?_
        refine r_ifnull B dX3_latestDayUpTo_22 (tgt := 27) (by decide) (fun c22 => ?_) (fun a22 c22 => ?_)
        · refine r_iinc B dX3_latestDayUpTo_27 rfl (by decide) (lcat_v rfl rfl) ?_
          refine r_goto B dX3_latestDayUpTo_30 (tgt := 12) (by decide) ?_
          exact r_lv (lvLe_s rfl (lvLe_s rfl (lvLe_s rfl lvLe_nil))) (ih (q - 1) (by omega) (by rw [i2, ltN_z (nzL ln) (n := q) (by omega) (nzL_0 c22), show q - 1 + 1 = q by omega]) (by omega))
        · refine r_iload_n B dX3_latestDayUpTo_25 rfl ?_
          exact r_iret B hr hlk dX3_latestDayUpTo_26 (Nat.le_of_ble_eq_true rfl) (Nat.le_of_ble_eq_true rfl) ⟨by rw [i2, ltN_nz (nzL ln) (by omega) (by rw [nzL_1 c22]; decide)], rfl⟩
  exact r_lv (lvLe_s rfl (lvLe_s rfl (lvLe_s rfl lvLe_nil))) (loop12 _ x (by omega) rfl (Nat.lt_succ_self _))
abbrev rmX3_wantsBase : Room := { frames := 1, cells := 0, slots := 0, locals := 22 }
theorem in_X3_wantsBase_X3 : ∀ w ∈ wsX30, w ∈ wsX3_wantsBase := by decide +kernel
theorem w_X3_wantsBase_f24 : Cond.fieldLink RX3 24 "DeltaNights$Client" "latest" "LDeltaNights$Link;" ∈ wsX3_wantsBase := by decide +kernel
theorem w_X3_wantsBase_f32 : Cond.fieldLink RX3 32 "DeltaNights$Client" "bound" "I" ∈ wsX3_wantsBase := by decide +kernel
theorem w_X3_wantsBase_f35 : Cond.fieldLink RX3 35 "DeltaNights$Client" "cheap" "I" ∈ wsX3_wantsBase := by decide +kernel
set_option maxHeartbeats 4000000 in
set_option maxRecDepth 100000 in
theorem ct_X3_wantsBase (l : Launch) (g : GG) (sz0 : Nat) {h : AH} {LE : Nat → Option Nat} {RK1 : Nat → Int → Nat} {RN : Nat → Int} {HK1 : Nat → Int → Nat} {HN : Nat → Int} {La : Int → Nat} {len : Int} (hCH : CHN g LE RK1 RN HK1 HN La len h) {c0 fi lk : Nat} {bd bo cp pr co pa ow wt gt pc : Int} (hCL : h c0 = some (oE 3 [.ref fi, .ref lk, va_rf (ptr La len 0), .int (iI bd), .int (iI bo), .int (iI cp), .int (iI pr), .int (iI co), .int (iI pa), .int (iI ow), .int (iI wt), .int (iI gt), .int (iI pc)])) (x : Int) (hx : 0 ≤ x ∧ x ≤ 50) (hrg : (0 ≤ len ∧ len ≤ 60) ∧ (0 ≤ bo ∧ bo ≤ 30) ∧ (0 ≤ cp ∧ cp ≤ 50) ∧ (0 ≤ bd ∧ bd ≤ 100))  : CT l yX3_wantsBase wsX3_wantsBase rmX3_wantsBase g sz0 [.ref c0, .int (iI (x))] h (fun v h' => v = some (.int (iI (bI (len = 0 ∨ (bo ≤ len - 1 ∧ x ≤ cp))))) ∧ h' = h) := by
  refine CT.of (by decide +kernel) rfl [some (.ref c0), some (.int (iI (x)))] rfl (Nat.le_of_ble_eq_true rfl) ?_
  intro p e s m args below meth c B hr hlk hnm
  refine r_aload_n B dX3_wantsBase_0 rfl rfl ?_
  refine r_get (C := RX3) (T := TX3) (N := 13) (ci := 3) B dX3_wantsBase_1 in_X3_wantsBase_X3 rfl 2 (by decide) w_X3_wantsBase_f24 rfl hCL rfl ?_
  refine r_ifnonnull B dX3_wantsBase_4 (tgt := 9) (by decide) (fun a4 c4 => ?_) (fun c4 => ?_)
  · have hl9 := ptr_some c4
    refine r_aload_n B dX3_wantsBase_9 rfl rfl ?_
    refine r_get (C := RX3) (T := TX3) (N := 13) (ci := 3) B dX3_wantsBase_10 in_X3_wantsBase_X3 rfl 2 (by decide) w_X3_wantsBase_f24 rfl hCL rfl ?_
    refine r_topr (ptr_in (ptr_some c4)) ?_
    refine r_callV (n := 0) B dX3_wantsBase_13 (ct_X5_differencesUpToHere l g sz0 hCH hl9) gX3_wantsBase_X5_differencesUpToHere rfl (by decide +kernel) ⟨Nat.le_of_ble_eq_true rfl, Nat.le_of_ble_eq_true rfl⟩ (hCH 0 (by omega) hl9).2.choose_spec.choose_spec.choose_spec.choose_spec.choose_spec.choose_spec.1 rfl rfl rfl (Nat.le_of_ble_eq_true rfl) (Nat.le_of_ble_eq_true rfl) (Nat.le_of_ble_eq_true rfl) (fun v h' hp => ?_)
    obtain ⟨hv, hh⟩ := hp
    subst v
    subst h'
    dsimp only [Option.toList, List.cons_append, List.nil_append]
    refine r_aload_n B dX3_wantsBase_16 rfl rfl ?_
    refine r_get (C := RX3) (T := TX3) (N := 13) (ci := 3) B dX3_wantsBase_17 in_X3_wantsBase_X3 rfl 4 (by decide) w_X3_wantsBase_f32 rfl hCL rfl ?_
    refine r_icmp_lt B dX3_wantsBase_20 (tgt := 35) (by decide) (by omega) (by omega) (fun c20 => ?_) (fun c20 => ?_)
    · refine r_iconst B dX3_wantsBase_35 ?_
      exact r_zret B hr hlk dX3_wantsBase_36 (Nat.le_of_ble_eq_true rfl) (Nat.le_of_ble_eq_true rfl) (by first | exact nar_0 | exact nar_1 | exact nar_bI _) ⟨by first | rw [bI_t (by omega)] | rw [bI_f (by omega)], rfl⟩
    · refine r_iload_n B dX3_wantsBase_23 rfl ?_
      refine r_aload_n B dX3_wantsBase_24 rfl rfl ?_
      refine r_get (C := RX3) (T := TX3) (N := 13) (ci := 3) B dX3_wantsBase_25 in_X3_wantsBase_X3 rfl 5 (by decide) w_X3_wantsBase_f35 rfl hCL rfl ?_
      refine r_icmp_gt B dX3_wantsBase_28 (tgt := 35) (by decide) (by omega) (by omega) (fun c28 => ?_) (fun c28 => ?_)
      · refine r_iconst B dX3_wantsBase_35 ?_
        exact r_zret B hr hlk dX3_wantsBase_36 (Nat.le_of_ble_eq_true rfl) (Nat.le_of_ble_eq_true rfl) (by first | exact nar_0 | exact nar_1 | exact nar_bI _) ⟨by first | rw [bI_t (by omega)] | rw [bI_f (by omega)], rfl⟩
      · refine r_iconst B dX3_wantsBase_31 ?_
        refine r_goto B dX3_wantsBase_32 (tgt := 36) (by decide) ?_
        exact r_zret B hr hlk dX3_wantsBase_36 (Nat.le_of_ble_eq_true rfl) (Nat.le_of_ble_eq_true rfl) (by first | exact nar_0 | exact nar_1 | exact nar_bI _) ⟨by first | rw [bI_t (by omega)] | rw [bI_f (by omega)], rfl⟩
  · refine r_iconst B dX3_wantsBase_7 ?_
    exact r_zret B hr hlk dX3_wantsBase_8 (Nat.le_of_ble_eq_true rfl) (Nat.le_of_ble_eq_true rfl) (by first | exact nar_0 | exact nar_1 | exact nar_bI _) ⟨by rw [bI_t (show (len = 0 ∨ (bo ≤ len - 1 ∧ x ≤ cp)) from Or.inl (by have := ptr_none c4; omega))], rfl⟩
