abbrev rmX5_chainHolds : Room := { frames := 2, cells := 0, slots := 0, locals := 44 }
theorem in_X5_chainHolds_X5 : ∀ w ∈ wsX50, w ∈ wsX5_chainHolds := by decide +kernel
theorem w_X5_chainHolds_f16 : Cond.fieldLink RX5 16 "DeltaNights$Link" "holds" "LDeltaNights$ChunkRow;" ∈ wsX5_chainHolds := by decide +kernel
theorem w_X5_chainHolds_f19 : Cond.fieldLink RX5 19 "DeltaNights$Link" "earlier" "LDeltaNights$Link;" ∈ wsX5_chainHolds := by decide +kernel
set_option maxHeartbeats 4000000 in
set_option maxRecDepth 100000 in
theorem ct_X5_chainHolds (l : Launch) (g : GG) (sz0 : Nat) {h : AH} {LE : Nat → Option Nat} {RK1 : Nat → Int → Nat} {RN : Nat → Int} {HK1 : Nat → Int → Nat} {HN : Nat → Int} {La : Int → Nat} {len : Int} (hCH : CHN g LE RK1 RN HK1 HN La len h) (z : Nat) (hlen : 0 < len) : CT l yX5_chainHolds wsX5_chainHolds rmX5_chainHolds g sz0 [.ref (La 0), .ref z] h (fun v h' => v = some (.int (iI (bI (chHas HK1 HN La len z)))) ∧ h' = h) := by
  refine CT.of (by decide +kernel) rfl [some (.ref (La 0)), some (.ref z), none] rfl (Nat.le_of_ble_eq_true rfl) ?_
  intro p e s m args below meth c B hr hlk hnm
  refine r_aload_n B dX5_chainHolds_0 rfl rfl ?_
  refine r_topo (ptr_in (i := 0) hlen) ?_
  refine r_astore_n B dX5_chainHolds_1 rfl (va_rf_isRef _) (by decide) (lcat_v rfl rfl) ?_
  have loop2 : ∀ (nn : Nat) (q : Int), (0 ≤ q ∧ q ≤ len) → (allN (fun i => ¬ exN (fun j => HK1 (La i) j = z) (HN (La i))) q) → (len - q).toNat < nn → WA p l e rmX5_chainHolds s m args below meth c g sz0 3 (MQ below (QQ g sz0 (fun v h' => v = some (.int (iI (bI (chHas HK1 HN La len z)))) ∧ h' = h)) args s rmX5_chainHolds.cells rmX5_chainHolds.slots (A0 sz0)) h 0 0 [some (.ref (La 0)), some (.ref z), some (va_rf (ptr La len q))] 2 [] := by
    intro nn
    induction nn with
    | zero => intro q i1 i2 hn; exact absurd hn (Nat.not_lt_zero _)
    | succ nn ih =>
      intro q i1 i2 hn
      refine r_aload_n B dX5_chainHolds_2 rfl (va_rf_isRef _) ?_
      refine r_ifnull B dX5_chainHolds_3 (tgt := 27) (by decide) (fun c3 => ?_) (fun a3 c3 => ?_)
      · refine r_iconst B dX5_chainHolds_27 ?_
        exact r_zret B hr hlk dX5_chainHolds_28 (Nat.le_of_ble_eq_true rfl) (Nat.le_of_ble_eq_true rfl) (by first | exact nar_0 | exact nar_1 | exact nar_bI _) ⟨by rw [bI_f (show ¬ chHas HK1 HN La len z from not_exN (by rw [show len = q by have := ptr_none c3; omega]; exact i2))], rfl⟩
      · obtain ⟨hl0, rr, rra, rh, rha, fq1, fq2, hl1, hl2, hl3⟩ := hCH q i1.1 (ptr_some c3)
        refine r_aload_n B dX5_chainHolds_6 rfl (va_rf_isRef _) ?_
        refine r_topr (ptr_in (ptr_some c3)) ?_
        refine r_get (C := RX5) (T := TX5) (N := 3) (ci := 5) B dX5_chainHolds_7 in_X5_chainHolds_X5 rfl 2 (by decide) w_X5_chainHolds_f16 rfl hl1 rfl ?_
        refine r_aload_n B dX5_chainHolds_10 rfl rfl ?_
        refine r_callV (n := 1) B dX5_chainHolds_11 (ct_X2_has l g sz0 hl3 _) gX5_chainHolds_X2_has rfl (by decide +kernel) ⟨Nat.le_of_ble_eq_true rfl, Nat.le_of_ble_eq_true rfl⟩ hl3.1 rfl rfl rfl (Nat.le_of_ble_eq_true rfl) (Nat.le_of_ble_eq_true rfl) (Nat.le_of_ble_eq_true rfl) (fun v h' hp => ?_)
        obtain ⟨hv, hh⟩ := hp
        subst v
        subst h'
        dsimp only [Option.toList, List.cons_append, List.nil_append]
        refine r_if_eq B dX5_chainHolds_14 (tgt := 19) (by decide) (bI_rng _) (fun c14 => ?_) (fun c14 => ?_)
        · replace c14 := bI_0.mp c14
          refine r_aload_n B dX5_chainHolds_19 rfl (va_rf_isRef _) ?_
          refine r_topr (ptr_in (ptr_some c3)) ?_
          refine r_get (C := RX5) (T := TX5) (N := 3) (ci := 5) B dX5_chainHolds_20 in_X5_chainHolds_X5 rfl 0 (by decide) w_X5_chainHolds_f19 rfl hl1 rfl ?_
          refine r_topv hl0 ?_
          refine r_astore_n B dX5_chainHolds_23 rfl (va_rf_isRef _) (by decide) (lcat_v rfl rfl) ?_
          refine r_goto B dX5_chainHolds_24 (tgt := 2) (by decide) ?_
          exact r_lv (lvLe_s rfl (lvLe_s rfl (lvLe_s rfl lvLe_nil))) (ih (q + 1) (by have := ptr_some c3; omega) ((allN_s i1.1).mpr ⟨i2, c14⟩) (by have := ptr_some c3; omega))
        · replace c14 := bI_n0.mp c14
          refine r_iconst B dX5_chainHolds_17 ?_
          exact r_zret B hr hlk dX5_chainHolds_18 (Nat.le_of_ble_eq_true rfl) (Nat.le_of_ble_eq_true rfl) (by first | exact nar_0 | exact nar_1 | exact nar_bI _) ⟨by rw [bI_t (show chHas HK1 HN La len z from ⟨q, i1.1, ptr_some c3, c14⟩)], rfl⟩
  exact r_lv (lvLe_s rfl (lvLe_s rfl (lvLe_s rfl lvLe_nil))) (loop2 _ 0 (by omega) (allN_0 _) (Nat.lt_succ_self _))
abbrev rmX5_chainHoldsRun : Room := { frames := 2, cells := 0, slots := 0, locals := 49 }
theorem in_X5_chainHoldsRun_X5 : ∀ w ∈ wsX50, w ∈ wsX5_chainHoldsRun := by decide +kernel
theorem w_X5_chainHoldsRun_f16 : Cond.fieldLink RX5 16 "DeltaNights$Link" "holds" "LDeltaNights$ChunkRow;" ∈ wsX5_chainHoldsRun := by decide +kernel
theorem w_X5_chainHoldsRun_f19 : Cond.fieldLink RX5 19 "DeltaNights$Link" "earlier" "LDeltaNights$Link;" ∈ wsX5_chainHoldsRun := by decide +kernel
set_option maxHeartbeats 4000000 in
set_option maxRecDepth 100000 in
theorem ct_X5_chainHoldsRun (l : Launch) (g : GG) (sz0 : Nat) {h h0 : AH} {f ac ae : Nat} {G Eg : Int → Int} {sz pt : Int} (hF : FL g f ac ae G Eg sz pt h0 h) {LE : Nat → Option Nat} {RK1 : Nat → Int → Nat} {RN : Nat → Int} {HK1 : Nat → Int → Nat} {HN : Nat → Int} {La : Int → Nat} {len : Int} (hCH : CHN g LE RK1 RN HK1 HN La len h) {CA : Nat → Nat} {PV : Nat → Option Nat} {CF : Nat → Int → Int} {CN : Nat → Int} (u w : Int) (hlen : 0 < len) (hu : 0 ≤ u ∧ 0 ≤ w ∧ u + w ≤ 48) (hHK : ∀ i : Int, 0 ≤ i → i < len → RK g CA PV CF CN (HK1 (La i)) (HN (La i)) h) : CT l yX5_chainHoldsRun wsX5_chainHoldsRun rmX5_chainHoldsRun g sz0 [.ref (La 0), .ref f, .int (iI (u)), .int (iI (w))] h (fun v h' => v = some (.int (iI (bI (chRun CF CN HK1 HN G u w La len)))) ∧ h' = h) := by
  refine CT.of (by decide +kernel) rfl [some (.ref (La 0)), some (.ref f), some (.int (iI (u))), some (.int (iI (w))), none] rfl (Nat.le_of_ble_eq_true rfl) ?_
  intro p e s m args below meth c B hr hlk hnm
  refine r_aload_n B dX5_chainHoldsRun_0 rfl rfl ?_
  refine r_topo (ptr_in (i := 0) hlen) ?_
  refine r_astore B dX5_chainHoldsRun_1 (va_rf_isRef _) (by decide) (lcat_v rfl rfl) ?_
  have loop3 : ∀ (nn : Nat) (q : Int), (0 ≤ q ∧ q ≤ len) → (allN (fun i => ¬ exN (fun j => runP CF CN G u w (HK1 (La i) j)) (HN (La i))) q) → (len - q).toNat < nn → WA p l e rmX5_chainHoldsRun s m args below meth c g sz0 5 (MQ below (QQ g sz0 (fun v h' => v = some (.int (iI (bI (chRun CF CN HK1 HN G u w La len)))) ∧ h' = h)) args s rmX5_chainHoldsRun.cells rmX5_chainHoldsRun.slots (A0 sz0)) h 0 0 [some (.ref (La 0)), some (.ref f), some (.int (iI (u))), some (.int (iI (w))), some (va_rf (ptr La len q))] 3 [] := by
    intro nn
    induction nn with
    | zero => intro q i1 i2 hn; exact absurd hn (Nat.not_lt_zero _)
    | succ nn ih =>
      intro q i1 i2 hn
      refine r_aload B dX5_chainHoldsRun_3 rfl (va_rf_isRef _) ?_
      refine r_ifnull B dX5_chainHoldsRun_5 (tgt := 34) (by decide) (fun c5 => ?_) (fun a5 c5 => ?_)
      · refine r_iconst B dX5_chainHoldsRun_34 ?_
        exact r_zret B hr hlk dX5_chainHoldsRun_35 (Nat.le_of_ble_eq_true rfl) (Nat.le_of_ble_eq_true rfl) (by first | exact nar_0 | exact nar_1 | exact nar_bI _) ⟨by rw [bI_f (show ¬ chRun CF CN HK1 HN G u w La len from not_exN (by rw [show len = q by have := ptr_none c5; omega]; exact i2))], rfl⟩
      · obtain ⟨hl0, rr, rra, rh, rha, fq1, fq2, hl1, hl2, hl3⟩ := hCH q i1.1 (ptr_some c5)
        refine r_aload B dX5_chainHoldsRun_8 rfl (va_rf_isRef _) ?_
        refine r_topr (ptr_in (ptr_some c5)) ?_
        refine r_get (C := RX5) (T := TX5) (N := 3) (ci := 5) B dX5_chainHoldsRun_10 in_X5_chainHoldsRun_X5 rfl 2 (by decide) w_X5_chainHoldsRun_f16 rfl hl1 rfl ?_
        refine r_aload_n B dX5_chainHoldsRun_13 rfl rfl ?_
        refine r_iload_n B dX5_chainHoldsRun_14 rfl ?_
        refine r_iload_n B dX5_chainHoldsRun_15 rfl ?_
        refine r_callV (n := 3) B dX5_chainHoldsRun_16 (ct_X2_hasRun l g sz0 hF hl3 (hHK q i1.1 (ptr_some c5)) _ _ hu) gX5_chainHoldsRun_X2_hasRun rfl (by decide +kernel) ⟨Nat.le_of_ble_eq_true rfl, Nat.le_of_ble_eq_true rfl⟩ hl3.1 rfl rfl rfl (Nat.le_of_ble_eq_true rfl) (Nat.le_of_ble_eq_true rfl) (Nat.le_of_ble_eq_true rfl) (fun v h' hp => ?_)
        obtain ⟨hv, hh⟩ := hp
        subst v
        subst h'
        dsimp only [Option.toList, List.cons_append, List.nil_append]
        refine r_if_eq B dX5_chainHoldsRun_19 (tgt := 24) (by decide) (bI_rng _) (fun c19 => ?_) (fun c19 => ?_)
        · replace c19 := bI_0.mp c19
          refine r_aload B dX5_chainHoldsRun_24 rfl (va_rf_isRef _) ?_
          refine r_topr (ptr_in (ptr_some c5)) ?_
          refine r_get (C := RX5) (T := TX5) (N := 3) (ci := 5) B dX5_chainHoldsRun_26 in_X5_chainHoldsRun_X5 rfl 0 (by decide) w_X5_chainHoldsRun_f19 rfl hl1 rfl ?_
          refine r_topv hl0 ?_
          refine r_astore B dX5_chainHoldsRun_29 (va_rf_isRef _) (by decide) (lcat_v rfl rfl) ?_
          refine r_goto B dX5_chainHoldsRun_31 (tgt := 3) (by decide) ?_
          exact r_lv (lvLe_s rfl (lvLe_s rfl (lvLe_s rfl (lvLe_s rfl (lvLe_s rfl lvLe_nil))))) (ih (q + 1) (by have := ptr_some c5; omega) ((allN_s i1.1).mpr ⟨i2, c19⟩) (by have := ptr_some c5; omega))
        · replace c19 := bI_n0.mp c19
          refine r_iconst B dX5_chainHoldsRun_22 ?_
          exact r_zret B hr hlk dX5_chainHoldsRun_23 (Nat.le_of_ble_eq_true rfl) (Nat.le_of_ble_eq_true rfl) (by first | exact nar_0 | exact nar_1 | exact nar_bI _) ⟨by rw [bI_t (show chRun CF CN HK1 HN G u w La len from ⟨q, i1.1, ptr_some c5, c19⟩)], rfl⟩
  exact r_lv (lvLe_s rfl (lvLe_s rfl (lvLe_s rfl (lvLe_s rfl (lvLe_s rfl lvLe_nil))))) (loop3 _ 0 (by omega) (allN_0 _) (Nat.lt_succ_self _))
