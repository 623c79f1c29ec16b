abbrev rmX6_nextInTurn : Room := { frames := 0, cells := 0, slots := 0, locals := 0 }
theorem in_X6_nextInTurn_X3 : ∀ w ∈ wsX30, w ∈ wsX6_nextInTurn := by decide +kernel
theorem w_X6_nextInTurn_f41 : Cond.fieldLink RX6 41 "DeltaNights$Client" "waits" "Z" ∈ wsX6_nextInTurn := by decide +kernel
theorem w_X6_nextInTurn_f56 : Cond.fieldLink RX6 56 "DeltaNights$Client" "bid" "I" ∈ wsX6_nextInTurn := by decide +kernel
set_option maxHeartbeats 4000000 in
set_option maxRecDepth 100000 in
theorem ct_X6_nextInTurn (l : Launch) (g : GG) (sz0 : Nat) {A : Nat → Nat} (hA : AOK A) {h0 h : AH} {ng : Int} {bt : Int} {ls : Int} {ms : Int} {rm : Int} {rs : Int} {mo : Int} {sp : Int} {kp : Int} {hl : Option Nat} {tq : Int → Option Nat} {G : Int → Int → Int} {Eg : Int → Int → Int} {sz : Int → Int} {pt : Int → Int} {bd : Int → Int} {bo : Int → Int} {cp : Int → Int} {pr : Int → Int} {co : Int → Int} {pa : Int → Int} {ow : Int → Int} {wt : Int → Int} {gt : Int → Int} {pc : Int → Int} {LN : Int → Int → Option Nat} {lt : Int → Option Nat} (hC : CW g A h0 ng bt ls ms rm rs mo sp kp hl tq G Eg sz pt bd bo cp pr co pa ow wt gt pc LN lt h) (hbd : ∀ x : Int, 0 ≤ x → x ≤ 3 → 0 ≤ bd x ∧ bd x ≤ 100) (hwt : ∀ x : Int, 0 ≤ x → x ≤ 3 → 0 ≤ wt x ∧ wt x ≤ 1)  : CT l yX6_nextInTurn wsX6_nextInTurn rmX6_nextInTurn g sz0 [.ref (A 1)] h (fun v h' => v = some (va_rf (clO A (nxW wt bd 4))) ∧ h' = h) := by
  refine CT.of (by decide +kernel) rfl [some (.ref (A 1)), none, none, none] rfl (Nat.le_of_ble_eq_true rfl) ?_
  intro p e s m args below meth c B hr hlk hnm
  obtain ⟨fc, hQC, hfc⟩ := hC.qc
  refine r_null B dX6_nextInTurn_0 ?_
  refine r_topn ?_
  refine r_topv (o' := clO A (nxW wt bd (0 : Int).toNat)) rfl ?_
  refine r_astore_n B dX6_nextInTurn_1 rfl (va_rf_isRef _) (by decide) (lcat_v rfl rfl) ?_
  refine r_iconst B dX6_nextInTurn_2 ?_
  refine r_istore_n B dX6_nextInTurn_3 rfl (by decide) (lcat_v rfl (va_rf_cat _)) ?_
  have loop4 : ∀ (nn : Nat) (q : Int), (0 ≤ q ∧ q ≤ 4) → (4 - q).toNat < nn → WA p l e rmX6_nextInTurn s m args below meth c g sz0 4 (MQ below (QQ g sz0 (fun v h' => v = some (va_rf (clO A (nxW wt bd 4))) ∧ h' = h)) args s rmX6_nextInTurn.cells rmX6_nextInTurn.slots (A0 sz0)) h 0 0 [some (.ref (A 1)), some (va_rf (clO A (nxW wt bd q.toNat))), some (.int (iI (q))), none] 4 [] := by
    intro nn
    induction nn with
    | zero => intro q i1 hn; exact absurd hn (Nat.not_lt_zero _)
    | succ nn ih =>
      intro q i1 hn
      refine r_iload_n B dX6_nextInTurn_4 rfl ?_
      refine r_aload_n B dX6_nextInTurn_5 rfl rfl ?_
      refine r_alen_q B dX6_nextInTurn_6 rfl hQC ?_
      refine r_icmp_ge B dX6_nextInTurn_7 (tgt := 48) (by decide) (by omega) (by omega) (fun c7 => ?_) (fun c7 => ?_)
      · have hq4 : q = 4 := by omega
        subst hq4
        refine r_aload_n B dX6_nextInTurn_48 rfl (va_rf_isRef _) ?_
        exact r_aret B hr hlk dX6_nextInTurn_49 (va_rf_isRef _) (Nat.le_of_ble_eq_true rfl) (Nat.le_of_ble_eq_true rfl) ⟨rfl, rfl⟩
      · have hb9 := hbd q i1.1 (by omega)
        have hw9 := hwt q i1.1 (by omega)
        refine r_aload_n B dX6_nextInTurn_10 rfl rfl ?_
        refine r_iload_n B dX6_nextInTurn_11 rfl ?_
        refine r_aald B dX6_nextInTurn_12 rfl hQC (by decide) (by omega) (by omega) ?_
        refine r_topr (hfc q i1.1 (by omega)) ?_
        refine r_astore_n B dX6_nextInTurn_13 rfl rfl (by decide) (lcat_v rfl rfl) ?_
        refine r_aload_n B dX6_nextInTurn_14 rfl rfl ?_
        refine r_ifnull_r B dX6_nextInTurn_15 ?_
        refine r_aload_n B dX6_nextInTurn_18 rfl rfl ?_
        refine r_get (C := RX3) (T := TX3) (N := 13) (ci := 3) B dX6_nextInTurn_19 in_X6_nextInTurn_X3 rfl 10 (by decide) w_X6_nextInTurn_f41 rfl (hC.cl i1.1 (by omega)) rfl ?_
        refine r_if_eq B dX6_nextInTurn_22 (tgt := 42) (by decide) (by omega) (fun c22 => ?_) (fun c22 => ?_)
        · refine r_iinc B dX6_nextInTurn_42 rfl (by decide) (lcat_v rfl (va_rf_cat _)) ?_
          refine r_goto B dX6_nextInTurn_45 (tgt := 4) (by decide) ?_
          rw [← nxW_f (wt := wt) (bd := bd) i1.1 (fun y => y.1 c22)]
          exact r_lv (lvLe_s rfl (lvLe_s rfl (lvLe_s rfl (lvLe_n lvLe_nil)))) (ih (q + 1) (by omega) (by omega))
        · refine r_aload_n B dX6_nextInTurn_25 rfl (va_rf_isRef _) ?_
          refine r_ifnull B dX6_nextInTurn_26 (tgt := 40) (by decide) (fun c26 => ?_) (fun a26 c26 => ?_)
          · refine r_aload_n B dX6_nextInTurn_40 rfl rfl ?_
            refine r_topq ?_
            refine r_topv (o' := clO A (nxW wt bd (q + 1).toNat)) (by rw [nxW_t i1.1 ⟨c22, Or.inl (by have := clO_none c26; have := nxW_rng wt bd q.toNat; omega)⟩, clO_i i1.1]) ?_
            refine r_astore_n B dX6_nextInTurn_41 rfl (va_rf_isRef _) (by decide) (lcat_v rfl rfl) ?_
            refine r_iinc B dX6_nextInTurn_42 rfl (by decide) (lcat_v rfl (va_rf_cat _)) ?_
            refine r_goto B dX6_nextInTurn_45 (tgt := 4) (by decide) ?_
            exact r_lv (lvLe_s rfl (lvLe_s rfl (lvLe_s rfl (lvLe_n lvLe_nil)))) (ih (q + 1) (by omega) (by omega))
          · refine r_aload_n B dX6_nextInTurn_29 rfl rfl ?_
            refine r_get (C := RX3) (T := TX3) (N := 13) (ci := 3) B dX6_nextInTurn_30 in_X6_nextInTurn_X3 rfl 3 (by decide) w_X6_nextInTurn_f56 rfl (hC.cl i1.1 (by omega)) rfl ?_
            refine r_aload_n B dX6_nextInTurn_33 rfl (va_rf_isRef _) ?_
            refine r_topr (clO_some c26).2 ?_
            have hb8 := hbd _ (clO_some c26).1 (by have := nxW_rng wt bd q.toNat; omega)
            refine r_get (C := RX3) (T := TX3) (N := 13) (ci := 3) B dX6_nextInTurn_34 in_X6_nextInTurn_X3 rfl 3 (by decide) w_X6_nextInTurn_f56 rfl (hC.cl (clO_some c26).1 (by have := nxW_rng wt bd q.toNat; omega)) rfl ?_
            refine r_icmp_le B dX6_nextInTurn_37 (tgt := 42) (by decide) (by omega) (by omega) (fun c37 => ?_) (fun c37 => ?_)
            · refine r_iinc B dX6_nextInTurn_42 rfl (by decide) (lcat_v rfl (va_rf_cat _)) ?_
              refine r_goto B dX6_nextInTurn_45 (tgt := 4) (by decide) ?_
              rw [← nxW_f (wt := wt) (bd := bd) i1.1 (fun y => by have hr9 := nxW_rng wt bd q.toNat; have hs9 := (clO_some c26).1; omega)]
              exact r_lv (lvLe_s rfl (lvLe_s rfl (lvLe_s rfl (lvLe_n lvLe_nil)))) (ih (q + 1) (by omega) (by omega))
            · refine r_aload_n B dX6_nextInTurn_40 rfl rfl ?_
              refine r_topq ?_
              refine r_topv (o' := clO A (nxW wt bd (q + 1).toNat)) (by rw [nxW_t i1.1 ⟨c22, Or.inr (by omega)⟩, clO_i i1.1]) ?_
              refine r_astore_n B dX6_nextInTurn_41 rfl (va_rf_isRef _) (by decide) (lcat_v rfl rfl) ?_
              refine r_iinc B dX6_nextInTurn_42 rfl (by decide) (lcat_v rfl (va_rf_cat _)) ?_
              refine r_goto B dX6_nextInTurn_45 (tgt := 4) (by decide) ?_
              exact r_lv (lvLe_s rfl (lvLe_s rfl (lvLe_s rfl (lvLe_n lvLe_nil)))) (ih (q + 1) (by omega) (by omega))
  exact r_lv (lvLe_s rfl (lvLe_s rfl (lvLe_s rfl (lvLe_n lvLe_nil)))) (loop4 _ 0 (by omega) (Nat.lt_succ_self _))
abbrev rmX6_setPrices : Room := { frames := 1, cells := 0, slots := 0, locals := 40 }
theorem in_X6_setPrices_X6 : ∀ w ∈ wsX60, w ∈ wsX6_setPrices := by decide +kernel
theorem w_X6_setPrices_f21 : Cond.fieldLink RX6 21 "DeltaNights$Market" "reserve" "I" ∈ wsX6_setPrices := by decide +kernel
theorem w_X6_setPrices_f11 : Cond.fieldLink RX6 11 "DeltaNights$Market" "turns" "[LDeltaNights$Client;" ∈ wsX6_setPrices := by decide +kernel
theorem in_X6_setPrices_X3 : ∀ w ∈ wsX30, w ∈ wsX6_setPrices := by decide +kernel
theorem w_X6_setPrices_f34 : Cond.fieldLink RX6 34 "DeltaNights$Client" "gets" "I" ∈ wsX6_setPrices := by decide +kernel
theorem w_X6_setPrices_f64 : Cond.fieldLink RX6 64 "DeltaNights$Client" "price" "I" ∈ wsX6_setPrices := by decide +kernel
theorem w_X6_setPrices_f56 : Cond.fieldLink RX6 56 "DeltaNights$Client" "bid" "I" ∈ wsX6_setPrices := by decide +kernel
set_option maxHeartbeats 4000000 in
set_option maxRecDepth 100000 in
theorem ct_X6_setPrices (l : Launch) (g : GG) (sz0 : Nat) {A : Nat → Nat} (hA : AOK A) {h0 h : AH} {ng : Int} {bt : Int} {ls : Int} {ms : Int} {rm : Int} {rs : Int} {mo : Int} {sp : Int} {kp : Int} {hl : Option Nat} {tq : Int → Option Nat} {G : Int → Int → Int} {Eg : Int → Int → Int} {sz : Int → Int} {pt : Int → Int} {bd : Int → Int} {bo : Int → Int} {cp : Int → Int} {pr : Int → Int} {co : Int → Int} {pa : Int → Int} {ow : Int → Int} {wt : Int → Int} {gt : Int → Int} {pc : Int → Int} {LN : Int → Int → Option Nat} {lt : Int → Option Nat} (hC : CW g A h0 ng bt ls ms rm rs mo sp kp hl tq G Eg sz pt bd bo cp pr co pa ow wt gt pc LN lt h) {tu : Int → Int} (hrs : 0 ≤ rs ∧ rs ≤ 100) (hbd : ∀ x : Int, 0 ≤ x → x ≤ 3 → 0 ≤ bd x ∧ bd x ≤ 100) (hgt : ∀ x : Int, 0 ≤ x → x ≤ 3 → 0 ≤ gt x ∧ gt x ≤ 2) (htu : ∀ i : Int, 0 ≤ i → i < 4 → tq i = clO A (tu i) ∧ -1 ≤ tu i ∧ tu i ≤ 3)  : CT l yX6_setPrices wsX6_setPrices rmX6_setPrices g sz0 [.ref (A 4)] h (fun v h' => v = none ∧ CW g A h0 ng bt ls ms rm rs mo sp kp hl tq G Eg sz pt bd bo cp pr co pa ow wt gt (prS gt bd tu rs pc 4).2 LN lt h') := by
  refine CT.of (by decide +kernel) rfl [some (.ref (A 4)), none, none, none] rfl (Nat.le_of_ble_eq_true rfl) ?_
  intro p e s m args below meth c B hr hlk hnm
  have hpr := prS_rng (gt := gt) (pc := pc) hrs hbd (fun i i0 i1 => (htu i i0 i1).2.2)
  refine r_aload_n B dX6_setPrices_0 rfl rfl ?_
  refine r_get (C := RX6) (T := TX6) (N := 3) (ci := 6) B dX6_setPrices_1 in_X6_setPrices_X6 rfl 2 (by decide) w_X6_setPrices_f21 rfl hC.mt rfl ?_
  refine r_istore_n B dX6_setPrices_4 rfl (by decide) (lcat_v rfl rfl) ?_
  refine r_aload_n B dX6_setPrices_5 rfl rfl ?_
  refine r_get (C := RX6) (T := TX6) (N := 3) (ci := 6) B dX6_setPrices_6 in_X6_setPrices_X6 rfl 0 (by decide) w_X6_setPrices_f11 rfl hC.mt rfl ?_
  refine r_alen_q B dX6_setPrices_9 rfl hC.tu ?_
  refine r_iconst B dX6_setPrices_10 ?_
  refine r_isub B dX6_setPrices_11 ?_
  refine r_istore_n B dX6_setPrices_12 rfl (by decide) (lcat_v rfl rfl) ?_
  have loop13 : ∀ (nn : Nat) (q : Int) (h : AH), CW g A h0 ng bt ls ms rm rs mo sp kp hl tq G Eg sz pt bd bo cp pr co pa ow wt gt (prS gt bd tu rs pc (3 - q).toNat).2 LN lt h → (-1 ≤ q ∧ q ≤ 3) → (q + 1).toNat < nn → WA p l e rmX6_setPrices s m args below meth c g sz0 4 (MQ below (QQ g sz0 (fun v h' => v = none ∧ CW g A h0 ng bt ls ms rm rs mo sp kp hl tq G Eg sz pt bd bo cp pr co pa ow wt gt (prS gt bd tu rs pc 4).2 LN lt h')) args s rmX6_setPrices.cells rmX6_setPrices.slots (A0 sz0)) h 0 0 [some (.ref (A 4)), some (.int (iI ((prS gt bd tu rs pc (3 - q).toNat).1))), some (.int (iI (q))), none] 13 [] := by
    intro nn
    induction nn with
    | zero => intro q h hC i1 hn; exact absurd hn (Nat.not_lt_zero _)
    | succ nn ih =>
      intro q h hC i1 hn
      refine r_iload_n B dX6_setPrices_13 rfl ?_
      refine r_if_lt B dX6_setPrices_14 (tgt := 61) (by decide) (by omega) (fun c14 => ?_) (fun c14 => ?_)
      · exact r_vret B hr hlk dX6_setPrices_61 (Nat.le_of_ble_eq_true rfl) (Nat.le_of_ble_eq_true rfl) ⟨rfl, by rw [show q = -1 by omega] at hC; exact hC⟩
      · have hp9 := hpr (3 - q).toNat (by omega)
        have ht9 := htu q (by omega) (by omega)
        refine r_aload_n B dX6_setPrices_17 rfl rfl ?_
        refine r_get (C := RX6) (T := TX6) (N := 3) (ci := 6) B dX6_setPrices_18 in_X6_setPrices_X6 rfl 0 (by decide) w_X6_setPrices_f11 rfl hC.mt rfl ?_
        refine r_iload_n B dX6_setPrices_21 rfl ?_
        refine r_aald B dX6_setPrices_22 rfl hC.tu (by decide) (by omega) (by omega) ?_
        refine r_topv ht9.1 ?_
        refine r_astore_n B dX6_setPrices_23 rfl (va_rf_isRef _) (by decide) (lcat_v rfl rfl) ?_
        refine r_aload_n B dX6_setPrices_24 rfl (va_rf_isRef _) ?_
        refine r_ifnonnull B dX6_setPrices_25 (tgt := 31) (by decide) (fun a25 c25 => ?_) (fun c25 => ?_)
        · have hz9 := (clO_some c25).1
          have hg9 := hgt _ hz9 ht9.2.2
          have hb9 := hbd _ hz9 ht9.2.2
          refine r_aload_n B dX6_setPrices_31 rfl (va_rf_isRef _) ?_
          refine r_topr (clO_some c25).2 ?_
          refine r_get (C := RX3) (T := TX3) (N := 13) (ci := 3) B dX6_setPrices_32 in_X6_setPrices_X3 rfl 11 (by decide) w_X6_setPrices_f34 rfl (hC.cl (clO_some c25).1 ht9.2.2) rfl ?_
          refine r_if_ne B dX6_setPrices_35 (tgt := 50) (by decide) (by omega) (fun c35 => ?_) (fun c35 => ?_)
          · refine r_aload_n B dX6_setPrices_50 rfl (va_rf_isRef _) ?_
            refine r_topr (clO_some c25).2 ?_
            refine r_iload_n B dX6_setPrices_51 rfl ?_
            refine r_put (C := RX3) (T := TX3) (N := 13) (ci := 3) B dX6_setPrices_52 in_X6_setPrices_X3 tyX3 tyX3_ok nmX3 rfl 12 (by decide) w_X6_setPrices_f64 rfl rfl (ty := .int) (by decide +kernel) rfl rfl (hC.cl (clO_some c25).1 ht9.2.2) (by show 12 < 13; decide) ?_
            refine k_next (P := fun x9 => CW g A h0 ng bt ls ms rm rs mo sp kp hl tq G Eg sz pt bd bo cp pr co pa ow wt gt (upZ (prS gt bd tu rs pc (3 - q).toNat).2 (tu q) (prS gt bd tu rs pc (3 - q).toNat).1) LN lt x9) (hC.s_pc hA hz9 ht9.2.2) (fun h hC => ?_)
            refine r_iinc B dX6_setPrices_55 rfl (by decide) (lcat_v rfl rfl) ?_
            refine r_goto B dX6_setPrices_58 (tgt := 13) (by decide) ?_
            have e9 := prS_1 (gt := gt) (bd := bd) (rs := rs) (pc := pc) (tu := tu) (q := q) (by omega) hz9 c35
            have e8 := congrArg Prod.fst e9
            have e7 := congrArg Prod.snd e9
            replace e8 : (prS gt bd tu rs pc (3 - (q - 1)).toNat).1 = (prS gt bd tu rs pc (3 - q).toNat).1 := e8
            rw [← e8]
            replace hC : CW g A h0 ng bt ls ms rm rs mo sp kp hl tq G Eg sz pt bd bo cp pr co pa ow wt gt (prS gt bd tu rs pc (3 - (q - 1)).toNat).2 LN lt h := by rw [e7]; exact hC
            exact r_lv (lvLe_s rfl (lvLe_s rfl (lvLe_s rfl (lvLe_n lvLe_nil)))) (ih (q - 1) h hC (by omega) (by omega))
          · refine r_iload_n B dX6_setPrices_38 rfl ?_
            refine r_aload_n B dX6_setPrices_39 rfl (va_rf_isRef _) ?_
            refine r_topr (clO_some c25).2 ?_
            refine r_get (C := RX3) (T := TX3) (N := 13) (ci := 3) B dX6_setPrices_40 in_X6_setPrices_X3 rfl 3 (by decide) w_X6_setPrices_f56 rfl (hC.cl (clO_some c25).1 ht9.2.2) rfl ?_
            refine r_mmax B dX6_setPrices_43 (by decide +kernel) (by decide +kernel) (by decide +kernel) (by decide +kernel) (by omega) (by omega) (Nat.le_of_ble_eq_true rfl) (Nat.le_of_ble_eq_true rfl) (Nat.le_of_ble_eq_true rfl) (Nat.le_of_ble_eq_true rfl) ?_
            refine r_istore_n B dX6_setPrices_46 rfl (by decide) (lcat_v rfl rfl) ?_
            refine r_goto B dX6_setPrices_47 (tgt := 55) (by decide) ?_
            refine r_iinc B dX6_setPrices_55 rfl (by decide) (lcat_v rfl rfl) ?_
            refine r_goto B dX6_setPrices_58 (tgt := 13) (by decide) ?_
            have e9 := prS_0 (gt := gt) (bd := bd) (rs := rs) (pc := pc) (tu := tu) (q := q) (by omega) hz9 c35
            have e8 := congrArg Prod.fst e9
            have e7 := congrArg Prod.snd e9
            replace e8 : (prS gt bd tu rs pc (3 - (q - 1)).toNat).1 = mxZ (prS gt bd tu rs pc (3 - q).toNat).1 (bd (tu q)) := e8
            rw [← e8]
            replace hC : CW g A h0 ng bt ls ms rm rs mo sp kp hl tq G Eg sz pt bd bo cp pr co pa ow wt gt (prS gt bd tu rs pc (3 - (q - 1)).toNat).2 LN lt h := by rw [e7]; exact hC
            exact r_lv (lvLe_s rfl (lvLe_s rfl (lvLe_s rfl (lvLe_n lvLe_nil)))) (ih (q - 1) h hC (by omega) (by omega))
        · refine r_goto B dX6_setPrices_28 (tgt := 55) (by decide) ?_
          refine r_iinc B dX6_setPrices_55 rfl (by decide) (lcat_v rfl rfl) ?_
          refine r_goto B dX6_setPrices_58 (tgt := 13) (by decide) ?_
          have hz9 := clO_none c25
          have e9 := prS_n (gt := gt) (bd := bd) (rs := rs) (pc := pc) (tu := tu) (q := q) (by omega) hz9
          rw [← e9] at hC ⊢
          exact r_lv (lvLe_s rfl (lvLe_s rfl (lvLe_s rfl (lvLe_n lvLe_nil)))) (ih (q - 1) h hC (by omega) (by omega))
  exact r_lv (lvLe_s rfl (lvLe_s rfl (lvLe_s rfl (lvLe_n lvLe_nil)))) (loop13 _ 3 h hC (by omega) (Nat.lt_succ_self _))
