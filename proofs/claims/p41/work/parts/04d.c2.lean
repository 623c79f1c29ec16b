abbrev rmX0_endPart : Room := { frames := 0, cells := 0, slots := 0, locals := 0 }
theorem in_X0_endPart_X0 : ∀ w ∈ wsX00, w ∈ wsX0_endPart := by decide +kernel
theorem w_X0_endPart_f22 : Cond.fieldLink RX0 22 "DeltaNights$ByteFile" "parts" "I" ∈ wsX0_endPart := by decide +kernel
theorem w_X0_endPart_f15 : Cond.fieldLink RX0 15 "DeltaNights$ByteFile" "ends" "[I" ∈ wsX0_endPart := by decide +kernel
set_option maxHeartbeats 4000000 in
set_option maxRecDepth 100000 in
theorem ct_X0_endPart (l : Launch) (g : GG) (sz0 : Nat) {h h0 : AH} {f ac ae : Nat} {G Eg : Int → Int} {sz pt : Int} (hF : FL g f ac ae G Eg sz pt h0 h) (x : Int) (hp : pt < 48) (qx : -2147483648 ≤ x ∧ x < 2147483648) : CT l yX0_endPart wsX0_endPart rmX0_endPart g sz0 [.ref f, .int (iI (x))] h (fun v h' => v = none ∧ FL g f ac ae G (upZ Eg pt x) sz (pt + 1) h0 h') := by
  refine CT.of (by decide +kernel) rfl [some (.ref f), some (.int (iI (x)))] rfl (Nat.le_of_ble_eq_true rfl) ?_
  intro p e s m args below meth c B hr hlk hnm
  have hs9 := hF.t
  refine r_aload_n B dX0_endPart_0 rfl rfl ?_
  refine r_get (C := RX0) (T := TX0) (N := 4) (ci := 0) B dX0_endPart_1 in_X0_endPart_X0 rfl 3 (by decide) w_X0_endPart_f22 rfl hF.1 rfl ?_
  refine r_if_lt B dX0_endPart_4 (tgt := 39) (by decide) (by omega) (fun c4 => ?_) (fun c4 => ?_)
  · exact r_vret B hr hlk dX0_endPart_39 (Nat.le_of_ble_eq_true rfl) (Nat.le_of_ble_eq_true rfl) (by exfalso; omega)
  · refine r_aload_n B dX0_endPart_7 rfl rfl ?_
    refine r_get (C := RX0) (T := TX0) (N := 4) (ci := 0) B dX0_endPart_8 in_X0_endPart_X0 rfl 3 (by decide) w_X0_endPart_f22 rfl hF.1 rfl ?_
    refine r_aload_n B dX0_endPart_11 rfl rfl ?_
    refine r_get (C := RX0) (T := TX0) (N := 4) (ci := 0) B dX0_endPart_12 in_X0_endPart_X0 rfl 1 (by decide) w_X0_endPart_f15 rfl hF.1 rfl ?_
    refine r_alen_i B dX0_endPart_15 hF.2.2.1 ?_
    refine r_icmp_ge B dX0_endPart_16 (tgt := 39) (by decide) (by omega) (by omega) (fun c16 => ?_) (fun c16 => ?_)
    · exact r_vret B hr hlk dX0_endPart_39 (Nat.le_of_ble_eq_true rfl) (Nat.le_of_ble_eq_true rfl) (by exfalso; omega)
    · refine r_aload_n B dX0_endPart_19 rfl rfl ?_
      refine r_get (C := RX0) (T := TX0) (N := 4) (ci := 0) B dX0_endPart_20 in_X0_endPart_X0 rfl 1 (by decide) w_X0_endPart_f15 rfl hF.1 rfl ?_
      refine r_aload_n B dX0_endPart_23 rfl rfl ?_
      refine r_get (C := RX0) (T := TX0) (N := 4) (ci := 0) B dX0_endPart_24 in_X0_endPart_X0 rfl 3 (by decide) w_X0_endPart_f22 rfl hF.1 rfl ?_
      refine r_iload_n B dX0_endPart_27 rfl ?_
      refine r_iast B dX0_endPart_28 hF.2.2.1 (by decide) (by omega) (by omega) ?_
      refine k_next (P := FL g f ac ae G (upZ Eg pt x) sz pt h0) (hF.end (by omega)) (fun h hF => ?_)
      refine r_aload_n B dX0_endPart_29 rfl rfl ?_
      refine r_dup B dX0_endPart_30 rfl ?_
      refine r_get (C := RX0) (T := TX0) (N := 4) (ci := 0) B dX0_endPart_31 in_X0_endPart_X0 rfl 3 (by decide) w_X0_endPart_f22 rfl hF.1 rfl ?_
      refine r_iconst B dX0_endPart_34 ?_
      refine r_iadd B dX0_endPart_35 ?_
      refine r_put (C := RX0) (T := TX0) (N := 4) (ci := 0) B dX0_endPart_36 in_X0_endPart_X0 tyX0 tyX0_ok nmX0 rfl 3 (by decide) w_X0_endPart_f22 rfl rfl (ty := .int) (by decide +kernel) rfl rfl hF.1 (by show 3 < 4; decide) ?_
      refine k_next (P := FL g f ac ae G (upZ Eg pt x) sz (pt + 1) h0) (hF.par (by omega)) (fun h hF => ?_)
      exact r_vret B hr hlk dX0_endPart_39 (Nat.le_of_ble_eq_true rfl) (Nat.le_of_ble_eq_true rfl) ⟨rfl, hF⟩
abbrev rmX0_partEnd : Room := { frames := 0, cells := 0, slots := 0, locals := 0 }
theorem in_X0_partEnd_X0 : ∀ w ∈ wsX00, w ∈ wsX0_partEnd := by decide +kernel
theorem w_X0_partEnd_f22 : Cond.fieldLink RX0 22 "DeltaNights$ByteFile" "parts" "I" ∈ wsX0_partEnd := by decide +kernel
theorem w_X0_partEnd_f15 : Cond.fieldLink RX0 15 "DeltaNights$ByteFile" "ends" "[I" ∈ wsX0_partEnd := by decide +kernel
set_option maxHeartbeats 4000000 in
set_option maxRecDepth 100000 in
theorem ct_X0_partEnd (l : Launch) (g : GG) (sz0 : Nat) {h h0 : AH} {f ac ae : Nat} {G Eg : Int → Int} {sz pt : Int} (hF : FL g f ac ae G Eg sz pt h0 h) (x : Int) (qx : -2147483648 ≤ x ∧ x < 2147483648) : CT l yX0_partEnd wsX0_partEnd rmX0_partEnd g sz0 [.ref f, .int (iI (x))] h (fun v h' => v = some (.int (iI (ptF Eg pt x))) ∧ h' = h) := by
  refine CT.of (by decide +kernel) rfl [some (.ref f), some (.int (iI (x)))] rfl (Nat.le_of_ble_eq_true rfl) ?_
  intro p e s m args below meth c B hr hlk hnm
  have hs9 := hF.t
  refine r_iload_n B dX0_partEnd_0 rfl ?_
  refine r_if_lt B dX0_partEnd_1 (tgt := 30) (by decide) (by omega) (fun c1 => ?_) (fun c1 => ?_)
  · refine r_iconst B dX0_partEnd_30 ?_
    exact r_iret B hr hlk dX0_partEnd_31 (Nat.le_of_ble_eq_true rfl) (Nat.le_of_ble_eq_true rfl) ⟨by first | (exfalso; omega) | rw [ptF_in (by omega)] | rw [ptF_out (by omega)], rfl⟩
  · refine r_iload_n B dX0_partEnd_4 rfl ?_
    refine r_aload_n B dX0_partEnd_5 rfl rfl ?_
    refine r_get (C := RX0) (T := TX0) (N := 4) (ci := 0) B dX0_partEnd_6 in_X0_partEnd_X0 rfl 3 (by decide) w_X0_partEnd_f22 rfl hF.1 rfl ?_
    refine r_icmp_ge B dX0_partEnd_9 (tgt := 30) (by decide) (by omega) (by omega) (fun c9 => ?_) (fun c9 => ?_)
    · refine r_iconst B dX0_partEnd_30 ?_
      exact r_iret B hr hlk dX0_partEnd_31 (Nat.le_of_ble_eq_true rfl) (Nat.le_of_ble_eq_true rfl) ⟨by first | (exfalso; omega) | rw [ptF_in (by omega)] | rw [ptF_out (by omega)], rfl⟩
    · refine r_iload_n B dX0_partEnd_12 rfl ?_
      refine r_aload_n B dX0_partEnd_13 rfl rfl ?_
      refine r_get (C := RX0) (T := TX0) (N := 4) (ci := 0) B dX0_partEnd_14 in_X0_partEnd_X0 rfl 1 (by decide) w_X0_partEnd_f15 rfl hF.1 rfl ?_
      refine r_alen_i B dX0_partEnd_17 hF.2.2.1 ?_
      refine r_icmp_ge B dX0_partEnd_18 (tgt := 30) (by decide) (by omega) (by omega) (fun c18 => ?_) (fun c18 => ?_)
      · refine r_iconst B dX0_partEnd_30 ?_
        exact r_iret B hr hlk dX0_partEnd_31 (Nat.le_of_ble_eq_true rfl) (Nat.le_of_ble_eq_true rfl) ⟨by first | (exfalso; omega) | rw [ptF_in (by omega)] | rw [ptF_out (by omega)], rfl⟩
      · refine r_aload_n B dX0_partEnd_21 rfl rfl ?_
        refine r_get (C := RX0) (T := TX0) (N := 4) (ci := 0) B dX0_partEnd_22 in_X0_partEnd_X0 rfl 1 (by decide) w_X0_partEnd_f15 rfl hF.1 rfl ?_
        refine r_iload_n B dX0_partEnd_25 rfl ?_
        refine r_iald B dX0_partEnd_26 hF.2.2.1 (by decide) (by omega) (by omega) ?_
        refine r_goto B dX0_partEnd_27 (tgt := 31) (by decide) ?_
        exact r_iret B hr hlk dX0_partEnd_31 (Nat.le_of_ble_eq_true rfl) (Nat.le_of_ble_eq_true rfl) ⟨by first | (exfalso; omega) | rw [ptF_in (by omega)] | rw [ptF_out (by omega)], rfl⟩
abbrev rmX0_sameRuns : Room := { frames := 1, cells := 0, slots := 0, locals := 21 }
set_option maxHeartbeats 4000000 in
set_option maxRecDepth 100000 in
theorem ct_X0_sameRuns (l : Launch) (g : GG) (sz0 : Nat) {h h0 : AH} {f ac ae : Nat} {G Eg : Int → Int} {sz pt : Int} (hF : FL g f ac ae G Eg sz pt h0 h) (x y w : Int) (hx : 0 ≤ x ∧ x ≤ 48) (hy : 0 ≤ y ∧ y ≤ 48) (hw : 0 ≤ w ∧ w ≤ 48) : CT l yX0_sameRuns wsX0_sameRuns rmX0_sameRuns g sz0 [.ref f, .int (iI (x)), .int (iI (y)), .int (iI (w))] h (fun v h' => v = some (.int (iI (bI (allN (fun j => byF G (x + j) = byF G (y + j)) w)))) ∧ h' = h) := by
  refine CT.of (by decide +kernel) rfl [some (.ref f), some (.int (iI (x))), some (.int (iI (y))), some (.int (iI (w))), none] rfl (Nat.le_of_ble_eq_true rfl) ?_
  intro p e s m args below meth c B hr hlk hnm
  refine r_iconst B dX0_sameRuns_0 ?_
  refine r_istore B dX0_sameRuns_1 (by decide) (lcat_v rfl rfl) ?_
  have loop3 : ∀ (nn : Nat) (q : Int), (0 ≤ q ∧ q ≤ w) → (allN (fun j => byF G (x + j) = byF G (y + j)) q) → (w - q).toNat < nn → WA p l e rmX0_sameRuns s m args below meth c g sz0 5 (MQ below (QQ g sz0 (fun v h' => v = some (.int (iI (bI (allN (fun j => byF G (x + j) = byF G (y + j)) w)))) ∧ h' = h)) args s rmX0_sameRuns.cells rmX0_sameRuns.slots (A0 sz0)) h 0 0 [some (.ref f), some (.int (iI (x))), some (.int (iI (y))), some (.int (iI (w))), some (.int (iI (q)))] 3 [] := by
    intro nn
    induction nn with
    | zero => intro q i1 i2 hn; exact absurd hn (Nat.not_lt_zero _)
    | succ nn ih =>
      intro q i1 i2 hn
      refine r_iload B dX0_sameRuns_3 rfl ?_
      refine r_iload_n B dX0_sameRuns_5 rfl ?_
      refine r_icmp_ge B dX0_sameRuns_6 (tgt := 36) (by decide) (by omega) (by omega) (fun c6 => ?_) (fun c6 => ?_)
      · refine r_iconst B dX0_sameRuns_36 ?_
        exact r_zret B hr hlk dX0_sameRuns_37 (Nat.le_of_ble_eq_true rfl) (Nat.le_of_ble_eq_true rfl) (by first | exact nar_0 | exact nar_1 | exact nar_bI _) ⟨by rw [bI_t (show allN (fun j => byF G (x + j) = byF G (y + j)) w by rw [show w = q by omega]; exact i2)], rfl⟩
      · refine r_aload_n B dX0_sameRuns_9 rfl rfl ?_
        refine r_iload_n B dX0_sameRuns_10 rfl ?_
        refine r_iload B dX0_sameRuns_11 rfl ?_
        refine r_iadd B dX0_sameRuns_13 ?_
        refine r_callV (n := 1) B dX0_sameRuns_14 (ct_X0_byteAt l g sz0 hF _ (by omega)) gX0_sameRuns_X0_byteAt rfl (by decide +kernel) ⟨Nat.le_of_ble_eq_true rfl, Nat.le_of_ble_eq_true rfl⟩ hF.1 rfl rfl rfl (Nat.le_of_ble_eq_true rfl) (Nat.le_of_ble_eq_true rfl) (Nat.le_of_ble_eq_true rfl) (fun v h' hp => ?_)
        obtain ⟨hv, hh⟩ := hp
        subst v
        subst h'
        dsimp only [Option.toList, List.cons_append, List.nil_append]
        refine r_aload_n B dX0_sameRuns_17 rfl rfl ?_
        refine r_iload_n B dX0_sameRuns_18 rfl ?_
        refine r_iload B dX0_sameRuns_19 rfl ?_
        refine r_iadd B dX0_sameRuns_21 ?_
        refine r_callV (n := 1) B dX0_sameRuns_22 (ct_X0_byteAt l g sz0 hF _ (by omega)) gX0_sameRuns_X0_byteAt rfl (by decide +kernel) ⟨Nat.le_of_ble_eq_true rfl, Nat.le_of_ble_eq_true rfl⟩ hF.1 rfl rfl rfl (Nat.le_of_ble_eq_true rfl) (Nat.le_of_ble_eq_true rfl) (Nat.le_of_ble_eq_true rfl) (fun v h' hp => ?_)
        obtain ⟨hv, hh⟩ := hp
        subst v
        subst h'
        dsimp only [Option.toList, List.cons_append, List.nil_append]
        refine r_icmp_eq B dX0_sameRuns_25 (tgt := 30) (by decide) (byF_rng hF.r _) (byF_rng hF.r _) (fun c25 => ?_) (fun c25 => ?_)
        · refine r_iinc B dX0_sameRuns_30 rfl (by decide) (lcat_v rfl rfl) ?_
          refine r_goto B dX0_sameRuns_33 (tgt := 3) (by decide) ?_
          exact r_lv (lvLe_s rfl (lvLe_s rfl (lvLe_s rfl (lvLe_s rfl (lvLe_s rfl lvLe_nil))))) (ih (q + 1) (by omega) ((allN_s i1.1).mpr ⟨i2, c25⟩) (by omega))
        · refine r_iconst B dX0_sameRuns_28 ?_
          exact r_zret B hr hlk dX0_sameRuns_29 (Nat.le_of_ble_eq_true rfl) (Nat.le_of_ble_eq_true rfl) (by first | exact nar_0 | exact nar_1 | exact nar_bI _) ⟨by rw [bI_f (allN_ex i1.1 (by omega) c25)], rfl⟩
  exact r_lv (lvLe_s rfl (lvLe_s rfl (lvLe_s rfl (lvLe_s rfl (lvLe_s rfl lvLe_nil))))) (loop3 _ 0 (by omega) (allN_0 _) (Nat.lt_succ_self _))
abbrev rmX0_hasPartBefore : Room := { frames := 2, cells := 0, slots := 0, locals := 45 }
set_option maxHeartbeats 4000000 in
set_option maxRecDepth 100000 in
theorem ct_X0_hasPartBefore (l : Launch) (g : GG) (sz0 : Nat) {h h0 : AH} {f ac ae : Nat} {G Eg : Int → Int} {sz pt : Int} (hF : FL g f ac ae G Eg sz pt h0 h) (k u w : Int) (hk : 0 ≤ k ∧ k < pt) (hu : u = bgF Eg k) (hw : w = lnF Eg k) (hE : EOK Eg pt) : CT l yX0_hasPartBefore wsX0_hasPartBefore rmX0_hasPartBefore g sz0 [.ref f, .int (iI (k)), .int (iI (u)), .int (iI (w))] h (fun v h' => v = some (.int (iI (bI (¬ fstC (chk G Eg) k)))) ∧ h' = h) := by
  refine CT.of (by decide +kernel) rfl [some (.ref f), some (.int (iI (k))), some (.int (iI (u))), some (.int (iI (w))), none, none] rfl (Nat.le_of_ble_eq_true rfl) ?_
  intro p e s m args below meth c B hr hlk hnm
  have ht9 := hF.t
  have hk9 := hE k hk.1 hk.2
  have hw8 : w = Eg k - bgF Eg k := hw
  refine r_iconst B dX0_hasPartBefore_0 ?_
  refine r_istore B dX0_hasPartBefore_1 (by decide) (lcat_v rfl rfl) ?_
  have loop3 : ∀ (nn : Nat) (q : Int), (0 ≤ q ∧ q ≤ k) → (allN (fun j => chk G Eg j ≠ chk G Eg k) q) → (k - q).toNat < nn → WA p l e rmX0_hasPartBefore s m args below meth c g sz0 6 (MQ below (QQ g sz0 (fun v h' => v = some (.int (iI (bI (¬ fstC (chk G Eg) k)))) ∧ h' = h)) args s rmX0_hasPartBefore.cells rmX0_hasPartBefore.slots (A0 sz0)) h 0 0 [some (.ref f), some (.int (iI (k))), some (.int (iI (u))), some (.int (iI (w))), some (.int (iI (q))), none] 3 [] := by
    intro nn
    induction nn with
    | zero => intro q i1 i2 hn; exact absurd hn (Nat.not_lt_zero _)
    | succ nn ih =>
      intro q i1 i2 hn
      refine r_iload B dX0_hasPartBefore_3 rfl ?_
      refine r_iload_n B dX0_hasPartBefore_5 rfl ?_
      refine r_icmp_ge B dX0_hasPartBefore_6 (tgt := 51) (by decide) (by omega) (by omega) (fun c6 => ?_) (fun c6 => ?_)
      · refine r_iconst B dX0_hasPartBefore_51 ?_
        exact r_zret B hr hlk dX0_hasPartBefore_52 (Nat.le_of_ble_eq_true rfl) (Nat.le_of_ble_eq_true rfl) (by first | exact nar_0 | exact nar_1 | exact nar_bI _) ⟨by rw [bI_f (fun z => z (by show allN _ k; rw [show k = q by omega]; rw [show k = q by omega] at i2; exact i2))], rfl⟩
      · have hq9 := hE q i1.1 (by omega)
        refine r_aload_n B dX0_hasPartBefore_9 rfl rfl ?_
        refine r_iload B dX0_hasPartBefore_10 rfl ?_
        refine r_iconst B dX0_hasPartBefore_12 ?_
        refine r_isub B dX0_hasPartBefore_13 ?_
        refine r_callV (n := 1) B dX0_hasPartBefore_14 (ct_X0_partEnd l g sz0 hF _ (by omega)) gX0_hasPartBefore_X0_partEnd rfl (by decide +kernel) ⟨Nat.le_of_ble_eq_true rfl, Nat.le_of_ble_eq_true rfl⟩ hF.1 rfl rfl rfl (Nat.le_of_ble_eq_true rfl) (Nat.le_of_ble_eq_true rfl) (Nat.le_of_ble_eq_true rfl) (fun v h' hp => ?_)
        obtain ⟨hv, hh⟩ := hp
        subst v
        subst h'
        dsimp only [Option.toList, List.cons_append, List.nil_append]
        rw [ptF_bg i1.1 (by omega)]
        refine r_istore B dX0_hasPartBefore_17 (by decide) (lcat_v rfl rfl) ?_
        refine r_aload_n B dX0_hasPartBefore_19 rfl rfl ?_
        refine r_iload B dX0_hasPartBefore_20 rfl ?_
        refine r_callV (n := 1) B dX0_hasPartBefore_22 (ct_X0_partEnd l g sz0 hF _ (by omega)) gX0_hasPartBefore_X0_partEnd rfl (by decide +kernel) ⟨Nat.le_of_ble_eq_true rfl, Nat.le_of_ble_eq_true rfl⟩ hF.1 rfl rfl rfl (Nat.le_of_ble_eq_true rfl) (Nat.le_of_ble_eq_true rfl) (Nat.le_of_ble_eq_true rfl) (fun v h' hp => ?_)
        obtain ⟨hv, hh⟩ := hp
        subst v
        subst h'
        dsimp only [Option.toList, List.cons_append, List.nil_append]
        rw [ptF_in (by omega)]
        refine r_iload B dX0_hasPartBefore_25 rfl ?_
        refine r_isub B dX0_hasPartBefore_27 ?_
        refine r_iload_n B dX0_hasPartBefore_28 rfl ?_
        refine r_icmp_ne B dX0_hasPartBefore_29 (tgt := 45) (by decide) (by omega) (by omega) (fun c29 => ?_) (fun c29 => ?_)
        · refine r_iinc B dX0_hasPartBefore_45 rfl (by decide) (lcat_v rfl rfl) ?_
          refine r_goto B dX0_hasPartBefore_48 (tgt := 3) (by decide) ?_
          exact r_lv (lvLe_s rfl (lvLe_s rfl (lvLe_s rfl (lvLe_s rfl (lvLe_s rfl (lvLe_n lvLe_nil)))))) (ih (q + 1) (by omega) ((allN_s i1.1).mpr ⟨i2, fun z => c29 ((chk_at hq9 hk9 hw).mp z).1⟩) (by omega))
        · refine r_aload_n B dX0_hasPartBefore_32 rfl rfl ?_
          refine r_iload B dX0_hasPartBefore_33 rfl ?_
          refine r_iload_n B dX0_hasPartBefore_35 rfl ?_
          refine r_iload_n B dX0_hasPartBefore_36 rfl ?_
          refine r_callV (n := 3) B dX0_hasPartBefore_37 (ct_X0_sameRuns l g sz0 hF _ _ _ (by omega) (by omega) (by omega)) gX0_hasPartBefore_X0_sameRuns rfl (by decide +kernel) ⟨Nat.le_of_ble_eq_true rfl, Nat.le_of_ble_eq_true rfl⟩ hF.1 rfl rfl rfl (Nat.le_of_ble_eq_true rfl) (Nat.le_of_ble_eq_true rfl) (Nat.le_of_ble_eq_true rfl) (fun v h' hp => ?_)
          obtain ⟨hv, hh⟩ := hp
          subst v
          subst h'
          dsimp only [Option.toList, List.cons_append, List.nil_append]
          refine r_if_eq B dX0_hasPartBefore_40 (tgt := 45) (by decide) (bI_rng _) (fun c40 => ?_) (fun c40 => ?_)
          · replace c40 := bI_0.mp c40
            refine r_iinc B dX0_hasPartBefore_45 rfl (by decide) (lcat_v rfl rfl) ?_
            refine r_goto B dX0_hasPartBefore_48 (tgt := 3) (by decide) ?_
            exact r_lv (lvLe_s rfl (lvLe_s rfl (lvLe_s rfl (lvLe_s rfl (lvLe_s rfl (lvLe_n lvLe_nil)))))) (ih (q + 1) (by omega) ((allN_s i1.1).mpr ⟨i2, fun z => c40 (by have := ((chk_at hq9 hk9 hw).mp z).2; rw [hu]; exact this)⟩) (by omega))
          · replace c40 := bI_n0.mp c40
            refine r_iconst B dX0_hasPartBefore_43 ?_
            exact r_zret B hr hlk dX0_hasPartBefore_44 (Nat.le_of_ble_eq_true rfl) (Nat.le_of_ble_eq_true rfl) (by first | exact nar_0 | exact nar_1 | exact nar_bI _) ⟨by rw [bI_t (fun z => z q i1.1 (by omega) ((chk_at hq9 hk9 hw).mpr ⟨c29, by rw [← hu]; exact c40⟩))], rfl⟩
  exact r_lv (lvLe_s rfl (lvLe_s rfl (lvLe_s rfl (lvLe_s rfl (lvLe_s rfl (lvLe_n lvLe_nil)))))) (loop3 _ 0 (by omega) (allN_0 _) (Nat.lt_succ_self _))
