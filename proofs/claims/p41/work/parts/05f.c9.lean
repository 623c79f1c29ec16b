abbrev rmX0_append : Room := { frames := 1, cells := 0, slots := 0, locals := 21 }
theorem in_X0_append_X0 : ∀ w ∈ wsX00, w ∈ wsX0_append := by decide +kernel
theorem w_X0_append_f18 : Cond.fieldLink RX0 18 "DeltaNights$ByteFile" "size" "I" ∈ wsX0_append := by decide +kernel
theorem w_X0_append_f9 : Cond.fieldLink RX0 9 "DeltaNights$ByteFile" "cells" "[I" ∈ wsX0_append := by decide +kernel
set_option maxHeartbeats 4000000 in
set_option maxRecDepth 100000 in
theorem ct_X0_append_same (l : Launch) (g : GG) (sz0 : Nat) {h h0 : AH} {f ac ae : Nat} {G Eg : Int → Int} {sz pt : Int} (hF : FL g f ac ae G Eg sz pt h0 h) (x w : Int) (hx : 0 ≤ x ∧ 0 ≤ w ∧ x + w ≤ sz ∧ sz + w ≤ 48) : CT l yX0_append wsX0_append rmX0_append g sz0 [.ref f, .ref f, .int (iI (x)), .int (iI (w))] h (fun v h' => v = none ∧ FL g f ac ae (appF G G sz x w) Eg (sz + w) pt h0 h') := by
  refine CT.of (by decide +kernel) rfl [some (.ref f), some (.ref f), some (.int (iI (x))), some (.int (iI (w))), none] rfl (Nat.le_of_ble_eq_true rfl) ?_
  intro p e s m args below meth c B hr hlk hnm
  have hs9 := hF.s
  have hG2 := hF.r
  refine r_iconst B dX0_append_0 ?_
  refine r_istore B dX0_append_1 (by decide) (lcat_v rfl rfl) ?_
  have loop3 : ∀ (nn : Nat) (q : Int) (h : AH), FL g f ac ae (appF G G sz x q) Eg (sz + q) pt h0 h → (0 ≤ q ∧ q ≤ w) → (w - q).toNat < nn → WA p l e rmX0_append s m args below meth c g sz0 5 (MQ below (QQ g sz0 (fun v h' => v = none ∧ FL g f ac ae (appF G G sz x w) Eg (sz + w) pt h0 h')) args s rmX0_append.cells rmX0_append.slots (A0 sz0)) h 0 0 [some (.ref f), some (.ref f), some (.int (iI (x))), some (.int (iI (w))), some (.int (iI (q)))] 3 [] := by
    intro nn
    induction nn with
    | zero => intro q h hF i1 hn; exact absurd hn (Nat.not_lt_zero _)
    | succ nn ih =>
      intro q h hF i1 hn
      refine r_iload B dX0_append_3 rfl ?_
      refine r_iload_n B dX0_append_5 rfl ?_
      refine r_icmp_ge B dX0_append_6 (tgt := 61) (by decide) (by omega) (by omega) (fun c6 => ?_) (fun c6 => ?_)
      · exact r_vret B hr hlk dX0_append_61 (Nat.le_of_ble_eq_true rfl) (Nat.le_of_ble_eq_true rfl) ⟨rfl, by rw [show w = q by omega]; exact hF⟩
      · refine r_aload_n B dX0_append_9 rfl rfl ?_
        refine r_get (C := RX0) (T := TX0) (N := 4) (ci := 0) B dX0_append_10 in_X0_append_X0 rfl 2 (by decide) w_X0_append_f18 rfl hF.1 rfl ?_
        refine r_if_lt B dX0_append_13 (tgt := 61) (by decide) (by omega) (fun c13 => ?_) (fun c13 => ?_)
        · exact r_vret B hr hlk dX0_append_61 (Nat.le_of_ble_eq_true rfl) (Nat.le_of_ble_eq_true rfl) (by exfalso; omega)
        · refine r_aload_n B dX0_append_16 rfl rfl ?_
          refine r_get (C := RX0) (T := TX0) (N := 4) (ci := 0) B dX0_append_17 in_X0_append_X0 rfl 2 (by decide) w_X0_append_f18 rfl hF.1 rfl ?_
          refine r_aload_n B dX0_append_20 rfl rfl ?_
          refine r_get (C := RX0) (T := TX0) (N := 4) (ci := 0) B dX0_append_21 in_X0_append_X0 rfl 0 (by decide) w_X0_append_f9 rfl hF.1 rfl ?_
          refine r_alen_i B dX0_append_24 hF.2.1 ?_
          refine r_icmp_ge B dX0_append_25 (tgt := 61) (by decide) (by omega) (by omega) (fun c25 => ?_) (fun c25 => ?_)
          · exact r_vret B hr hlk dX0_append_61 (Nat.le_of_ble_eq_true rfl) (Nat.le_of_ble_eq_true rfl) (by exfalso; omega)
          · refine r_aload_n B dX0_append_28 rfl rfl ?_
            refine r_get (C := RX0) (T := TX0) (N := 4) (ci := 0) B dX0_append_29 in_X0_append_X0 rfl 0 (by decide) w_X0_append_f9 rfl hF.1 rfl ?_
            refine r_aload_n B dX0_append_32 rfl rfl ?_
            refine r_get (C := RX0) (T := TX0) (N := 4) (ci := 0) B dX0_append_33 in_X0_append_X0 rfl 2 (by decide) w_X0_append_f18 rfl hF.1 rfl ?_
            refine r_aload_n B dX0_append_36 rfl rfl ?_
            refine r_iload_n B dX0_append_37 rfl ?_
            refine r_iload B dX0_append_38 rfl ?_
            refine r_iadd B dX0_append_40 ?_
            refine r_callV (n := 1) B dX0_append_41 (ct_X0_byteAt l g sz0 hF _ (by omega)) gX0_append_X0_byteAt rfl (by decide +kernel) ⟨Nat.le_of_ble_eq_true rfl, Nat.le_of_ble_eq_true rfl⟩ hF.1 rfl rfl rfl (Nat.le_of_ble_eq_true rfl) (Nat.le_of_ble_eq_true rfl) (Nat.le_of_ble_eq_true rfl) (fun v h' hp => ?_)
            obtain ⟨hv, hh⟩ := hp
            subst v
            subst h'
            dsimp only [Option.toList, List.cons_append, List.nil_append]
            rw [byF_in (by omega), appF_lo (by omega)]
            refine r_iast B dX0_append_44 hF.2.1 (by decide) (by omega) (by omega) ?_
            refine k_next (P := FL g f ac ae (upZ (appF G G sz x q) (sz + q) (G (x + q))) Eg (sz + q) pt h0) (hF.cel (hG2 _)) (fun h hF => ?_)
            refine r_aload_n B dX0_append_45 rfl rfl ?_
            refine r_dup B dX0_append_46 rfl ?_
            refine r_get (C := RX0) (T := TX0) (N := 4) (ci := 0) B dX0_append_47 in_X0_append_X0 rfl 2 (by decide) w_X0_append_f18 rfl hF.1 rfl ?_
            refine r_iconst B dX0_append_50 ?_
            refine r_iadd B dX0_append_51 ?_
            refine r_put (C := RX0) (T := TX0) (N := 4) (ci := 0) B dX0_append_52 in_X0_append_X0 tyX0 tyX0_ok nmX0 rfl 2 (by decide) w_X0_append_f18 rfl rfl (ty := .int) (by decide +kernel) rfl rfl hF.1 (by show 2 < 4; decide) ?_
            refine k_next (P := FL g f ac ae (upZ (appF G G sz x q) (sz + q) (G (x + q))) Eg (sz + q + 1) pt h0) (hF.siz (by omega)) (fun h hF => ?_)
            refine r_iinc B dX0_append_55 rfl (by decide) (lcat_v rfl rfl) ?_
            refine r_goto B dX0_append_58 (tgt := 3) (by decide) ?_
            exact r_lv (lvLe_s rfl (lvLe_s rfl (lvLe_s rfl (lvLe_s rfl (lvLe_s rfl lvLe_nil))))) (ih (q + 1) h (by rw [← appF_s G G sz x i1.1, show sz + (q + 1) = sz + q + 1 by omega]; exact hF) (by omega) (by omega))
  exact r_lv (lvLe_s rfl (lvLe_s rfl (lvLe_s rfl (lvLe_s rfl (lvLe_s rfl lvLe_nil))))) (loop3 _ 0 h (by rw [appF_0, show sz + 0 = sz by omega]; exact hF) (by omega) (Nat.lt_succ_self _))
set_option maxHeartbeats 4000000 in
set_option maxRecDepth 100000 in
theorem ct_X0_append_other (l : Launch) (g : GG) (sz0 : Nat) {h h0 : AH} {f ac ae : Nat} {G Eg : Int → Int} {sz pt : Int} (hF : FL g f ac ae G Eg sz pt h0 h) {f2 ac2 ae2 : Nat} {G2 Eg2 : Int → Int} {sz2 pt2 : Int} (hF2 : FL g f2 ac2 ae2 G2 Eg2 sz2 pt2 h h) (x w : Int) (hx : 0 ≤ x ∧ 0 ≤ w ∧ x + w ≤ sz2 ∧ sz + w ≤ 48) (hne : f2 ≠ f ∧ ac2 ≠ ac ∧ ac2 ≠ ae ∧ ae2 ≠ ac ∧ ae2 ≠ ae) : CT l yX0_append wsX0_append rmX0_append g sz0 [.ref f, .ref f2, .int (iI (x)), .int (iI (w))] h (fun v h' => v = none ∧ FL g f ac ae (appF G G2 sz x w) Eg (sz + w) pt h0 h') := by
  refine CT.of (by decide +kernel) rfl [some (.ref f), some (.ref f2), some (.int (iI (x))), some (.int (iI (w))), none] rfl (Nat.le_of_ble_eq_true rfl) ?_
  intro p e s m args below meth c B hr hlk hnm
  have hs9 := hF.s
  have hG2 := hF2.r
  have n1 : f2 ≠ ac := ioe_ne hF2.1 hF.2.1
  have n2 : f2 ≠ ae := ioe_ne hF2.1 hF.2.2.1
  have n3 : ac2 ≠ f := fun z => ioe_ne hF.1 hF2.2.1 z.symm
  have n4 : ae2 ≠ f := fun z => ioe_ne hF.1 hF2.2.2.1 z.symm
  have hb1 := (hF.2.2.2.2.2.2 f2 hne.1 n1 n2).symm.trans hF2.1
  have hb2 := (hF.2.2.2.2.2.2 ac2 n3 hne.2.1 hne.2.2.1).symm.trans hF2.2.1
  have hb3 := (hF.2.2.2.2.2.2 ae2 n4 hne.2.2.2.1 hne.2.2.2.2).symm.trans hF2.2.2.1
  refine r_iconst B dX0_append_0 ?_
  refine r_istore B dX0_append_1 (by decide) (lcat_v rfl rfl) ?_
  have loop3 : ∀ (nn : Nat) (q : Int) (h : AH), FL g f ac ae (appF G G2 sz x q) Eg (sz + q) pt h0 h → (0 ≤ q ∧ q ≤ w) → (w - q).toNat < nn → WA p l e rmX0_append s m args below meth c g sz0 5 (MQ below (QQ g sz0 (fun v h' => v = none ∧ FL g f ac ae (appF G G2 sz x w) Eg (sz + w) pt h0 h')) args s rmX0_append.cells rmX0_append.slots (A0 sz0)) h 0 0 [some (.ref f), some (.ref f2), some (.int (iI (x))), some (.int (iI (w))), some (.int (iI (q)))] 3 [] := by
    intro nn
    induction nn with
    | zero => intro q h hF i1 hn; exact absurd hn (Nat.not_lt_zero _)
    | succ nn ih =>
      intro q h hF i1 hn
      refine r_iload B dX0_append_3 rfl ?_
      refine r_iload_n B dX0_append_5 rfl ?_
      refine r_icmp_ge B dX0_append_6 (tgt := 61) (by decide) (by omega) (by omega) (fun c6 => ?_) (fun c6 => ?_)
      · exact r_vret B hr hlk dX0_append_61 (Nat.le_of_ble_eq_true rfl) (Nat.le_of_ble_eq_true rfl) ⟨rfl, by rw [show w = q by omega]; exact hF⟩
      · refine r_aload_n B dX0_append_9 rfl rfl ?_
        refine r_get (C := RX0) (T := TX0) (N := 4) (ci := 0) B dX0_append_10 in_X0_append_X0 rfl 2 (by decide) w_X0_append_f18 rfl hF.1 rfl ?_
        refine r_if_lt B dX0_append_13 (tgt := 61) (by decide) (by omega) (fun c13 => ?_) (fun c13 => ?_)
        · exact r_vret B hr hlk dX0_append_61 (Nat.le_of_ble_eq_true rfl) (Nat.le_of_ble_eq_true rfl) (by exfalso; omega)
        · refine r_aload_n B dX0_append_16 rfl rfl ?_
          refine r_get (C := RX0) (T := TX0) (N := 4) (ci := 0) B dX0_append_17 in_X0_append_X0 rfl 2 (by decide) w_X0_append_f18 rfl hF.1 rfl ?_
          refine r_aload_n B dX0_append_20 rfl rfl ?_
          refine r_get (C := RX0) (T := TX0) (N := 4) (ci := 0) B dX0_append_21 in_X0_append_X0 rfl 0 (by decide) w_X0_append_f9 rfl hF.1 rfl ?_
          refine r_alen_i B dX0_append_24 hF.2.1 ?_
          refine r_icmp_ge B dX0_append_25 (tgt := 61) (by decide) (by omega) (by omega) (fun c25 => ?_) (fun c25 => ?_)
          · exact r_vret B hr hlk dX0_append_61 (Nat.le_of_ble_eq_true rfl) (Nat.le_of_ble_eq_true rfl) (by exfalso; omega)
          · refine r_aload_n B dX0_append_28 rfl rfl ?_
            refine r_get (C := RX0) (T := TX0) (N := 4) (ci := 0) B dX0_append_29 in_X0_append_X0 rfl 0 (by decide) w_X0_append_f9 rfl hF.1 rfl ?_
            refine r_aload_n B dX0_append_32 rfl rfl ?_
            refine r_get (C := RX0) (T := TX0) (N := 4) (ci := 0) B dX0_append_33 in_X0_append_X0 rfl 2 (by decide) w_X0_append_f18 rfl hF.1 rfl ?_
            refine r_aload_n B dX0_append_36 rfl rfl ?_
            refine r_iload_n B dX0_append_37 rfl ?_
            refine r_iload B dX0_append_38 rfl ?_
            refine r_iadd B dX0_append_40 ?_
            have hF3 : FL g f2 ac2 ae2 G2 Eg2 sz2 pt2 h h := FL.base ((hF.2.2.2.2.2.2 f2 hne.1 n1 n2).trans hb1) ((hF.2.2.2.2.2.2 ac2 n3 hne.2.1 hne.2.2.1).trans hb2) ((hF.2.2.2.2.2.2 ae2 n4 hne.2.2.2.1 hne.2.2.2.2).trans hb3) hF2.2.2.2.1 hF2.2.2.2.2.1 hF2.2.2.2.2.2.1
            have hs8 := hF2.s
            refine r_callV (n := 1) B dX0_append_41 (ct_X0_byteAt l g sz0 hF3 _ (by omega)) gX0_append_X0_byteAt rfl (by decide +kernel) ⟨Nat.le_of_ble_eq_true rfl, Nat.le_of_ble_eq_true rfl⟩ hF3.1 rfl rfl rfl (Nat.le_of_ble_eq_true rfl) (Nat.le_of_ble_eq_true rfl) (Nat.le_of_ble_eq_true rfl) (fun v h' hp => ?_)
            obtain ⟨hv, hh⟩ := hp
            subst v
            subst h'
            dsimp only [Option.toList, List.cons_append, List.nil_append]
            have hs8 := hF2.s
            rw [byF_in (by omega)]
            refine r_iast B dX0_append_44 hF.2.1 (by decide) (by omega) (by omega) ?_
            refine k_next (P := FL g f ac ae (upZ (appF G G2 sz x q) (sz + q) (G2 (x + q))) Eg (sz + q) pt h0) (hF.cel (hG2 _)) (fun h hF => ?_)
            refine r_aload_n B dX0_append_45 rfl rfl ?_
            refine r_dup B dX0_append_46 rfl ?_
            refine r_get (C := RX0) (T := TX0) (N := 4) (ci := 0) B dX0_append_47 in_X0_append_X0 rfl 2 (by decide) w_X0_append_f18 rfl hF.1 rfl ?_
            refine r_iconst B dX0_append_50 ?_
            refine r_iadd B dX0_append_51 ?_
            refine r_put (C := RX0) (T := TX0) (N := 4) (ci := 0) B dX0_append_52 in_X0_append_X0 tyX0 tyX0_ok nmX0 rfl 2 (by decide) w_X0_append_f18 rfl rfl (ty := .int) (by decide +kernel) rfl rfl hF.1 (by show 2 < 4; decide) ?_
            refine k_next (P := FL g f ac ae (upZ (appF G G2 sz x q) (sz + q) (G2 (x + q))) Eg (sz + q + 1) pt h0) (hF.siz (by omega)) (fun h hF => ?_)
            refine r_iinc B dX0_append_55 rfl (by decide) (lcat_v rfl rfl) ?_
            refine r_goto B dX0_append_58 (tgt := 3) (by decide) ?_
            exact r_lv (lvLe_s rfl (lvLe_s rfl (lvLe_s rfl (lvLe_s rfl (lvLe_s rfl lvLe_nil))))) (ih (q + 1) h (by rw [← appF_s G G2 sz x i1.1, show sz + (q + 1) = sz + q + 1 by omega]; exact hF) (by omega) (by omega))
  exact r_lv (lvLe_s rfl (lvLe_s rfl (lvLe_s rfl (lvLe_s rfl (lvLe_s rfl lvLe_nil))))) (loop3 _ 0 h (by rw [appF_0, show sz + 0 = sz by omega]; exact hF) (by omega) (Nat.lt_succ_self _))
