abbrev rmX0_byteAt : Room := { frames := 0, cells := 0, slots := 0, locals := 0 }
theorem in_X0_byteAt_X0 : ∀ w ∈ wsX00, w ∈ wsX0_byteAt := by decide +kernel
theorem w_X0_byteAt_f9 : Cond.fieldLink RX0 9 "DeltaNights$ByteFile" "cells" "[I" ∈ wsX0_byteAt := by decide +kernel
set_option maxHeartbeats 4000000 in
set_option maxRecDepth 100000 in
theorem ct_X0_byteAt (l : Launch) (g : GG) (sz0 : Nat) {h h0 : AH} {f ac ae : Nat} {G Eg : Int → Int} {sz pt : Int} (hF : FL g f ac ae G Eg sz pt h0 h) (x : Int) (qx : -2147483648 ≤ x ∧ x < 2147483648) : CT l yX0_byteAt wsX0_byteAt rmX0_byteAt g sz0 [.ref f, .int (iI (x))] h (fun v h' => v = some (.int (iI (byF G x))) ∧ h' = h) := by
  refine CT.of (by decide +kernel) rfl [some (.ref f), some (.int (iI (x)))] rfl (Nat.le_of_ble_eq_true rfl) ?_
  intro p e s m args below meth c B hr hlk hnm
  refine r_iload_n B dX0_byteAt_0 rfl ?_
  refine r_if_lt B dX0_byteAt_1 (tgt := 22) (by decide) (by omega) (fun c1 => ?_) (fun c1 => ?_)
  · refine r_iconst B dX0_byteAt_22 ?_
    exact r_iret B hr hlk dX0_byteAt_23 (Nat.le_of_ble_eq_true rfl) (Nat.le_of_ble_eq_true rfl) ⟨by first | rw [byF_in (by omega)] | rw [byF_out (by omega)], rfl⟩
  · refine r_iload_n B dX0_byteAt_4 rfl ?_
    refine r_aload_n B dX0_byteAt_5 rfl rfl ?_
    refine r_get (C := RX0) (T := TX0) (N := 4) (ci := 0) B dX0_byteAt_6 in_X0_byteAt_X0 rfl 0 (by decide) w_X0_byteAt_f9 rfl hF.1 rfl ?_
    refine r_alen_i B dX0_byteAt_9 hF.2.1 ?_
    refine r_icmp_ge B dX0_byteAt_10 (tgt := 22) (by decide) (by omega) (by omega) (fun c10 => ?_) (fun c10 => ?_)
    · refine r_iconst B dX0_byteAt_22 ?_
      exact r_iret B hr hlk dX0_byteAt_23 (Nat.le_of_ble_eq_true rfl) (Nat.le_of_ble_eq_true rfl) ⟨by first | rw [byF_in (by omega)] | rw [byF_out (by omega)], rfl⟩
    · refine r_aload_n B dX0_byteAt_13 rfl rfl ?_
      refine r_get (C := RX0) (T := TX0) (N := 4) (ci := 0) B dX0_byteAt_14 in_X0_byteAt_X0 rfl 0 (by decide) w_X0_byteAt_f9 rfl hF.1 rfl ?_
      refine r_iload_n B dX0_byteAt_17 rfl ?_
      refine r_iald B dX0_byteAt_18 hF.2.1 (by decide) (by omega) (by omega) ?_
      refine r_goto B dX0_byteAt_19 (tgt := 23) (by decide) ?_
      exact r_iret B hr hlk dX0_byteAt_23 (Nat.le_of_ble_eq_true rfl) (Nat.le_of_ble_eq_true rfl) ⟨by first | rw [byF_in (by omega)] | rw [byF_out (by omega)], rfl⟩
abbrev rmX0_hasRun : Room := { frames := 0, cells := 0, slots := 0, locals := 0 }
theorem in_X0_hasRun_X0 : ∀ w ∈ wsX00, w ∈ wsX0_hasRun := by decide +kernel
theorem w_X0_hasRun_f18 : Cond.fieldLink RX0 18 "DeltaNights$ByteFile" "size" "I" ∈ wsX0_hasRun := by decide +kernel
set_option maxHeartbeats 4000000 in
set_option maxRecDepth 100000 in
theorem ct_X0_hasRun (l : Launch) (g : GG) (sz0 : Nat) {h h0 : AH} {f ac ae : Nat} {G Eg : Int → Int} {sz pt : Int} (hF : FL g f ac ae G Eg sz pt h0 h) (x w : Int) (qx : -2147483648 ≤ x ∧ x < 2147483648) (qw : -2147483648 ≤ w ∧ w < 2147483648) : CT l yX0_hasRun wsX0_hasRun rmX0_hasRun g sz0 [.ref f, .int (iI (x)), .int (iI (w))] h (fun v h' => v = some (.int (iI (bI (0 ≤ x ∧ 0 ≤ w ∧ x + w ≤ sz)))) ∧ h' = h) := by
  refine CT.of (by decide +kernel) rfl [some (.ref f), some (.int (iI (x))), some (.int (iI (w)))] rfl (Nat.le_of_ble_eq_true rfl) ?_
  intro p e s m args below meth c B hr hlk hnm
  have hs9 := hF.s
  refine r_iload_n B dX0_hasRun_0 rfl ?_
  refine r_if_lt B dX0_hasRun_1 (tgt := 30) (by decide) (by omega) (fun c1 => ?_) (fun c1 => ?_)
  · refine r_iconst B dX0_hasRun_30 ?_
    exact r_zret B hr hlk dX0_hasRun_31 (Nat.le_of_ble_eq_true rfl) (Nat.le_of_ble_eq_true rfl) (by first | exact nar_0 | exact nar_1 | exact nar_bI _) ⟨by first | rw [bI_t (by omega)] | rw [bI_f (by omega)], rfl⟩
  · refine r_iload_n B dX0_hasRun_4 rfl ?_
    refine r_if_lt B dX0_hasRun_5 (tgt := 30) (by decide) (by omega) (fun c5 => ?_) (fun c5 => ?_)
    · refine r_iconst B dX0_hasRun_30 ?_
      exact r_zret B hr hlk dX0_hasRun_31 (Nat.le_of_ble_eq_true rfl) (Nat.le_of_ble_eq_true rfl) (by first | exact nar_0 | exact nar_1 | exact nar_bI _) ⟨by first | rw [bI_t (by omega)] | rw [bI_f (by omega)], rfl⟩
    · refine r_iload_n B dX0_hasRun_8 rfl ?_
      refine r_aload_n B dX0_hasRun_9 rfl rfl ?_
      refine r_get (C := RX0) (T := TX0) (N := 4) (ci := 0) B dX0_hasRun_10 in_X0_hasRun_X0 rfl 2 (by decide) w_X0_hasRun_f18 rfl hF.1 rfl ?_
      refine r_icmp_gt B dX0_hasRun_13 (tgt := 30) (by decide) (by omega) (by omega) (fun c13 => ?_) (fun c13 => ?_)
      · refine r_iconst B dX0_hasRun_30 ?_
        exact r_zret B hr hlk dX0_hasRun_31 (Nat.le_of_ble_eq_true rfl) (Nat.le_of_ble_eq_true rfl) (by first | exact nar_0 | exact nar_1 | exact nar_bI _) ⟨by first | rw [bI_t (by omega)] | rw [bI_f (by omega)], rfl⟩
      · refine r_iload_n B dX0_hasRun_16 rfl ?_
        refine r_aload_n B dX0_hasRun_17 rfl rfl ?_
        refine r_get (C := RX0) (T := TX0) (N := 4) (ci := 0) B dX0_hasRun_18 in_X0_hasRun_X0 rfl 2 (by decide) w_X0_hasRun_f18 rfl hF.1 rfl ?_
        refine r_iload_n B dX0_hasRun_21 rfl ?_
        refine r_isub B dX0_hasRun_22 ?_
        refine r_icmp_gt B dX0_hasRun_23 (tgt := 30) (by decide) (by omega) (by omega) (fun c23 => ?_) (fun c23 => ?_)
        · refine r_iconst B dX0_hasRun_30 ?_
          exact r_zret B hr hlk dX0_hasRun_31 (Nat.le_of_ble_eq_true rfl) (Nat.le_of_ble_eq_true rfl) (by first | exact nar_0 | exact nar_1 | exact nar_bI _) ⟨by first | rw [bI_t (by omega)] | rw [bI_f (by omega)], rfl⟩
        · refine r_iconst B dX0_hasRun_26 ?_
          refine r_goto B dX0_hasRun_27 (tgt := 31) (by decide) ?_
          exact r_zret B hr hlk dX0_hasRun_31 (Nat.le_of_ble_eq_true rfl) (Nat.le_of_ble_eq_true rfl) (by first | exact nar_0 | exact nar_1 | exact nar_bI _) ⟨by first | rw [bI_t (by omega)] | rw [bI_f (by omega)], rfl⟩
abbrev rmX0_hasSpaceFor : Room := { frames := 0, cells := 0, slots := 0, locals := 0 }
theorem in_X0_hasSpaceFor_X0 : ∀ w ∈ wsX00, w ∈ wsX0_hasSpaceFor := by decide +kernel
theorem w_X0_hasSpaceFor_f9 : Cond.fieldLink RX0 9 "DeltaNights$ByteFile" "cells" "[I" ∈ wsX0_hasSpaceFor := by decide +kernel
theorem w_X0_hasSpaceFor_f18 : Cond.fieldLink RX0 18 "DeltaNights$ByteFile" "size" "I" ∈ wsX0_hasSpaceFor := by decide +kernel
set_option maxHeartbeats 4000000 in
set_option maxRecDepth 100000 in
theorem ct_X0_hasSpaceFor (l : Launch) (g : GG) (sz0 : Nat) {h h0 : AH} {f ac ae : Nat} {G Eg : Int → Int} {sz pt : Int} (hF : FL g f ac ae G Eg sz pt h0 h) (w : Int) (qw : -2147483648 ≤ w ∧ w < 2147483648) : CT l yX0_hasSpaceFor wsX0_hasSpaceFor rmX0_hasSpaceFor g sz0 [.ref f, .int (iI (w))] h (fun v h' => v = some (.int (iI (bI (w ≤ 48 - sz)))) ∧ h' = h) := by
  refine CT.of (by decide +kernel) rfl [some (.ref f), some (.int (iI (w)))] rfl (Nat.le_of_ble_eq_true rfl) ?_
  intro p e s m args below meth c B hr hlk hnm
  have hs9 := hF.s
  refine r_iload_n B dX0_hasSpaceFor_0 rfl ?_
  refine r_aload_n B dX0_hasSpaceFor_1 rfl rfl ?_
  refine r_get (C := RX0) (T := TX0) (N := 4) (ci := 0) B dX0_hasSpaceFor_2 in_X0_hasSpaceFor_X0 rfl 0 (by decide) w_X0_hasSpaceFor_f9 rfl hF.1 rfl ?_
  refine r_alen_i B dX0_hasSpaceFor_5 hF.2.1 ?_
  refine r_aload_n B dX0_hasSpaceFor_6 rfl rfl ?_
  refine r_get (C := RX0) (T := TX0) (N := 4) (ci := 0) B dX0_hasSpaceFor_7 in_X0_hasSpaceFor_X0 rfl 2 (by decide) w_X0_hasSpaceFor_f18 rfl hF.1 rfl ?_
  refine r_isub B dX0_hasSpaceFor_10 ?_
  refine r_icmp_gt B dX0_hasSpaceFor_11 (tgt := 18) (by decide) (by omega) (by omega) (fun c11 => ?_) (fun c11 => ?_)
  · refine r_iconst B dX0_hasSpaceFor_18 ?_
    exact r_zret B hr hlk dX0_hasSpaceFor_19 (Nat.le_of_ble_eq_true rfl) (Nat.le_of_ble_eq_true rfl) (by first | exact nar_0 | exact nar_1 | exact nar_bI _) ⟨by first | rw [bI_t (by omega)] | rw [bI_f (by omega)], rfl⟩
  · refine r_iconst B dX0_hasSpaceFor_14 ?_
    refine r_goto B dX0_hasSpaceFor_15 (tgt := 19) (by decide) ?_
    exact r_zret B hr hlk dX0_hasSpaceFor_19 (Nat.le_of_ble_eq_true rfl) (Nat.le_of_ble_eq_true rfl) (by first | exact nar_0 | exact nar_1 | exact nar_bI _) ⟨by first | rw [bI_t (by omega)] | rw [bI_f (by omega)], rfl⟩
abbrev rmX0_insert : Room := { frames := 0, cells := 0, slots := 0, locals := 0 }
theorem in_X0_insert_X0 : ∀ w ∈ wsX00, w ∈ wsX0_insert := by decide +kernel
theorem w_X0_insert_f18 : Cond.fieldLink RX0 18 "DeltaNights$ByteFile" "size" "I" ∈ wsX0_insert := by decide +kernel
theorem w_X0_insert_f9 : Cond.fieldLink RX0 9 "DeltaNights$ByteFile" "cells" "[I" ∈ wsX0_insert := by decide +kernel
set_option maxHeartbeats 4000000 in
set_option maxRecDepth 100000 in
theorem ct_X0_insert (l : Launch) (g : GG) (sz0 : Nat) {h h0 : AH} {f ac ae : Nat} {G Eg : Int → Int} {sz pt : Int} (hF : FL g f ac ae G Eg sz pt h0 h) (x b : Int) (hx : 0 ≤ x ∧ x ≤ sz) (hz : sz < 48) (qb : -2147483648 ≤ b ∧ b < 2147483648) : CT l yX0_insert wsX0_insert rmX0_insert g sz0 [.ref f, .int (iI (x)), .int (iI (b))] h (fun v h' => v = none ∧ FL g f ac ae (insF G 0 sz x b) Eg (sz + 1) pt h0 h') := by
  refine CT.of (by decide +kernel) rfl [some (.ref f), some (.int (iI (x))), some (.int (iI (b))), none] rfl (Nat.le_of_ble_eq_true rfl) ?_
  intro p e s m args below meth c B hr hlk hnm
  have hs9 := hF.s
  refine r_iload_n B dX0_insert_0 rfl ?_
  refine r_if_lt B dX0_insert_1 (tgt := 24) (by decide) (by omega) (fun c1 => ?_) (fun c1 => ?_)
  · exact r_vret B hr hlk dX0_insert_24 (Nat.le_of_ble_eq_true rfl) (Nat.le_of_ble_eq_true rfl) (by exfalso; omega)
  · refine r_iload_n B dX0_insert_4 rfl ?_
    refine r_aload_n B dX0_insert_5 rfl rfl ?_
    refine r_get (C := RX0) (T := TX0) (N := 4) (ci := 0) B dX0_insert_6 in_X0_insert_X0 rfl 2 (by decide) w_X0_insert_f18 rfl hF.1 rfl ?_
    refine r_icmp_gt B dX0_insert_9 (tgt := 24) (by decide) (by omega) (by omega) (fun c9 => ?_) (fun c9 => ?_)
    · exact r_vret B hr hlk dX0_insert_24 (Nat.le_of_ble_eq_true rfl) (Nat.le_of_ble_eq_true rfl) (by exfalso; omega)
    · refine r_aload_n B dX0_insert_12 rfl rfl ?_
      refine r_get (C := RX0) (T := TX0) (N := 4) (ci := 0) B dX0_insert_13 in_X0_insert_X0 rfl 2 (by decide) w_X0_insert_f18 rfl hF.1 rfl ?_
      refine r_aload_n B dX0_insert_16 rfl rfl ?_
      refine r_get (C := RX0) (T := TX0) (N := 4) (ci := 0) B dX0_insert_17 in_X0_insert_X0 rfl 0 (by decide) w_X0_insert_f9 rfl hF.1 rfl ?_
      refine r_alen_i B dX0_insert_20 hF.2.1 ?_
      refine r_icmp_lt B dX0_insert_21 (tgt := 25) (by decide) (by omega) (by omega) (fun c21 => ?_) (fun c21 => ?_)
      · refine r_aload_n B dX0_insert_25 rfl rfl ?_
        refine r_get (C := RX0) (T := TX0) (N := 4) (ci := 0) B dX0_insert_26 in_X0_insert_X0 rfl 2 (by decide) w_X0_insert_f18 rfl hF.1 rfl ?_
        refine r_istore_n B dX0_insert_29 rfl (by decide) (lcat_v rfl rfl) ?_
        have loop30 : ∀ (nn : Nat) (q : Int) (h : AH), FL g f ac ae (shR G 0 sz q) Eg sz pt h0 h → (x ≤ q ∧ q ≤ sz) → (q - x).toNat < nn → WA p l e rmX0_insert s m args below meth c g sz0 4 (MQ below (QQ g sz0 (fun v h' => v = none ∧ FL g f ac ae (insF G 0 sz x b) Eg (sz + 1) pt h0 h')) args s rmX0_insert.cells rmX0_insert.slots (A0 sz0)) h 0 0 [some (.ref f), some (.int (iI (x))), some (.int (iI (b))), some (.int (iI (q)))] 30 [] := by
          intro nn
          induction nn with
          | zero => intro q h hF i1 hn; exact absurd hn (Nat.not_lt_zero _)
          | succ nn ih =>
            intro q h hF i1 hn
            refine r_iload_n B dX0_insert_30 rfl ?_
            refine r_iload_n B dX0_insert_31 rfl ?_
            refine r_icmp_le B dX0_insert_32 (tgt := 55) (by decide) (by omega) (by omega) (fun c32 => ?_) (fun c32 => ?_)
            · have hq : q = x := by omega
              subst q
              refine r_aload_n B dX0_insert_55 rfl rfl ?_
              refine r_get (C := RX0) (T := TX0) (N := 4) (ci := 0) B dX0_insert_56 in_X0_insert_X0 rfl 0 (by decide) w_X0_insert_f9 rfl hF.1 rfl ?_
              refine r_iload_n B dX0_insert_59 rfl ?_
              refine r_iload_n B dX0_insert_60 rfl ?_
              refine r_iast B dX0_insert_61 hF.2.1 (by decide) (by omega) (by omega) ?_
              refine k_next (P := FL g f ac ae (upZ (shR G 0 sz x) x b) Eg sz pt h0) (hF.cel (by omega)) (fun h hF => ?_)
              refine r_aload_n B dX0_insert_62 rfl rfl ?_
              refine r_dup B dX0_insert_63 rfl ?_
              refine r_get (C := RX0) (T := TX0) (N := 4) (ci := 0) B dX0_insert_64 in_X0_insert_X0 rfl 2 (by decide) w_X0_insert_f18 rfl hF.1 rfl ?_
              refine r_iconst B dX0_insert_67 ?_
              refine r_iadd B dX0_insert_68 ?_
              refine r_put (C := RX0) (T := TX0) (N := 4) (ci := 0) B dX0_insert_69 in_X0_insert_X0 tyX0 tyX0_ok nmX0 rfl 2 (by decide) w_X0_insert_f18 rfl rfl (ty := .int) (by decide +kernel) rfl rfl hF.1 (by show 2 < 4; decide) ?_
              refine k_next (P := FL g f ac ae (upZ (shR G 0 sz x) x b) Eg (sz + 1) pt h0) (hF.siz (by omega)) (fun h hF => ?_)
              exact r_vret B hr hlk dX0_insert_72 (Nat.le_of_ble_eq_true rfl) (Nat.le_of_ble_eq_true rfl) ⟨rfl, by rw [← insF_of0]; exact hF⟩
            · refine r_aload_n B dX0_insert_35 rfl rfl ?_
              refine r_get (C := RX0) (T := TX0) (N := 4) (ci := 0) B dX0_insert_36 in_X0_insert_X0 rfl 0 (by decide) w_X0_insert_f9 rfl hF.1 rfl ?_
              refine r_iload_n B dX0_insert_39 rfl ?_
              refine r_aload_n B dX0_insert_40 rfl rfl ?_
              refine r_get (C := RX0) (T := TX0) (N := 4) (ci := 0) B dX0_insert_41 in_X0_insert_X0 rfl 0 (by decide) w_X0_insert_f9 rfl hF.1 rfl ?_
              refine r_iload_n B dX0_insert_44 rfl ?_
              refine r_iconst B dX0_insert_45 ?_
              refine r_isub B dX0_insert_46 ?_
              refine r_iald B dX0_insert_47 hF.2.1 (by decide) (by omega) (by omega) ?_
              refine r_iast B dX0_insert_48 hF.2.1 (by decide) (by omega) (by omega) ?_
              refine k_next (P := FL g f ac ae (upZ (shR G 0 sz q) q (shR G 0 sz q (q - 1))) Eg sz pt h0) (hF.cel (hF.r _)) (fun h hF => ?_)
              refine r_iinc B dX0_insert_49 rfl (by decide) (lcat_v rfl rfl) ?_
              refine r_goto B dX0_insert_52 (tgt := 30) (by decide) ?_
              exact r_lv (lvLe_s rfl (lvLe_s rfl (lvLe_s rfl (lvLe_s rfl lvLe_nil)))) (ih (q - 1) h (by rw [← shR_s0 _ _ i1.2]; exact hF) (by omega) (by omega))
        exact r_lv (lvLe_s rfl (lvLe_s rfl (lvLe_s rfl (lvLe_s rfl lvLe_nil)))) (loop30 _ sz h (by rw [shR_0]; exact hF) (by omega) (Nat.lt_succ_self _))
      · exact r_vret B hr hlk dX0_insert_24 (Nat.le_of_ble_eq_true rfl) (Nat.le_of_ble_eq_true rfl) (by exfalso; omega)
abbrev rmX0_replace : Room := { frames := 1, cells := 0, slots := 0, locals := 21 }
theorem in_X0_replace_X0 : ∀ w ∈ wsX00, w ∈ wsX0_replace := by decide +kernel
theorem w_X0_replace_f9 : Cond.fieldLink RX0 9 "DeltaNights$ByteFile" "cells" "[I" ∈ wsX0_replace := by decide +kernel
set_option maxHeartbeats 4000000 in
set_option maxRecDepth 100000 in
theorem ct_X0_replace (l : Launch) (g : GG) (sz0 : Nat) {h h0 : AH} {f ac ae : Nat} {G Eg : Int → Int} {sz pt : Int} (hF : FL g f ac ae G Eg sz pt h0 h) (x b : Int) (hx : 0 ≤ x ∧ x < 48) (qb : -2147483648 ≤ b ∧ b < 2147483648) : CT l yX0_replace wsX0_replace rmX0_replace g sz0 [.ref f, .int (iI (x)), .int (iI (b))] h (fun v h' => v = some (.int (iI (G x))) ∧ FL g f ac ae (upZ G x b) Eg sz pt h0 h') := by
  refine CT.of (by decide +kernel) rfl [some (.ref f), some (.int (iI (x))), some (.int (iI (b))), none] rfl (Nat.le_of_ble_eq_true rfl) ?_
  intro p e s m args below meth c B hr hlk hnm
  refine r_aload_n B dX0_replace_0 rfl rfl ?_
  refine r_iload_n B dX0_replace_1 rfl ?_
  refine r_callV (n := 1) B dX0_replace_2 (ct_X0_byteAt l g sz0 hF _ (by omega)) gX0_replace_X0_byteAt rfl (by decide +kernel) ⟨Nat.le_of_ble_eq_true rfl, Nat.le_of_ble_eq_true rfl⟩ hF.1 rfl rfl rfl (Nat.le_of_ble_eq_true rfl) (Nat.le_of_ble_eq_true rfl) (Nat.le_of_ble_eq_true rfl) (fun v h' hp => ?_)
  obtain ⟨hv, hh⟩ := hp
  subst v
  subst h'
  dsimp only [Option.toList, List.cons_append, List.nil_append]
  rw [byF_in hx]
  refine r_istore_n B dX0_replace_5 rfl (by decide) (lcat_v rfl rfl) ?_
  refine r_iload_n B dX0_replace_6 rfl ?_
  refine r_if_lt B dX0_replace_7 (tgt := 26) (by decide) (by omega) (fun c7 => ?_) (fun c7 => ?_)
  · refine r_iload_n B dX0_replace_26 rfl ?_
    exact r_iret B hr hlk dX0_replace_27 (Nat.le_of_ble_eq_true rfl) (Nat.le_of_ble_eq_true rfl) (by exfalso; omega)
  · refine r_iload_n B dX0_replace_10 rfl ?_
    refine r_aload_n B dX0_replace_11 rfl rfl ?_
    refine r_get (C := RX0) (T := TX0) (N := 4) (ci := 0) B dX0_replace_12 in_X0_replace_X0 rfl 0 (by decide) w_X0_replace_f9 rfl hF.1 rfl ?_
    refine r_alen_i B dX0_replace_15 hF.2.1 ?_
    refine r_icmp_ge B dX0_replace_16 (tgt := 26) (by decide) (by omega) (by omega) (fun c16 => ?_) (fun c16 => ?_)
    · refine r_iload_n B dX0_replace_26 rfl ?_
      exact r_iret B hr hlk dX0_replace_27 (Nat.le_of_ble_eq_true rfl) (Nat.le_of_ble_eq_true rfl) (by exfalso; omega)
    · refine r_aload_n B dX0_replace_19 rfl rfl ?_
      refine r_get (C := RX0) (T := TX0) (N := 4) (ci := 0) B dX0_replace_20 in_X0_replace_X0 rfl 0 (by decide) w_X0_replace_f9 rfl hF.1 rfl ?_
      refine r_iload_n B dX0_replace_23 rfl ?_
      refine r_iload_n B dX0_replace_24 rfl ?_
      refine r_iast B dX0_replace_25 hF.2.1 (by decide) (by omega) (by omega) ?_
      refine k_next (P := FL g f ac ae (upZ G x b) Eg sz pt h0) (hF.cel (by omega)) (fun h hF => ?_)
      refine r_iload_n B dX0_replace_26 rfl ?_
      exact r_iret B hr hlk dX0_replace_27 (Nat.le_of_ble_eq_true rfl) (Nat.le_of_ble_eq_true rfl) ⟨rfl, hF⟩
abbrev rmX0_remove : Room := { frames := 1, cells := 0, slots := 0, locals := 22 }
theorem in_X0_remove_X0 : ∀ w ∈ wsX00, w ∈ wsX0_remove := by decide +kernel
theorem w_X0_remove_f18 : Cond.fieldLink RX0 18 "DeltaNights$ByteFile" "size" "I" ∈ wsX0_remove := by decide +kernel
theorem w_X0_remove_f9 : Cond.fieldLink RX0 9 "DeltaNights$ByteFile" "cells" "[I" ∈ wsX0_remove := by decide +kernel
set_option maxHeartbeats 4000000 in
set_option maxRecDepth 100000 in
theorem ct_X0_remove (l : Launch) (g : GG) (sz0 : Nat) {h h0 : AH} {f ac ae : Nat} {G Eg : Int → Int} {sz pt : Int} (hF : FL g f ac ae G Eg sz pt h0 h) (x w : Int) (hx : 0 ≤ x ∧ 0 ≤ w ∧ x + w ≤ sz)  : CT l yX0_remove wsX0_remove rmX0_remove g sz0 [.ref f, .int (iI (x)), .int (iI (w))] h (fun v h' => v = none ∧ FL g f ac ae (cutF G 0 x w (sz - w)) Eg (sz - w) pt h0 h') := by
  refine CT.of (by decide +kernel) rfl [some (.ref f), some (.int (iI (x))), some (.int (iI (w))), none] rfl (Nat.le_of_ble_eq_true rfl) ?_
  intro p e s m args below meth c B hr hlk hnm
  have hs9 := hF.s
  refine r_aload_n B dX0_remove_0 rfl rfl ?_
  refine r_iload_n B dX0_remove_1 rfl ?_
  refine r_iload_n B dX0_remove_2 rfl ?_
  refine r_callV (n := 2) B dX0_remove_3 (ct_X0_hasRun l g sz0 hF _ _ (by omega) (by omega)) gX0_remove_X0_hasRun rfl (by decide +kernel) ⟨Nat.le_of_ble_eq_true rfl, Nat.le_of_ble_eq_true rfl⟩ hF.1 rfl rfl rfl (Nat.le_of_ble_eq_true rfl) (Nat.le_of_ble_eq_true rfl) (Nat.le_of_ble_eq_true rfl) (fun v h' hp => ?_)
  obtain ⟨hv, hh⟩ := hp
  subst v
  subst h'
  dsimp only [Option.toList, List.cons_append, List.nil_append]
  refine r_if_ne B dX0_remove_6 (tgt := 10) (by decide) (bI_rng _) (fun c6 => ?_) (fun c6 => ?_)
  · replace c6 := bI_n0.mp c6
    refine r_iload_n B dX0_remove_10 rfl ?_
    refine r_istore_n B dX0_remove_11 rfl (by decide) (lcat_v rfl rfl) ?_
    have loop12 : ∀ (nn : Nat) (q : Int) (h : AH), FL g f ac ae (cutF G 0 x w q) Eg sz pt h0 h → (x ≤ q ∧ q ≤ sz - w) → (sz - w - q).toNat < nn → WA p l e rmX0_remove s m args below meth c g sz0 4 (MQ below (QQ g sz0 (fun v h' => v = none ∧ FL g f ac ae (cutF G 0 x w (sz - w)) Eg (sz - w) pt h0 h')) args s rmX0_remove.cells rmX0_remove.slots (A0 sz0)) h 0 0 [some (.ref f), some (.int (iI (x))), some (.int (iI (w))), some (.int (iI (q)))] 12 [] := by
      intro nn
      induction nn with
      | zero => intro q h hF i1 hn; exact absurd hn (Nat.not_lt_zero _)
      | succ nn ih =>
        intro q h hF i1 hn
        refine r_iload_n B dX0_remove_12 rfl ?_
        refine r_aload_n B dX0_remove_13 rfl rfl ?_
        refine r_get (C := RX0) (T := TX0) (N := 4) (ci := 0) B dX0_remove_14 in_X0_remove_X0 rfl 2 (by decide) w_X0_remove_f18 rfl hF.1 rfl ?_
        refine r_iload_n B dX0_remove_17 rfl ?_
        refine r_isub B dX0_remove_18 ?_
        refine r_icmp_ge B dX0_remove_19 (tgt := 50) (by decide) (by omega) (by omega) (fun c19 => ?_) (fun c19 => ?_)
        · have hq : q = sz - w := by omega
          subst hq
          refine r_aload_n B dX0_remove_50 rfl rfl ?_
          refine r_dup B dX0_remove_51 rfl ?_
          refine r_get (C := RX0) (T := TX0) (N := 4) (ci := 0) B dX0_remove_52 in_X0_remove_X0 rfl 2 (by decide) w_X0_remove_f18 rfl hF.1 rfl ?_
          refine r_iload_n B dX0_remove_55 rfl ?_
          refine r_isub B dX0_remove_56 ?_
          refine r_put (C := RX0) (T := TX0) (N := 4) (ci := 0) B dX0_remove_57 in_X0_remove_X0 tyX0 tyX0_ok nmX0 rfl 2 (by decide) w_X0_remove_f18 rfl rfl (ty := .int) (by decide +kernel) rfl rfl hF.1 (by show 2 < 4; decide) ?_
          refine k_next (P := FL g f ac ae (cutF G 0 x w (sz - w)) Eg (sz - w) pt h0) (hF.siz (by omega)) (fun h hF => ?_)
          exact r_vret B hr hlk dX0_remove_60 (Nat.le_of_ble_eq_true rfl) (Nat.le_of_ble_eq_true rfl) ⟨rfl, hF⟩
        · refine r_iload_n B dX0_remove_22 rfl ?_
          refine r_aload_n B dX0_remove_23 rfl rfl ?_
          refine r_get (C := RX0) (T := TX0) (N := 4) (ci := 0) B dX0_remove_24 in_X0_remove_X0 rfl 0 (by decide) w_X0_remove_f9 rfl hF.1 rfl ?_
          refine r_alen_i B dX0_remove_27 hF.2.1 ?_
          refine r_icmp_ge B dX0_remove_28 (tgt := 50) (by decide) (by omega) (by omega) (fun c28 => ?_) (fun c28 => ?_)
          · have hq : q = sz - w := by omega
            subst hq
            refine r_aload_n B dX0_remove_50 rfl rfl ?_
            refine r_dup B dX0_remove_51 rfl ?_
            refine r_get (C := RX0) (T := TX0) (N := 4) (ci := 0) B dX0_remove_52 in_X0_remove_X0 rfl 2 (by decide) w_X0_remove_f18 rfl hF.1 rfl ?_
            refine r_iload_n B dX0_remove_55 rfl ?_
            refine r_isub B dX0_remove_56 ?_
            refine r_put (C := RX0) (T := TX0) (N := 4) (ci := 0) B dX0_remove_57 in_X0_remove_X0 tyX0 tyX0_ok nmX0 rfl 2 (by decide) w_X0_remove_f18 rfl rfl (ty := .int) (by decide +kernel) rfl rfl hF.1 (by show 2 < 4; decide) ?_
            refine k_next (P := FL g f ac ae (cutF G 0 x w (sz - w)) Eg (sz - w) pt h0) (hF.siz (by omega)) (fun h hF => ?_)
            exact r_vret B hr hlk dX0_remove_60 (Nat.le_of_ble_eq_true rfl) (Nat.le_of_ble_eq_true rfl) ⟨rfl, hF⟩
          · refine r_aload_n B dX0_remove_31 rfl rfl ?_
            refine r_get (C := RX0) (T := TX0) (N := 4) (ci := 0) B dX0_remove_32 in_X0_remove_X0 rfl 0 (by decide) w_X0_remove_f9 rfl hF.1 rfl ?_
            refine r_iload_n B dX0_remove_35 rfl ?_
            refine r_aload_n B dX0_remove_36 rfl rfl ?_
            refine r_iload_n B dX0_remove_37 rfl ?_
            refine r_iload_n B dX0_remove_38 rfl ?_
            refine r_iadd B dX0_remove_39 ?_
            refine r_callV (n := 1) B dX0_remove_40 (ct_X0_byteAt l g sz0 hF _ (by omega)) gX0_remove_X0_byteAt rfl (by decide +kernel) ⟨Nat.le_of_ble_eq_true rfl, Nat.le_of_ble_eq_true rfl⟩ hF.1 rfl rfl rfl (Nat.le_of_ble_eq_true rfl) (Nat.le_of_ble_eq_true rfl) (Nat.le_of_ble_eq_true rfl) (fun v h' hp => ?_)
            obtain ⟨hv, hh⟩ := hp
            subst v
            subst h'
            dsimp only [Option.toList, List.cons_append, List.nil_append]
            rw [byF_in (by omega)]
            refine r_iast B dX0_remove_43 hF.2.1 (by decide) (by omega) (by omega) ?_
            refine k_next (P := FL g f ac ae (upZ (cutF G 0 x w q) q (cutF G 0 x w q (q + w))) Eg sz pt h0) (hF.cel (hF.r _)) (fun h hF => ?_)
            refine r_iinc B dX0_remove_44 rfl (by decide) (lcat_v rfl rfl) ?_
            refine r_goto B dX0_remove_47 (tgt := 12) (by decide) ?_
            exact r_lv (lvLe_s rfl (lvLe_s rfl (lvLe_s rfl (lvLe_s rfl lvLe_nil)))) (ih (q + 1) h (by rw [← cutF_s0 _ _ _ i1.1 hx.2.1]; exact hF) (by omega) (by omega))
    exact r_lv (lvLe_s rfl (lvLe_s rfl (lvLe_s rfl (lvLe_s rfl lvLe_nil)))) (loop12 _ x h (by rw [cutF_0]; exact hF) (by omega) (Nat.lt_succ_self _))
  · exact absurd hx (bI_0.mp c6)
