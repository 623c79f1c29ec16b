abbrev rmX1_size : Room := { frames := 0, cells := 0, slots := 0, locals := 0 }
theorem in_X1_size_X1 : ∀ w ∈ wsX10, w ∈ wsX1_size := by decide +kernel
theorem w_X1_size_f19 : Cond.fieldLink RX1 19 "DeltaNights$Chunk" "cells" "[I" ∈ wsX1_size := by decide +kernel
set_option maxHeartbeats 4000000 in
set_option maxRecDepth 100000 in
theorem ct_X1_size (l : Launch) (g : GG) (sz0 : Nat) {h : AH} {kc ca : Nat} {pv : Option Nat} {F : Int → Int} {n : Int} (hC : CK g kc ca pv F n h)  : CT l yX1_size wsX1_size rmX1_size g sz0 [.ref kc] h (fun v h' => v = some (.int (iI n)) ∧ h' = h) := by
  refine CT.of (by decide +kernel) rfl [some (.ref kc)] rfl (Nat.le_of_ble_eq_true rfl) ?_
  intro p e s m args below meth c B hr hlk hnm
  refine r_aload_n B dX1_size_0 rfl rfl ?_
  refine r_get (C := RX1) (T := TX1) (N := 2) (ci := 1) B dX1_size_1 in_X1_size_X1 rfl 0 (by decide) w_X1_size_f19 rfl hC.1 rfl ?_
  refine r_alen_i B dX1_size_4 hC.2.1 ?_
  rw [hC.nn]
  exact r_iret B hr hlk dX1_size_5 (Nat.le_of_ble_eq_true rfl) (Nat.le_of_ble_eq_true rfl) ⟨rfl, rfl⟩
abbrev rmX1_byteAt : Room := { frames := 0, cells := 0, slots := 0, locals := 0 }
theorem in_X1_byteAt_X1 : ∀ w ∈ wsX10, w ∈ wsX1_byteAt := by decide +kernel
theorem w_X1_byteAt_f19 : Cond.fieldLink RX1 19 "DeltaNights$Chunk" "cells" "[I" ∈ wsX1_byteAt := by decide +kernel
set_option maxHeartbeats 4000000 in
set_option maxRecDepth 100000 in
theorem ct_X1_byteAt (l : Launch) (g : GG) (sz0 : Nat) {h : AH} {kc ca : Nat} {pv : Option Nat} {F : Int → Int} {n : Int} (hC : CK g kc ca pv F n h) (x : Int) (hx : 0 ≤ x ∧ x < n) : CT l yX1_byteAt wsX1_byteAt rmX1_byteAt g sz0 [.ref kc, .int (iI (x))] h (fun v h' => v = some (.int (iI (F x))) ∧ h' = h) := by
  refine CT.of (by decide +kernel) rfl [some (.ref kc), some (.int (iI (x)))] rfl (Nat.le_of_ble_eq_true rfl) ?_
  intro p e s m args below meth c B hr hlk hnm
  have hn9 := hC.2.2.1
  refine r_iload_n B dX1_byteAt_0 rfl ?_
  refine r_if_lt B dX1_byteAt_1 (tgt := 22) (by decide) (by omega) (fun c1 => ?_) (fun c1 => ?_)
  · refine r_iconst B dX1_byteAt_22 ?_
    exact r_iret B hr hlk dX1_byteAt_23 (Nat.le_of_ble_eq_true rfl) (Nat.le_of_ble_eq_true rfl) (by exfalso; omega)
  · refine r_iload_n B dX1_byteAt_4 rfl ?_
    refine r_aload_n B dX1_byteAt_5 rfl rfl ?_
    refine r_get (C := RX1) (T := TX1) (N := 2) (ci := 1) B dX1_byteAt_6 in_X1_byteAt_X1 rfl 0 (by decide) w_X1_byteAt_f19 rfl hC.1 rfl ?_
    refine r_alen_i B dX1_byteAt_9 hC.2.1 ?_
    rw [hC.nn]
    refine r_icmp_ge B dX1_byteAt_10 (tgt := 22) (by decide) (by omega) (by omega) (fun c10 => ?_) (fun c10 => ?_)
    · refine r_iconst B dX1_byteAt_22 ?_
      exact r_iret B hr hlk dX1_byteAt_23 (Nat.le_of_ble_eq_true rfl) (Nat.le_of_ble_eq_true rfl) (by exfalso; omega)
    · refine r_aload_n B dX1_byteAt_13 rfl rfl ?_
      refine r_get (C := RX1) (T := TX1) (N := 2) (ci := 1) B dX1_byteAt_14 in_X1_byteAt_X1 rfl 0 (by decide) w_X1_byteAt_f19 rfl hC.1 rfl ?_
      refine r_iload_n B dX1_byteAt_17 rfl ?_
      refine r_iald B dX1_byteAt_18 hC.2.1 hC.b (by omega) (by omega) ?_
      refine r_goto B dX1_byteAt_19 (tgt := 23) (by decide) ?_
      exact r_iret B hr hlk dX1_byteAt_23 (Nat.le_of_ble_eq_true rfl) (Nat.le_of_ble_eq_true rfl) ⟨rfl, rfl⟩
abbrev rmX1_isRun : Room := { frames := 0, cells := 0, slots := 0, locals := 0 }
theorem in_X1_isRun_X1 : ∀ w ∈ wsX10, w ∈ wsX1_isRun := by decide +kernel
theorem w_X1_isRun_f19 : Cond.fieldLink RX1 19 "DeltaNights$Chunk" "cells" "[I" ∈ wsX1_isRun := by decide +kernel
theorem in_X1_isRun_X0 : ∀ w ∈ wsX00, w ∈ wsX1_isRun := by decide +kernel
theorem w_X1_isRun_f29 : Cond.fieldLink RX1 29 "DeltaNights$ByteFile" "cells" "[I" ∈ wsX1_isRun := by decide +kernel
set_option maxHeartbeats 4000000 in
set_option maxRecDepth 100000 in
theorem ct_X1_isRun (l : Launch) (g : GG) (sz0 : Nat) {h h0 : AH} {f ac ae : Nat} {G Eg : Int → Int} {sz pt : Int} (hF : FL g f ac ae G Eg sz pt h0 h) {kc ca : Nat} {pv : Option Nat} {F : Int → Int} {n : Int} (hC : CK g kc ca pv F n h) (u w : Int) (hu : 0 ≤ u ∧ 0 ≤ w ∧ u + w ≤ 48) : CT l yX1_isRun wsX1_isRun rmX1_isRun g sz0 [.ref kc, .ref f, .int (iI (u)), .int (iI (w))] h (fun v h' => v = some (.int (iI (bI (n = w ∧ allN (fun j => F j = G (u + j)) n)))) ∧ h' = h) := by
  refine CT.of (by decide +kernel) rfl [some (.ref kc), some (.ref f), some (.int (iI (u))), some (.int (iI (w))), none] rfl (Nat.le_of_ble_eq_true rfl) ?_
  intro p e s m args below meth c B hr hlk hnm
  have hn9 := hC.2.2.1
  refine r_iload_n B dX1_isRun_0 rfl ?_
  refine r_aload_n B dX1_isRun_1 rfl rfl ?_
  refine r_get (C := RX1) (T := TX1) (N := 2) (ci := 1) B dX1_isRun_2 in_X1_isRun_X1 rfl 0 (by decide) w_X1_isRun_f19 rfl hC.1 rfl ?_
  refine r_alen_i B dX1_isRun_5 hC.2.1 ?_
  rw [hC.nn]
  refine r_icmp_ne B dX1_isRun_6 (tgt := 24) (by decide) (by omega) (by omega) (fun c6 => ?_) (fun c6 => ?_)
  · refine r_iconst B dX1_isRun_24 ?_
    exact r_zret B hr hlk dX1_isRun_25 (Nat.le_of_ble_eq_true rfl) (Nat.le_of_ble_eq_true rfl) (by first | exact nar_0 | exact nar_1 | exact nar_bI _) ⟨by rw [bI_f (fun z : (n = w ∧ allN (fun j => F j = G (u + j)) n) => by omega)], rfl⟩
  · refine r_iload_n B dX1_isRun_9 rfl ?_
    refine r_if_lt B dX1_isRun_10 (tgt := 24) (by decide) (by omega) (fun c10 => ?_) (fun c10 => ?_)
    · refine r_iconst B dX1_isRun_24 ?_
      exact r_zret B hr hlk dX1_isRun_25 (Nat.le_of_ble_eq_true rfl) (Nat.le_of_ble_eq_true rfl) (by first | exact nar_0 | exact nar_1 | exact nar_bI _) (by exfalso; omega)
    · refine r_iload_n B dX1_isRun_13 rfl ?_
      refine r_aload_n B dX1_isRun_14 rfl rfl ?_
      refine r_get (C := RX0) (T := TX0) (N := 4) (ci := 0) B dX1_isRun_15 in_X1_isRun_X0 rfl 0 (by decide) w_X1_isRun_f29 rfl hF.1 rfl ?_
      refine r_alen_i B dX1_isRun_18 hF.2.1 ?_
      refine r_iload_n B dX1_isRun_19 rfl ?_
      refine r_isub B dX1_isRun_20 ?_
      refine r_icmp_le B dX1_isRun_21 (tgt := 26) (by decide) (by omega) (by omega) (fun c21 => ?_) (fun c21 => ?_)
      · refine r_iconst B dX1_isRun_26 ?_
        refine r_istore B dX1_isRun_27 (by decide) (lcat_v rfl rfl) ?_
        have loop29 : ∀ (nn : Nat) (q : Int), (0 ≤ q ∧ q ≤ n) → (allN (fun j => F j = G (u + j)) q) → (n - q).toNat < nn → WA p l e rmX1_isRun s m args below meth c g sz0 5 (MQ below (QQ g sz0 (fun v h' => v = some (.int (iI (bI (n = w ∧ allN (fun j => F j = G (u + j)) n)))) ∧ h' = h)) args s rmX1_isRun.cells rmX1_isRun.slots (A0 sz0)) h 0 0 [some (.ref kc), some (.ref f), some (.int (iI (u))), some (.int (iI (w))), some (.int (iI (q)))] 29 [] := by
          intro nn
          induction nn with
          | zero => intro q i1 i2 hn; exact absurd hn (Nat.not_lt_zero _)
          | succ nn ih =>
            intro q i1 i2 hn
            refine r_iload B dX1_isRun_29 rfl ?_
            refine r_aload_n B dX1_isRun_31 rfl rfl ?_
            refine r_get (C := RX1) (T := TX1) (N := 2) (ci := 1) B dX1_isRun_32 in_X1_isRun_X1 rfl 0 (by decide) w_X1_isRun_f19 rfl hC.1 rfl ?_
            refine r_alen_i B dX1_isRun_35 hC.2.1 ?_
            rw [hC.nn]
            refine r_icmp_ge B dX1_isRun_36 (tgt := 66) (by decide) (by omega) (by omega) (fun c36 => ?_) (fun c36 => ?_)
            · refine r_iconst B dX1_isRun_66 ?_
              exact r_zret B hr hlk dX1_isRun_67 (Nat.le_of_ble_eq_true rfl) (Nat.le_of_ble_eq_true rfl) (by first | exact nar_0 | exact nar_1 | exact nar_bI _) ⟨by rw [bI_t (show (n = w ∧ allN (fun j => F j = G (u + j)) n) from ⟨by omega, by rw [show n = q by omega]; exact i2⟩)], rfl⟩
            · refine r_aload_n B dX1_isRun_39 rfl rfl ?_
              refine r_get (C := RX1) (T := TX1) (N := 2) (ci := 1) B dX1_isRun_40 in_X1_isRun_X1 rfl 0 (by decide) w_X1_isRun_f19 rfl hC.1 rfl ?_
              refine r_iload B dX1_isRun_43 rfl ?_
              refine r_iald B dX1_isRun_45 hC.2.1 hC.b (by omega) (by omega) ?_
              refine r_aload_n B dX1_isRun_46 rfl rfl ?_
              refine r_get (C := RX0) (T := TX0) (N := 4) (ci := 0) B dX1_isRun_47 in_X1_isRun_X0 rfl 0 (by decide) w_X1_isRun_f29 rfl hF.1 rfl ?_
              refine r_iload_n B dX1_isRun_50 rfl ?_
              refine r_iload B dX1_isRun_51 rfl ?_
              refine r_iadd B dX1_isRun_53 ?_
              refine r_iald B dX1_isRun_54 hF.2.1 (by decide) (by omega) (by omega) ?_
              refine r_icmp_eq B dX1_isRun_55 (tgt := 60) (by decide) (hC.r _) (hF.r _) (fun c55 => ?_) (fun c55 => ?_)
              · refine r_iinc B dX1_isRun_60 rfl (by decide) (lcat_v rfl rfl) ?_
                refine r_goto B dX1_isRun_63 (tgt := 29) (by decide) ?_
                exact r_lv (lvLe_s rfl (lvLe_s rfl (lvLe_s rfl (lvLe_s rfl (lvLe_s rfl lvLe_nil))))) (ih (q + 1) (by omega) ((allN_s i1.1).mpr ⟨i2, c55⟩) (by omega))
              · refine r_iconst B dX1_isRun_58 ?_
                exact r_zret B hr hlk dX1_isRun_59 (Nat.le_of_ble_eq_true rfl) (Nat.le_of_ble_eq_true rfl) (by first | exact nar_0 | exact nar_1 | exact nar_bI _) ⟨by rw [bI_f (fun z : (n = w ∧ allN (fun j => F j = G (u + j)) n) => c55 (z.2 q i1.1 (by omega)))], rfl⟩
        exact r_lv (lvLe_s rfl (lvLe_s rfl (lvLe_s rfl (lvLe_s rfl (lvLe_s rfl lvLe_nil))))) (loop29 _ 0 (by omega) (allN_0 _) (Nat.lt_succ_self _))
      · refine r_iconst B dX1_isRun_24 ?_
        exact r_zret B hr hlk dX1_isRun_25 (Nat.le_of_ble_eq_true rfl) (Nat.le_of_ble_eq_true rfl) (by first | exact nar_0 | exact nar_1 | exact nar_bI _) (by exfalso; omega)
abbrev rmX1_foldedInto : Room := { frames := 1, cells := 0, slots := 0, locals := 22 }
theorem in_X1_foldedInto_X1 : ∀ w ∈ wsX10, w ∈ wsX1_foldedInto := by decide +kernel
theorem w_X1_foldedInto_f19 : Cond.fieldLink RX1 19 "DeltaNights$Chunk" "cells" "[I" ∈ wsX1_foldedInto := by decide +kernel
theorem w_X1_foldedInto_iniX9 : Cond.initialized RX9 ∈ wsX1_foldedInto := by decide +kernel
theorem w_X1_foldedInto_stX9_foldIn : Cond.static yX9_foldIn ∈ wsX1_foldedInto := by decide +kernel
set_option maxHeartbeats 4000000 in
set_option maxRecDepth 100000 in
theorem ct_X1_foldedInto (l : Launch) (g : GG) (sz0 : Nat) {h : AH} {kc ca : Nat} {pv : Option Nat} {F : Int → Int} {n : Int} (hC : CK g kc ca pv F n h) (x : Int64)  : CT l yX1_foldedInto wsX1_foldedInto rmX1_foldedInto g sz0 [.ref kc, .long x] h (fun v h' => v = some (.long (digF x F n.toNat)) ∧ h' = h) := by
  refine CT.of (by decide +kernel) rfl [some (.ref kc), some (.long x), none, none, none, none] rfl (Nat.le_of_ble_eq_true rfl) ?_
  intro p e s m args below meth c B hr hlk hnm
  have hn9 := hC.2.2.1
  refine r_lload_n B dX1_foldedInto_0 rfl ?_
  refine r_lstore_n B dX1_foldedInto_1 rfl (by decide) (lcat_n rfl) ?_
  refine r_iconst B dX1_foldedInto_2 ?_
  refine r_istore B dX1_foldedInto_3 (by decide) (lcat_n rfl) ?_
  have loop5 : ∀ (nn : Nat) (q : Int), (0 ≤ q ∧ q ≤ n) → (n - q).toNat < nn → WA p l e rmX1_foldedInto s m args below meth c g sz0 6 (MQ below (QQ g sz0 (fun v h' => v = some (.long (digF x F n.toNat)) ∧ h' = h)) args s rmX1_foldedInto.cells rmX1_foldedInto.slots (A0 sz0)) h 0 0 [some (.ref kc), some (.long x), none, some (.long (digF x F q.toNat)), none, some (.int (iI (q)))] 5 [] := by
    intro nn
    induction nn with
    | zero => intro q i1 hn; exact absurd hn (Nat.not_lt_zero _)
    | succ nn ih =>
      intro q i1 hn
      refine r_iload B dX1_foldedInto_5 rfl ?_
      refine r_aload_n B dX1_foldedInto_7 rfl rfl ?_
      refine r_get (C := RX1) (T := TX1) (N := 2) (ci := 1) B dX1_foldedInto_8 in_X1_foldedInto_X1 rfl 0 (by decide) w_X1_foldedInto_f19 rfl hC.1 rfl ?_
      refine r_alen_i B dX1_foldedInto_11 hC.2.1 ?_
      rw [hC.nn]
      refine r_icmp_ge B dX1_foldedInto_12 (tgt := 33) (by decide) (by omega) (by omega) (fun c12 => ?_) (fun c12 => ?_)
      · refine r_lload_n B dX1_foldedInto_33 rfl ?_
        exact r_lret B hr hlk dX1_foldedInto_34 (Nat.le_of_ble_eq_true rfl) (Nat.le_of_ble_eq_true rfl) ⟨by rw [show n = q by omega], rfl⟩
      · refine r_lload_n B dX1_foldedInto_15 rfl ?_
        refine r_aload_n B dX1_foldedInto_16 rfl rfl ?_
        refine r_get (C := RX1) (T := TX1) (N := 2) (ci := 1) B dX1_foldedInto_17 in_X1_foldedInto_X1 rfl 0 (by decide) w_X1_foldedInto_f19 rfl hC.1 rfl ?_
        refine r_iload B dX1_foldedInto_20 rfl ?_
        refine r_iald B dX1_foldedInto_22 hC.2.1 hC.b (by omega) (by omega) ?_
        refine r_callSN (n := 2) B dX1_foldedInto_23 (ct_X9_foldIn l g sz0 _ _) gX1_foldedInto_X9_foldIn_n30 rfl w_X1_foldedInto_iniX9 (by decide +kernel) w_X1_foldedInto_stX9_foldIn (by decide +kernel) ⟨Nat.le_of_ble_eq_true rfl, Nat.le_of_ble_eq_true rfl⟩ rfl rfl (Nat.le_of_ble_eq_true rfl) (Nat.le_of_ble_eq_true rfl) (Nat.le_of_ble_eq_true rfl) (fun v h' hp => ?_)
        obtain ⟨hv, hh⟩ := hp
        subst v
        subst h'
        dsimp only [Option.toList, List.cons_append, List.nil_append]
        refine r_lstore_n B dX1_foldedInto_26 rfl (by decide) (lcat_n rfl) ?_
        refine r_iinc B dX1_foldedInto_27 rfl (by decide) (lcat_n rfl) ?_
        refine r_goto B dX1_foldedInto_30 (tgt := 5) (by decide) ?_
        rw [← digF_s _ _ i1.1]
        exact r_lv (lvLe_s rfl (lvLe_s rfl (lvLe_n (lvLe_s rfl (lvLe_n (lvLe_s rfl lvLe_nil)))))) (ih (q + 1) (by omega) (by omega))
  exact r_lv (lvLe_s rfl (lvLe_s rfl (lvLe_n (lvLe_s rfl (lvLe_n (lvLe_s rfl lvLe_nil)))))) (loop5 _ 0 (by omega) (Nat.lt_succ_self _))
