abbrev rmX1_init : Room := { frames := 1, cells := 1, slots := 48, locals := 40 }
theorem w_X1_init_oi1 : Cond.methodLink RX1 1 Lib.objectInit ∈ wsX1_init := by decide +kernel
theorem w_X1_init_oi2 : Cond.instanceMethod Lib.objectInit ∈ wsX1_init := by decide +kernel
theorem w_X1_init_oi3 : Cond.code Lib.objectInit ⟨#[0xb1]⟩ 1 none ∈ wsX1_init := by decide +kernel
theorem in_X1_init_X1 : ∀ w ∈ wsX10, w ∈ wsX1_init := by decide +kernel
theorem w_X1_init_f7 : Cond.fieldLink RX1 7 "DeltaNights$Chunk" "keptBefore" "LDeltaNights$Chunk;" ∈ wsX1_init := by decide +kernel
theorem w_X1_init_f19 : Cond.fieldLink RX1 19 "DeltaNights$Chunk" "cells" "[I" ∈ wsX1_init := by decide +kernel
set_option maxHeartbeats 4000000 in
set_option maxRecDepth 100000 in
theorem ct_X1_init (l : Launch) (g : GG) (sz0 : Nat) {hI h0 : AH} {f ac ae : Nat} {G Eg : Int → Int} {sz pt : Int} (hF : FL g f ac ae G Eg sz pt h0 hI) {kc : Nat} {pv : Option Nat} (u w : Int) (hk : hI kc = some (oE 1 [.null, .null])) (hu : 0 ≤ u ∧ 0 ≤ w ∧ u + w ≤ 48)  : CT l yX1_init wsX1_init rmX1_init g sz0 [.ref kc, .ref f, .int (iI u), .int (iI w), va_rf pv] hI (fun v h' => v = none ∧ ∃ ca : Nat, hI ca = none ∧ CK g kc ca pv (filC G u w) w h' ∧ (∀ r : Nat, r ≠ kc → hI r ≠ none → h' r = hI r)) := by
  refine CT.of (by decide +kernel) rfl [some (.ref kc), some (.ref f), some (.int (iI (u))), some (.int (iI (w))), some (va_rf pv), none] (by generalize pv = o; cases o <;> rfl) (by generalize pv = o; cases o <;> exact Nat.le_of_ble_eq_true rfl) ?_
  intro p e s m args below meth c B hr hlk hnm
  have n1 : f ≠ kc := oci_ne hF.1 hk (by decide)
  have n2 : ac ≠ kc := fun z => ioe_ne hk hF.2.1 z.symm
  have n3 : ae ≠ kc := fun z => ioe_ne hk hF.2.2.1 z.symm
  have hX : hI kc = some (oE 1 [.null, .null]) ∧ (∀ r : Nat, r ≠ kc → hI r ≠ none → hI r = hI r) := ⟨hk, fun _ _ _ => rfl⟩
  refine r_aload_n B dX1_init_0 rfl rfl ?_
  refine r_objInit B dX1_init_1 w_X1_init_oi1 w_X1_init_oi2 w_X1_init_oi3 (Nat.le_of_ble_eq_true rfl) (Nat.le_of_ble_eq_true rfl) ?_
  refine r_aload_n B dX1_init_4 rfl rfl ?_
  refine r_aload B dX1_init_5 rfl (va_rf_isRef _) ?_
  refine r_putF (C := RX1) (T := TX1) (N := 2) (ci := 1) B dX1_init_7 in_X1_init_X1 tyX1 tyX1_ok nmX1 rfl 1 (by decide) w_X1_init_f7 rfl rfl hnm rfl (ty := .object "DeltaNights$Chunk") (by decide +kernel) (nar_rf _ _) (fit_rf _ _) hX.1 (by show 1 < 2; decide) ?_
  refine k_next (P := fun x => x kc = some (oE 1 [.null, va_rf pv]) ∧ (∀ r : Nat, r ≠ kc → hI r ≠ none → x r = hI r)) ⟨if_pos rfl, fun r r0 r1 => (if_neg r0).trans (hX.2 r r0 r1)⟩ (fun h1 hX => ?_)
  refine r_aload_n B dX1_init_10 rfl rfl ?_
  refine r_iload_n B dX1_init_11 rfl ?_
  refine r_iconst B dX1_init_12 ?_
  refine r_mmax B dX1_init_13 (by decide +kernel) (by decide +kernel) (by decide +kernel) (by decide +kernel) (by omega) (by omega) (Nat.le_of_ble_eq_true rfl) (Nat.le_of_ble_eq_true rfl) (Nat.le_of_ble_eq_true rfl) (Nat.le_of_ble_eq_true rfl) ?_
  refine r_topz (y := w) (by unfold mxZ; split <;> omega) ?_
  refine r_newi B dX1_init_16 (by decide +kernel) (by omega) (by omega) (Nat.le_of_ble_eq_true rfl) (by show 0 + w.toNat ≤ 48; omega) (fun ca sca nca => ?_)
  have nck : ca ≠ kc := fun z => sm_ne hX.1 (by rw [← z]; exact nca)
  have ncI : hI ca = none := by
    cases hh : hI ca with
    | none => rfl
    | some y => exact absurd ((hX.2 ca nck (sm_ne hh)).symm.trans nca) (sm_ne hh)
  refine k_next (P := fun x => x kc = some (oE 1 [.null, va_rf pv]) ∧ x ca = some (iE g w.toNat (filC G u 0)) ∧ (∀ r : Nat, r ≠ kc → hI r ≠ none → x r = hI r)) ⟨(if_neg (fun z => nck z.symm)).trans hX.1, by rw [filC_0]; exact if_pos rfl, fun r r0 r1 => (if_neg (fun z => r1 (by rw [z]; exact ncI))).trans (hX.2 r r0 r1)⟩ (fun h2 hX => ?_)
  refine r_putF (C := RX1) (T := TX1) (N := 2) (ci := 1) B dX1_init_18 in_X1_init_X1 tyX1 tyX1_ok nmX1 rfl 0 (by decide) w_X1_init_f19 rfl rfl hnm rfl (ty := .array .int) (by decide +kernel) rfl rfl hX.1 (by show 0 < 2; decide) ?_
  refine k_next (P := fun x => x kc = some (oE 1 [.ref ca, va_rf pv]) ∧ x ca = some (iE g w.toNat (filC G u 0)) ∧ (∀ r : Nat, r ≠ kc → hI r ≠ none → x r = hI r)) ⟨if_pos rfl, (if_neg nck).trans hX.2.1, fun r r0 r1 => (if_neg r0).trans (hX.2.2 r r0 r1)⟩ (fun h3 hX => ?_)
  refine r_iconst B dX1_init_21 ?_
  refine r_istore B dX1_init_22 (by decide) (lcat_v rfl (va_rf_cat _)) ?_
  have loop24 : ∀ (nn : Nat) (q : Int) (h : AH), h kc = some (oE 1 [.ref ca, va_rf pv]) ∧ h ca = some (iE g w.toNat (filC G u q)) ∧ (∀ r : Nat, r ≠ kc → hI r ≠ none → h r = hI r) → (0 ≤ q ∧ q ≤ w) → (w - q).toNat < nn → WA p l e rmX1_init s m args below meth c g sz0 6 (MQ below (QQ g sz0 (fun v h' => v = none ∧ ∃ ca : Nat, hI ca = none ∧ CK g kc ca pv (filC G u w) w h' ∧ (∀ r : Nat, r ≠ kc → hI r ≠ none → h' r = hI r))) args s rmX1_init.cells rmX1_init.slots (A0 sz0)) h (0 + 1) (0 + w.toNat) [some (.ref kc), some (.ref f), some (.int (iI (u))), some (.int (iI (w))), some (va_rf pv), some (.int (iI (q)))] 24 [] := by
    intro nn
    induction nn with
    | zero => intro q h hX i1 hn; exact absurd hn (Nat.not_lt_zero _)
    | succ nn ih =>
      intro q h hX i1 hn
      refine r_iload B dX1_init_24 rfl ?_
      refine r_aload_n B dX1_init_26 rfl rfl ?_
      refine r_get (C := RX1) (T := TX1) (N := 2) (ci := 1) B dX1_init_27 in_X1_init_X1 rfl 0 (by decide) w_X1_init_f19 rfl hX.1 rfl ?_
      refine r_alen_i B dX1_init_30 hX.2.1 ?_
      rw [show ((w.toNat : Nat) : Int) = w by omega]
      refine r_icmp_ge B dX1_init_31 (tgt := 55) (by decide) (by omega) (by omega) (fun c31 => ?_) (fun c31 => ?_)
      · exact r_vret B hr hlk dX1_init_55 (Nat.le_of_ble_eq_true rfl) (by show 0 + w.toNat ≤ 48; omega) ⟨rfl, ca, ncI, ⟨hX.1, by rw [show w = q by omega] at hX ⊢; exact hX.2.1, by omega, fun i => filC_r hF.r u w i⟩, hX.2.2⟩
      · have hF9 := hF.mv (hX.2.2 f n1 (sm_ne hF.1)) (hX.2.2 ac n2 (sm_ne hF.2.1)) (hX.2.2 ae n3 (sm_ne hF.2.2.1))
        refine r_aload_n B dX1_init_34 rfl rfl ?_
        refine r_get (C := RX1) (T := TX1) (N := 2) (ci := 1) B dX1_init_35 in_X1_init_X1 rfl 0 (by decide) w_X1_init_f19 rfl hX.1 rfl ?_
        refine r_iload B dX1_init_38 rfl ?_
        refine r_aload_n B dX1_init_40 rfl rfl ?_
        refine r_iload_n B dX1_init_41 rfl ?_
        refine r_iload B dX1_init_42 rfl ?_
        refine r_iadd B dX1_init_44 ?_
        refine r_callV (n := 1) B dX1_init_45 (ct_X0_byteAt l g sz0 hF9 _ (by omega)) gX1_init_X0_byteAt rfl (by decide +kernel) ⟨Nat.le_of_ble_eq_true rfl, Nat.le_of_ble_eq_true rfl⟩ hF9.1 rfl rfl rfl (Nat.le_of_ble_eq_true rfl) (Nat.le_of_ble_eq_true rfl) (by show 0 + w.toNat + 0 ≤ 48; omega) (fun v h' hp => ?_)
        obtain ⟨hv, hh⟩ := hp
        subst v
        subst h'
        dsimp only [Option.toList, List.cons_append, List.nil_append]
        rw [byF_in (by omega)]
        refine r_iast B dX1_init_48 hX.2.1 (by omega) (by omega) (by omega) ?_
        refine k_next (P := fun x => x kc = some (oE 1 [.ref ca, va_rf pv]) ∧ x ca = some (iE g w.toNat (filC G u (q + 1))) ∧ (∀ r : Nat, r ≠ kc → hI r ≠ none → x r = hI r)) ⟨(if_neg (fun z => nck z.symm)).trans hX.1, by rw [← filC_s G u i1.1]; exact if_pos rfl, fun r r0 r1 => (if_neg (fun z => r1 (by rw [z]; exact ncI))).trans (hX.2.2 r r0 r1)⟩ (fun h4 hX => ?_)
        refine r_iinc B dX1_init_49 rfl (by decide) (lcat_v rfl (va_rf_cat _)) ?_
        refine r_goto B dX1_init_52 (tgt := 24) (by decide) ?_
        exact r_lv (lvLe_s rfl (lvLe_s rfl (lvLe_s rfl (lvLe_s rfl (lvLe_s rfl (lvLe_s rfl lvLe_nil)))))) (ih (q + 1) h4 hX (by omega) (by omega))
  exact r_lv (lvLe_s rfl (lvLe_s rfl (lvLe_s rfl (lvLe_s rfl (lvLe_s rfl (lvLe_s rfl lvLe_nil)))))) (loop24 _ 0 h3 hX (by omega) (Nat.lt_succ_self _))
