abbrev rmX4_keep : Room := { frames := 2, cells := 2, slots := 50, locals := 65 }
theorem in_X4_keep_X4 : ∀ w ∈ wsX40, w ∈ wsX4_keep := by decide +kernel
theorem w_X4_keep_f7 : Cond.fieldLink RX4 7 "DeltaNights$House" "latest" "LDeltaNights$Chunk;" ∈ wsX4_keep := by decide +kernel
theorem w_X4_keep_iniX1 : Cond.initialized RX1 ∈ wsX4_keep := by decide +kernel
theorem w_X4_keep_insX1_init : Cond.instanceMethod yX1_init ∈ wsX4_keep := by decide +kernel
theorem w_X4_keep_ml48 : Cond.methodLink RX4 48 yX1_init ∈ wsX4_keep := by decide +kernel
theorem w_X4_keep_f13 : Cond.fieldLink RX4 13 "DeltaNights$House" "kept" "I" ∈ wsX4_keep := by decide +kernel
theorem in_X4_keep_X1 : ∀ w ∈ wsX10, w ∈ wsX4_keep := by decide +kernel
theorem w_X4_keep_f45 : Cond.fieldLink RX4 45 "DeltaNights$Chunk" "keptBefore" "LDeltaNights$Chunk;" ∈ wsX4_keep := by decide +kernel
set_option maxHeartbeats 4000000 in
set_option maxRecDepth 100000 in
theorem ct_X4_keep (l : Launch) (g : GG) (sz0 : Nat) {h h0 : AH} {f ac ae : Nat} {G Eg : Int → Int} {sz pt : Int} (hF : FL g f ac ae G Eg sz pt h0 h) {CA : Nat → Nat} {PV : Nat → Option Nat} {CF : Nat → Int → Int} {CN : Nat → Int} {ho : Nat} {kp hN : Int} {Ha : Int → Nat} (u w : Int) (hHO : h ho = some (oE 4 [va_rf (ptr Ha hN 0), .int (iI kp)])) (hH : HCH g CA PV CF CN Ha hN h) (hu : 0 ≤ u ∧ 0 ≤ w ∧ u + w ≤ 48) (hhn : 0 ≤ hN)  : CT l yX4_keep wsX4_keep rmX4_keep g sz0 [.ref ho, .ref f, .int (iI u), .int (iI w)] h (fun v h' => (∃ i : Int, 0 ≤ i ∧ i < hN ∧ runP CF CN G u w (Ha i) ∧ v = some (.ref (Ha i)) ∧ h' = h) ∨ (allN (fun i => ¬ runP CF CN G u w (Ha i)) hN ∧ ∃ k ca : Nat, h k = none ∧ h ca = none ∧ v = some (.ref k) ∧ CK g k ca (ptr Ha hN 0) (filC G u w) w h' ∧ h' ho = some (oE 4 [.ref k, .int (iI (kp + 1))]) ∧ (∀ b : Nat, b ≠ ho → h b ≠ none → h' b = h b))) := by
  refine CT.of (by decide +kernel) rfl [some (.ref ho), some (.ref f), some (.int (iI (u))), some (.int (iI (w))), none] rfl (Nat.le_of_ble_eq_true rfl) ?_
  intro p e s m args below meth c B hr hlk hnm
  refine r_aload_n B dX4_keep_0 rfl rfl ?_
  refine r_get (C := RX4) (T := TX4) (N := 2) (ci := 4) B dX4_keep_1 in_X4_keep_X4 rfl 0 (by decide) w_X4_keep_f7 rfl hHO rfl ?_
  refine r_astore B dX4_keep_4 (va_rf_isRef _) (by decide) (lcat_v rfl rfl) ?_
  have loop6 : ∀ (nn : Nat) (q : Int), (0 ≤ q ∧ q ≤ hN) → (allN (fun i => ¬ runP CF CN G u w (Ha i)) q) → (hN - q).toNat < nn → WA p l e rmX4_keep s m args below meth c g sz0 5 (MQ below (QQ g sz0 (fun v h' => (∃ i : Int, 0 ≤ i ∧ i < hN ∧ runP CF CN G u w (Ha i) ∧ v = some (.ref (Ha i)) ∧ h' = h) ∨ (allN (fun i => ¬ runP CF CN G u w (Ha i)) hN ∧ ∃ k ca : Nat, h k = none ∧ h ca = none ∧ v = some (.ref k) ∧ CK g k ca (ptr Ha hN 0) (filC G u w) w h' ∧ h' ho = some (oE 4 [.ref k, .int (iI (kp + 1))]) ∧ (∀ b : Nat, b ≠ ho → h b ≠ none → h' b = h b)))) args s rmX4_keep.cells rmX4_keep.slots (A0 sz0)) h 0 0 [some (.ref ho), some (.ref f), some (.int (iI (u))), some (.int (iI (w))), some (va_rf (ptr Ha hN q))] 6 [] := by
    intro nn
    induction nn with
    | zero => intro q i1 i2 hn; exact absurd hn (Nat.not_lt_zero _)
    | succ nn ih =>
      intro q i1 i2 hn
      refine r_aload B dX4_keep_6 rfl (va_rf_isRef _) ?_
      refine r_ifnull B dX4_keep_8 (tgt := 35) (by decide) (fun c8 => ?_) (fun a8 c8 => ?_)
      · refine r_new (C := RX1) (T := TX1) (N := 2) (ci := 1) (fs := [.null, .null]) B dX4_keep_35 (by decide +kernel) tyX1 tyX1_ok (by decide +kernel) (by decide +kernel) (by decide +kernel) rfl (by decide) (Nat.le_of_ble_eq_true rfl) (Nat.le_of_ble_eq_true rfl) (fun k sk nk => ?_)
        have k1 : ho ≠ k := fun z => sm_ne hHO (by rw [z]; exact nk)
        have kf : f ≠ k := fun z => sm_ne hF.1 (by rw [z]; exact nk)
        have kc1 : ac ≠ k := fun z => sm_ne hF.2.1 (by rw [z]; exact nk)
        have ke : ae ≠ k := fun z => sm_ne hF.2.2.1 (by rw [z]; exact nk)
        refine k_next (P := fun x => x k = some (oE 1 [.null, .null]) ∧ x ho = some (oE 4 [va_rf (ptr Ha hN 0), .int (iI kp)]) ∧ (∀ b : Nat, b ≠ k → x b = h b)) ⟨if_pos rfl, (if_neg k1).trans hHO, fun b b0 => if_neg b0⟩ (fun h2 hX => ?_)
        have hF2 := hF.mv (hX.2.2 f kf) (hX.2.2 ac kc1) (hX.2.2 ae ke)
        refine r_dup B dX4_keep_38 rfl ?_
        refine r_aload_n B dX4_keep_39 rfl rfl ?_
        refine r_iload_n B dX4_keep_40 rfl ?_
        refine r_iload_n B dX4_keep_41 rfl ?_
        refine r_aload_n B dX4_keep_42 rfl rfl ?_
        refine r_get (C := RX4) (T := TX4) (N := 2) (ci := 4) B dX4_keep_43 in_X4_keep_X4 rfl 0 (by decide) w_X4_keep_f7 rfl hX.2.1 rfl ?_
        refine r_callI (n := 4) B dX4_keep_46 (ct_X1_init l g sz0 hF2 _ _ hX.1 hu) gX4_keep_X1_init rfl w_X4_keep_iniX1 w_X4_keep_ml48 w_X4_keep_insX1_init rfl (by decide +kernel) ⟨Nat.le_of_ble_eq_true rfl, Nat.le_of_ble_eq_true rfl⟩ rfl rfl (Nat.le_of_ble_eq_true rfl) (Nat.le_of_ble_eq_true rfl) (Nat.le_of_ble_eq_true rfl) (fun v h3 hp => ?_)
        obtain ⟨hv, ca, y1, y2, y3⟩ := hp
        subst v
        have nca : h ca = none := by
          by_cases z : ca = k
          · rw [z]; exact nk
          · rw [← hX.2.2 ca z]; exact y1
        replace hX : h3 k = some (oE 1 [.ref ca, va_rf (ptr Ha hN 0)]) ∧ h3 ho = some (oE 4 [va_rf (ptr Ha hN 0), .int (iI kp)]) ∧ CK g k ca (ptr Ha hN 0) (filC G u w) w h3 ∧ (∀ b : Nat, b ≠ k → h b ≠ none → h3 b = h b) := ⟨y2.1, (y3 ho k1 (sm_ne hX.2.1)).trans hX.2.1, y2, fun b b0 b1 => (y3 b b0 (by rw [hX.2.2 b b0]; exact b1)).trans (hX.2.2 b b0)⟩
        dsimp only [Option.toList, List.cons_append, List.nil_append]
        have kca : ca ≠ ho := fun z => sm_ne hHO (by rw [← z]; exact nca)
        refine r_astore B dX4_keep_49 rfl (by decide) (lcat_v rfl rfl) ?_
        refine r_aload_n B dX4_keep_51 rfl rfl ?_
        refine r_aload B dX4_keep_52 rfl rfl ?_
        refine r_put (C := RX4) (T := TX4) (N := 2) (ci := 4) B dX4_keep_54 in_X4_keep_X4 tyX4 tyX4_ok nmX4 rfl 0 (by decide) w_X4_keep_f7 rfl rfl (ty := .object "DeltaNights$Chunk") (by decide +kernel) rfl rfl hX.2.1 (by show 0 < 2; decide) ?_
        refine k_next (P := fun x => x k = some (oE 1 [.ref ca, va_rf (ptr Ha hN 0)]) ∧ x ho = some (oE 4 [.ref k, .int (iI kp)]) ∧ CK g k ca (ptr Ha hN 0) (filC G u w) w x ∧ (∀ b : Nat, b ≠ k → b ≠ ho → h b ≠ none → x b = h b)) ⟨(if_neg (fun z => k1 z.symm)).trans hX.1, if_pos rfl, ⟨(if_neg (fun z => k1 z.symm)).trans hX.2.2.1.1, (if_neg kca).trans hX.2.2.1.2.1, hX.2.2.1.2.2⟩, fun b b0 b1 b2 => (if_neg b1).trans (hX.2.2.2 b b0 b2)⟩ (fun h4 hX => ?_)
        refine r_aload_n B dX4_keep_57 rfl rfl ?_
        refine r_dup B dX4_keep_58 rfl ?_
        refine r_get (C := RX4) (T := TX4) (N := 2) (ci := 4) B dX4_keep_59 in_X4_keep_X4 rfl 1 (by decide) w_X4_keep_f13 rfl hX.2.1 rfl ?_
        refine r_iconst B dX4_keep_62 ?_
        refine r_iadd B dX4_keep_63 ?_
        refine r_put (C := RX4) (T := TX4) (N := 2) (ci := 4) B dX4_keep_64 in_X4_keep_X4 tyX4 tyX4_ok nmX4 rfl 1 (by decide) w_X4_keep_f13 rfl rfl (ty := .int) (by decide +kernel) rfl rfl hX.2.1 (by show 1 < 2; decide) ?_
        refine k_next (P := fun x => x k = some (oE 1 [.ref ca, va_rf (ptr Ha hN 0)]) ∧ x ho = some (oE 4 [.ref k, .int (iI (kp + 1))]) ∧ CK g k ca (ptr Ha hN 0) (filC G u w) w x ∧ (∀ b : Nat, b ≠ k → b ≠ ho → h b ≠ none → x b = h b)) ⟨(if_neg (fun z => k1 z.symm)).trans hX.1, if_pos rfl, ⟨(if_neg (fun z => k1 z.symm)).trans hX.2.2.1.1, (if_neg kca).trans hX.2.2.1.2.1, hX.2.2.1.2.2⟩, fun b b0 b1 b2 => (if_neg b1).trans (hX.2.2.2 b b0 b1 b2)⟩ (fun h4 hX => ?_)
        refine r_aload B dX4_keep_67 rfl rfl ?_
        exact r_aret B hr hlk dX4_keep_69 rfl (Nat.le_of_ble_eq_true rfl) (Nat.le_of_ble_eq_true rfl) (Or.inr ⟨by rw [show hN = q by have := ptr_none c8; omega]; exact i2, k, ca, nk, nca, rfl, hX.2.2.1, hX.2.1, fun b b0 b1 => hX.2.2.2 b (fun z => b1 (by rw [z]; exact nk)) b0 b1⟩)
      · have hck := hH q i1.1 (ptr_some c8)
        refine r_aload B dX4_keep_11 rfl (va_rf_isRef _) ?_
        refine r_topr (ptr_in (ptr_some c8)) ?_
        refine r_aload_n B dX4_keep_13 rfl rfl ?_
        refine r_iload_n B dX4_keep_14 rfl ?_
        refine r_iload_n B dX4_keep_15 rfl ?_
        refine r_callV (n := 3) B dX4_keep_16 (ct_X1_isRun l g sz0 hF hck.2 _ _ hu) gX4_keep_X1_isRun rfl (by decide +kernel) ⟨Nat.le_of_ble_eq_true rfl, Nat.le_of_ble_eq_true rfl⟩ hck.2.1 rfl rfl rfl (Nat.le_of_ble_eq_true rfl) (Nat.le_of_ble_eq_true rfl) (Nat.le_of_ble_eq_true rfl) (fun v h' hp => ?_)
        obtain ⟨hv, hh⟩ := hp
        subst v
        subst h'
        dsimp only [Option.toList, List.cons_append, List.nil_append]
        refine r_if_eq B dX4_keep_19 (tgt := 25) (by decide) (bI_rng _) (fun c19 => ?_) (fun c19 => ?_)
        · replace c19 := bI_0.mp c19
          refine r_aload B dX4_keep_25 rfl (va_rf_isRef _) ?_
          refine r_topr (ptr_in (ptr_some c8)) ?_
          refine r_get (C := RX1) (T := TX1) (N := 2) (ci := 1) B dX4_keep_27 in_X4_keep_X1 rfl 1 (by decide) w_X4_keep_f45 rfl hck.2.1 rfl ?_
          refine r_topv hck.1 ?_
          refine r_astore B dX4_keep_30 (va_rf_isRef _) (by decide) (lcat_v rfl rfl) ?_
          refine r_goto B dX4_keep_32 (tgt := 6) (by decide) ?_
          exact r_lv (lvLe_s rfl (lvLe_s rfl (lvLe_s rfl (lvLe_s rfl (lvLe_s rfl lvLe_nil))))) (ih (q + 1) (by have := ptr_some c8; omega) ((allN_s i1.1).mpr ⟨i2, c19⟩) (by have := ptr_some c8; omega))
        · replace c19 := bI_n0.mp c19
          refine r_aload B dX4_keep_22 rfl (va_rf_isRef _) ?_
          refine r_topr (ptr_in (ptr_some c8)) ?_
          exact r_aret B hr hlk dX4_keep_24 rfl (Nat.le_of_ble_eq_true rfl) (Nat.le_of_ble_eq_true rfl) (Or.inl ⟨q, i1.1, ptr_some c8, c19, rfl, rfl⟩)
  exact r_lv (lvLe_s rfl (lvLe_s rfl (lvLe_s rfl (lvLe_s rfl (lvLe_s rfl lvLe_nil))))) (loop6 _ 0 (by omega) (allN_0 _) (Nat.lt_succ_self _))
