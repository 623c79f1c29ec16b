abbrev rmX10_minutes0 : Room := { frames := 6, cells := 0, slots := 0, locals := 147 }
theorem in_X10_minutes0_X10 : ∀ w ∈ wsX100, w ∈ wsX10_minutes0 := by decide +kernel
theorem w_X10_minutes0_f19 : Cond.fieldLink RX10 19 "DeltaNightsModel" "many" "[I" ∈ wsX10_minutes0 := by decide +kernel
theorem w_X10_minutes0_f48 : Cond.fieldLink RX10 48 "DeltaNightsModel" "mount" "I" ∈ wsX10_minutes0 := by decide +kernel
theorem w_X10_minutes0_f51 : Cond.fieldLink RX10 51 "DeltaNightsModel" "speed" "I" ∈ wsX10_minutes0 := by decide +kernel
set_option maxHeartbeats 4000000 in
set_option maxRecDepth 100000 in
theorem ct_X10_minutes0 (l : Launch) (g : GG) (sz0 : Nat) (ad : Nat → Nat) (hA : ADok ad) {h h0 : AH} {mthrown mnights mbits mleast mmost mroom mreserve mmount mspeed : Int} {mdata msize mends mmany mkind mchain mholds mbid mbound mcheap mpromised mcoin mpaid mowed mturn misAsking mwant mcost misServed mitsRow mitsChunk : Int → Int} (hM : MW g ad h0 mthrown mdata msize mends mmany mkind mchain mholds mnights mbits mleast mmost mroom mreserve mmount mspeed mbid mbound mcheap mpromised mcoin mpaid mowed mturn misAsking mwant mcost misServed mitsRow mitsChunk h) (x k : Int) (hx : 0 ≤ x ∧ x ≤ 3) (hk : 0 ≤ k ∧ k < mnights) (hn0 : 0 ≤ mnights ∧ mnights ≤ 60)(hLK : LKo mends mmany)(hsp : 0 < mspeed ∧ mspeed < 2147483648) : CT l yX10_minutes0 wsX10_minutes0 rmX10_minutes0 g sz0 [.ref (ad 0), .int (iI (x)), .int (iI (k))] h (fun v h' => v = some (.float (mnF (mmount * (mntM mdata mends mmany mkind mchain mholds mnights x k)) (baseB (rowF mdata (60 * x + k)) (rowF mends (60 * x + k)) (mmany (60 * x + k))) mspeed)) ∧ h' = h) := by
  refine CT.of (by decide +kernel) rfl [some (.ref (ad 0)), some (.int (iI (x))), some (.int (iI (k))), none, none, none] rfl (Nat.le_of_ble_eq_true rfl) ?_
  intro p e s m args below meth c B hr hlk hnm
  have hL := hLK (60 * x + k) (by omega) (by omega)
  refine r_bipush B dX10_minutes0_0 (by decide) ?_
  refine r_iload_n B dX10_minutes0_2 rfl ?_
  refine r_imul B dX10_minutes0_3 ?_
  refine r_iload_n B dX10_minutes0_4 rfl ?_
  refine r_iadd B dX10_minutes0_5 ?_
  refine r_istore_n B dX10_minutes0_6 rfl (by decide) (lcat_v rfl rfl) ?_
  refine r_aload_n B dX10_minutes0_7 rfl rfl ?_
  refine m_get_many B dX10_minutes0_8 in_X10_minutes0_X10 w_X10_minutes0_f19 hM ?_
  refine r_iload_n B dX10_minutes0_11 rfl ?_
  refine m_ld_many B dX10_minutes0_12 hM (by omega) (by omega) (fun r12 => ?_)
  refine r_istore B dX10_minutes0_13 (by decide) (lcat_v rfl rfl) ?_
  refine r_iconst B dX10_minutes0_15 ?_
  refine r_istore B dX10_minutes0_16 (by decide) (lcat_v rfl rfl) ?_
  have loop18 : ∀ (nn : Nat) (q : Int) (n : Int), (0 ≤ q ∧ q ≤ mmany (60 * x + k)) → (n = mmany (60 * x + k) + sumZ (fun j => bI (fstC (chk (rowF mdata (60 * x + k)) (rowF mends (60 * x + k))) j) * lnF (rowF mends (60 * x + k)) j) q.toNat) → (mmany (60 * x + k) - q).toNat < nn → WA p l e rmX10_minutes0 s m args below meth c g sz0 6 (MQ below (QQ g sz0 (fun v h' => v = some (.float (mnF (mmount * (mntM mdata mends mmany mkind mchain mholds mnights x k)) (baseB (rowF mdata (60 * x + k)) (rowF mends (60 * x + k)) (mmany (60 * x + k))) mspeed)) ∧ h' = h)) args s rmX10_minutes0.cells rmX10_minutes0.slots (A0 sz0)) h 0 0 [some (.ref (ad 0)), some (.int (iI (x))), some (.int (iI (k))), some (.int (iI ((60 * x + k)))), some (.int (iI (n))), some (.int (iI (q)))] 18 [] := by
    intro nn
    induction nn with
    | zero => intro q n i1 i2 hn; exact absurd hn (Nat.not_lt_zero _)
    | succ nn ih =>
      intro q n i1 i2 hn
      refine r_iload B dX10_minutes0_18 rfl ?_
      refine r_aload_n B dX10_minutes0_20 rfl rfl ?_
      refine m_get_many B dX10_minutes0_21 in_X10_minutes0_X10 w_X10_minutes0_f19 hM ?_
      refine r_iload_n B dX10_minutes0_24 rfl ?_
      refine m_ld_many B dX10_minutes0_25 hM (by omega) (by omega) (fun r25 => ?_)
      refine r_icmp_ge B dX10_minutes0_26 (tgt := 61) (by decide) (by omega) (by omega) (fun c26 => ?_) (fun c26 => ?_)
      · have hq : q = mmany (60 * x + k) := by omega
        have hn9 : n = (baseB (rowF mdata (60 * x + k)) (rowF mends (60 * x + k)) (mmany (60 * x + k))) := by rw [i2, hq]; rfl
        refine r_aload_n B dX10_minutes0_61 rfl rfl ?_
        refine m_get_mount B dX10_minutes0_62 in_X10_minutes0_X10 w_X10_minutes0_f48 hM (fun r62 => ?_)
        refine r_aload_n B dX10_minutes0_65 rfl rfl ?_
        refine r_iload_n B dX10_minutes0_66 rfl ?_
        refine r_iload_n B dX10_minutes0_67 rfl ?_
        refine r_callV (n := 2) B dX10_minutes0_68 (ct_X10_mounts0 l g sz0 ad hA hM _ _ hx hk hn0 hLK) gX10_minutes0_X10_mounts0 rfl (by decide +kernel) ⟨Nat.le_of_ble_eq_true rfl, Nat.le_of_ble_eq_true rfl⟩ hM.obj rfl rfl rfl (Nat.le_of_ble_eq_true rfl) (Nat.le_of_ble_eq_true rfl) (Nat.le_of_ble_eq_true rfl) (fun v h' hp => ?_)
        obtain ⟨hv, hh⟩ := hp
        subst v
        subst h'
        dsimp only [Option.toList, List.cons_append, List.nil_append]
        refine r_imul B dX10_minutes0_71 ?_
        refine r_i2f B dX10_minutes0_72 ?_
        refine r_iload B dX10_minutes0_73 rfl ?_
        refine r_i2f B dX10_minutes0_75 ?_
        refine r_aload_n B dX10_minutes0_76 rfl rfl ?_
        refine m_get_speed B dX10_minutes0_77 in_X10_minutes0_X10 w_X10_minutes0_f51 hM (fun r77 => ?_)
        refine r_i2f B dX10_minutes0_80 ?_
        refine r_fdiv B dX10_minutes0_81 (vf_of (dv_ok hsp)) ?_
        refine r_fadd B dX10_minutes0_82 (vf_of (mn_ok hsp)) ?_
        exact r_fret B hr hlk dX10_minutes0_83 (Nat.le_of_ble_eq_true rfl) (Nat.le_of_ble_eq_true rfl) ⟨by rw [hn9]; rfl, rfl⟩
      · refine r_iload B dX10_minutes0_29 rfl ?_
        refine r_aload_n B dX10_minutes0_31 rfl rfl ?_
        refine r_iload_n B dX10_minutes0_32 rfl ?_
        refine r_iload B dX10_minutes0_33 rfl ?_
        refine r_callV (n := 2) B dX10_minutes0_35 (ct_X10_isFirst l g sz0 ad hA hM _ _ (n := mmany (60 * x + k)) (by omega) (by omega) (by omega) hL.2) gX10_minutes0_X10_isFirst rfl (by decide +kernel) ⟨Nat.le_of_ble_eq_true rfl, Nat.le_of_ble_eq_true rfl⟩ hM.obj rfl rfl rfl (Nat.le_of_ble_eq_true rfl) (Nat.le_of_ble_eq_true rfl) (Nat.le_of_ble_eq_true rfl) (fun v h' hp => ?_)
        obtain ⟨hv, hh⟩ := hp
        subst v
        subst h'
        dsimp only [Option.toList, List.cons_append, List.nil_append]
        refine r_if_eq B dX10_minutes0_38 (tgt := 51) (by decide) (bI_rng _) (fun c38 => ?_) (fun c38 => ?_)
        · replace c38 := bI_0.mp c38
          refine r_iconst B dX10_minutes0_51 ?_
          refine r_iadd B dX10_minutes0_52 ?_
          refine r_istore B dX10_minutes0_53 (by decide) (lcat_v rfl rfl) ?_
          refine r_iinc B dX10_minutes0_55 rfl (by decide) (lcat_v rfl rfl) ?_
          refine r_goto B dX10_minutes0_58 (tgt := 18) (by decide) ?_
          exact r_lv (lvLe_s rfl (lvLe_s rfl (lvLe_s rfl (lvLe_s rfl (lvLe_s rfl (lvLe_s rfl lvLe_nil)))))) (ih (q + 1) _ (by omega) (by rw [sumZ_s _ i1.1, bI_f c38, i2]; omega) (by omega))
        · replace c38 := bI_n0.mp c38
          refine r_aload_n B dX10_minutes0_41 rfl rfl ?_
          refine r_iload_n B dX10_minutes0_42 rfl ?_
          refine r_iload B dX10_minutes0_43 rfl ?_
          refine r_callV (n := 2) B dX10_minutes0_45 (ct_X10_bytesOf l g sz0 ad hA hM _ _ (by omega) (by omega)) gX10_minutes0_X10_bytesOf rfl (by decide +kernel) ⟨Nat.le_of_ble_eq_true rfl, Nat.le_of_ble_eq_true rfl⟩ hM.obj rfl rfl rfl (Nat.le_of_ble_eq_true rfl) (Nat.le_of_ble_eq_true rfl) (Nat.le_of_ble_eq_true rfl) (fun v h' hp => ?_)
          obtain ⟨hv, hh⟩ := hp
          subst v
          subst h'
          dsimp only [Option.toList, List.cons_append, List.nil_append]
          refine r_goto B dX10_minutes0_48 (tgt := 52) (by decide) ?_
          refine r_iadd B dX10_minutes0_52 ?_
          refine r_istore B dX10_minutes0_53 (by decide) (lcat_v rfl rfl) ?_
          refine r_iinc B dX10_minutes0_55 rfl (by decide) (lcat_v rfl rfl) ?_
          refine r_goto B dX10_minutes0_58 (tgt := 18) (by decide) ?_
          exact r_lv (lvLe_s rfl (lvLe_s rfl (lvLe_s rfl (lvLe_s rfl (lvLe_s rfl (lvLe_s rfl lvLe_nil)))))) (ih (q + 1) _ (by omega) (by rw [sumZ_s _ i1.1, bI_t c38, i2]; omega) (by omega))
  exact r_lv (lvLe_s rfl (lvLe_s rfl (lvLe_s rfl (lvLe_s rfl (lvLe_s rfl (lvLe_s rfl lvLe_nil)))))) (loop18 _ 0 (mmany (60 * x + k)) (by omega) (by show _ = _ + 0; omega) (Nat.lt_succ_self _))
