abbrev rmX10_begins : Room := { frames := 0, cells := 0, slots := 0, locals := 0 }
theorem in_X10_begins_X10 : ∀ w ∈ wsX100, w ∈ wsX10_begins := by decide +kernel
theorem w_X10_begins_f16 : Cond.fieldLink RX10 16 "DeltaNightsModel" "ends" "[I" ∈ wsX10_begins := by decide +kernel
set_option maxHeartbeats 4000000 in
set_option maxRecDepth 100000 in
theorem ct_X10_begins (l : Launch) (g : GG) (sz0 : Nat) (ad : Nat → Nat) (hA : ADok ad) {h h0 : AH} {mthrown mnights mbits mleast mmost mroom mreserve mmount mspeed : Int} {mdata msize mends mmany mkind mchain mholds mbid mbound mcheap mpromised mcoin mpaid mowed mturn misAsking mwant mcost misServed mitsRow mitsChunk : Int → Int} (hM : MW g ad h0 mthrown mdata msize mends mmany mkind mchain mholds mnights mbits mleast mmost mroom mreserve mmount mspeed mbid mbound mcheap mpromised mcoin mpaid mowed mturn misAsking mwant mcost misServed mitsRow mitsChunk h) (r k : Int) (hr : 0 ≤ r ∧ r < 244) (hk : 0 ≤ k ∧ k < 48) : CT l yX10_begins wsX10_begins rmX10_begins g sz0 [.ref (ad 0), .int (iI (r)), .int (iI (k))] h (fun v h' => v = some (.int (iI (bgF (rowF mends r) k))) ∧ h' = h) := by
  refine CT.of (by decide +kernel) rfl [some (.ref (ad 0)), some (.int (iI (r))), some (.int (iI (k)))] rfl (Nat.le_of_ble_eq_true rfl) ?_
  intro p e s m args below meth c B hr hlk hnm
  refine r_iload_n B dX10_begins_0 rfl ?_
  refine r_if_ne B dX10_begins_1 (tgt := 8) (by decide) (by omega) (fun c1 => ?_) (fun c1 => ?_)
  · refine r_aload_n B dX10_begins_8 rfl rfl ?_
    refine m_get_ends B dX10_begins_9 in_X10_begins_X10 w_X10_begins_f16 hM ?_
    refine r_bipush B dX10_begins_12 (by decide) ?_
    refine r_iload_n B dX10_begins_14 rfl ?_
    refine r_imul B dX10_begins_15 ?_
    refine r_iload_n B dX10_begins_16 rfl ?_
    refine r_iadd B dX10_begins_17 ?_
    refine r_iconst B dX10_begins_18 ?_
    refine r_isub B dX10_begins_19 ?_
    refine m_ld_ends B dX10_begins_20 hM (by omega) (by omega) (fun r20 => ?_)
    exact r_iret B hr hlk dX10_begins_21 (Nat.le_of_ble_eq_true rfl) (Nat.le_of_ble_eq_true rfl) ⟨by unfold bgF rowF; rw [if_neg c1, show 48 * r + (k - 1) = 48 * r + k - 1 by omega], rfl⟩
  · refine r_iconst B dX10_begins_4 ?_
    refine r_goto B dX10_begins_5 (tgt := 21) (by decide) ?_
    exact r_iret B hr hlk dX10_begins_21 (Nat.le_of_ble_eq_true rfl) (Nat.le_of_ble_eq_true rfl) ⟨by unfold bgF; rw [if_pos c1], rfl⟩
abbrev rmX10_bytesOf : Room := { frames := 1, cells := 0, slots := 0, locals := 22 }
theorem in_X10_bytesOf_X10 : ∀ w ∈ wsX100, w ∈ wsX10_bytesOf := by decide +kernel
theorem w_X10_bytesOf_f16 : Cond.fieldLink RX10 16 "DeltaNightsModel" "ends" "[I" ∈ wsX10_bytesOf := by decide +kernel
set_option maxHeartbeats 4000000 in
set_option maxRecDepth 100000 in
theorem ct_X10_bytesOf (l : Launch) (g : GG) (sz0 : Nat) (ad : Nat → Nat) (hA : ADok ad) {h h0 : AH} {mthrown mnights mbits mleast mmost mroom mreserve mmount mspeed : Int} {mdata msize mends mmany mkind mchain mholds mbid mbound mcheap mpromised mcoin mpaid mowed mturn misAsking mwant mcost misServed mitsRow mitsChunk : Int → Int} (hM : MW g ad h0 mthrown mdata msize mends mmany mkind mchain mholds mnights mbits mleast mmost mroom mreserve mmount mspeed mbid mbound mcheap mpromised mcoin mpaid mowed mturn misAsking mwant mcost misServed mitsRow mitsChunk h) (r k : Int) (hr : 0 ≤ r ∧ r < 244) (hk : 0 ≤ k ∧ k < 48) : CT l yX10_bytesOf wsX10_bytesOf rmX10_bytesOf g sz0 [.ref (ad 0), .int (iI (r)), .int (iI (k))] h (fun v h' => v = some (.int (iI (lnF (rowF mends r) k))) ∧ h' = h) := by
  refine CT.of (by decide +kernel) rfl [some (.ref (ad 0)), some (.int (iI (r))), some (.int (iI (k)))] rfl (Nat.le_of_ble_eq_true rfl) ?_
  intro p e s m args below meth c B hr hlk hnm
  refine r_aload_n B dX10_bytesOf_0 rfl rfl ?_
  refine m_get_ends B dX10_bytesOf_1 in_X10_bytesOf_X10 w_X10_bytesOf_f16 hM ?_
  refine r_bipush B dX10_bytesOf_4 (by decide) ?_
  refine r_iload_n B dX10_bytesOf_6 rfl ?_
  refine r_imul B dX10_bytesOf_7 ?_
  refine r_iload_n B dX10_bytesOf_8 rfl ?_
  refine r_iadd B dX10_bytesOf_9 ?_
  refine m_ld_ends B dX10_bytesOf_10 hM (by omega) (by omega) (fun r10 => ?_)
  refine r_aload_n B dX10_bytesOf_11 rfl rfl ?_
  refine r_iload_n B dX10_bytesOf_12 rfl ?_
  refine r_iload_n B dX10_bytesOf_13 rfl ?_
  refine r_callV (n := 2) B dX10_bytesOf_14 (ct_X10_begins l g sz0 ad hA hM _ _ (by omega) (by omega)) gX10_bytesOf_X10_begins rfl (by decide +kernel) ⟨Nat.le_of_ble_eq_true rfl, Nat.le_of_ble_eq_true rfl⟩ hM.obj rfl rfl rfl (Nat.le_of_ble_eq_true rfl) (Nat.le_of_ble_eq_true rfl) (Nat.le_of_ble_eq_true rfl) (fun v h' hp => ?_)
  obtain ⟨hv, hh⟩ := hp
  subst v
  subst h'
  dsimp only [Option.toList, List.cons_append, List.nil_append]
  refine r_isub B dX10_bytesOf_17 ?_
  exact r_iret B hr hlk dX10_bytesOf_18 (Nat.le_of_ble_eq_true rfl) (Nat.le_of_ble_eq_true rfl) ⟨rfl, rfl⟩
abbrev rmX10_isSame : Room := { frames := 2, cells := 0, slots := 0, locals := 44 }
set_option maxHeartbeats 4000000 in
set_option maxRecDepth 100000 in
theorem ct_X10_isSame (l : Launch) (g : GG) (sz0 : Nat) (ad : Nat → Nat) (hA : ADok ad) {h h0 : AH} {mthrown mnights mbits mleast mmost mroom mreserve mmount mspeed : Int} {mdata msize mends mmany mkind mchain mholds mbid mbound mcheap mpromised mcoin mpaid mowed mturn misAsking mwant mcost misServed mitsRow mitsChunk : Int → Int} (hM : MW g ad h0 mthrown mdata msize mends mmany mkind mchain mholds mnights mbits mleast mmost mroom mreserve mmount mspeed mbid mbound mcheap mpromised mcoin mpaid mowed mturn misAsking mwant mcost misServed mitsRow mitsChunk h) (x k y w : Int) (hx : 0 ≤ x ∧ x < 244) (hk : 0 ≤ k ∧ k < 48) (hy : 0 ≤ y ∧ y < 244) (hw : 0 ≤ w ∧ w < 48) (v1 : 0 ≤ bgF (rowF mends x) k ∧ bgF (rowF mends x) k < rowF mends x k ∧ rowF mends x k ≤ 48) (v2 : 0 ≤ bgF (rowF mends y) w ∧ bgF (rowF mends y) w < rowF mends y w ∧ rowF mends y w ≤ 48) : CT l yX10_isSame wsX10_isSame rmX10_isSame g sz0 [.ref (ad 0), .int (iI (x)), .int (iI (k)), .int (iI (y)), .int (iI (w))] h (fun v h' => v = some (.int (iI (bI ((chk (rowF mdata x) (rowF mends x)) k = (chk (rowF mdata y) (rowF mends y)) w)))) ∧ h' = h) := by
  refine CT.of (by decide +kernel) rfl [some (.ref (ad 0)), some (.int (iI (x))), some (.int (iI (k))), some (.int (iI (y))), some (.int (iI (w))), none, none, none] rfl (Nat.le_of_ble_eq_true rfl) ?_
  intro p e s m args below meth c B hr hlk hnm
  refine r_aload_n B dX10_isSame_0 rfl rfl ?_
  refine r_iload_n B dX10_isSame_1 rfl ?_
  refine r_iload_n B dX10_isSame_2 rfl ?_
  refine r_callV (n := 2) B dX10_isSame_3 (ct_X10_bytesOf l g sz0 ad hA hM _ _ (by omega) (by omega)) gX10_isSame_X10_bytesOf rfl (by decide +kernel) ⟨Nat.le_of_ble_eq_true rfl, Nat.le_of_ble_eq_true rfl⟩ hM.obj rfl rfl rfl (Nat.le_of_ble_eq_true rfl) (Nat.le_of_ble_eq_true rfl) (Nat.le_of_ble_eq_true rfl) (fun v h' hp => ?_)
  obtain ⟨hv, hh⟩ := hp
  subst v
  subst h'
  dsimp only [Option.toList, List.cons_append, List.nil_append]
  refine r_istore B dX10_isSame_6 (by decide) (lcat_v rfl rfl) ?_
  have l1 : lnF (rowF mends x) k = rowF mends x k - bgF (rowF mends x) k := rfl
  have l2 : lnF (rowF mends y) w = rowF mends y w - bgF (rowF mends y) w := rfl
  have hce := chk_eq (G := rowF mdata x) (G' := rowF mdata y) (E := rowF mends x) (E' := rowF mends y) (k := k) (k' := w) (by omega) (by omega)
  refine r_aload_n B dX10_isSame_8 rfl rfl ?_
  refine r_iload_n B dX10_isSame_9 rfl ?_
  refine r_iload B dX10_isSame_10 rfl ?_
  refine r_callV (n := 2) B dX10_isSame_12 (ct_X10_bytesOf l g sz0 ad hA hM _ _ (by omega) (by omega)) gX10_isSame_X10_bytesOf rfl (by decide +kernel) ⟨Nat.le_of_ble_eq_true rfl, Nat.le_of_ble_eq_true rfl⟩ hM.obj rfl rfl rfl (Nat.le_of_ble_eq_true rfl) (Nat.le_of_ble_eq_true rfl) (Nat.le_of_ble_eq_true rfl) (fun v h' hp => ?_)
  obtain ⟨hv, hh⟩ := hp
  subst v
  subst h'
  dsimp only [Option.toList, List.cons_append, List.nil_append]
  refine r_iload B dX10_isSame_15 rfl ?_
  have join25 : WA p l e rmX10_isSame s m args below meth c g sz0 8 (MQ below (QQ g sz0 (fun v h' => v = some (.int (iI (bI ((chk (rowF mdata x) (rowF mends x)) k = (chk (rowF mdata y) (rowF mends y)) w)))) ∧ h' = h)) args s rmX10_isSame.cells rmX10_isSame.slots (A0 sz0)) h 0 0 [some (.ref (ad 0)), some (.int (iI (x))), some (.int (iI (k))), some (.int (iI (y))), some (.int (iI (w))), some (.int (iI (lnF (rowF mends x) k))), none, none] 25 [.int (iI (bI (lnF (rowF mends y) w = lnF (rowF mends x) k)))] := by
    refine r_istore B dX10_isSame_25 (by decide) (lcat_v rfl rfl) ?_
    refine r_iconst B dX10_isSame_27 ?_
    refine r_istore B dX10_isSame_28 (by decide) (lcat_v rfl rfl) ?_
    have loop30 : ∀ (nn : Nat) (q : Int) (b : Int), (0 ≤ q ∧ q ≤ lnF (rowF mends x) k) → (b = bI ((lnF (rowF mends y) w = lnF (rowF mends x) k) ∧ allN (fun j => rowF mdata x (bgF (rowF mends x) k + j) = rowF mdata y (bgF (rowF mends y) w + j)) q)) → (lnF (rowF mends x) k - q).toNat < nn → WA p l e rmX10_isSame s m args below meth c g sz0 8 (MQ below (QQ g sz0 (fun v h' => v = some (.int (iI (bI ((chk (rowF mdata x) (rowF mends x)) k = (chk (rowF mdata y) (rowF mends y)) w)))) ∧ h' = h)) args s rmX10_isSame.cells rmX10_isSame.slots (A0 sz0)) h 0 0 [some (.ref (ad 0)), some (.int (iI (x))), some (.int (iI (k))), some (.int (iI (y))), some (.int (iI (w))), some (.int (iI (lnF (rowF mends x) k))), some (.int (iI (b))), some (.int (iI (q)))] 30 [] := by
      intro nn
      induction nn with
      | zero => intro q b i1 i2 hn; exact absurd hn (Nat.not_lt_zero _)
      | succ nn ih =>
        intro q b i1 i2 hn
        refine r_iload B dX10_isSame_30 rfl ?_
        refine r_iload B dX10_isSame_32 rfl ?_
        refine r_icmp_ge B dX10_isSame_34 (tgt := 87) (by decide) (by omega) (by omega) (fun c34 => ?_) (fun c34 => ?_)
        · refine r_iload B dX10_isSame_87 rfl ?_
          exact r_zret B hr hlk dX10_isSame_89 (Nat.le_of_ble_eq_true rfl) (Nat.le_of_ble_eq_true rfl) (by rw [i2]; exact nar_bI _) ⟨by rw [i2, bI_eq (Iff.trans (and_congr eq_comm (by rw [show q = lnF (rowF mends x) k by omega]; exact Iff.rfl)) hce.symm)], rfl⟩
        · refine r_iload B dX10_isSame_37 rfl ?_
          refine r_if_eq B dX10_isSame_39 (tgt := 87) (by decide) (by rw [i2]; exact bI_rng _) (fun c39 => ?_) (fun c39 => ?_)
          · have hb := bI_0.mp (show bI _ = 0 by rw [← i2]; exact c39)
            refine r_iload B dX10_isSame_87 rfl ?_
            exact r_zret B hr hlk dX10_isSame_89 (Nat.le_of_ble_eq_true rfl) (Nat.le_of_ble_eq_true rfl) (by rw [i2]; exact nar_bI _) ⟨by rw [i2, bI_f hb, bI_f]; exact fun z => hb ⟨(hce.mp z).1.symm, fun j j0 j1 => (hce.mp z).2 j j0 (by omega)⟩, rfl⟩
          · have hb := bI_n0.mp (show ¬ bI _ = 0 by rw [← i2]; exact c39)
            refine r_aload_n B dX10_isSame_42 rfl rfl ?_
            refine r_iload_n B dX10_isSame_43 rfl ?_
            refine r_aload_n B dX10_isSame_44 rfl rfl ?_
            refine r_iload_n B dX10_isSame_45 rfl ?_
            refine r_iload_n B dX10_isSame_46 rfl ?_
            refine r_callV (n := 2) B dX10_isSame_47 (ct_X10_begins l g sz0 ad hA hM _ _ (by omega) (by omega)) gX10_isSame_X10_begins rfl (by decide +kernel) ⟨Nat.le_of_ble_eq_true rfl, Nat.le_of_ble_eq_true rfl⟩ hM.obj rfl rfl rfl (Nat.le_of_ble_eq_true rfl) (Nat.le_of_ble_eq_true rfl) (Nat.le_of_ble_eq_true rfl) (fun v h' hp => ?_)
            obtain ⟨hv, hh⟩ := hp
            subst v
            subst h'
            dsimp only [Option.toList, List.cons_append, List.nil_append]
            refine r_iload B dX10_isSame_50 rfl ?_
            refine r_iadd B dX10_isSame_52 ?_
            refine r_callV (n := 2) B dX10_isSame_53 (ct_X10_at0 l g sz0 ad hA hM _ _ (by omega)) gX10_isSame_X10_at0 rfl (by decide +kernel) ⟨Nat.le_of_ble_eq_true rfl, Nat.le_of_ble_eq_true rfl⟩ hM.obj rfl rfl rfl (Nat.le_of_ble_eq_true rfl) (Nat.le_of_ble_eq_true rfl) (Nat.le_of_ble_eq_true rfl) (fun v h' hp => ?_)
            obtain ⟨hv, hh⟩ := hp
            subst v
            subst h'
            dsimp only [Option.toList, List.cons_append, List.nil_append]
            refine r_aload_n B dX10_isSame_56 rfl rfl ?_
            refine r_iload_n B dX10_isSame_57 rfl ?_
            refine r_aload_n B dX10_isSame_58 rfl rfl ?_
            refine r_iload_n B dX10_isSame_59 rfl ?_
            refine r_iload B dX10_isSame_60 rfl ?_
            refine r_callV (n := 2) B dX10_isSame_62 (ct_X10_begins l g sz0 ad hA hM _ _ (by omega) (by omega)) gX10_isSame_X10_begins rfl (by decide +kernel) ⟨Nat.le_of_ble_eq_true rfl, Nat.le_of_ble_eq_true rfl⟩ hM.obj rfl rfl rfl (Nat.le_of_ble_eq_true rfl) (Nat.le_of_ble_eq_true rfl) (Nat.le_of_ble_eq_true rfl) (fun v h' hp => ?_)
            obtain ⟨hv, hh⟩ := hp
            subst v
            subst h'
            dsimp only [Option.toList, List.cons_append, List.nil_append]
            refine r_iload B dX10_isSame_65 rfl ?_
            refine r_iadd B dX10_isSame_67 ?_
            refine r_callV (n := 2) B dX10_isSame_68 (ct_X10_at0 l g sz0 ad hA hM _ _ (by omega)) gX10_isSame_X10_at0 rfl (by decide +kernel) ⟨Nat.le_of_ble_eq_true rfl, Nat.le_of_ble_eq_true rfl⟩ hM.obj rfl rfl rfl (Nat.le_of_ble_eq_true rfl) (Nat.le_of_ble_eq_true rfl) (Nat.le_of_ble_eq_true rfl) (fun v h' hp => ?_)
            obtain ⟨hv, hh⟩ := hp
            subst v
            subst h'
            dsimp only [Option.toList, List.cons_append, List.nil_append]
            refine r_icmp_ne B dX10_isSame_71 (tgt := 78) (by decide) (hM.r_data _) (hM.r_data _) (fun c71 => ?_) (fun c71 => ?_)
            · refine r_iconst B dX10_isSame_78 ?_
              refine r_istore B dX10_isSame_79 (by decide) (lcat_v rfl rfl) ?_
              refine r_iinc B dX10_isSame_81 rfl (by decide) (lcat_v rfl rfl) ?_
              refine r_goto B dX10_isSame_84 (tgt := 30) (by decide) ?_
              exact r_lv (lvLe_s rfl (lvLe_s rfl (lvLe_s rfl (lvLe_s rfl (lvLe_s rfl (lvLe_s rfl (lvLe_s rfl (lvLe_s rfl lvLe_nil)))))))) (ih (q + 1) _ (by omega) (by rw [bI_f]; rintro ⟨z1, z2⟩; exact c71 (z2 q i1.1 (by omega))) (by omega))
            · refine r_iconst B dX10_isSame_74 ?_
              refine r_goto B dX10_isSame_75 (tgt := 79) (by decide) ?_
              refine r_istore B dX10_isSame_79 (by decide) (lcat_v rfl rfl) ?_
              refine r_iinc B dX10_isSame_81 rfl (by decide) (lcat_v rfl rfl) ?_
              refine r_goto B dX10_isSame_84 (tgt := 30) (by decide) ?_
              exact r_lv (lvLe_s rfl (lvLe_s rfl (lvLe_s rfl (lvLe_s rfl (lvLe_s rfl (lvLe_s rfl (lvLe_s rfl (lvLe_s rfl lvLe_nil)))))))) (ih (q + 1) _ (by omega) (by rw [bI_t]; exact ⟨hb.1, (allN_s i1.1).mpr ⟨hb.2, c71⟩⟩) (by omega))
    exact r_lv (lvLe_s rfl (lvLe_s rfl (lvLe_s rfl (lvLe_s rfl (lvLe_s rfl (lvLe_s rfl (lvLe_s rfl (lvLe_s rfl lvLe_nil)))))))) (loop30 _ 0 _ (by omega) (bI_eq ⟨fun z => ⟨z, allN_0 _⟩, fun z => z.1⟩) (Nat.lt_succ_self _))
  refine r_icmp_ne B dX10_isSame_17 (tgt := 24) (by decide) (by omega) (by omega) (fun c17 => ?_) (fun c17 => ?_)
  · refine r_iconst B dX10_isSame_24 ?_
    first | rw [bI_t (show (lnF (rowF mends y) w = lnF (rowF mends x) k) by omega)] at join25 | rw [bI_f (show ¬ (lnF (rowF mends y) w = lnF (rowF mends x) k) by omega)] at join25
    exact r_lv (lvLe_s rfl (lvLe_s rfl (lvLe_s rfl (lvLe_s rfl (lvLe_s rfl (lvLe_s rfl (lvLe_n (lvLe_n lvLe_nil)))))))) (join25)
  · refine r_iconst B dX10_isSame_20 ?_
    refine r_goto B dX10_isSame_21 (tgt := 25) (by decide) ?_
    first | rw [bI_t (show (lnF (rowF mends y) w = lnF (rowF mends x) k) by omega)] at join25 | rw [bI_f (show ¬ (lnF (rowF mends y) w = lnF (rowF mends x) k) by omega)] at join25
    exact r_lv (lvLe_s rfl (lvLe_s rfl (lvLe_s rfl (lvLe_s rfl (lvLe_s rfl (lvLe_s rfl (lvLe_n (lvLe_n lvLe_nil)))))))) (join25)
abbrev rmX10_isFirst : Room := { frames := 3, cells := 0, slots := 0, locals := 71 }
set_option maxHeartbeats 4000000 in
set_option maxRecDepth 100000 in
theorem ct_X10_isFirst (l : Launch) (g : GG) (sz0 : Nat) (ad : Nat → Nat) (hA : ADok ad) {h h0 : AH} {mthrown mnights mbits mleast mmost mroom mreserve mmount mspeed : Int} {mdata msize mends mmany mkind mchain mholds mbid mbound mcheap mpromised mcoin mpaid mowed mturn misAsking mwant mcost misServed mitsRow mitsChunk : Int → Int} (hM : MW g ad h0 mthrown mdata msize mends mmany mkind mchain mholds mnights mbits mleast mmost mroom mreserve mmount mspeed mbid mbound mcheap mpromised mcoin mpaid mowed mturn misAsking mwant mcost misServed mitsRow mitsChunk h) (x k : Int) {n : Int} (hx : 0 ≤ x ∧ x < 244) (hk : 0 ≤ k ∧ k < n) (hn : n ≤ 48) (he : EOK (rowF mends x) n) : CT l yX10_isFirst wsX10_isFirst rmX10_isFirst g sz0 [.ref (ad 0), .int (iI (x)), .int (iI (k))] h (fun v h' => v = some (.int (iI (bI (fstC (chk (rowF mdata x) (rowF mends x)) k)))) ∧ h' = h) := by
  refine CT.of (by decide +kernel) rfl [some (.ref (ad 0)), some (.int (iI (x))), some (.int (iI (k))), none, none] rfl (Nat.le_of_ble_eq_true rfl) ?_
  intro p e s m args below meth c B hr hlk hnm
  refine r_iconst B dX10_isFirst_0 ?_
  refine r_istore_n B dX10_isFirst_1 rfl (by decide) (lcat_v rfl rfl) ?_
  refine r_iconst B dX10_isFirst_2 ?_
  refine r_istore B dX10_isFirst_3 (by decide) (lcat_v rfl rfl) ?_
  have loop5 : ∀ (nn : Nat) (q : Int) (b : Int), (0 ≤ q ∧ q ≤ k) → (b = bI (allN (fun j => (chk (rowF mdata x) (rowF mends x)) j ≠ (chk (rowF mdata x) (rowF mends x)) k) q)) → (k - q).toNat < nn → WA p l e rmX10_isFirst s m args below meth c g sz0 5 (MQ below (QQ g sz0 (fun v h' => v = some (.int (iI (bI (fstC (chk (rowF mdata x) (rowF mends x)) k)))) ∧ h' = h)) args s rmX10_isFirst.cells rmX10_isFirst.slots (A0 sz0)) h 0 0 [some (.ref (ad 0)), some (.int (iI (x))), some (.int (iI (k))), some (.int (iI (b))), some (.int (iI (q)))] 5 [] := by
    intro nn
    induction nn with
    | zero => intro q b i1 i2 hn; exact absurd hn (Nat.not_lt_zero _)
    | succ nn ih =>
      intro q b i1 i2 hn
      refine r_iload B dX10_isFirst_5 rfl ?_
      refine r_iload_n B dX10_isFirst_7 rfl ?_
      refine r_icmp_ge B dX10_isFirst_8 (tgt := 39) (by decide) (by omega) (by omega) (fun c8 => ?_) (fun c8 => ?_)
      · refine r_iload_n B dX10_isFirst_39 rfl ?_
        exact r_zret B hr hlk dX10_isFirst_40 (Nat.le_of_ble_eq_true rfl) (Nat.le_of_ble_eq_true rfl) (by rw [i2]; exact nar_bI _) ⟨by rw [i2, show q = k by omega]; rfl, rfl⟩
      · refine r_iload_n B dX10_isFirst_11 rfl ?_
        refine r_if_eq B dX10_isFirst_12 (tgt := 39) (by decide) (by rw [i2]; exact bI_rng _) (fun c12 => ?_) (fun c12 => ?_)
        · have hb := bI_0.mp (show bI _ = 0 by rw [← i2]; exact c12)
          refine r_iload_n B dX10_isFirst_39 rfl ?_
          exact r_zret B hr hlk dX10_isFirst_40 (Nat.le_of_ble_eq_true rfl) (Nat.le_of_ble_eq_true rfl) (by rw [i2]; exact nar_bI _) ⟨by rw [i2, bI_f hb, bI_f]; exact fun z => hb (allN_le i1.2 z), rfl⟩
        · have hb := bI_n0.mp (show ¬ bI _ = 0 by rw [← i2]; exact c12)
          refine r_aload_n B dX10_isFirst_15 rfl rfl ?_
          refine r_iload_n B dX10_isFirst_16 rfl ?_
          refine r_iload B dX10_isFirst_17 rfl ?_
          refine r_iload_n B dX10_isFirst_19 rfl ?_
          refine r_iload_n B dX10_isFirst_20 rfl ?_
          refine r_callV (n := 4) B dX10_isFirst_21 (ct_X10_isSame l g sz0 ad hA hM _ _ _ _ (by omega) (by omega) (by omega) (by omega) (he q (by omega) (by omega)) (he k (by omega) (by omega))) gX10_isFirst_X10_isSame rfl (by decide +kernel) ⟨Nat.le_of_ble_eq_true rfl, Nat.le_of_ble_eq_true rfl⟩ hM.obj rfl rfl rfl (Nat.le_of_ble_eq_true rfl) (Nat.le_of_ble_eq_true rfl) (Nat.le_of_ble_eq_true rfl) (fun v h' hp => ?_)
          obtain ⟨hv, hh⟩ := hp
          subst v
          subst h'
          dsimp only [Option.toList, List.cons_append, List.nil_append]
          refine r_if_ne B dX10_isFirst_24 (tgt := 31) (by decide) (bI_rng _) (fun c24 => ?_) (fun c24 => ?_)
          · replace c24 := bI_n0.mp c24
            refine r_iconst B dX10_isFirst_31 ?_
            refine r_istore_n B dX10_isFirst_32 rfl (by decide) (lcat_v rfl rfl) ?_
            refine r_iinc B dX10_isFirst_33 rfl (by decide) (lcat_v rfl rfl) ?_
            refine r_goto B dX10_isFirst_36 (tgt := 5) (by decide) ?_
            exact r_lv (lvLe_s rfl (lvLe_s rfl (lvLe_s rfl (lvLe_s rfl (lvLe_s rfl lvLe_nil))))) (ih (q + 1) _ (by omega) (by rw [bI_f]; intro z; exact z q i1.1 (by omega) c24) (by omega))
          · replace c24 := bI_0.mp c24
            refine r_iconst B dX10_isFirst_27 ?_
            refine r_goto B dX10_isFirst_28 (tgt := 32) (by decide) ?_
            refine r_istore_n B dX10_isFirst_32 rfl (by decide) (lcat_v rfl rfl) ?_
            refine r_iinc B dX10_isFirst_33 rfl (by decide) (lcat_v rfl rfl) ?_
            refine r_goto B dX10_isFirst_36 (tgt := 5) (by decide) ?_
            exact r_lv (lvLe_s rfl (lvLe_s rfl (lvLe_s rfl (lvLe_s rfl (lvLe_s rfl lvLe_nil))))) (ih (q + 1) _ (by omega) (by rw [bI_t]; exact (allN_s i1.1).mpr ⟨hb, c24⟩) (by omega))
  exact r_lv (lvLe_s rfl (lvLe_s rfl (lvLe_s rfl (lvLe_s rfl (lvLe_s rfl lvLe_nil))))) (loop5 _ 0 _ (by omega) (bI_t (allN_0 _)).symm (Nat.lt_succ_self _))
abbrev rmX10_isHeld : Room := { frames := 3, cells := 0, slots := 0, locals := 71 }
theorem in_X10_isHeld_X10 : ∀ w ∈ wsX100, w ∈ wsX10_isHeld := by decide +kernel
theorem w_X10_isHeld_f19 : Cond.fieldLink RX10 19 "DeltaNightsModel" "many" "[I" ∈ wsX10_isHeld := by decide +kernel
theorem w_X10_isHeld_f28 : Cond.fieldLink RX10 28 "DeltaNightsModel" "holds" "[Z" ∈ wsX10_isHeld := by decide +kernel
set_option maxHeartbeats 4000000 in
set_option maxRecDepth 100000 in
theorem ct_X10_isHeld (l : Launch) (g : GG) (sz0 : Nat) (ad : Nat → Nat) (hA : ADok ad) {h h0 : AH} {mthrown mnights mbits mleast mmost mroom mreserve mmount mspeed : Int} {mdata msize mends mmany mkind mchain mholds mbid mbound mcheap mpromised mcoin mpaid mowed mturn misAsking mwant mcost misServed mitsRow mitsChunk : Int → Int} (hM : MW g ad h0 mthrown mdata msize mends mmany mkind mchain mholds mnights mbits mleast mmost mroom mreserve mmount mspeed mbid mbound mcheap mpromised mcoin mpaid mowed mturn misAsking mwant mcost misServed mitsRow mitsChunk h) (x y k : Int) (hx : 0 ≤ x ∧ x < 240) (hy : 0 ≤ y ∧ y < 244) (hk : 0 ≤ k ∧ k < 48) (v2 : 0 ≤ bgF (rowF mends y) k ∧ bgF (rowF mends y) k < rowF mends y k ∧ rowF mends y k ≤ 48) (hm : 0 ≤ mmany x ∧ mmany x ≤ 48) (he : EOK (rowF mends x) (mmany x)) : CT l yX10_isHeld wsX10_isHeld rmX10_isHeld g sz0 [.ref (ad 0), .int (iI (x)), .int (iI (y)), .int (iI (k))] h (fun v h' => v = some (.int (iI (bI (hldC (rowF mholds x) (chk (rowF mdata x) (rowF mends x)) (mmany x) ((chk (rowF mdata y) (rowF mends y)) k))))) ∧ h' = h) := by
  refine CT.of (by decide +kernel) rfl [some (.ref (ad 0)), some (.int (iI (x))), some (.int (iI (y))), some (.int (iI (k))), none, none] rfl (Nat.le_of_ble_eq_true rfl) ?_
  intro p e s m args below meth c B hr hlk hnm
  refine r_iconst B dX10_isHeld_0 ?_
  refine r_istore B dX10_isHeld_1 (by decide) (lcat_v rfl rfl) ?_
  refine r_iconst B dX10_isHeld_3 ?_
  refine r_istore B dX10_isHeld_4 (by decide) (lcat_v rfl rfl) ?_
  have loop6 : ∀ (nn : Nat) (q : Int) (b : Int), (0 ≤ q ∧ q ≤ mmany x) → (b = bI (hldC (rowF mholds x) (chk (rowF mdata x) (rowF mends x)) q ((chk (rowF mdata y) (rowF mends y)) k))) → (mmany x - q).toNat < nn → WA p l e rmX10_isHeld s m args below meth c g sz0 6 (MQ below (QQ g sz0 (fun v h' => v = some (.int (iI (bI (hldC (rowF mholds x) (chk (rowF mdata x) (rowF mends x)) (mmany x) ((chk (rowF mdata y) (rowF mends y)) k))))) ∧ h' = h)) args s rmX10_isHeld.cells rmX10_isHeld.slots (A0 sz0)) h 0 0 [some (.ref (ad 0)), some (.int (iI (x))), some (.int (iI (y))), some (.int (iI (k))), some (.int (iI (b))), some (.int (iI (q)))] 6 [] := by
    intro nn
    induction nn with
    | zero => intro q b i1 i2 hn; exact absurd hn (Nat.not_lt_zero _)
    | succ nn ih =>
      intro q b i1 i2 hn
      refine r_iload B dX10_isHeld_6 rfl ?_
      refine r_aload_n B dX10_isHeld_8 rfl rfl ?_
      refine m_get_many B dX10_isHeld_9 in_X10_isHeld_X10 w_X10_isHeld_f19 hM ?_
      refine r_iload_n B dX10_isHeld_12 rfl ?_
      refine m_ld_many B dX10_isHeld_13 hM (by omega) (by omega) (fun r13 => ?_)
      refine r_icmp_ge B dX10_isHeld_14 (tgt := 62) (by decide) (by omega) (by omega) (fun c14 => ?_) (fun c14 => ?_)
      · refine r_iload B dX10_isHeld_62 rfl ?_
        exact r_zret B hr hlk dX10_isHeld_64 (Nat.le_of_ble_eq_true rfl) (Nat.le_of_ble_eq_true rfl) (by rw [i2]; exact nar_bI _) ⟨by rw [i2, show q = mmany x by omega], rfl⟩
      · refine r_iload B dX10_isHeld_17 rfl ?_
        refine r_if_ne B dX10_isHeld_19 (tgt := 62) (by decide) (by rw [i2]; exact bI_rng _) (fun c19 => ?_) (fun c19 => ?_)
        · have hb := bI_n0.mp (show ¬ bI _ = 0 by rw [← i2]; exact c19)
          refine r_iload B dX10_isHeld_62 rfl ?_
          exact r_zret B hr hlk dX10_isHeld_64 (Nat.le_of_ble_eq_true rfl) (Nat.le_of_ble_eq_true rfl) (by rw [i2]; exact nar_bI _) ⟨by rw [i2, bI_t hb, bI_t]; exact exN_le i1.2 hb, rfl⟩
        · have hb := bI_0.mp (show bI _ = 0 by rw [← i2]; exact c19)
          refine r_aload_n B dX10_isHeld_22 rfl rfl ?_
          refine m_get_holds B dX10_isHeld_23 in_X10_isHeld_X10 w_X10_isHeld_f28 hM ?_
          refine r_bipush B dX10_isHeld_26 (by decide) ?_
          refine r_iload_n B dX10_isHeld_28 rfl ?_
          refine r_imul B dX10_isHeld_29 ?_
          refine r_iload B dX10_isHeld_30 rfl ?_
          refine r_iadd B dX10_isHeld_32 ?_
          refine m_ld_holds B dX10_isHeld_33 hM (by omega) (by omega) (fun r33 => ?_)
          refine r_if_eq B dX10_isHeld_34 (tgt := 53) (by decide) (by omega) (fun c34 => ?_) (fun c34 => ?_)
          · refine r_iconst B dX10_isHeld_53 ?_
            refine r_istore B dX10_isHeld_54 (by decide) (lcat_v rfl rfl) ?_
            refine r_iinc B dX10_isHeld_56 rfl (by decide) (lcat_v rfl rfl) ?_
            refine r_goto B dX10_isHeld_59 (tgt := 6) (by decide) ?_
            exact r_lv (lvLe_s rfl (lvLe_s rfl (lvLe_s rfl (lvLe_s rfl (lvLe_s rfl (lvLe_s rfl lvLe_nil)))))) (ih (q + 1) _ (by omega) (by rw [bI_f]; intro z; rcases (exN_s i1.1).mp z with z | z; exact hb z; exact z.1 c34) (by omega))
          · refine r_aload_n B dX10_isHeld_37 rfl rfl ?_
            refine r_iload_n B dX10_isHeld_38 rfl ?_
            refine r_iload B dX10_isHeld_39 rfl ?_
            refine r_iload_n B dX10_isHeld_41 rfl ?_
            refine r_iload_n B dX10_isHeld_42 rfl ?_
            refine r_callV (n := 4) B dX10_isHeld_43 (ct_X10_isSame l g sz0 ad hA hM _ _ _ _ (by omega) (by omega) (by omega) (by omega) (he q (by omega) (by omega)) v2) gX10_isHeld_X10_isSame rfl (by decide +kernel) ⟨Nat.le_of_ble_eq_true rfl, Nat.le_of_ble_eq_true rfl⟩ hM.obj rfl rfl rfl (Nat.le_of_ble_eq_true rfl) (Nat.le_of_ble_eq_true rfl) (Nat.le_of_ble_eq_true rfl) (fun v h' hp => ?_)
            obtain ⟨hv, hh⟩ := hp
            subst v
            subst h'
            dsimp only [Option.toList, List.cons_append, List.nil_append]
            refine r_if_eq B dX10_isHeld_46 (tgt := 53) (by decide) (bI_rng _) (fun c46 => ?_) (fun c46 => ?_)
            · replace c46 := bI_0.mp c46
              refine r_iconst B dX10_isHeld_53 ?_
              refine r_istore B dX10_isHeld_54 (by decide) (lcat_v rfl rfl) ?_
              refine r_iinc B dX10_isHeld_56 rfl (by decide) (lcat_v rfl rfl) ?_
              refine r_goto B dX10_isHeld_59 (tgt := 6) (by decide) ?_
              exact r_lv (lvLe_s rfl (lvLe_s rfl (lvLe_s rfl (lvLe_s rfl (lvLe_s rfl (lvLe_s rfl lvLe_nil)))))) (ih (q + 1) _ (by omega) (by rw [bI_f]; intro z; rcases (exN_s i1.1).mp z with z | z; exact hb z; exact c46 z.2) (by omega))
            · replace c46 := bI_n0.mp c46
              refine r_iconst B dX10_isHeld_49 ?_
              refine r_goto B dX10_isHeld_50 (tgt := 54) (by decide) ?_
              refine r_istore B dX10_isHeld_54 (by decide) (lcat_v rfl rfl) ?_
              refine r_iinc B dX10_isHeld_56 rfl (by decide) (lcat_v rfl rfl) ?_
              refine r_goto B dX10_isHeld_59 (tgt := 6) (by decide) ?_
              exact r_lv (lvLe_s rfl (lvLe_s rfl (lvLe_s rfl (lvLe_s rfl (lvLe_s rfl (lvLe_s rfl lvLe_nil)))))) (ih (q + 1) _ (by omega) (by rw [bI_t]; exact (exN_s i1.1).mpr (Or.inr ⟨c34, c46⟩)) (by omega))
  exact r_lv (lvLe_s rfl (lvLe_s rfl (lvLe_s rfl (lvLe_s rfl (lvLe_s rfl (lvLe_s rfl lvLe_nil)))))) (loop6 _ 0 _ (by omega) (bI_f (exN_0 _)).symm (Nat.lt_succ_self _))
abbrev rmX10_isInLatest : Room := { frames := 2, cells := 0, slots := 0, locals := 44 }
theorem in_X10_isInLatest_X10 : ∀ w ∈ wsX100, w ∈ wsX10_isInLatest := by decide +kernel
theorem w_X10_isInLatest_f22 : Cond.fieldLink RX10 22 "DeltaNightsModel" "kind" "[I" ∈ wsX10_isInLatest := by decide +kernel
theorem w_X10_isInLatest_f25 : Cond.fieldLink RX10 25 "DeltaNightsModel" "chain" "[I" ∈ wsX10_isInLatest := by decide +kernel
set_option maxHeartbeats 4000000 in
set_option maxRecDepth 100000 in
theorem ct_X10_isInLatest (l : Launch) (g : GG) (sz0 : Nat) (ad : Nat → Nat) (hA : ADok ad) {h h0 : AH} {mthrown mnights mbits mleast mmost mroom mreserve mmount mspeed : Int} {mdata msize mends mmany mkind mchain mholds mbid mbound mcheap mpromised mcoin mpaid mowed mturn misAsking mwant mcost misServed mitsRow mitsChunk : Int → Int} (hM : MW g ad h0 mthrown mdata msize mends mmany mkind mchain mholds mnights mbits mleast mmost mroom mreserve mmount mspeed mbid mbound mcheap mpromised mcoin mpaid mowed mturn misAsking mwant mcost misServed mitsRow mitsChunk h) (x y : Int) (hx : 0 ≤ x ∧ x ≤ 3) (hy : 0 ≤ y ∧ y < 240) (hn0 : 0 ≤ mnights ∧ mnights ≤ 60) (hl : 0 < mkind y → ¬ ltN (colF mkind x) mnights.toNat = -1) : CT l yX10_isInLatest wsX10_isInLatest rmX10_isInLatest g sz0 [.ref (ad 0), .int (iI (x)), .int (iI (y))] h (fun v h' => v = some (.int (iI (bI (0 < mkind (y) ∧ mchain (y) = mchain (ltv x (ltN (colF mkind x) mnights.toNat)))))) ∧ h' = h) := by
  refine CT.of (by decide +kernel) rfl [some (.ref (ad 0)), some (.int (iI (x))), some (.int (iI (y)))] rfl (Nat.le_of_ble_eq_true rfl) ?_
  intro p e s m args below meth c B hr hlk hnm
  refine r_aload_n B dX10_isInLatest_0 rfl rfl ?_
  refine m_get_kind B dX10_isInLatest_1 in_X10_isInLatest_X10 w_X10_isInLatest_f22 hM ?_
  refine r_iload_n B dX10_isInLatest_4 rfl ?_
  refine m_ld_kind B dX10_isInLatest_5 hM (by omega) (by omega) (fun r5 => ?_)
  refine r_if_le B dX10_isInLatest_6 (tgt := 32) (by decide) (by omega) (fun c6 => ?_) (fun c6 => ?_)
  · refine r_iconst B dX10_isInLatest_32 ?_
    exact r_zret B hr hlk dX10_isInLatest_33 (Nat.le_of_ble_eq_true rfl) (Nat.le_of_ble_eq_true rfl) (by first | exact nar_0 | exact nar_1 | exact nar_bI _) ⟨by rw [bI_f (fun z => absurd z.1 (by omega))], rfl⟩
  · have c6q : 0 < mkind y := by omega
    refine r_aload_n B dX10_isInLatest_9 rfl rfl ?_
    refine m_get_chain B dX10_isInLatest_10 in_X10_isInLatest_X10 w_X10_isInLatest_f25 hM ?_
    refine r_iload_n B dX10_isInLatest_13 rfl ?_
    refine m_ld_chain B dX10_isInLatest_14 hM (by omega) (by omega) (fun r14 => ?_)
    refine r_aload_n B dX10_isInLatest_15 rfl rfl ?_
    refine m_get_chain B dX10_isInLatest_16 in_X10_isInLatest_X10 w_X10_isInLatest_f25 hM ?_
    refine r_aload_n B dX10_isInLatest_19 rfl rfl ?_
    refine r_iload_n B dX10_isInLatest_20 rfl ?_
    refine r_callV (n := 1) B dX10_isInLatest_21 (ct_X10_latestNow l g sz0 ad hA hM _ (by omega) (by omega)) gX10_isInLatest_X10_latestNow rfl (by decide +kernel) ⟨Nat.le_of_ble_eq_true rfl, Nat.le_of_ble_eq_true rfl⟩ hM.obj rfl rfl rfl (Nat.le_of_ble_eq_true rfl) (Nat.le_of_ble_eq_true rfl) (Nat.le_of_ble_eq_true rfl) (fun v h' hp => ?_)
    obtain ⟨hv, hh⟩ := hp
    subst v
    subst h'
    dsimp only [Option.toList, List.cons_append, List.nil_append]
    have hl1 := hl c6q
    have hl2 := ltN_rng (colF mkind x) mnights.toNat
    have hl3 : ltv x (ltN (colF mkind x) mnights.toNat) = 60 * x + ltN (colF mkind x) mnights.toNat := if_neg hl1
    refine m_ld_chain B dX10_isInLatest_24 hM (by omega) (by omega) (fun r24 => ?_)
    refine r_icmp_ne B dX10_isInLatest_25 (tgt := 32) (by decide) (by omega) (by omega) (fun c25 => ?_) (fun c25 => ?_)
    · refine r_iconst B dX10_isInLatest_32 ?_
      exact r_zret B hr hlk dX10_isInLatest_33 (Nat.le_of_ble_eq_true rfl) (Nat.le_of_ble_eq_true rfl) (by first | exact nar_0 | exact nar_1 | exact nar_bI _) ⟨by rw [bI_f (fun z => c25 z.2)], rfl⟩
    · refine r_iconst B dX10_isInLatest_28 ?_
      refine r_goto B dX10_isInLatest_29 (tgt := 33) (by decide) ?_
      exact r_zret B hr hlk dX10_isInLatest_33 (Nat.le_of_ble_eq_true rfl) (Nat.le_of_ble_eq_true rfl) (by first | exact nar_0 | exact nar_1 | exact nar_bI _) ⟨by rw [bI_t ⟨c6q, c25⟩], rfl⟩
abbrev rmX10_isInChain : Room := { frames := 4, cells := 0, slots := 0, locals := 96 }
theorem in_X10_isInChain_X10 : ∀ w ∈ wsX100, w ∈ wsX10_isInChain := by decide +kernel
theorem w_X10_isInChain_f151 : Cond.fieldLink RX10 151 "DeltaNightsModel" "nights" "I" ∈ wsX10_isInChain := by decide +kernel
set_option maxHeartbeats 4000000 in
set_option maxRecDepth 100000 in
theorem ct_X10_isInChain (l : Launch) (g : GG) (sz0 : Nat) (ad : Nat → Nat) (hA : ADok ad) {h h0 : AH} {mthrown mnights mbits mleast mmost mroom mreserve mmount mspeed : Int} {mdata msize mends mmany mkind mchain mholds mbid mbound mcheap mpromised mcoin mpaid mowed mturn misAsking mwant mcost misServed mitsRow mitsChunk : Int → Int} (hM : MW g ad h0 mthrown mdata msize mends mmany mkind mchain mholds mnights mbits mleast mmost mroom mreserve mmount mspeed mbid mbound mcheap mpromised mcoin mpaid mowed mturn misAsking mwant mcost misServed mitsRow mitsChunk h) (x y k : Int) (hx : 0 ≤ x ∧ x ≤ 3) (hy : 0 ≤ y ∧ y < 244) (hk : 0 ≤ k ∧ k < 48) (v2 : 0 ≤ bgF (rowF mends y) k ∧ bgF (rowF mends y) k < rowF mends y k ∧ rowF mends y k ≤ 48) (hn0 : 0 ≤ mnights ∧ mnights ≤ 60)(hm : ∀ z : Int, 0 ≤ z → z < 240 → 0 ≤ mmany z ∧ mmany z ≤ 48) (he : ∀ z : Int, 0 ≤ z → z < 240 → EOK (rowF mends z) (mmany z)) : CT l yX10_isInChain wsX10_isInChain rmX10_isInChain g sz0 [.ref (ad 0), .int (iI (x)), .int (iI (y)), .int (iI (k))] h (fun v h' => v = some (.int (iI (bI (exN (fun j => (0 < mkind (60 * x + j) ∧ mchain (60 * x + j) = mchain (ltv x (ltN (colF mkind x) mnights.toNat))) ∧ hldC (rowF mholds (60 * x + j)) (chk (rowF mdata (60 * x + j)) (rowF mends (60 * x + j))) (mmany (60 * x + j)) ((chk (rowF mdata y) (rowF mends y)) k)) mnights)))) ∧ h' = h) := by
  refine CT.of (by decide +kernel) rfl [some (.ref (ad 0)), some (.int (iI (x))), some (.int (iI (y))), some (.int (iI (k))), none, none] rfl (Nat.le_of_ble_eq_true rfl) ?_
  intro p e s m args below meth c B hr hlk hnm
  refine r_iconst B dX10_isInChain_0 ?_
  refine r_istore B dX10_isInChain_1 (by decide) (lcat_v rfl rfl) ?_
  refine r_iconst B dX10_isInChain_3 ?_
  refine r_istore B dX10_isInChain_4 (by decide) (lcat_v rfl rfl) ?_
  have loop6 : ∀ (nn : Nat) (q : Int) (b : Int), (0 ≤ q ∧ q ≤ mnights) → (b = bI (exN (fun j => (0 < mkind (60 * x + j) ∧ mchain (60 * x + j) = mchain (ltv x (ltN (colF mkind x) mnights.toNat))) ∧ hldC (rowF mholds (60 * x + j)) (chk (rowF mdata (60 * x + j)) (rowF mends (60 * x + j))) (mmany (60 * x + j)) ((chk (rowF mdata y) (rowF mends y)) k)) q)) → (mnights - q).toNat < nn → WA p l e rmX10_isInChain s m args below meth c g sz0 6 (MQ below (QQ g sz0 (fun v h' => v = some (.int (iI (bI (exN (fun j => (0 < mkind (60 * x + j) ∧ mchain (60 * x + j) = mchain (ltv x (ltN (colF mkind x) mnights.toNat))) ∧ hldC (rowF mholds (60 * x + j)) (chk (rowF mdata (60 * x + j)) (rowF mends (60 * x + j))) (mmany (60 * x + j)) ((chk (rowF mdata y) (rowF mends y)) k)) mnights)))) ∧ h' = h)) args s rmX10_isInChain.cells rmX10_isInChain.slots (A0 sz0)) h 0 0 [some (.ref (ad 0)), some (.int (iI (x))), some (.int (iI (y))), some (.int (iI (k))), some (.int (iI (b))), some (.int (iI (q)))] 6 [] := by
    intro nn
    induction nn with
    | zero => intro q b i1 i2 hn; exact absurd hn (Nat.not_lt_zero _)
    | succ nn ih =>
      intro q b i1 i2 hn
      refine r_iload B dX10_isInChain_6 rfl ?_
      refine r_aload_n B dX10_isInChain_8 rfl rfl ?_
      refine m_get_nights B dX10_isInChain_9 in_X10_isInChain_X10 w_X10_isInChain_f151 hM (fun r9 => ?_)
      refine r_icmp_ge B dX10_isInChain_12 (tgt := 64) (by decide) (by omega) (by omega) (fun c12 => ?_) (fun c12 => ?_)
      · refine r_iload B dX10_isInChain_64 rfl ?_
        exact r_zret B hr hlk dX10_isInChain_66 (Nat.le_of_ble_eq_true rfl) (Nat.le_of_ble_eq_true rfl) (by rw [i2]; exact nar_bI _) ⟨by rw [i2, show q = mnights by omega], rfl⟩
      · refine r_iload B dX10_isInChain_15 rfl ?_
        refine r_if_ne B dX10_isInChain_17 (tgt := 64) (by decide) (by rw [i2]; exact bI_rng _) (fun c17 => ?_) (fun c17 => ?_)
        · have hb := bI_n0.mp (show ¬ bI _ = 0 by rw [← i2]; exact c17)
          refine r_iload B dX10_isInChain_64 rfl ?_
          exact r_zret B hr hlk dX10_isInChain_66 (Nat.le_of_ble_eq_true rfl) (Nat.le_of_ble_eq_true rfl) (by rw [i2]; exact nar_bI _) ⟨by rw [i2, bI_t hb, bI_t]; exact exN_le i1.2 hb, rfl⟩
        · have hb := bI_0.mp (show bI _ = 0 by rw [← i2]; exact c17)
          refine r_aload_n B dX10_isInChain_20 rfl rfl ?_
          refine r_iload_n B dX10_isInChain_21 rfl ?_
          refine r_bipush B dX10_isInChain_22 (by decide) ?_
          refine r_iload_n B dX10_isInChain_24 rfl ?_
          refine r_imul B dX10_isInChain_25 ?_
          refine r_iload B dX10_isInChain_26 rfl ?_
          refine r_iadd B dX10_isInChain_28 ?_
          refine r_callV (n := 2) B dX10_isInChain_29 (ct_X10_isInLatest l g sz0 ad hA hM _ _ (by omega) (by omega) hn0 (fun hz => by have := ltN_ge (colF mkind x) (n := mnights.toNat) (j := q) (by omega) (by omega) (show ¬ mkind (60 * x + q) = 0 by omega); omega)) gX10_isInChain_X10_isInLatest rfl (by decide +kernel) ⟨Nat.le_of_ble_eq_true rfl, Nat.le_of_ble_eq_true rfl⟩ hM.obj rfl rfl rfl (Nat.le_of_ble_eq_true rfl) (Nat.le_of_ble_eq_true rfl) (Nat.le_of_ble_eq_true rfl) (fun v h' hp => ?_)
          obtain ⟨hv, hh⟩ := hp
          subst v
          subst h'
          dsimp only [Option.toList, List.cons_append, List.nil_append]
          refine r_if_eq B dX10_isInChain_32 (tgt := 55) (by decide) (bI_rng _) (fun c32 => ?_) (fun c32 => ?_)
          · replace c32 := bI_0.mp c32
            refine r_iconst B dX10_isInChain_55 ?_
            refine r_istore B dX10_isInChain_56 (by decide) (lcat_v rfl rfl) ?_
            refine r_iinc B dX10_isInChain_58 rfl (by decide) (lcat_v rfl rfl) ?_
            refine r_goto B dX10_isInChain_61 (tgt := 6) (by decide) ?_
            exact r_lv (lvLe_s rfl (lvLe_s rfl (lvLe_s rfl (lvLe_s rfl (lvLe_s rfl (lvLe_s rfl lvLe_nil)))))) (ih (q + 1) _ (by omega) (by rw [bI_f]; intro z; rcases (exN_s i1.1).mp z with z | z; exact hb z; exact c32 z.1) (by omega))
          · replace c32 := bI_n0.mp c32
            refine r_aload_n B dX10_isInChain_35 rfl rfl ?_
            refine r_bipush B dX10_isInChain_36 (by decide) ?_
            refine r_iload_n B dX10_isInChain_38 rfl ?_
            refine r_imul B dX10_isInChain_39 ?_
            refine r_iload B dX10_isInChain_40 rfl ?_
            refine r_iadd B dX10_isInChain_42 ?_
            refine r_iload_n B dX10_isInChain_43 rfl ?_
            refine r_iload_n B dX10_isInChain_44 rfl ?_
            refine r_callV (n := 3) B dX10_isInChain_45 (ct_X10_isHeld l g sz0 ad hA hM _ _ _ (by omega) (by omega) (by omega) v2 (hm _ (by omega) (by omega)) (he _ (by omega) (by omega))) gX10_isInChain_X10_isHeld rfl (by decide +kernel) ⟨Nat.le_of_ble_eq_true rfl, Nat.le_of_ble_eq_true rfl⟩ hM.obj rfl rfl rfl (Nat.le_of_ble_eq_true rfl) (Nat.le_of_ble_eq_true rfl) (Nat.le_of_ble_eq_true rfl) (fun v h' hp => ?_)
            obtain ⟨hv, hh⟩ := hp
            subst v
            subst h'
            dsimp only [Option.toList, List.cons_append, List.nil_append]
            refine r_if_eq B dX10_isInChain_48 (tgt := 55) (by decide) (bI_rng _) (fun c48 => ?_) (fun c48 => ?_)
            · replace c48 := bI_0.mp c48
              refine r_iconst B dX10_isInChain_55 ?_
              refine r_istore B dX10_isInChain_56 (by decide) (lcat_v rfl rfl) ?_
              refine r_iinc B dX10_isInChain_58 rfl (by decide) (lcat_v rfl rfl) ?_
              refine r_goto B dX10_isInChain_61 (tgt := 6) (by decide) ?_
              exact r_lv (lvLe_s rfl (lvLe_s rfl (lvLe_s rfl (lvLe_s rfl (lvLe_s rfl (lvLe_s rfl lvLe_nil)))))) (ih (q + 1) _ (by omega) (by rw [bI_f]; intro z; rcases (exN_s i1.1).mp z with z | z; exact hb z; exact c48 z.2) (by omega))
            · replace c48 := bI_n0.mp c48
              refine r_iconst B dX10_isInChain_51 ?_
              refine r_goto B dX10_isInChain_52 (tgt := 56) (by decide) ?_
              refine r_istore B dX10_isInChain_56 (by decide) (lcat_v rfl rfl) ?_
              refine r_iinc B dX10_isInChain_58 rfl (by decide) (lcat_v rfl rfl) ?_
              refine r_goto B dX10_isInChain_61 (tgt := 6) (by decide) ?_
              exact r_lv (lvLe_s rfl (lvLe_s rfl (lvLe_s rfl (lvLe_s rfl (lvLe_s rfl (lvLe_s rfl lvLe_nil)))))) (ih (q + 1) _ (by omega) (by rw [bI_t]; exact (exN_s i1.1).mpr (Or.inr ⟨c32, c48⟩)) (by omega))
  exact r_lv (lvLe_s rfl (lvLe_s rfl (lvLe_s rfl (lvLe_s rfl (lvLe_s rfl (lvLe_s rfl lvLe_nil)))))) (loop6 _ 0 _ (by omega) (bI_f (exN_0 _)).symm (Nat.lt_succ_self _))
