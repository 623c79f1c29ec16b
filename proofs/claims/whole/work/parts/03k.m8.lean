abbrev rmX10_held : Room := { frames := 3, cells := 0, slots := 0, locals := 66 }
set_option maxHeartbeats 4000000 in
set_option maxRecDepth 100000 in
theorem ct_X10_held (l : Launch) (g : GG) (sz0 : Nat) (ad : Nat → Nat) (hA : ADok ad) {h h0 : AH} {mthrown mnights mbits mleast mmost mroom mreserve mmount mspeed : Int} {mdata msize mends mmany mkind mchain mholds mbid mbound mcheap mpromised mcoin mpaid mowed mturn misAsking mwant mcost misServed mitsRow mitsChunk : Int → Int} (hM : MW g ad h0 mthrown mdata msize mends mmany mkind mchain mholds mnights mbits mleast mmost mroom mreserve mmount mspeed mbid mbound mcheap mpromised mcoin mpaid mowed mturn misAsking mwant mcost misServed mitsRow mitsChunk h) (x k : Int) (qx : -2147483648 ≤ x ∧ x < 2147483648) (qk : -2147483648 ≤ k ∧ k < 2147483648)(hn0 : 0 ≤ mnights ∧ mnights ≤ 60)(hLK : LKo mends mmany) : CT l yX10_held wsX10_held rmX10_held g sz0 [.ref (ad 0), .int (iI (x)), .int (iI (k))] h (fun v h' => ∃ r : Int, v = some (.int (iI r)) ∧ (¬ tAsk x k mnights (mkind (60 * x + k)) = 0 → r = 0 ∧ MW g ad h0 (tAsk x k mnights (mkind (60 * x + k))) mdata msize mends mmany mkind mchain mholds mnights mbits mleast mmost mroom mreserve mmount mspeed mbid mbound mcheap mpromised mcoin mpaid mowed mturn misAsking mwant mcost misServed mitsRow mitsChunk h') ∧ (tAsk x k mnights (mkind (60 * x + k)) = 0 → r = sumZ (fun j => bI (rowF mholds (60 * x + k) j ≠ 0)) (mmany (60 * x + k)).toNat ∧ MW g ad h0 0 mdata msize mends mmany mkind mchain mholds mnights mbits mleast mmost mroom mreserve mmount mspeed mbid mbound mcheap mpromised mcoin mpaid mowed mturn misAsking mwant mcost misServed mitsRow mitsChunk h')) := by
  refine CT.of (by decide +kernel) rfl [some (.ref (ad 0)), some (.int (iI (x))), some (.int (iI (k)))] rfl (Nat.le_of_ble_eq_true rfl) ?_
  intro p e s m args below meth c B hr hlk hnm
  refine r_aload_n B dX10_held_0 rfl rfl ?_
  refine r_iload_n B dX10_held_1 rfl ?_
  refine r_iload_n B dX10_held_2 rfl ?_
  refine r_callV (n := 2) B dX10_held_3 (ct_X10_asks l g sz0 ad hA hM _ _ (by omega) (by omega) (by omega)) gX10_held_X10_asks rfl (by decide +kernel) ⟨Nat.le_of_ble_eq_true rfl, Nat.le_of_ble_eq_true rfl⟩ hM.obj rfl rfl rfl (Nat.le_of_ble_eq_true rfl) (Nat.le_of_ble_eq_true rfl) (Nat.le_of_ble_eq_true rfl) (fun v h hp => ?_)
  obtain ⟨hv, hM⟩ := hp
  subst v
  dsimp only [Option.toList, List.cons_append, List.nil_append]
  refine r_if_eq B dX10_held_6 (tgt := 22) (by decide) (bI_rng _) (fun c6 => ?_) (fun c6 => ?_)
  · replace c6 := bI_0.mp c6
    refine r_iconst B dX10_held_22 ?_
    exact r_iret B hr hlk dX10_held_23 (Nat.le_of_ble_eq_true rfl) (Nat.le_of_ble_eq_true rfl) (by first | exact ⟨_, rfl, fun _ => ⟨rfl, hM⟩, fun h9 => absurd h9 c6⟩ | exact ⟨_, rfl, fun h9 => absurd c6 h9, fun _ => ⟨rfl, hM⟩⟩)
  · replace c6 := bI_n0.mp c6
    rw [c6] at hM
    have hT := tAsk_0.mp c6
    refine r_aload_n B dX10_held_9 rfl rfl ?_
    refine r_bipush B dX10_held_10 (by decide) ?_
    refine r_iload_n B dX10_held_12 rfl ?_
    refine r_imul B dX10_held_13 ?_
    refine r_iload_n B dX10_held_14 rfl ?_
    refine r_iadd B dX10_held_15 ?_
    refine r_callV (n := 1) B dX10_held_16 (ct_X10_held0 l g sz0 ad hA hM _ (by omega) (hLK (60 * x + k) (by omega) (by omega)).1) gX10_held_X10_held0 rfl (by decide +kernel) ⟨Nat.le_of_ble_eq_true rfl, Nat.le_of_ble_eq_true rfl⟩ hM.obj rfl rfl rfl (Nat.le_of_ble_eq_true rfl) (Nat.le_of_ble_eq_true rfl) (Nat.le_of_ble_eq_true rfl) (fun v h' hp => ?_)
    obtain ⟨hv, hh⟩ := hp
    subst v
    subst h'
    dsimp only [Option.toList, List.cons_append, List.nil_append]
    refine r_goto B dX10_held_19 (tgt := 23) (by decide) ?_
    exact r_iret B hr hlk dX10_held_23 (Nat.le_of_ble_eq_true rfl) (Nat.le_of_ble_eq_true rfl) (by first | exact ⟨_, rfl, fun _ => ⟨rfl, hM⟩, fun h9 => absurd h9 c6⟩ | exact ⟨_, rfl, fun h9 => absurd c6 h9, fun _ => ⟨rfl, hM⟩⟩)
abbrev rmX10_bytes : Room := { frames := 3, cells := 0, slots := 0, locals := 66 }
theorem in_X10_bytes_X10 : ∀ w ∈ wsX100, w ∈ wsX10_bytes := by decide +kernel
theorem w_X10_bytes_f19 : Cond.fieldLink RX10 19 "DeltaNightsModel" "many" "[I" ∈ wsX10_bytes := by decide +kernel
theorem w_X10_bytes_f28 : Cond.fieldLink RX10 28 "DeltaNightsModel" "holds" "[Z" ∈ wsX10_bytes := by decide +kernel
set_option maxHeartbeats 4000000 in
set_option maxRecDepth 100000 in
theorem ct_X10_bytes (l : Launch) (g : GG) (sz0 : Nat) (ad : Nat → Nat) (hA : ADok ad) {h h0 : AH} {mthrown mnights mbits mleast mmost mroom mreserve mmount mspeed : Int} {mdata msize mends mmany mkind mchain mholds mbid mbound mcheap mpromised mcoin mpaid mowed mturn misAsking mwant mcost misServed mitsRow mitsChunk : Int → Int} (hM : MW g ad h0 mthrown mdata msize mends mmany mkind mchain mholds mnights mbits mleast mmost mroom mreserve mmount mspeed mbid mbound mcheap mpromised mcoin mpaid mowed mturn misAsking mwant mcost misServed mitsRow mitsChunk h) (x k : Int) (qx : -2147483648 ≤ x ∧ x < 2147483648) (qk : -2147483648 ≤ k ∧ k < 2147483648)(hn0 : 0 ≤ mnights ∧ mnights ≤ 60)(hLK : LKo mends mmany) : CT l yX10_bytes wsX10_bytes rmX10_bytes g sz0 [.ref (ad 0), .int (iI (x)), .int (iI (k))] h (fun v h' => ∃ r : Int, v = some (.int (iI r)) ∧ (¬ tAsk x k mnights (mkind (60 * x + k)) = 0 → r = 0 ∧ MW g ad h0 (tAsk x k mnights (mkind (60 * x + k))) mdata msize mends mmany mkind mchain mholds mnights mbits mleast mmost mroom mreserve mmount mspeed mbid mbound mcheap mpromised mcoin mpaid mowed mturn misAsking mwant mcost misServed mitsRow mitsChunk h') ∧ (tAsk x k mnights (mkind (60 * x + k)) = 0 → r = mmany (60 * x + k) + sumZ (fun j => bI (rowF mholds (60 * x + k) j ≠ 0) * lnF (rowF mends (60 * x + k)) j) (mmany (60 * x + k)).toNat ∧ MW g ad h0 0 mdata msize mends mmany mkind mchain mholds mnights mbits mleast mmost mroom mreserve mmount mspeed mbid mbound mcheap mpromised mcoin mpaid mowed mturn misAsking mwant mcost misServed mitsRow mitsChunk h')) := by
  refine CT.of (by decide +kernel) rfl [some (.ref (ad 0)), some (.int (iI (x))), some (.int (iI (k))), none, none, none] rfl (Nat.le_of_ble_eq_true rfl) ?_
  intro p e s m args below meth c B hr hlk hnm
  refine r_aload_n B dX10_bytes_0 rfl rfl ?_
  refine r_iload_n B dX10_bytes_1 rfl ?_
  refine r_iload_n B dX10_bytes_2 rfl ?_
  refine r_callV (n := 2) B dX10_bytes_3 (ct_X10_asks l g sz0 ad hA hM _ _ (by omega) (by omega) (by omega)) gX10_bytes_X10_asks rfl (by decide +kernel) ⟨Nat.le_of_ble_eq_true rfl, Nat.le_of_ble_eq_true rfl⟩ hM.obj rfl rfl rfl (Nat.le_of_ble_eq_true rfl) (Nat.le_of_ble_eq_true rfl) (Nat.le_of_ble_eq_true rfl) (fun v h hp => ?_)
  obtain ⟨hv, hM⟩ := hp
  subst v
  dsimp only [Option.toList, List.cons_append, List.nil_append]
  refine r_if_ne B dX10_bytes_6 (tgt := 11) (by decide) (bI_rng _) (fun c6 => ?_) (fun c6 => ?_)
  · replace c6 := bI_n0.mp c6
    rw [c6] at hM
    have hT := tAsk_0.mp c6
    have hmk := (hLK (60 * x + k) (by omega) (by omega)).1
    refine r_bipush B dX10_bytes_11 (by decide) ?_
    refine r_iload_n B dX10_bytes_13 rfl ?_
    refine r_imul B dX10_bytes_14 ?_
    refine r_iload_n B dX10_bytes_15 rfl ?_
    refine r_iadd B dX10_bytes_16 ?_
    refine r_istore_n B dX10_bytes_17 rfl (by decide) (lcat_v rfl rfl) ?_
    refine r_aload_n B dX10_bytes_18 rfl rfl ?_
    refine m_get_many B dX10_bytes_19 in_X10_bytes_X10 w_X10_bytes_f19 hM ?_
    refine r_iload_n B dX10_bytes_22 rfl ?_
    refine m_ld_many B dX10_bytes_23 hM (by omega) (by omega) (fun r23 => ?_)
    refine r_istore B dX10_bytes_24 (by decide) (lcat_v rfl rfl) ?_
    refine r_iconst B dX10_bytes_26 ?_
    refine r_istore B dX10_bytes_27 (by decide) (lcat_v rfl rfl) ?_
    have loop29 : ∀ (nn : Nat) (q : Int) (sm : Int), (0 ≤ q ∧ q ≤ mmany (60 * x + k)) → (sm = mmany (60 * x + k) + sumZ (fun j => bI (rowF mholds (60 * x + k) j ≠ 0) * lnF (rowF mends (60 * x + k)) j) q.toNat) → (mmany (60 * x + k) - q).toNat < nn → WA p l e rmX10_bytes s m args below meth c g sz0 6 (MQ below (QQ g sz0 (fun v h' => ∃ r : Int, v = some (.int (iI r)) ∧ (¬ tAsk x k mnights (mkind (60 * x + k)) = 0 → r = 0 ∧ MW g ad h0 (tAsk x k mnights (mkind (60 * x + k))) mdata msize mends mmany mkind mchain mholds mnights mbits mleast mmost mroom mreserve mmount mspeed mbid mbound mcheap mpromised mcoin mpaid mowed mturn misAsking mwant mcost misServed mitsRow mitsChunk h') ∧ (tAsk x k mnights (mkind (60 * x + k)) = 0 → r = mmany (60 * x + k) + sumZ (fun j => bI (rowF mholds (60 * x + k) j ≠ 0) * lnF (rowF mends (60 * x + k)) j) (mmany (60 * x + k)).toNat ∧ MW g ad h0 0 mdata msize mends mmany mkind mchain mholds mnights mbits mleast mmost mroom mreserve mmount mspeed mbid mbound mcheap mpromised mcoin mpaid mowed mturn misAsking mwant mcost misServed mitsRow mitsChunk h'))) args s rmX10_bytes.cells rmX10_bytes.slots (A0 sz0)) h 0 0 [some (.ref (ad 0)), some (.int (iI (x))), some (.int (iI (k))), some (.int (iI (60 * x + k))), some (.int (iI (sm))), some (.int (iI (q)))] 29 [] := by
      intro nn
      induction nn with
      | zero => intro q sm i1 i2 hn; exact absurd hn (Nat.not_lt_zero _)
      | succ nn ih =>
        intro q sm i1 i2 hn
        refine r_iload B dX10_bytes_29 rfl ?_
        refine r_aload_n B dX10_bytes_31 rfl rfl ?_
        refine m_get_many B dX10_bytes_32 in_X10_bytes_X10 w_X10_bytes_f19 hM ?_
        refine r_iload_n B dX10_bytes_35 rfl ?_
        refine m_ld_many B dX10_bytes_36 hM (by omega) (by omega) (fun r36 => ?_)
        refine r_icmp_ge B dX10_bytes_37 (tgt := 77) (by decide) (by omega) (by omega) (fun c37 => ?_) (fun c37 => ?_)
        · refine r_iload B dX10_bytes_77 rfl ?_
          exact r_iret B hr hlk dX10_bytes_79 (Nat.le_of_ble_eq_true rfl) (Nat.le_of_ble_eq_true rfl) (by first | exact ⟨_, rfl, fun _ => ⟨rfl, hM⟩, fun h9 => absurd h9 c6⟩ | exact ⟨_, rfl, fun h9 => absurd c6 h9, fun _ => ⟨by rw [i2, show q = mmany (60 * x + k) by omega], hM⟩⟩)
        · refine r_iload B dX10_bytes_40 rfl ?_
          refine r_aload_n B dX10_bytes_42 rfl rfl ?_
          refine m_get_holds B dX10_bytes_43 in_X10_bytes_X10 w_X10_bytes_f28 hM ?_
          refine r_bipush B dX10_bytes_46 (by decide) ?_
          refine r_iload_n B dX10_bytes_48 rfl ?_
          refine r_imul B dX10_bytes_49 ?_
          refine r_iload B dX10_bytes_50 rfl ?_
          refine r_iadd B dX10_bytes_52 ?_
          refine m_ld_holds B dX10_bytes_53 hM (by omega) (by omega) (fun r53 => ?_)
          refine r_if_eq B dX10_bytes_54 (tgt := 67) (by decide) (by omega) (fun c54 => ?_) (fun c54 => ?_)
          · refine r_iconst B dX10_bytes_67 ?_
            refine r_iadd B dX10_bytes_68 ?_
            refine r_istore B dX10_bytes_69 (by decide) (lcat_v rfl rfl) ?_
            refine r_iinc B dX10_bytes_71 rfl (by decide) (lcat_v rfl rfl) ?_
            refine r_goto B dX10_bytes_74 (tgt := 29) (by decide) ?_
            exact r_lv (lvLe_s rfl (lvLe_s rfl (lvLe_s rfl (lvLe_s rfl (lvLe_s rfl (lvLe_s rfl lvLe_nil)))))) (ih (q + 1) _ (by omega) (by rw [sumZ_s _ i1.1, bI_f (fun z => z c54), i2]; omega) (by omega))
          · refine r_aload_n B dX10_bytes_57 rfl rfl ?_
            refine r_iload_n B dX10_bytes_58 rfl ?_
            refine r_iload B dX10_bytes_59 rfl ?_
            refine r_callV (n := 2) B dX10_bytes_61 (ct_X10_bytesOf l g sz0 ad hA hM _ _ (by omega) (by omega)) gX10_bytes_X10_bytesOf rfl (by decide +kernel) ⟨Nat.le_of_ble_eq_true rfl, Nat.le_of_ble_eq_true rfl⟩ hM.obj rfl rfl rfl (Nat.le_of_ble_eq_true rfl) (Nat.le_of_ble_eq_true rfl) (Nat.le_of_ble_eq_true rfl) (fun v h' hp => ?_)
            obtain ⟨hv, hh⟩ := hp
            subst v
            subst h'
            dsimp only [Option.toList, List.cons_append, List.nil_append]
            refine r_goto B dX10_bytes_64 (tgt := 68) (by decide) ?_
            refine r_iadd B dX10_bytes_68 ?_
            refine r_istore B dX10_bytes_69 (by decide) (lcat_v rfl rfl) ?_
            refine r_iinc B dX10_bytes_71 rfl (by decide) (lcat_v rfl rfl) ?_
            refine r_goto B dX10_bytes_74 (tgt := 29) (by decide) ?_
            exact r_lv (lvLe_s rfl (lvLe_s rfl (lvLe_s rfl (lvLe_s rfl (lvLe_s rfl (lvLe_s rfl lvLe_nil)))))) (ih (q + 1) _ (by omega) (by rw [sumZ_s _ i1.1, bI_t (show rowF mholds (60 * x + k) q ≠ 0 from c54), i2]; omega) (by omega))
    exact r_lv (lvLe_s rfl (lvLe_s rfl (lvLe_s rfl (lvLe_s rfl (lvLe_s rfl (lvLe_s rfl lvLe_nil)))))) (loop29 _ 0 _ (by omega) (Int.add_zero _).symm (Nat.lt_succ_self _))
  · replace c6 := bI_0.mp c6
    refine r_iconst B dX10_bytes_9 ?_
    exact r_iret B hr hlk dX10_bytes_10 (Nat.le_of_ble_eq_true rfl) (Nat.le_of_ble_eq_true rfl) (by first | exact ⟨_, rfl, fun _ => ⟨rfl, hM⟩, fun h9 => absurd h9 c6⟩ | exact ⟨_, rfl, fun h9 => absurd c6 h9, fun _ => ⟨by rw [i2, show q = mmany (60 * x + k) by omega], hM⟩⟩)
abbrev rmX10_serves : Room := { frames := 4, cells := 0, slots := 0, locals := 96 }
theorem in_X10_serves_X10 : ∀ w ∈ wsX100, w ∈ wsX10_serves := by decide +kernel
theorem w_X10_serves_f19 : Cond.fieldLink RX10 19 "DeltaNightsModel" "many" "[I" ∈ wsX10_serves := by decide +kernel
set_option maxHeartbeats 4000000 in
set_option maxRecDepth 100000 in
theorem ct_X10_serves (l : Launch) (g : GG) (sz0 : Nat) (ad : Nat → Nat) (hA : ADok ad) {h h0 : AH} {mthrown mnights mbits mleast mmost mroom mreserve mmount mspeed : Int} {mdata msize mends mmany mkind mchain mholds mbid mbound mcheap mpromised mcoin mpaid mowed mturn misAsking mwant mcost misServed mitsRow mitsChunk : Int → Int} (hM : MW g ad h0 mthrown mdata msize mends mmany mkind mchain mholds mnights mbits mleast mmost mroom mreserve mmount mspeed mbid mbound mcheap mpromised mcoin mpaid mowed mturn misAsking mwant mcost misServed mitsRow mitsChunk h) (y w : Int) (hy : 0 ≤ y ∧ y < 240) (hw : 0 ≤ w ∧ w < 240) (hLK : LKo mends mmany) : CT l yX10_serves wsX10_serves rmX10_serves g sz0 [.ref (ad 0), .int (iI (y)), .int (iI (w))] h (fun v h' => v = some (.int (iI (bI (exN (fun a => hldC (rowF mholds y) (chk (rowF mdata y) (rowF mends y)) (mmany y) (chk (rowF mdata w) (rowF mends w) a)) (mmany w))))) ∧ h' = h) := by
  refine CT.of (by decide +kernel) rfl [some (.ref (ad 0)), some (.int (iI (y))), some (.int (iI (w))), none, none] rfl (Nat.le_of_ble_eq_true rfl) ?_
  intro p e s m args below meth c B hr hlk hnm
  refine r_iconst B dX10_serves_0 ?_
  refine r_istore_n B dX10_serves_1 rfl (by decide) (lcat_v rfl rfl) ?_
  refine r_iconst B dX10_serves_2 ?_
  refine r_istore B dX10_serves_3 (by decide) (lcat_v rfl rfl) ?_
  have hm1 := (hLK w hw.1 hw.2).1
  have loop5 : ∀ (nn : Nat) (q : Int) (b : Int), (0 ≤ q ∧ q ≤ mmany w) → (b = bI (exN (fun a => hldC (rowF mholds y) (chk (rowF mdata y) (rowF mends y)) (mmany y) (chk (rowF mdata w) (rowF mends w) a)) q)) → (mmany w - q).toNat < nn → WA p l e rmX10_serves s m args below meth c g sz0 5 (MQ below (QQ g sz0 (fun v h' => v = some (.int (iI (bI (exN (fun a => hldC (rowF mholds y) (chk (rowF mdata y) (rowF mends y)) (mmany y) (chk (rowF mdata w) (rowF mends w) a)) (mmany w))))) ∧ h' = h)) args s rmX10_serves.cells rmX10_serves.slots (A0 sz0)) h 0 0 [some (.ref (ad 0)), some (.int (iI (y))), some (.int (iI (w))), some (.int (iI (b))), some (.int (iI (q)))] 5 [] := by
    intro nn
    induction nn with
    | zero => intro q b i1 i2 hn; exact absurd hn (Nat.not_lt_zero _)
    | succ nn ih =>
      intro q b i1 i2 hn
      refine r_iload B dX10_serves_5 rfl ?_
      refine r_aload_n B dX10_serves_7 rfl rfl ?_
      refine m_get_many B dX10_serves_8 in_X10_serves_X10 w_X10_serves_f19 hM ?_
      refine r_iload_n B dX10_serves_11 rfl ?_
      refine m_ld_many B dX10_serves_12 hM (by omega) (by omega) (fun r12 => ?_)
      refine r_icmp_ge B dX10_serves_13 (tgt := 35) (by decide) (by omega) (by omega) (fun c13 => ?_) (fun c13 => ?_)
      · refine r_iload_n B dX10_serves_35 rfl ?_
        exact r_zret B hr hlk dX10_serves_36 (Nat.le_of_ble_eq_true rfl) (Nat.le_of_ble_eq_true rfl) (by rw [i2]; exact nar_bI _) ⟨by rw [i2, show q = mmany w by omega], rfl⟩
      · refine r_iload_n B dX10_serves_16 rfl ?_
        refine r_if_ne B dX10_serves_17 (tgt := 35) (by decide) (by rw [i2]; exact bI_rng _) (fun c17 => ?_) (fun c17 => ?_)
        · have hb := bI_n0.mp (show ¬ bI _ = 0 by rw [← i2]; exact c17)
          refine r_iload_n B dX10_serves_35 rfl ?_
          exact r_zret B hr hlk dX10_serves_36 (Nat.le_of_ble_eq_true rfl) (Nat.le_of_ble_eq_true rfl) (by rw [i2]; exact nar_bI _) ⟨by rw [i2, bI_t hb, bI_t]; exact exN_le i1.2 hb, rfl⟩
        · have hb := bI_0.mp (show bI _ = 0 by rw [← i2]; exact c17)
          refine r_aload_n B dX10_serves_20 rfl rfl ?_
          refine r_iload_n B dX10_serves_21 rfl ?_
          refine r_iload_n B dX10_serves_22 rfl ?_
          refine r_iload B dX10_serves_23 rfl ?_
          refine r_callV (n := 3) B dX10_serves_25 (ct_X10_isHeld l g sz0 ad hA hM _ _ _ (by omega) (by omega) (by omega) ((hLK w hw.1 hw.2).2 q i1.1 (by omega)) (hLK y hy.1 hy.2).1 (hLK y hy.1 hy.2).2) gX10_serves_X10_isHeld rfl (by decide +kernel) ⟨Nat.le_of_ble_eq_true rfl, Nat.le_of_ble_eq_true rfl⟩ hM.obj rfl rfl rfl (Nat.le_of_ble_eq_true rfl) (Nat.le_of_ble_eq_true rfl) (Nat.le_of_ble_eq_true rfl) (fun v h' hp => ?_)
          obtain ⟨hv, hh⟩ := hp
          subst v
          subst h'
          dsimp only [Option.toList, List.cons_append, List.nil_append]
          refine r_istore_n B dX10_serves_28 rfl (by decide) (lcat_v rfl rfl) ?_
          refine r_iinc B dX10_serves_29 rfl (by decide) (lcat_v rfl rfl) ?_
          refine r_goto B dX10_serves_32 (tgt := 5) (by decide) ?_
          have hm1 := (hLK w hw.1 hw.2).1
          exact r_lv (lvLe_s rfl (lvLe_s rfl (lvLe_s rfl (lvLe_s rfl (lvLe_s rfl lvLe_nil))))) (ih (q + 1) _ (by omega) (bI_eq ⟨fun z => (exN_s i1.1).mpr (Or.inr z), fun z => ((exN_s i1.1).mp z).resolve_left hb⟩) (by omega))
  exact r_lv (lvLe_s rfl (lvLe_s rfl (lvLe_s rfl (lvLe_s rfl (lvLe_s rfl lvLe_nil))))) (loop5 _ 0 _ (by omega) (bI_f (exN_0 _)).symm (Nat.lt_succ_self _))
abbrev rmX10_mounts0 : Room := { frames := 5, cells := 0, slots := 0, locals := 120 }
theorem in_X10_mounts0_X10 : ∀ w ∈ wsX100, w ∈ wsX10_mounts0 := by decide +kernel
theorem w_X10_mounts0_f151 : Cond.fieldLink RX10 151 "DeltaNightsModel" "nights" "I" ∈ wsX10_mounts0 := by decide +kernel
theorem w_X10_mounts0_f22 : Cond.fieldLink RX10 22 "DeltaNightsModel" "kind" "[I" ∈ wsX10_mounts0 := by decide +kernel
theorem w_X10_mounts0_f25 : Cond.fieldLink RX10 25 "DeltaNightsModel" "chain" "[I" ∈ wsX10_mounts0 := by decide +kernel
set_option maxHeartbeats 4000000 in
set_option maxRecDepth 100000 in
theorem ct_X10_mounts0 (l : Launch) (g : GG) (sz0 : Nat) (ad : Nat → Nat) (hA : ADok ad) {h h0 : AH} {mthrown mnights mbits mleast mmost mroom mreserve mmount mspeed : Int} {mdata msize mends mmany mkind mchain mholds mbid mbound mcheap mpromised mcoin mpaid mowed mturn misAsking mwant mcost misServed mitsRow mitsChunk : Int → Int} (hM : MW g ad h0 mthrown mdata msize mends mmany mkind mchain mholds mnights mbits mleast mmost mroom mreserve mmount mspeed mbid mbound mcheap mpromised mcoin mpaid mowed mturn misAsking mwant mcost misServed mitsRow mitsChunk h) (x k : Int) (hx : 0 ≤ x ∧ x ≤ 3) (hk : 0 ≤ k ∧ k < mnights) (hn0 : 0 ≤ mnights ∧ mnights ≤ 60)(hLK : LKo mends mmany) : CT l yX10_mounts0 wsX10_mounts0 rmX10_mounts0 g sz0 [.ref (ad 0), .int (iI (x)), .int (iI (k))] h (fun v h' => v = some (.int (iI (sumZ (fun j => bI (j = k ∨ ((0 < mkind (60 * x + j) ∧ mchain (60 * x + j) = mchain (60 * x + k)) ∧ exN (fun a => hldC (rowF mholds (60 * x + j)) (chk (rowF mdata (60 * x + j)) (rowF mends (60 * x + j))) (mmany (60 * x + j)) (chk (rowF mdata (60 * x + k)) (rowF mends (60 * x + k)) a)) (mmany (60 * x + k))))) mnights.toNat))) ∧ h' = h) := by
  refine CT.of (by decide +kernel) rfl [some (.ref (ad 0)), some (.int (iI (x))), some (.int (iI (k))), none, none, none, none, none] rfl (Nat.le_of_ble_eq_true rfl) ?_
  intro p e s m args below meth c B hr hlk hnm
  refine r_bipush B dX10_mounts0_0 (by decide) ?_
  refine r_iload_n B dX10_mounts0_2 rfl ?_
  refine r_imul B dX10_mounts0_3 ?_
  refine r_iload_n B dX10_mounts0_4 rfl ?_
  refine r_iadd B dX10_mounts0_5 ?_
  refine r_istore_n B dX10_mounts0_6 rfl (by decide) (lcat_v rfl rfl) ?_
  refine r_iconst B dX10_mounts0_7 ?_
  refine r_istore B dX10_mounts0_8 (by decide) (lcat_v rfl rfl) ?_
  refine r_iconst B dX10_mounts0_10 ?_
  refine r_istore B dX10_mounts0_11 (by decide) (lcat_v rfl rfl) ?_
  have loop13 : ∀ (nn : Nat) (q : Int) (sm : Int), (0 ≤ q ∧ q ≤ mnights) → (sm = sumZ (fun j => bI (j = k ∨ ((0 < mkind (60 * x + j) ∧ mchain (60 * x + j) = mchain (60 * x + k)) ∧ exN (fun a => hldC (rowF mholds (60 * x + j)) (chk (rowF mdata (60 * x + j)) (rowF mends (60 * x + j))) (mmany (60 * x + j)) (chk (rowF mdata (60 * x + k)) (rowF mends (60 * x + k)) a)) (mmany (60 * x + k))))) q.toNat) → (mnights - q).toNat < nn → WA p l e rmX10_mounts0 s m args below meth c g sz0 8 (MQ below (QQ g sz0 (fun v h' => v = some (.int (iI (sumZ (fun j => bI (j = k ∨ ((0 < mkind (60 * x + j) ∧ mchain (60 * x + j) = mchain (60 * x + k)) ∧ exN (fun a => hldC (rowF mholds (60 * x + j)) (chk (rowF mdata (60 * x + j)) (rowF mends (60 * x + j))) (mmany (60 * x + j)) (chk (rowF mdata (60 * x + k)) (rowF mends (60 * x + k)) a)) (mmany (60 * x + k))))) mnights.toNat))) ∧ h' = h)) args s rmX10_mounts0.cells rmX10_mounts0.slots (A0 sz0)) h 0 0 [some (.ref (ad 0)), some (.int (iI (x))), some (.int (iI (k))), some (.int (iI (60 * x + k))), some (.int (iI (sm))), some (.int (iI (q))), none, none] 13 [] := by
    intro nn
    induction nn with
    | zero => intro q sm i1 i2 hn; exact absurd hn (Nat.not_lt_zero _)
    | succ nn ih =>
      intro q sm i1 i2 hn
      refine r_iload B dX10_mounts0_13 rfl ?_
      refine r_aload_n B dX10_mounts0_15 rfl rfl ?_
      refine m_get_nights B dX10_mounts0_16 in_X10_mounts0_X10 w_X10_mounts0_f151 hM (fun r16 => ?_)
      refine r_icmp_ge B dX10_mounts0_19 (tgt := 101) (by decide) (by omega) (by omega) (fun c19 => ?_) (fun c19 => ?_)
      · refine r_iload B dX10_mounts0_101 rfl ?_
        exact r_iret B hr hlk dX10_mounts0_103 (Nat.le_of_ble_eq_true rfl) (Nat.le_of_ble_eq_true rfl) ⟨by rw [i2, show q = mnights by omega], rfl⟩
      · refine r_bipush B dX10_mounts0_22 (by decide) ?_
        refine r_iload_n B dX10_mounts0_24 rfl ?_
        refine r_imul B dX10_mounts0_25 ?_
        refine r_iload B dX10_mounts0_26 rfl ?_
        refine r_iadd B dX10_mounts0_28 ?_
        refine r_istore B dX10_mounts0_29 (by decide) (lcat_v rfl rfl) ?_
        have join62 : WA p l e rmX10_mounts0 s m args below meth c g sz0 8 (MQ below (QQ g sz0 (fun v h' => v = some (.int (iI (sumZ (fun j => bI (j = k ∨ ((0 < mkind (60 * x + j) ∧ mchain (60 * x + j) = mchain (60 * x + k)) ∧ exN (fun a => hldC (rowF mholds (60 * x + j)) (chk (rowF mdata (60 * x + j)) (rowF mends (60 * x + j))) (mmany (60 * x + j)) (chk (rowF mdata (60 * x + k)) (rowF mends (60 * x + k)) a)) (mmany (60 * x + k))))) mnights.toNat))) ∧ h' = h)) args s rmX10_mounts0.cells rmX10_mounts0.slots (A0 sz0)) h 0 0 [some (.ref (ad 0)), some (.int (iI (x))), some (.int (iI (k))), some (.int (iI (60 * x + k))), some (.int (iI (sm))), some (.int (iI (q))), some (.int (iI (60 * x + q))), none] 62 [.int (iI (bI (0 < mkind (60 * x + q) ∧ mchain (60 * x + q) = mchain (60 * x + k))))] := by
          refine r_istore B dX10_mounts0_62 (by decide) (lcat_v rfl rfl) ?_
          refine r_iload B dX10_mounts0_64 rfl ?_
          refine r_iload B dX10_mounts0_66 rfl ?_
          refine r_iload_n B dX10_mounts0_68 rfl ?_
          refine r_icmp_eq B dX10_mounts0_69 (tgt := 87) (by decide) (by omega) (by omega) (fun c69 => ?_) (fun c69 => ?_)
          · refine r_iconst B dX10_mounts0_87 ?_
            refine r_goto B dX10_mounts0_88 (tgt := 92) (by decide) ?_
            refine r_iadd B dX10_mounts0_92 ?_
            refine r_istore B dX10_mounts0_93 (by decide) (lcat_v rfl rfl) ?_
            refine r_iinc B dX10_mounts0_95 rfl (by decide) (lcat_v rfl rfl) ?_
            refine r_goto B dX10_mounts0_98 (tgt := 13) (by decide) ?_
            exact r_lv (lvLe_s rfl (lvLe_s rfl (lvLe_s rfl (lvLe_s rfl (lvLe_s rfl (lvLe_s rfl (lvLe_n (lvLe_n lvLe_nil)))))))) (ih (q + 1) _ (by omega) (by rw [sumZ_s _ i1.1, bI_t (Or.inl c69), i2]) (by omega))
          · refine r_iload B dX10_mounts0_72 rfl ?_
            refine r_if_eq B dX10_mounts0_74 (tgt := 91) (by decide) (bI_rng _) (fun c74 => ?_) (fun c74 => ?_)
            · replace c74 := bI_0.mp c74
              refine r_iconst B dX10_mounts0_91 ?_
              refine r_iadd B dX10_mounts0_92 ?_
              refine r_istore B dX10_mounts0_93 (by decide) (lcat_v rfl rfl) ?_
              refine r_iinc B dX10_mounts0_95 rfl (by decide) (lcat_v rfl rfl) ?_
              refine r_goto B dX10_mounts0_98 (tgt := 13) (by decide) ?_
              exact r_lv (lvLe_s rfl (lvLe_s rfl (lvLe_s rfl (lvLe_s rfl (lvLe_s rfl (lvLe_s rfl (lvLe_n (lvLe_n lvLe_nil)))))))) (ih (q + 1) _ (by omega) (by rw [sumZ_s _ i1.1, bI_f (fun z => z.elim c69 (fun z => c74 z.1)), i2]) (by omega))
            · replace c74 := bI_n0.mp c74
              refine r_aload_n B dX10_mounts0_77 rfl rfl ?_
              refine r_iload B dX10_mounts0_78 rfl ?_
              refine r_iload_n B dX10_mounts0_80 rfl ?_
              refine r_callV (n := 2) B dX10_mounts0_81 (ct_X10_serves l g sz0 ad hA hM _ _ (by omega) (by omega) hLK) gX10_mounts0_X10_serves rfl (by decide +kernel) ⟨Nat.le_of_ble_eq_true rfl, Nat.le_of_ble_eq_true rfl⟩ hM.obj rfl rfl rfl (Nat.le_of_ble_eq_true rfl) (Nat.le_of_ble_eq_true rfl) (Nat.le_of_ble_eq_true rfl) (fun v h' hp => ?_)
              obtain ⟨hv, hh⟩ := hp
              subst v
              subst h'
              dsimp only [Option.toList, List.cons_append, List.nil_append]
              refine r_if_eq B dX10_mounts0_84 (tgt := 91) (by decide) (bI_rng _) (fun c84 => ?_) (fun c84 => ?_)
              · replace c84 := bI_0.mp c84
                refine r_iconst B dX10_mounts0_91 ?_
                refine r_iadd B dX10_mounts0_92 ?_
                refine r_istore B dX10_mounts0_93 (by decide) (lcat_v rfl rfl) ?_
                refine r_iinc B dX10_mounts0_95 rfl (by decide) (lcat_v rfl rfl) ?_
                refine r_goto B dX10_mounts0_98 (tgt := 13) (by decide) ?_
                exact r_lv (lvLe_s rfl (lvLe_s rfl (lvLe_s rfl (lvLe_s rfl (lvLe_s rfl (lvLe_s rfl (lvLe_n (lvLe_n lvLe_nil)))))))) (ih (q + 1) _ (by omega) (by rw [sumZ_s _ i1.1, bI_f (fun z => z.elim c69 (fun z => c84 z.2)), i2]) (by omega))
              · replace c84 := bI_n0.mp c84
                refine r_iconst B dX10_mounts0_87 ?_
                refine r_goto B dX10_mounts0_88 (tgt := 92) (by decide) ?_
                refine r_iadd B dX10_mounts0_92 ?_
                refine r_istore B dX10_mounts0_93 (by decide) (lcat_v rfl rfl) ?_
                refine r_iinc B dX10_mounts0_95 rfl (by decide) (lcat_v rfl rfl) ?_
                refine r_goto B dX10_mounts0_98 (tgt := 13) (by decide) ?_
                exact r_lv (lvLe_s rfl (lvLe_s rfl (lvLe_s rfl (lvLe_s rfl (lvLe_s rfl (lvLe_s rfl (lvLe_n (lvLe_n lvLe_nil)))))))) (ih (q + 1) _ (by omega) (by rw [sumZ_s _ i1.1, bI_t (Or.inr ⟨c74, c84⟩), i2]) (by omega))
        refine r_aload_n B dX10_mounts0_31 rfl rfl ?_
        refine m_get_kind B dX10_mounts0_32 in_X10_mounts0_X10 w_X10_mounts0_f22 hM ?_
        refine r_iload B dX10_mounts0_35 rfl ?_
        refine m_ld_kind B dX10_mounts0_37 hM (by omega) (by omega) (fun r37 => ?_)
        refine r_if_le B dX10_mounts0_38 (tgt := 61) (by decide) (by omega) (fun c38 => ?_) (fun c38 => ?_)
        · refine r_iconst B dX10_mounts0_61 ?_
          rw [bI_f (fun z : (0 < mkind (60 * x + q) ∧ mchain (60 * x + q) = mchain (60 * x + k)) => absurd z.1 (by omega))] at join62
          exact r_lv (lvLe_s rfl (lvLe_s rfl (lvLe_s rfl (lvLe_s rfl (lvLe_s rfl (lvLe_s rfl (lvLe_s rfl (lvLe_n lvLe_nil)))))))) (join62)
        · refine r_aload_n B dX10_mounts0_41 rfl rfl ?_
          refine m_get_chain B dX10_mounts0_42 in_X10_mounts0_X10 w_X10_mounts0_f25 hM ?_
          refine r_iload B dX10_mounts0_45 rfl ?_
          refine m_ld_chain B dX10_mounts0_47 hM (by omega) (by omega) (fun r47 => ?_)
          refine r_aload_n B dX10_mounts0_48 rfl rfl ?_
          refine m_get_chain B dX10_mounts0_49 in_X10_mounts0_X10 w_X10_mounts0_f25 hM ?_
          refine r_iload_n B dX10_mounts0_52 rfl ?_
          refine m_ld_chain B dX10_mounts0_53 hM (by omega) (by omega) (fun r53 => ?_)
          refine r_icmp_ne B dX10_mounts0_54 (tgt := 61) (by decide) (by omega) (by omega) (fun c54 => ?_) (fun c54 => ?_)
          · refine r_iconst B dX10_mounts0_61 ?_
            rw [bI_f (fun z : (0 < mkind (60 * x + q) ∧ mchain (60 * x + q) = mchain (60 * x + k)) => c54 z.2)] at join62
            exact r_lv (lvLe_s rfl (lvLe_s rfl (lvLe_s rfl (lvLe_s rfl (lvLe_s rfl (lvLe_s rfl (lvLe_s rfl (lvLe_n lvLe_nil)))))))) (join62)
          · refine r_iconst B dX10_mounts0_57 ?_
            refine r_goto B dX10_mounts0_58 (tgt := 62) (by decide) ?_
            rw [bI_t (show (0 < mkind (60 * x + q) ∧ mchain (60 * x + q) = mchain (60 * x + k)) from ⟨by omega, c54⟩)] at join62
            exact r_lv (lvLe_s rfl (lvLe_s rfl (lvLe_s rfl (lvLe_s rfl (lvLe_s rfl (lvLe_s rfl (lvLe_s rfl (lvLe_n lvLe_nil)))))))) (join62)
  exact r_lv (lvLe_s rfl (lvLe_s rfl (lvLe_s rfl (lvLe_s rfl (lvLe_s rfl (lvLe_s rfl (lvLe_n (lvLe_n lvLe_nil)))))))) (loop13 _ 0 _ (by omega) rfl (Nat.lt_succ_self _))
abbrev rmX10_mounts : Room := { frames := 6, cells := 0, slots := 0, locals := 147 }
set_option maxHeartbeats 4000000 in
set_option maxRecDepth 100000 in
theorem ct_X10_mounts (l : Launch) (g : GG) (sz0 : Nat) (ad : Nat → Nat) (hA : ADok ad) {h h0 : AH} {mthrown mnights mbits mleast mmost mroom mreserve mmount mspeed : Int} {mdata msize mends mmany mkind mchain mholds mbid mbound mcheap mpromised mcoin mpaid mowed mturn misAsking mwant mcost misServed mitsRow mitsChunk : Int → Int} (hM : MW g ad h0 mthrown mdata msize mends mmany mkind mchain mholds mnights mbits mleast mmost mroom mreserve mmount mspeed mbid mbound mcheap mpromised mcoin mpaid mowed mturn misAsking mwant mcost misServed mitsRow mitsChunk h) (x k : Int) (qx : -2147483648 ≤ x ∧ x < 2147483648) (qk : -2147483648 ≤ k ∧ k < 2147483648)(hn0 : 0 ≤ mnights ∧ mnights ≤ 60)(hLK : LKo mends mmany) : CT l yX10_mounts wsX10_mounts rmX10_mounts g sz0 [.ref (ad 0), .int (iI (x)), .int (iI (k))] h (fun v h' => ∃ r : Int, v = some (.int (iI r)) ∧ (¬ tAsk x k mnights (mkind (60 * x + k)) = 0 → r = 0 ∧ MW g ad h0 (tAsk x k mnights (mkind (60 * x + k))) mdata msize mends mmany mkind mchain mholds mnights mbits mleast mmost mroom mreserve mmount mspeed mbid mbound mcheap mpromised mcoin mpaid mowed mturn misAsking mwant mcost misServed mitsRow mitsChunk h') ∧ (tAsk x k mnights (mkind (60 * x + k)) = 0 → r = sumZ (fun j => bI (j = k ∨ ((0 < mkind (60 * x + j) ∧ mchain (60 * x + j) = mchain (60 * x + k)) ∧ exN (fun a => hldC (rowF mholds (60 * x + j)) (chk (rowF mdata (60 * x + j)) (rowF mends (60 * x + j))) (mmany (60 * x + j)) (chk (rowF mdata (60 * x + k)) (rowF mends (60 * x + k)) a)) (mmany (60 * x + k))))) mnights.toNat ∧ MW g ad h0 0 mdata msize mends mmany mkind mchain mholds mnights mbits mleast mmost mroom mreserve mmount mspeed mbid mbound mcheap mpromised mcoin mpaid mowed mturn misAsking mwant mcost misServed mitsRow mitsChunk h')) := by
  refine CT.of (by decide +kernel) rfl [some (.ref (ad 0)), some (.int (iI (x))), some (.int (iI (k)))] rfl (Nat.le_of_ble_eq_true rfl) ?_
  intro p e s m args below meth c B hr hlk hnm
  refine r_aload_n B dX10_mounts_0 rfl rfl ?_
  refine r_iload_n B dX10_mounts_1 rfl ?_
  refine r_iload_n B dX10_mounts_2 rfl ?_
  refine r_callV (n := 2) B dX10_mounts_3 (ct_X10_asks l g sz0 ad hA hM _ _ (by omega) (by omega) (by omega)) gX10_mounts_X10_asks rfl (by decide +kernel) ⟨Nat.le_of_ble_eq_true rfl, Nat.le_of_ble_eq_true rfl⟩ hM.obj rfl rfl rfl (Nat.le_of_ble_eq_true rfl) (Nat.le_of_ble_eq_true rfl) (Nat.le_of_ble_eq_true rfl) (fun v h hp => ?_)
  obtain ⟨hv, hM⟩ := hp
  subst v
  dsimp only [Option.toList, List.cons_append, List.nil_append]
  refine r_if_eq B dX10_mounts_6 (tgt := 18) (by decide) (bI_rng _) (fun c6 => ?_) (fun c6 => ?_)
  · replace c6 := bI_0.mp c6
    refine r_iconst B dX10_mounts_18 ?_
    exact r_iret B hr hlk dX10_mounts_19 (Nat.le_of_ble_eq_true rfl) (Nat.le_of_ble_eq_true rfl) (by first | exact ⟨_, rfl, fun _ => ⟨rfl, hM⟩, fun h9 => absurd h9 c6⟩ | exact ⟨_, rfl, fun h9 => absurd c6 h9, fun _ => ⟨rfl, hM⟩⟩)
  · replace c6 := bI_n0.mp c6
    rw [c6] at hM
    have hT := tAsk_0.mp c6
    refine r_aload_n B dX10_mounts_9 rfl rfl ?_
    refine r_iload_n B dX10_mounts_10 rfl ?_
    refine r_iload_n B dX10_mounts_11 rfl ?_
    refine r_callV (n := 2) B dX10_mounts_12 (ct_X10_mounts0 l g sz0 ad hA hM _ _ (by omega) (by omega) hn0 hLK) gX10_mounts_X10_mounts0 rfl (by decide +kernel) ⟨Nat.le_of_ble_eq_true rfl, Nat.le_of_ble_eq_true rfl⟩ hM.obj rfl rfl rfl (Nat.le_of_ble_eq_true rfl) (Nat.le_of_ble_eq_true rfl) (Nat.le_of_ble_eq_true rfl) (fun v h' hp => ?_)
    obtain ⟨hv, hh⟩ := hp
    subst v
    subst h'
    dsimp only [Option.toList, List.cons_append, List.nil_append]
    refine r_goto B dX10_mounts_15 (tgt := 19) (by decide) ?_
    exact r_iret B hr hlk dX10_mounts_19 (Nat.le_of_ble_eq_true rfl) (Nat.le_of_ble_eq_true rfl) (by first | exact ⟨_, rfl, fun _ => ⟨rfl, hM⟩, fun h9 => absurd h9 c6⟩ | exact ⟨_, rfl, fun h9 => absurd c6 h9, fun _ => ⟨rfl, hM⟩⟩)
abbrev rmX10_chunks : Room := { frames := 3, cells := 0, slots := 0, locals := 72 }
theorem in_X10_chunks_X10 : ∀ w ∈ wsX100, w ∈ wsX10_chunks := by decide +kernel
theorem w_X10_chunks_f19 : Cond.fieldLink RX10 19 "DeltaNightsModel" "many" "[I" ∈ wsX10_chunks := by decide +kernel
set_option maxHeartbeats 4000000 in
set_option maxRecDepth 100000 in
theorem ct_X10_chunks (l : Launch) (g : GG) (sz0 : Nat) (ad : Nat → Nat) (hA : ADok ad) {h h0 : AH} {mthrown mnights mbits mleast mmost mroom mreserve mmount mspeed : Int} {mdata msize mends mmany mkind mchain mholds mbid mbound mcheap mpromised mcoin mpaid mowed mturn misAsking mwant mcost misServed mitsRow mitsChunk : Int → Int} (hM : MW g ad h0 mthrown mdata msize mends mmany mkind mchain mholds mnights mbits mleast mmost mroom mreserve mmount mspeed mbid mbound mcheap mpromised mcoin mpaid mowed mturn misAsking mwant mcost misServed mitsRow mitsChunk h) (x : Int) (qx : -2147483648 ≤ x ∧ x < 2147483648) (hs : ∀ z : Int, 0 ≤ z ∧ z ≤ 3 → 0 ≤ msize (240 + z) ∧ msize (240 + z) ≤ 48) : CT l yX10_chunks wsX10_chunks rmX10_chunks g sz0 [.ref (ad 0), .int (iI (x))] h (fun v h' => ∃ r : Int, v = some (.int (iI r)) ∧ (¬ tCl x = 0 → r = 0 ∧ MW g ad h0 (tCl x) mdata msize mends mmany mkind mchain mholds mnights mbits mleast mmost mroom mreserve mmount mspeed mbid mbound mcheap mpromised mcoin mpaid mowed mturn misAsking mwant mcost misServed mitsRow mitsChunk h') ∧ (tCl x = 0 → r = (cutR (rowF mdata (240 + x)) (msize (240 + x)) mbits mleast mmost).2.1 ∧ MW g ad h0 0 mdata msize (putRow mends (48 * (240 + x)) (cutR (rowF mdata (240 + x)) (msize (240 + x)) mbits mleast mmost).2.1 (cutR (rowF mdata (240 + x)) (msize (240 + x)) mbits mleast mmost).2.2) (upZ mmany (240 + x) (cutR (rowF mdata (240 + x)) (msize (240 + x)) mbits mleast mmost).2.1) mkind mchain mholds mnights mbits mleast mmost mroom mreserve mmount mspeed mbid mbound mcheap mpromised mcoin mpaid mowed mturn misAsking mwant mcost misServed mitsRow mitsChunk h')) := by
  refine CT.of (by decide +kernel) rfl [some (.ref (ad 0)), some (.int (iI (x)))] rfl (Nat.le_of_ble_eq_true rfl) ?_
  intro p e s m args below meth c B hr hlk hnm
  refine r_aload_n B dX10_chunks_0 rfl rfl ?_
  refine r_iload_n B dX10_chunks_1 rfl ?_
  refine r_callS (n := 1) B dX10_chunks_2 (ct_X10_isClient l g sz0 _ (by omega)) gX10_chunks_X10_isClient rfl (by decide +kernel) ⟨Nat.le_of_ble_eq_true rfl, Nat.le_of_ble_eq_true rfl⟩ rfl rfl (Nat.le_of_ble_eq_true rfl) (Nat.le_of_ble_eq_true rfl) (Nat.le_of_ble_eq_true rfl) (fun v h' hp => ?_)
  obtain ⟨hv, hh⟩ := hp
  subst v
  subst h'
  dsimp only [Option.toList, List.cons_append, List.nil_append]
  refine r_if_eq B dX10_chunks_5 (tgt := 12) (by decide) (bI_rng _) (fun c5 => ?_) (fun c5 => ?_)
  · replace c5 := bI_0.mp c5
    refine r_iconst B dX10_chunks_12 ?_
    refine r_callV (n := 1) B dX10_chunks_13 (ct_X10_isFine l g sz0 ad hA hM _ (by omega)) gX10_chunks_X10_isFine rfl (by decide +kernel) ⟨Nat.le_of_ble_eq_true rfl, Nat.le_of_ble_eq_true rfl⟩ hM.obj rfl rfl rfl (Nat.le_of_ble_eq_true rfl) (Nat.le_of_ble_eq_true rfl) (Nat.le_of_ble_eq_true rfl) (fun v h hp => ?_)
    obtain ⟨hv, hM⟩ := hp
    subst v
    dsimp only [Option.toList, List.cons_append, List.nil_append]
    refine r_if_eq B dX10_chunks_16 (tgt := 32) (by decide) (bI_rng _) (fun c16 => ?_) (fun c16 => ?_)
    · replace c16 := bI_0.mp c16
      refine r_iconst B dX10_chunks_32 ?_
      exact r_iret B hr hlk dX10_chunks_33 (Nat.le_of_ble_eq_true rfl) (Nat.le_of_ble_eq_true rfl) (by
    have hT : tCl x = 1 := by
      unfold tCl
      (repeat' split) <;> omega
    exact ⟨_, rfl, fun _ => ⟨rfl, by rw [hT]; exact hM⟩, fun h9 => absurd (hT.symm.trans h9) (by decide)⟩)
    · replace c16 := bI_n0.mp c16
      exact absurd c16 (by decide)
  · replace c5 := bI_n0.mp c5
    refine r_iconst B dX10_chunks_8 ?_
    refine r_goto B dX10_chunks_9 (tgt := 13) (by decide) ?_
    refine r_callV (n := 1) B dX10_chunks_13 (ct_X10_isFine l g sz0 ad hA hM _ (by omega)) gX10_chunks_X10_isFine rfl (by decide +kernel) ⟨Nat.le_of_ble_eq_true rfl, Nat.le_of_ble_eq_true rfl⟩ hM.obj rfl rfl rfl (Nat.le_of_ble_eq_true rfl) (Nat.le_of_ble_eq_true rfl) (Nat.le_of_ble_eq_true rfl) (fun v h hp => ?_)
    obtain ⟨hv, hM⟩ := hp
    subst v
    dsimp only [Option.toList, List.cons_append, List.nil_append]
    refine r_if_eq B dX10_chunks_16 (tgt := 32) (by decide) (bI_rng _) (fun c16 => ?_) (fun c16 => ?_)
    · replace c16 := bI_0.mp c16
      exact absurd c16 (by decide)
    · replace c16 := bI_n0.mp c16
      refine r_aload_n B dX10_chunks_19 rfl rfl ?_
      refine m_get_many B dX10_chunks_20 in_X10_chunks_X10 w_X10_chunks_f19 hM ?_
      refine r_aload_n B dX10_chunks_23 rfl rfl ?_
      refine r_iload_n B dX10_chunks_24 rfl ?_
      refine r_callV (n := 1) B dX10_chunks_25 (ct_X10_cuts l g sz0 ad hA hM _ (by omega) (hs x (by omega))) gX10_chunks_X10_cuts rfl (by decide +kernel) ⟨Nat.le_of_ble_eq_true rfl, Nat.le_of_ble_eq_true rfl⟩ hM.obj rfl rfl rfl (Nat.le_of_ble_eq_true rfl) (Nat.le_of_ble_eq_true rfl) (Nat.le_of_ble_eq_true rfl) (fun v h hp => ?_)
      obtain ⟨hv, hM⟩ := hp
      subst v
      dsimp only [Option.toList, List.cons_append, List.nil_append]
      refine m_ld_many B dX10_chunks_28 hM (by omega) (by omega) (fun r28 => ?_)
      refine r_goto B dX10_chunks_29 (tgt := 33) (by decide) ?_
      exact r_iret B hr hlk dX10_chunks_33 (Nat.le_of_ble_eq_true rfl) (Nat.le_of_ble_eq_true rfl) (by
    have hT : tCl x = 0 := by
      unfold tCl
      (repeat' split) <;> omega
    exact ⟨_, rfl, fun h9 => absurd hT h9, fun _ => ⟨by rw [upZ_at], hM⟩⟩)
abbrev rmX10_forBase : Room := { frames := 5, cells := 0, slots := 0, locals := 119 }
set_option maxHeartbeats 4000000 in
set_option maxRecDepth 100000 in
theorem ct_X10_forBase (l : Launch) (g : GG) (sz0 : Nat) (ad : Nat → Nat) (hA : ADok ad) {h h0 : AH} {mthrown mnights mbits mleast mmost mroom mreserve mmount mspeed : Int} {mdata msize mends mmany mkind mchain mholds mbid mbound mcheap mpromised mcoin mpaid mowed mturn misAsking mwant mcost misServed mitsRow mitsChunk : Int → Int} (hM : MW g ad h0 mthrown mdata msize mends mmany mkind mchain mholds mnights mbits mleast mmost mroom mreserve mmount mspeed mbid mbound mcheap mpromised mcoin mpaid mowed mturn misAsking mwant mcost misServed mitsRow mitsChunk h) (x : Int) (qx : -2147483648 ≤ x ∧ x < 2147483648) (hs : ∀ z : Int, 0 ≤ z ∧ z ≤ 3 → 0 ≤ msize (240 + z) ∧ msize (240 + z) ≤ 48) : CT l yX10_forBase wsX10_forBase rmX10_forBase g sz0 [.ref (ad 0), .int (iI (x))] h (fun v h' => ∃ r : Int, v = some (.int (iI r)) ∧ (¬ tCl x = 0 → r = 0 ∧ MW g ad h0 (tCl x) mdata msize mends mmany mkind mchain mholds mnights mbits mleast mmost mroom mreserve mmount mspeed mbid mbound mcheap mpromised mcoin mpaid mowed mturn misAsking mwant mcost misServed mitsRow mitsChunk h') ∧ (tCl x = 0 → r = baseB (rowF mdata (240 + x)) (cutR (rowF mdata (240 + x)) (msize (240 + x)) mbits mleast mmost).2.2 (cutR (rowF mdata (240 + x)) (msize (240 + x)) mbits mleast mmost).2.1 ∧ MW g ad h0 0 mdata msize (putRow mends (48 * (240 + x)) (cutR (rowF mdata (240 + x)) (msize (240 + x)) mbits mleast mmost).2.1 (cutR (rowF mdata (240 + x)) (msize (240 + x)) mbits mleast mmost).2.2) (upZ mmany (240 + x) (cutR (rowF mdata (240 + x)) (msize (240 + x)) mbits mleast mmost).2.1) mkind mchain mholds mnights mbits mleast mmost mroom mreserve mmount mspeed mbid mbound mcheap mpromised mcoin mpaid mowed mturn misAsking mwant mcost misServed mitsRow mitsChunk h')) := by
  refine CT.of (by decide +kernel) rfl [some (.ref (ad 0)), some (.int (iI (x)))] rfl (Nat.le_of_ble_eq_true rfl) ?_
  intro p e s m args below meth c B hr hlk hnm
  refine r_aload_n B dX10_forBase_0 rfl rfl ?_
  refine r_iload_n B dX10_forBase_1 rfl ?_
  refine r_callS (n := 1) B dX10_forBase_2 (ct_X10_isClient l g sz0 _ (by omega)) gX10_forBase_X10_isClient rfl (by decide +kernel) ⟨Nat.le_of_ble_eq_true rfl, Nat.le_of_ble_eq_true rfl⟩ rfl rfl (Nat.le_of_ble_eq_true rfl) (Nat.le_of_ble_eq_true rfl) (Nat.le_of_ble_eq_true rfl) (fun v h' hp => ?_)
  obtain ⟨hv, hh⟩ := hp
  subst v
  subst h'
  dsimp only [Option.toList, List.cons_append, List.nil_append]
  refine r_if_eq B dX10_forBase_5 (tgt := 12) (by decide) (bI_rng _) (fun c5 => ?_) (fun c5 => ?_)
  · replace c5 := bI_0.mp c5
    refine r_iconst B dX10_forBase_12 ?_
    refine r_callV (n := 1) B dX10_forBase_13 (ct_X10_isFine l g sz0 ad hA hM _ (by omega)) gX10_forBase_X10_isFine rfl (by decide +kernel) ⟨Nat.le_of_ble_eq_true rfl, Nat.le_of_ble_eq_true rfl⟩ hM.obj rfl rfl rfl (Nat.le_of_ble_eq_true rfl) (Nat.le_of_ble_eq_true rfl) (Nat.le_of_ble_eq_true rfl) (fun v h hp => ?_)
    obtain ⟨hv, hM⟩ := hp
    subst v
    dsimp only [Option.toList, List.cons_append, List.nil_append]
    refine r_if_eq B dX10_forBase_16 (tgt := 27) (by decide) (bI_rng _) (fun c16 => ?_) (fun c16 => ?_)
    · replace c16 := bI_0.mp c16
      refine r_iconst B dX10_forBase_27 ?_
      exact r_iret B hr hlk dX10_forBase_28 (Nat.le_of_ble_eq_true rfl) (Nat.le_of_ble_eq_true rfl) (by
    have hT : tCl x = 1 := by
      unfold tCl
      (repeat' split) <;> omega
    exact ⟨_, rfl, fun _ => ⟨rfl, by rw [hT]; exact hM⟩, fun h9 => absurd (hT.symm.trans h9) (by decide)⟩)
    · replace c16 := bI_n0.mp c16
      exact absurd c16 (by decide)
  · replace c5 := bI_n0.mp c5
    refine r_iconst B dX10_forBase_8 ?_
    refine r_goto B dX10_forBase_9 (tgt := 13) (by decide) ?_
    refine r_callV (n := 1) B dX10_forBase_13 (ct_X10_isFine l g sz0 ad hA hM _ (by omega)) gX10_forBase_X10_isFine rfl (by decide +kernel) ⟨Nat.le_of_ble_eq_true rfl, Nat.le_of_ble_eq_true rfl⟩ hM.obj rfl rfl rfl (Nat.le_of_ble_eq_true rfl) (Nat.le_of_ble_eq_true rfl) (Nat.le_of_ble_eq_true rfl) (fun v h hp => ?_)
    obtain ⟨hv, hM⟩ := hp
    subst v
    dsimp only [Option.toList, List.cons_append, List.nil_append]
    refine r_if_eq B dX10_forBase_16 (tgt := 27) (by decide) (bI_rng _) (fun c16 => ?_) (fun c16 => ?_)
    · replace c16 := bI_0.mp c16
      exact absurd c16 (by decide)
    · replace c16 := bI_n0.mp c16
      refine r_aload_n B dX10_forBase_19 rfl rfl ?_
      refine r_iload_n B dX10_forBase_20 rfl ?_
      refine r_callV (n := 1) B dX10_forBase_21 (ct_X10_forBase0 l g sz0 ad hA hM _ (by omega) (hs x (by omega))) gX10_forBase_X10_forBase0 rfl (by decide +kernel) ⟨Nat.le_of_ble_eq_true rfl, Nat.le_of_ble_eq_true rfl⟩ hM.obj rfl rfl rfl (Nat.le_of_ble_eq_true rfl) (Nat.le_of_ble_eq_true rfl) (Nat.le_of_ble_eq_true rfl) (fun v h hp => ?_)
      obtain ⟨hv, hM⟩ := hp
      subst v
      dsimp only [Option.toList, List.cons_append, List.nil_append]
      refine r_goto B dX10_forBase_24 (tgt := 28) (by decide) ?_
      exact r_iret B hr hlk dX10_forBase_28 (Nat.le_of_ble_eq_true rfl) (Nat.le_of_ble_eq_true rfl) (by
    have hT : tCl x = 0 := by
      unfold tCl
      (repeat' split) <;> omega
    exact ⟨_, rfl, fun h9 => absurd hT h9, fun _ => ⟨rfl, hM⟩⟩)
abbrev rmX10_forDifference : Room := { frames := 6, cells := 0, slots := 0, locals := 145 }
set_option maxHeartbeats 4000000 in
set_option maxRecDepth 100000 in
theorem ct_X10_forDifference (l : Launch) (g : GG) (sz0 : Nat) (ad : Nat → Nat) (hA : ADok ad) {h h0 : AH} {mthrown mnights mbits mleast mmost mroom mreserve mmount mspeed : Int} {mdata msize mends mmany mkind mchain mholds mbid mbound mcheap mpromised mcoin mpaid mowed mturn misAsking mwant mcost misServed mitsRow mitsChunk : Int → Int} (hM : MW g ad h0 mthrown mdata msize mends mmany mkind mchain mholds mnights mbits mleast mmost mroom mreserve mmount mspeed mbid mbound mcheap mpromised mcoin mpaid mowed mturn misAsking mwant mcost misServed mitsRow mitsChunk h) (x : Int) (qx : -2147483648 ≤ x ∧ x < 2147483648) (hs : ∀ z : Int, 0 ≤ z ∧ z ≤ 3 → 0 ≤ msize (240 + z) ∧ msize (240 + z) ≤ 48)(hn0 : 0 ≤ mnights ∧ mnights ≤ 60)(hLK : LKo mends mmany) : CT l yX10_forDifference wsX10_forDifference rmX10_forDifference g sz0 [.ref (ad 0), .int (iI (x))] h (fun v h' => ∃ r : Int, v = some (.int (iI r)) ∧ (¬ tDif x (ltN (colF mkind x) mnights.toNat) = 0 → r = 0 ∧ MW g ad h0 (tDif x (ltN (colF mkind x) mnights.toNat)) mdata msize mends mmany mkind mchain mholds mnights mbits mleast mmost mroom mreserve mmount mspeed mbid mbound mcheap mpromised mcoin mpaid mowed mturn misAsking mwant mcost misServed mitsRow mitsChunk h') ∧ (tDif x (ltN (colF mkind x) mnights.toNat) = 0 → r = difB (rowF mdata (240 + x)) (cutR (rowF mdata (240 + x)) (msize (240 + x)) mbits mleast mmost).2.2 (cutR (rowF mdata (240 + x)) (msize (240 + x)) mbits mleast mmost).2.1 (inCh mdata mends mmany mkind mchain mholds mnights x) ∧ MW g ad h0 0 mdata msize (putRow mends (48 * (240 + x)) (cutR (rowF mdata (240 + x)) (msize (240 + x)) mbits mleast mmost).2.1 (cutR (rowF mdata (240 + x)) (msize (240 + x)) mbits mleast mmost).2.2) (upZ mmany (240 + x) (cutR (rowF mdata (240 + x)) (msize (240 + x)) mbits mleast mmost).2.1) mkind mchain mholds mnights mbits mleast mmost mroom mreserve mmount mspeed mbid mbound mcheap mpromised mcoin mpaid mowed mturn misAsking mwant mcost misServed mitsRow mitsChunk h')) := by
  refine CT.of (by decide +kernel) rfl [some (.ref (ad 0)), some (.int (iI (x))), none] rfl (Nat.le_of_ble_eq_true rfl) ?_
  intro p e s m args below meth c B hr hlk hnm
  refine r_iload_n B dX10_forDifference_0 rfl ?_
  refine r_callS (n := 1) B dX10_forDifference_1 (ct_X10_isClient l g sz0 _ (by omega)) gX10_forDifference_X10_isClient rfl (by decide +kernel) ⟨Nat.le_of_ble_eq_true rfl, Nat.le_of_ble_eq_true rfl⟩ rfl rfl (Nat.le_of_ble_eq_true rfl) (Nat.le_of_ble_eq_true rfl) (Nat.le_of_ble_eq_true rfl) (fun v h' hp => ?_)
  obtain ⟨hv, hh⟩ := hp
  subst v
  subst h'
  dsimp only [Option.toList, List.cons_append, List.nil_append]
  refine r_istore_n B dX10_forDifference_4 rfl (by decide) (lcat_v rfl rfl) ?_
  refine r_aload_n B dX10_forDifference_5 rfl rfl ?_
  refine r_iload_n B dX10_forDifference_6 rfl ?_
  refine r_if_ne B dX10_forDifference_7 (tgt := 14) (by decide) (bI_rng _) (fun c7 => ?_) (fun c7 => ?_)
  · replace c7 := bI_n0.mp c7
    refine r_aload_n B dX10_forDifference_14 rfl rfl ?_
    refine r_iload_n B dX10_forDifference_15 rfl ?_
    refine r_callV (n := 1) B dX10_forDifference_16 (ct_X10_latestNow l g sz0 ad hA hM _ (by omega) (by omega)) gX10_forDifference_X10_latestNow rfl (by decide +kernel) ⟨Nat.le_of_ble_eq_true rfl, Nat.le_of_ble_eq_true rfl⟩ hM.obj rfl rfl rfl (Nat.le_of_ble_eq_true rfl) (Nat.le_of_ble_eq_true rfl) (Nat.le_of_ble_eq_true rfl) (fun v h' hp => ?_)
    obtain ⟨hv, hh⟩ := hp
    subst v
    subst h'
    dsimp only [Option.toList, List.cons_append, List.nil_append]
    have hl0 := ltN_rng (colF mkind x) mnights.toNat
    have hlv : ltv x (ltN (colF mkind x) mnights.toNat) = if ltN (colF mkind x) mnights.toNat = -1 then -1 else 60 * x + ltN (colF mkind x) mnights.toNat := rfl
    generalize ltv x (ltN (colF mkind x) mnights.toNat) = z at hlv ⊢
    have hz : z = -1 ↔ ltN (colF mkind x) mnights.toNat = -1 := by split at hlv <;> omega
    refine r_iconst B dX10_forDifference_19 ?_
    refine r_icmp_ne B dX10_forDifference_20 (tgt := 27) (by decide) (by split at hlv <;> omega) (by omega) (fun c20 => ?_) (fun c20 => ?_)
    · refine r_iconst B dX10_forDifference_27 ?_
      refine r_callV (n := 1) B dX10_forDifference_28 (ct_X10_isFine l g sz0 ad hA hM _ (by omega)) gX10_forDifference_X10_isFine rfl (by decide +kernel) ⟨Nat.le_of_ble_eq_true rfl, Nat.le_of_ble_eq_true rfl⟩ hM.obj rfl rfl rfl (Nat.le_of_ble_eq_true rfl) (Nat.le_of_ble_eq_true rfl) (Nat.le_of_ble_eq_true rfl) (fun v h hp => ?_)
      obtain ⟨hv, hM⟩ := hp
      subst v
      dsimp only [Option.toList, List.cons_append, List.nil_append]
      refine r_if_eq B dX10_forDifference_31 (tgt := 42) (by decide) (bI_rng _) (fun c31 => ?_) (fun c31 => ?_)
      · replace c31 := bI_0.mp c31
        exact absurd c31 (by decide)
      · replace c31 := bI_n0.mp c31
        refine r_aload_n B dX10_forDifference_34 rfl rfl ?_
        refine r_iload_n B dX10_forDifference_35 rfl ?_
        refine r_callV (n := 1) B dX10_forDifference_36 (ct_X10_forDifference0 l g sz0 ad hA hM _ (by omega) (hs x (by omega)) hn0 hLK) gX10_forDifference_X10_forDifference0 rfl (by decide +kernel) ⟨Nat.le_of_ble_eq_true rfl, Nat.le_of_ble_eq_true rfl⟩ hM.obj rfl rfl rfl (Nat.le_of_ble_eq_true rfl) (Nat.le_of_ble_eq_true rfl) (Nat.le_of_ble_eq_true rfl) (fun v h hp => ?_)
        obtain ⟨hv, hM⟩ := hp
        subst v
        dsimp only [Option.toList, List.cons_append, List.nil_append]
        refine r_goto B dX10_forDifference_39 (tgt := 43) (by decide) ?_
        exact r_iret B hr hlk dX10_forDifference_43 (Nat.le_of_ble_eq_true rfl) (Nat.le_of_ble_eq_true rfl) (by
    have hT : tDif x (ltN (colF mkind x) mnights.toNat) = 0 := by
      unfold tDif
      (repeat' split) <;> omega
    exact ⟨_, rfl, fun h9 => absurd hT h9, fun _ => ⟨rfl, hM⟩⟩)
    · refine r_iconst B dX10_forDifference_23 ?_
      refine r_goto B dX10_forDifference_24 (tgt := 28) (by decide) ?_
      refine r_callV (n := 1) B dX10_forDifference_28 (ct_X10_isFine l g sz0 ad hA hM _ (by omega)) gX10_forDifference_X10_isFine rfl (by decide +kernel) ⟨Nat.le_of_ble_eq_true rfl, Nat.le_of_ble_eq_true rfl⟩ hM.obj rfl rfl rfl (Nat.le_of_ble_eq_true rfl) (Nat.le_of_ble_eq_true rfl) (Nat.le_of_ble_eq_true rfl) (fun v h hp => ?_)
      obtain ⟨hv, hM⟩ := hp
      subst v
      dsimp only [Option.toList, List.cons_append, List.nil_append]
      refine r_if_eq B dX10_forDifference_31 (tgt := 42) (by decide) (bI_rng _) (fun c31 => ?_) (fun c31 => ?_)
      · replace c31 := bI_0.mp c31
        refine r_iconst B dX10_forDifference_42 ?_
        exact r_iret B hr hlk dX10_forDifference_43 (Nat.le_of_ble_eq_true rfl) (Nat.le_of_ble_eq_true rfl) (by
    have hT : tDif x (ltN (colF mkind x) mnights.toNat) = 2 := by
      unfold tDif
      (repeat' split) <;> omega
    exact ⟨_, rfl, fun _ => ⟨rfl, by rw [hT]; exact hM⟩, fun h9 => absurd (hT.symm.trans h9) (by decide)⟩)
      · replace c31 := bI_n0.mp c31
        exact absurd c31 (by decide)
  · replace c7 := bI_0.mp c7
    refine r_iconst B dX10_forDifference_10 ?_
    refine r_goto B dX10_forDifference_11 (tgt := 28) (by decide) ?_
    refine r_callV (n := 1) B dX10_forDifference_28 (ct_X10_isFine l g sz0 ad hA hM _ (by omega)) gX10_forDifference_X10_isFine rfl (by decide +kernel) ⟨Nat.le_of_ble_eq_true rfl, Nat.le_of_ble_eq_true rfl⟩ hM.obj rfl rfl rfl (Nat.le_of_ble_eq_true rfl) (Nat.le_of_ble_eq_true rfl) (Nat.le_of_ble_eq_true rfl) (fun v h hp => ?_)
    obtain ⟨hv, hM⟩ := hp
    subst v
    dsimp only [Option.toList, List.cons_append, List.nil_append]
    refine r_if_eq B dX10_forDifference_31 (tgt := 42) (by decide) (bI_rng _) (fun c31 => ?_) (fun c31 => ?_)
    · replace c31 := bI_0.mp c31
      refine r_iconst B dX10_forDifference_42 ?_
      exact r_iret B hr hlk dX10_forDifference_43 (Nat.le_of_ble_eq_true rfl) (Nat.le_of_ble_eq_true rfl) (by
    have hT : tDif x (ltN (colF mkind x) mnights.toNat) = 1 := by
      unfold tDif
      (repeat' split) <;> omega
    exact ⟨_, rfl, fun _ => ⟨rfl, by rw [hT]; exact hM⟩, fun h9 => absurd (hT.symm.trans h9) (by decide)⟩)
    · replace c31 := bI_n0.mp c31
      exact absurd c31 (by decide)
abbrev rmX10_restore : Room := { frames := 3, cells := 0, slots := 0, locals := 66 }
theorem in_X10_restore_X10 : ∀ w ∈ wsX100, w ∈ wsX10_restore := by decide +kernel
theorem w_X10_restore_f13 : Cond.fieldLink RX10 13 "DeltaNightsModel" "size" "[I" ∈ wsX10_restore := by decide +kernel
theorem w_X10_restore_f7 : Cond.fieldLink RX10 7 "DeltaNightsModel" "data" "[I" ∈ wsX10_restore := by decide +kernel
set_option maxHeartbeats 4000000 in
set_option maxRecDepth 100000 in
theorem ct_X10_restore (l : Launch) (g : GG) (sz0 : Nat) (ad : Nat → Nat) (hA : ADok ad) {h h0 : AH} {mthrown mnights mbits mleast mmost mroom mreserve mmount mspeed : Int} {mdata msize mends mmany mkind mchain mholds mbid mbound mcheap mpromised mcoin mpaid mowed mturn misAsking mwant mcost misServed mitsRow mitsChunk : Int → Int} (hM : MW g ad h0 mthrown mdata msize mends mmany mkind mchain mholds mnights mbits mleast mmost mroom mreserve mmount mspeed mbid mbound mcheap mpromised mcoin mpaid mowed mturn misAsking mwant mcost misServed mitsRow mitsChunk h) (x k : Int) (qx : -2147483648 ≤ x ∧ x < 2147483648) (qk : -2147483648 ≤ k ∧ k < 2147483648)(hn0 : 0 ≤ mnights ∧ mnights ≤ 60)(hs : ∀ z : Int, 0 ≤ z → z < 244 → 0 ≤ msize z ∧ msize z ≤ 48) : CT l yX10_restore wsX10_restore rmX10_restore g sz0 [.ref (ad 0), .int (iI (x)), .int (iI (k))] h (fun v h' => ∃ r : Int, v = some (.int (iI r)) ∧ (¬ tAsk x k mnights (mkind (60 * x + k)) = 0 → r = 0 ∧ MW g ad h0 (tAsk x k mnights (mkind (60 * x + k))) mdata msize mends mmany mkind mchain mholds mnights mbits mleast mmost mroom mreserve mmount mspeed mbid mbound mcheap mpromised mcoin mpaid mowed mturn misAsking mwant mcost misServed mitsRow mitsChunk h') ∧ (tAsk x k mnights (mkind (60 * x + k)) = 0 → r = sumZ (fun j => bI (((j < msize (240 + x)) ↔ ¬ (j < msize (60 * x + k))) ∨ (j < msize (60 * x + k) ∧ ¬ mdata (48 * (240 + x) + j) = mdata (48 * (60 * x + k) + j)))) 48 ∧ MW g ad h0 0 (cpyF mdata (48 * (240 + x)) (48 * (60 * x + k)) (msize (60 * x + k))) (upZ msize (240 + x) (msize (60 * x + k))) mends mmany mkind mchain mholds mnights mbits mleast mmost mroom mreserve mmount mspeed mbid mbound mcheap mpromised mcoin mpaid mowed mturn misAsking mwant mcost misServed mitsRow mitsChunk h')) := by
  refine CT.of (by decide +kernel) rfl [some (.ref (ad 0)), some (.int (iI (x))), some (.int (iI (k))), none, none, none, none, none, none] rfl (Nat.le_of_ble_eq_true rfl) ?_
  intro p e s m args below meth c B hr hlk hnm
  refine r_aload_n B dX10_restore_0 rfl rfl ?_
  refine r_iload_n B dX10_restore_1 rfl ?_
  refine r_iload_n B dX10_restore_2 rfl ?_
  refine r_callV (n := 2) B dX10_restore_3 (ct_X10_asks l g sz0 ad hA hM _ _ (by omega) (by omega) (by omega)) gX10_restore_X10_asks rfl (by decide +kernel) ⟨Nat.le_of_ble_eq_true rfl, Nat.le_of_ble_eq_true rfl⟩ hM.obj rfl rfl rfl (Nat.le_of_ble_eq_true rfl) (Nat.le_of_ble_eq_true rfl) (Nat.le_of_ble_eq_true rfl) (fun v h hp => ?_)
  obtain ⟨hv, hM⟩ := hp
  subst v
  dsimp only [Option.toList, List.cons_append, List.nil_append]
  refine r_if_ne B dX10_restore_6 (tgt := 11) (by decide) (bI_rng _) (fun c6 => ?_) (fun c6 => ?_)
  · replace c6 := bI_n0.mp c6
    rw [c6] at hM
    have hT := tAsk_0.mp c6
    have hs1 := hs (60 * x + k) (by omega) (by omega)
    have hs2 := hs (240 + x) (by omega) (by omega)
    refine r_bipush B dX10_restore_11 (by decide) ?_
    refine r_iload_n B dX10_restore_13 rfl ?_
    refine r_imul B dX10_restore_14 ?_
    refine r_iload_n B dX10_restore_15 rfl ?_
    refine r_iadd B dX10_restore_16 ?_
    refine r_istore_n B dX10_restore_17 rfl (by decide) (lcat_v rfl rfl) ?_
    refine r_sipush B dX10_restore_18 (by decide) ?_
    refine r_iload_n B dX10_restore_21 rfl ?_
    refine r_iadd B dX10_restore_22 ?_
    refine r_istore B dX10_restore_23 (by decide) (lcat_v rfl rfl) ?_
    refine r_iconst B dX10_restore_25 ?_
    refine r_istore B dX10_restore_26 (by decide) (lcat_v rfl rfl) ?_
    refine r_iconst B dX10_restore_28 ?_
    refine r_istore B dX10_restore_29 (by decide) (lcat_v rfl rfl) ?_
    have loop31 : ∀ (nn : Nat) (q : Int) (sm : Int), (0 ≤ q ∧ q ≤ 48) → (sm = sumZ (fun j => bI (((j < msize (240 + x)) ↔ ¬ (j < msize (60 * x + k))) ∨ (j < msize (60 * x + k) ∧ ¬ mdata (48 * (240 + x) + j) = mdata (48 * (60 * x + k) + j)))) q.toNat) → (48 - q).toNat < nn → WA p l e rmX10_restore s m args below meth c g sz0 9 (MQ below (QQ g sz0 (fun v h' => ∃ r : Int, v = some (.int (iI r)) ∧ (¬ tAsk x k mnights (mkind (60 * x + k)) = 0 → r = 0 ∧ MW g ad h0 (tAsk x k mnights (mkind (60 * x + k))) mdata msize mends mmany mkind mchain mholds mnights mbits mleast mmost mroom mreserve mmount mspeed mbid mbound mcheap mpromised mcoin mpaid mowed mturn misAsking mwant mcost misServed mitsRow mitsChunk h') ∧ (tAsk x k mnights (mkind (60 * x + k)) = 0 → r = sumZ (fun j => bI (((j < msize (240 + x)) ↔ ¬ (j < msize (60 * x + k))) ∨ (j < msize (60 * x + k) ∧ ¬ mdata (48 * (240 + x) + j) = mdata (48 * (60 * x + k) + j)))) 48 ∧ MW g ad h0 0 (cpyF mdata (48 * (240 + x)) (48 * (60 * x + k)) (msize (60 * x + k))) (upZ msize (240 + x) (msize (60 * x + k))) mends mmany mkind mchain mholds mnights mbits mleast mmost mroom mreserve mmount mspeed mbid mbound mcheap mpromised mcoin mpaid mowed mturn misAsking mwant mcost misServed mitsRow mitsChunk h'))) args s rmX10_restore.cells rmX10_restore.slots (A0 sz0)) h 0 0 [some (.ref (ad 0)), some (.int (iI (x))), some (.int (iI (k))), some (.int (iI (60 * x + k))), some (.int (iI (240 + x))), some (.int (iI (sm))), some (.int (iI (q))), none, none] 31 [] := by
      intro nn
      induction nn with
      | zero => intro q sm i1 i2 hn; exact absurd hn (Nat.not_lt_zero _)
      | succ nn ih =>
        intro q sm i1 i2 hn
        refine r_iload B dX10_restore_31 rfl ?_
        refine r_bipush B dX10_restore_33 (by decide) ?_
        refine r_icmp_ge B dX10_restore_35 (tgt := 121) (by decide) (by omega) (by omega) (fun c35 => ?_) (fun c35 => ?_)
        · have hq48 : q = 48 := by omega
          subst hq48
          refine r_iconst B dX10_restore_121 ?_
          refine r_istore B dX10_restore_122 (by decide) (lcat_v rfl rfl) ?_
          have loop124 : ∀ (nn : Nat) (q : Int) (h : AH), MW g ad h0 0 (cpyF mdata (48 * (240 + x)) (48 * (60 * x + k)) q) msize mends mmany mkind mchain mholds mnights mbits mleast mmost mroom mreserve mmount mspeed mbid mbound mcheap mpromised mcoin mpaid mowed mturn misAsking mwant mcost misServed mitsRow mitsChunk h → (0 ≤ q ∧ q ≤ msize (60 * x + k)) → (msize (60 * x + k) - q).toNat < nn → WA p l e rmX10_restore s m args below meth c g sz0 9 (MQ below (QQ g sz0 (fun v h' => ∃ r : Int, v = some (.int (iI r)) ∧ (¬ tAsk x k mnights (mkind (60 * x + k)) = 0 → r = 0 ∧ MW g ad h0 (tAsk x k mnights (mkind (60 * x + k))) mdata msize mends mmany mkind mchain mholds mnights mbits mleast mmost mroom mreserve mmount mspeed mbid mbound mcheap mpromised mcoin mpaid mowed mturn misAsking mwant mcost misServed mitsRow mitsChunk h') ∧ (tAsk x k mnights (mkind (60 * x + k)) = 0 → r = sumZ (fun j => bI (((j < msize (240 + x)) ↔ ¬ (j < msize (60 * x + k))) ∨ (j < msize (60 * x + k) ∧ ¬ mdata (48 * (240 + x) + j) = mdata (48 * (60 * x + k) + j)))) 48 ∧ MW g ad h0 0 (cpyF mdata (48 * (240 + x)) (48 * (60 * x + k)) (msize (60 * x + k))) (upZ msize (240 + x) (msize (60 * x + k))) mends mmany mkind mchain mholds mnights mbits mleast mmost mroom mreserve mmount mspeed mbid mbound mcheap mpromised mcoin mpaid mowed mturn misAsking mwant mcost misServed mitsRow mitsChunk h'))) args s rmX10_restore.cells rmX10_restore.slots (A0 sz0)) h 0 0 [some (.ref (ad 0)), some (.int (iI (x))), some (.int (iI (k))), some (.int (iI (60 * x + k))), some (.int (iI (240 + x))), some (.int (iI (sm))), some (.int (iI (q))), none, none] 124 [] := by
            intro nn
            induction nn with
            | zero => intro q h hM j1 hn; exact absurd hn (Nat.not_lt_zero _)
            | succ nn ih =>
              intro q h hM j1 hn
              refine r_iload B dX10_restore_124 rfl ?_
              refine r_aload_n B dX10_restore_126 rfl rfl ?_
              refine m_get_size B dX10_restore_127 in_X10_restore_X10 w_X10_restore_f13 hM ?_
              refine r_iload_n B dX10_restore_130 rfl ?_
              refine m_ld_size B dX10_restore_131 hM (by omega) (by omega) (fun r131 => ?_)
              refine r_icmp_ge B dX10_restore_132 (tgt := 161) (by decide) (by omega) (by omega) (fun c132 => ?_) (fun c132 => ?_)
              · have hqe : q = msize (60 * x + k) := by omega
                refine r_aload_n B dX10_restore_161 rfl rfl ?_
                refine m_get_size B dX10_restore_162 in_X10_restore_X10 w_X10_restore_f13 hM ?_
                refine r_iload B dX10_restore_165 rfl ?_
                refine r_aload_n B dX10_restore_167 rfl rfl ?_
                refine m_get_size B dX10_restore_168 in_X10_restore_X10 w_X10_restore_f13 hM ?_
                refine r_iload_n B dX10_restore_171 rfl ?_
                refine m_ld_size B dX10_restore_172 hM (by omega) (by omega) (fun r172 => ?_)
                refine m_st_size B dX10_restore_173 hA hM (by omega) (by omega) (by omega) (fun h hM => ?_)
                refine r_iload B dX10_restore_174 rfl ?_
                exact r_iret B hr hlk dX10_restore_176 (Nat.le_of_ble_eq_true rfl) (Nat.le_of_ble_eq_true rfl) (by first | exact ⟨_, rfl, fun _ => ⟨rfl, hM⟩, fun h9 => absurd h9 c6⟩ | exact ⟨_, rfl, fun h9 => absurd c6 h9, fun _ => ⟨by rw [i2]; rfl, by rw [hqe] at hM; exact hM⟩⟩)
              · refine r_aload_n B dX10_restore_135 rfl rfl ?_
                refine m_get_data B dX10_restore_136 in_X10_restore_X10 w_X10_restore_f7 hM ?_
                refine r_bipush B dX10_restore_139 (by decide) ?_
                refine r_iload B dX10_restore_141 rfl ?_
                refine r_imul B dX10_restore_143 ?_
                refine r_iload B dX10_restore_144 rfl ?_
                refine r_iadd B dX10_restore_146 ?_
                refine r_aload_n B dX10_restore_147 rfl rfl ?_
                refine r_iload_n B dX10_restore_148 rfl ?_
                refine r_iload B dX10_restore_149 rfl ?_
                refine r_callV (n := 2) B dX10_restore_151 (ct_X10_at0 l g sz0 ad hA hM _ _ (by omega)) gX10_restore_X10_at0 rfl (by decide +kernel) ⟨Nat.le_of_ble_eq_true rfl, Nat.le_of_ble_eq_true rfl⟩ hM.obj rfl rfl rfl (Nat.le_of_ble_eq_true rfl) (Nat.le_of_ble_eq_true rfl) (Nat.le_of_ble_eq_true rfl) (fun v h' hp => ?_)
                obtain ⟨hv, hh⟩ := hp
                subst v
                subst h'
                dsimp only [Option.toList, List.cons_append, List.nil_append]
                have r151 := hM.r_data (48 * (60 * x + k) + q)
                refine m_st_data B dX10_restore_154 hA hM (by omega) (by omega) (by omega) (fun h hM => ?_)
                refine r_iinc B dX10_restore_155 rfl (by decide) (lcat_v rfl rfl) ?_
                refine r_goto B dX10_restore_158 (tgt := 124) (by decide) ?_
                exact r_lv (lvLe_s rfl (lvLe_s rfl (lvLe_s rfl (lvLe_s rfl (lvLe_s rfl (lvLe_s rfl (lvLe_s rfl (lvLe_n (lvLe_n lvLe_nil))))))))) (ih (q + 1) h (by rw [← cpyF_s _ _ _ j1.1 (by omega)]; exact hM) (by omega) (by omega))
          exact r_lv (lvLe_s rfl (lvLe_s rfl (lvLe_s rfl (lvLe_s rfl (lvLe_s rfl (lvLe_s rfl (lvLe_s rfl (lvLe_n (lvLe_n lvLe_nil))))))))) (loop124 _ 0 h (by rw [cpyF_0]; exact hM) (by omega) (Nat.lt_succ_self _))
        · refine r_iload B dX10_restore_38 rfl ?_
          refine r_aload_n B dX10_restore_40 rfl rfl ?_
          refine m_get_size B dX10_restore_41 in_X10_restore_X10 w_X10_restore_f13 hM ?_
          refine r_iload B dX10_restore_44 rfl ?_
          refine m_ld_size B dX10_restore_46 hM (by omega) (by omega) (fun r46 => ?_)
          refine r_icmp_ge B dX10_restore_47 (tgt := 54) (by decide) (by omega) (by omega) (fun c47 => ?_) (fun c47 => ?_)
          · refine r_iconst B dX10_restore_54 ?_
            refine r_istore B dX10_restore_55 (by decide) (lcat_v rfl rfl) ?_
            refine r_iload B dX10_restore_57 rfl ?_
            refine r_aload_n B dX10_restore_59 rfl rfl ?_
            refine m_get_size B dX10_restore_60 in_X10_restore_X10 w_X10_restore_f13 hM ?_
            refine r_iload_n B dX10_restore_63 rfl ?_
            refine m_ld_size B dX10_restore_64 hM (by omega) (by omega) (fun r64 => ?_)
            refine r_icmp_ge B dX10_restore_65 (tgt := 72) (by decide) (by omega) (by omega) (fun c65 => ?_) (fun c65 => ?_)
            · refine r_iconst B dX10_restore_72 ?_
              refine r_istore B dX10_restore_73 (by decide) (lcat_v rfl rfl) ?_
              refine r_iload B dX10_restore_75 rfl ?_
              refine r_iload B dX10_restore_77 rfl ?_
              refine r_iload B dX10_restore_79 rfl ?_
              refine r_icmp_ne B dX10_restore_81 (tgt := 107) (by decide) (by omega) (by omega) (fun c81 => ?_) (fun c81 => ?_)
              · exact absurd c81 (by decide)
              · refine r_iload B dX10_restore_84 rfl ?_
                refine r_if_eq B dX10_restore_86 (tgt := 111) (by decide) (by omega) (fun c86 => ?_) (fun c86 => ?_)
                · refine r_iconst B dX10_restore_111 ?_
                  refine r_iadd B dX10_restore_112 ?_
                  refine r_istore B dX10_restore_113 (by decide) (lcat_v rfl rfl) ?_
                  refine r_iinc B dX10_restore_115 rfl (by decide) (lcat_v rfl rfl) ?_
                  refine r_goto B dX10_restore_118 (tgt := 31) (by decide) ?_
                  exact r_lv (lvLe_s rfl (lvLe_s rfl (lvLe_s rfl (lvLe_s rfl (lvLe_s rfl (lvLe_s rfl (lvLe_s rfl (lvLe_n (lvLe_n lvLe_nil))))))))) (ih (q + 1) _ (by omega) (by rw [sumZ_s _ i1.1, bI_f (by omega), i2]) (by omega))
                · exact absurd c86 (by decide)
            · refine r_iconst B dX10_restore_68 ?_
              refine r_goto B dX10_restore_69 (tgt := 73) (by decide) ?_
              refine r_istore B dX10_restore_73 (by decide) (lcat_v rfl rfl) ?_
              refine r_iload B dX10_restore_75 rfl ?_
              refine r_iload B dX10_restore_77 rfl ?_
              refine r_iload B dX10_restore_79 rfl ?_
              refine r_icmp_ne B dX10_restore_81 (tgt := 107) (by decide) (by omega) (by omega) (fun c81 => ?_) (fun c81 => ?_)
              · refine r_iconst B dX10_restore_107 ?_
                refine r_goto B dX10_restore_108 (tgt := 112) (by decide) ?_
                refine r_iadd B dX10_restore_112 ?_
                refine r_istore B dX10_restore_113 (by decide) (lcat_v rfl rfl) ?_
                refine r_iinc B dX10_restore_115 rfl (by decide) (lcat_v rfl rfl) ?_
                refine r_goto B dX10_restore_118 (tgt := 31) (by decide) ?_
                exact r_lv (lvLe_s rfl (lvLe_s rfl (lvLe_s rfl (lvLe_s rfl (lvLe_s rfl (lvLe_s rfl (lvLe_s rfl (lvLe_n (lvLe_n lvLe_nil))))))))) (ih (q + 1) _ (by omega) (by rw [sumZ_s _ i1.1, bI_t (by omega), i2]) (by omega))
              · exact absurd c81 (by decide)
          · refine r_iconst B dX10_restore_50 ?_
            refine r_goto B dX10_restore_51 (tgt := 55) (by decide) ?_
            refine r_istore B dX10_restore_55 (by decide) (lcat_v rfl rfl) ?_
            refine r_iload B dX10_restore_57 rfl ?_
            refine r_aload_n B dX10_restore_59 rfl rfl ?_
            refine m_get_size B dX10_restore_60 in_X10_restore_X10 w_X10_restore_f13 hM ?_
            refine r_iload_n B dX10_restore_63 rfl ?_
            refine m_ld_size B dX10_restore_64 hM (by omega) (by omega) (fun r64 => ?_)
            refine r_icmp_ge B dX10_restore_65 (tgt := 72) (by decide) (by omega) (by omega) (fun c65 => ?_) (fun c65 => ?_)
            · refine r_iconst B dX10_restore_72 ?_
              refine r_istore B dX10_restore_73 (by decide) (lcat_v rfl rfl) ?_
              refine r_iload B dX10_restore_75 rfl ?_
              refine r_iload B dX10_restore_77 rfl ?_
              refine r_iload B dX10_restore_79 rfl ?_
              refine r_icmp_ne B dX10_restore_81 (tgt := 107) (by decide) (by omega) (by omega) (fun c81 => ?_) (fun c81 => ?_)
              · refine r_iconst B dX10_restore_107 ?_
                refine r_goto B dX10_restore_108 (tgt := 112) (by decide) ?_
                refine r_iadd B dX10_restore_112 ?_
                refine r_istore B dX10_restore_113 (by decide) (lcat_v rfl rfl) ?_
                refine r_iinc B dX10_restore_115 rfl (by decide) (lcat_v rfl rfl) ?_
                refine r_goto B dX10_restore_118 (tgt := 31) (by decide) ?_
                exact r_lv (lvLe_s rfl (lvLe_s rfl (lvLe_s rfl (lvLe_s rfl (lvLe_s rfl (lvLe_s rfl (lvLe_s rfl (lvLe_n (lvLe_n lvLe_nil))))))))) (ih (q + 1) _ (by omega) (by rw [sumZ_s _ i1.1, bI_t (by omega), i2]) (by omega))
              · exact absurd c81 (by decide)
            · refine r_iconst B dX10_restore_68 ?_
              refine r_goto B dX10_restore_69 (tgt := 73) (by decide) ?_
              refine r_istore B dX10_restore_73 (by decide) (lcat_v rfl rfl) ?_
              refine r_iload B dX10_restore_75 rfl ?_
              refine r_iload B dX10_restore_77 rfl ?_
              refine r_iload B dX10_restore_79 rfl ?_
              refine r_icmp_ne B dX10_restore_81 (tgt := 107) (by decide) (by omega) (by omega) (fun c81 => ?_) (fun c81 => ?_)
              · exact absurd c81 (by decide)
              · refine r_iload B dX10_restore_84 rfl ?_
                refine r_if_eq B dX10_restore_86 (tgt := 111) (by decide) (by omega) (fun c86 => ?_) (fun c86 => ?_)
                · exact absurd c86 (by decide)
                · refine r_aload_n B dX10_restore_89 rfl rfl ?_
                  refine r_iload B dX10_restore_90 rfl ?_
                  refine r_iload B dX10_restore_92 rfl ?_
                  refine r_callV (n := 2) B dX10_restore_94 (ct_X10_at0 l g sz0 ad hA hM _ _ (by omega)) gX10_restore_X10_at0 rfl (by decide +kernel) ⟨Nat.le_of_ble_eq_true rfl, Nat.le_of_ble_eq_true rfl⟩ hM.obj rfl rfl rfl (Nat.le_of_ble_eq_true rfl) (Nat.le_of_ble_eq_true rfl) (Nat.le_of_ble_eq_true rfl) (fun v h' hp => ?_)
                  obtain ⟨hv, hh⟩ := hp
                  subst v
                  subst h'
                  dsimp only [Option.toList, List.cons_append, List.nil_append]
                  refine r_aload_n B dX10_restore_97 rfl rfl ?_
                  refine r_iload_n B dX10_restore_98 rfl ?_
                  refine r_iload B dX10_restore_99 rfl ?_
                  refine r_callV (n := 2) B dX10_restore_101 (ct_X10_at0 l g sz0 ad hA hM _ _ (by omega)) gX10_restore_X10_at0 rfl (by decide +kernel) ⟨Nat.le_of_ble_eq_true rfl, Nat.le_of_ble_eq_true rfl⟩ hM.obj rfl rfl rfl (Nat.le_of_ble_eq_true rfl) (Nat.le_of_ble_eq_true rfl) (Nat.le_of_ble_eq_true rfl) (fun v h' hp => ?_)
                  obtain ⟨hv, hh⟩ := hp
                  subst v
                  subst h'
                  dsimp only [Option.toList, List.cons_append, List.nil_append]
                  refine r_icmp_eq B dX10_restore_104 (tgt := 111) (by decide) (hM.r_data _) (hM.r_data _) (fun c104 => ?_) (fun c104 => ?_)
                  · refine r_iconst B dX10_restore_111 ?_
                    refine r_iadd B dX10_restore_112 ?_
                    refine r_istore B dX10_restore_113 (by decide) (lcat_v rfl rfl) ?_
                    refine r_iinc B dX10_restore_115 rfl (by decide) (lcat_v rfl rfl) ?_
                    refine r_goto B dX10_restore_118 (tgt := 31) (by decide) ?_
                    exact r_lv (lvLe_s rfl (lvLe_s rfl (lvLe_s rfl (lvLe_s rfl (lvLe_s rfl (lvLe_s rfl (lvLe_s rfl (lvLe_n (lvLe_n lvLe_nil))))))))) (ih (q + 1) _ (by omega) (by rw [sumZ_s _ i1.1, bI_f (by omega), i2]) (by omega))
                  · refine r_iconst B dX10_restore_107 ?_
                    refine r_goto B dX10_restore_108 (tgt := 112) (by decide) ?_
                    refine r_iadd B dX10_restore_112 ?_
                    refine r_istore B dX10_restore_113 (by decide) (lcat_v rfl rfl) ?_
                    refine r_iinc B dX10_restore_115 rfl (by decide) (lcat_v rfl rfl) ?_
                    refine r_goto B dX10_restore_118 (tgt := 31) (by decide) ?_
                    exact r_lv (lvLe_s rfl (lvLe_s rfl (lvLe_s rfl (lvLe_s rfl (lvLe_s rfl (lvLe_s rfl (lvLe_s rfl (lvLe_n (lvLe_n lvLe_nil))))))))) (ih (q + 1) _ (by omega) (by rw [sumZ_s _ i1.1, bI_t (by omega), i2]) (by omega))
    exact r_lv (lvLe_s rfl (lvLe_s rfl (lvLe_s rfl (lvLe_s rfl (lvLe_s rfl (lvLe_s rfl (lvLe_s rfl (lvLe_n (lvLe_n lvLe_nil))))))))) (loop31 _ 0 _ (by omega) rfl (Nat.lt_succ_self _))
  · replace c6 := bI_0.mp c6
    refine r_iconst B dX10_restore_9 ?_
    exact r_iret B hr hlk dX10_restore_10 (Nat.le_of_ble_eq_true rfl) (Nat.le_of_ble_eq_true rfl) (by first | exact ⟨_, rfl, fun _ => ⟨rfl, hM⟩, fun h9 => absurd h9 c6⟩ | exact ⟨_, rfl, fun h9 => absurd c6 h9, fun _ => ⟨by rw [i2]; rfl, by rw [hqe] at hM; exact hM⟩⟩)
