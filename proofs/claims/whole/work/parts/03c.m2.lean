abbrev rmX10_has : Room := { frames := 1, cells := 0, slots := 0, locals := 21 }
set_option maxHeartbeats 4000000 in
set_option maxRecDepth 100000 in
theorem ct_X10_has (l : Launch) (g : GG) (sz0 : Nat) (ad : Nat → Nat) (hA : ADok ad) {h h0 : AH} {mthrown mnights mbits mleast mmost mroom mreserve mmount mspeed : Int} {mdata msize mends mmany mkind mchain mholds mbid mbound mcheap mpromised mcoin mpaid mowed mturn misAsking mwant mcost misServed mitsRow mitsChunk : Int → Int} (hM : MW g ad h0 mthrown mdata msize mends mmany mkind mchain mholds mnights mbits mleast mmost mroom mreserve mmount mspeed mbid mbound mcheap mpromised mcoin mpaid mowed mturn misAsking mwant mcost misServed mitsRow mitsChunk h) (x k w : Int) (hx : 0 ≤ x ∧ x ≤ 3) (qk : -2147483648 ≤ k ∧ k < 2147483648) (qw : -2147483648 ≤ w ∧ w < 2147483648) (hs : 0 ≤ msize (240 + x) ∧ msize (240 + x) ≤ 48) : CT l yX10_has wsX10_has rmX10_has g sz0 [.ref (ad 0), .int (iI (x)), .int (iI (k)), .int (iI (w))] h (fun v h' => v = some (.int (iI (bI (0 ≤ k ∧ 0 ≤ w ∧ k ≤ msize (240 + x) ∧ w ≤ msize (240 + x) - k)))) ∧ h' = h) := by
  refine CT.of (by decide +kernel) rfl [some (.ref (ad 0)), some (.int (iI (x))), some (.int (iI (k))), some (.int (iI (w)))] rfl (Nat.le_of_ble_eq_true rfl) ?_
  intro p e s m args below meth c B hr hlk hnm
  refine r_iload_n B dX10_has_0 rfl ?_
  refine r_if_lt B dX10_has_1 (tgt := 32) (by decide) (by omega) (fun c1 => ?_) (fun c1 => ?_)
  · refine r_iconst B dX10_has_32 ?_
    exact r_zret B hr hlk dX10_has_33 (Nat.le_of_ble_eq_true rfl) (Nat.le_of_ble_eq_true rfl) (by first | exact nar_0 | exact nar_1 | exact nar_bI _) ⟨by first | rw [bI_t (by omega)] | rw [bI_f (by omega)], rfl⟩
  · refine r_iload_n B dX10_has_4 rfl ?_
    refine r_if_lt B dX10_has_5 (tgt := 32) (by decide) (by omega) (fun c5 => ?_) (fun c5 => ?_)
    · refine r_iconst B dX10_has_32 ?_
      exact r_zret B hr hlk dX10_has_33 (Nat.le_of_ble_eq_true rfl) (Nat.le_of_ble_eq_true rfl) (by first | exact nar_0 | exact nar_1 | exact nar_bI _) ⟨by first | rw [bI_t (by omega)] | rw [bI_f (by omega)], rfl⟩
    · refine r_iload_n B dX10_has_8 rfl ?_
      refine r_aload_n B dX10_has_9 rfl rfl ?_
      refine r_iload_n B dX10_has_10 rfl ?_
      refine r_callV (n := 1) B dX10_has_11 (ct_X10_length0 l g sz0 ad hA hM _ (by omega)) gX10_has_X10_length0 rfl (by decide +kernel) ⟨Nat.le_of_ble_eq_true rfl, Nat.le_of_ble_eq_true rfl⟩ hM.obj rfl rfl rfl (Nat.le_of_ble_eq_true rfl) (Nat.le_of_ble_eq_true rfl) (Nat.le_of_ble_eq_true rfl) (fun v h' hp => ?_)
      obtain ⟨hv, hh⟩ := hp
      subst v
      subst h'
      dsimp only [Option.toList, List.cons_append, List.nil_append]
      refine r_icmp_gt B dX10_has_14 (tgt := 32) (by decide) (by omega) (by omega) (fun c14 => ?_) (fun c14 => ?_)
      · refine r_iconst B dX10_has_32 ?_
        exact r_zret B hr hlk dX10_has_33 (Nat.le_of_ble_eq_true rfl) (Nat.le_of_ble_eq_true rfl) (by first | exact nar_0 | exact nar_1 | exact nar_bI _) ⟨by first | rw [bI_t (by omega)] | rw [bI_f (by omega)], rfl⟩
      · refine r_iload_n B dX10_has_17 rfl ?_
        refine r_aload_n B dX10_has_18 rfl rfl ?_
        refine r_iload_n B dX10_has_19 rfl ?_
        refine r_callV (n := 1) B dX10_has_20 (ct_X10_length0 l g sz0 ad hA hM _ (by omega)) gX10_has_X10_length0 rfl (by decide +kernel) ⟨Nat.le_of_ble_eq_true rfl, Nat.le_of_ble_eq_true rfl⟩ hM.obj rfl rfl rfl (Nat.le_of_ble_eq_true rfl) (Nat.le_of_ble_eq_true rfl) (Nat.le_of_ble_eq_true rfl) (fun v h' hp => ?_)
        obtain ⟨hv, hh⟩ := hp
        subst v
        subst h'
        dsimp only [Option.toList, List.cons_append, List.nil_append]
        refine r_iload_n B dX10_has_23 rfl ?_
        refine r_isub B dX10_has_24 ?_
        refine r_icmp_gt B dX10_has_25 (tgt := 32) (by decide) (by omega) (by omega) (fun c25 => ?_) (fun c25 => ?_)
        · refine r_iconst B dX10_has_32 ?_
          exact r_zret B hr hlk dX10_has_33 (Nat.le_of_ble_eq_true rfl) (Nat.le_of_ble_eq_true rfl) (by first | exact nar_0 | exact nar_1 | exact nar_bI _) ⟨by first | rw [bI_t (by omega)] | rw [bI_f (by omega)], rfl⟩
        · refine r_iconst B dX10_has_28 ?_
          refine r_goto B dX10_has_29 (tgt := 33) (by decide) ?_
          exact r_zret B hr hlk dX10_has_33 (Nat.le_of_ble_eq_true rfl) (Nat.le_of_ble_eq_true rfl) (by first | exact nar_0 | exact nar_1 | exact nar_bI _) ⟨by first | rw [bI_t (by omega)] | rw [bI_f (by omega)], rfl⟩
abbrev rmX10_digests : Room := { frames := 1, cells := 0, slots := 0, locals := 22 }
theorem in_X10_digests_X10 : ∀ w ∈ wsX100, w ∈ wsX10_digests := by decide +kernel
theorem w_X10_digests_f13 : Cond.fieldLink RX10 13 "DeltaNightsModel" "size" "[I" ∈ wsX10_digests := by decide +kernel
set_option maxHeartbeats 4000000 in
set_option maxRecDepth 100000 in
theorem ct_X10_digests (l : Launch) (g : GG) (sz0 : Nat) (ad : Nat → Nat) (hA : ADok ad) {h h0 : AH} {mthrown mnights mbits mleast mmost mroom mreserve mmount mspeed : Int} {mdata msize mends mmany mkind mchain mholds mbid mbound mcheap mpromised mcoin mpaid mowed mturn misAsking mwant mcost misServed mitsRow mitsChunk : Int → Int} (hM : MW g ad h0 mthrown mdata msize mends mmany mkind mchain mholds mnights mbits mleast mmost mroom mreserve mmount mspeed mbid mbound mcheap mpromised mcoin mpaid mowed mturn misAsking mwant mcost misServed mitsRow mitsChunk h) (r : Int) (hr : 0 ≤ r ∧ r < 244) (hs : 0 ≤ msize r ∧ msize r ≤ 48) : CT l yX10_digests wsX10_digests rmX10_digests g sz0 [.ref (ad 0), .int (iI (r))] h (fun v h' => v = some (.long (dig (rowF mdata r) (msize r).toNat)) ∧ h' = h) := by
  refine CT.of (by decide +kernel) rfl [some (.ref (ad 0)), some (.int (iI (r))), none, none, none] rfl (Nat.le_of_ble_eq_true rfl) ?_
  intro p e s m args below meth c B hr hlk hnm
  refine r_lconst B dX10_digests_0 rfl ?_
  refine r_lstore_n B dX10_digests_1 rfl (by decide) (lcat_v rfl rfl) ?_
  refine r_iconst B dX10_digests_2 ?_
  refine r_istore B dX10_digests_3 (by decide) (lcat_n rfl) ?_
  have loop5 : ∀ (nn : Nat) (k : Int) (x : Int64), (0 ≤ k ∧ k ≤ msize r) → (x = dig (rowF mdata r) k.toNat) → (msize r - k).toNat < nn → WA p l e rmX10_digests s m args below meth c g sz0 5 (MQ below (QQ g sz0 (fun v h' => v = some (.long (dig (rowF mdata r) (msize r).toNat)) ∧ h' = h)) args s rmX10_digests.cells rmX10_digests.slots (A0 sz0)) h 0 0 [some (.ref (ad 0)), some (.int (iI (r))), some (.long x), none, some (.int (iI (k)))] 5 [] := by
    intro nn
    induction nn with
    | zero => intro k x i1 i2 hn; exact absurd hn (Nat.not_lt_zero _)
    | succ nn ih =>
      intro k x i1 i2 hn
      refine r_iload B dX10_digests_5 rfl ?_
      refine r_aload_n B dX10_digests_7 rfl rfl ?_
      refine m_get_size B dX10_digests_8 in_X10_digests_X10 w_X10_digests_f13 hM ?_
      refine r_iload_n B dX10_digests_11 rfl ?_
      refine m_ld_size B dX10_digests_12 hM (by omega) (by omega) (fun r12 => ?_)
      refine r_icmp_ge B dX10_digests_13 (tgt := 40) (by decide) (by omega) (by omega) (fun c13 => ?_) (fun c13 => ?_)
      · refine r_lload_n B dX10_digests_40 rfl ?_
        exact r_lret B hr hlk dX10_digests_41 (Nat.le_of_ble_eq_true rfl) (Nat.le_of_ble_eq_true rfl) ⟨by rw [i2, show k = msize r by omega], rfl⟩
      · refine r_lload_n B dX10_digests_16 rfl ?_
        refine r_iconst B dX10_digests_17 ?_
        refine r_lshl B dX10_digests_18 rfl ?_
        refine r_lload_n B dX10_digests_19 rfl ?_
        refine r_bipush B dX10_digests_20 (by decide) ?_
        refine r_lushr B dX10_digests_22 rfl ?_
        refine r_lor B dX10_digests_23 ?_
        refine r_aload_n B dX10_digests_24 rfl rfl ?_
        refine r_iload_n B dX10_digests_25 rfl ?_
        refine r_iload B dX10_digests_26 rfl ?_
        refine r_callV (n := 2) B dX10_digests_28 (ct_X10_at0 l g sz0 ad hA hM _ _ (by omega)) gX10_digests_X10_at0 rfl (by decide +kernel) ⟨Nat.le_of_ble_eq_true rfl, Nat.le_of_ble_eq_true rfl⟩ hM.obj rfl rfl rfl (Nat.le_of_ble_eq_true rfl) (Nat.le_of_ble_eq_true rfl) (Nat.le_of_ble_eq_true rfl) (fun v h' hp => ?_)
        obtain ⟨hv, hh⟩ := hp
        subst v
        subst h'
        dsimp only [Option.toList, List.cons_append, List.nil_append]
        refine r_i2l B dX10_digests_31 ?_
        refine r_lxor B dX10_digests_32 ?_
        refine r_lstore_n B dX10_digests_33 rfl (by decide) (lcat_v rfl rfl) ?_
        refine r_iinc B dX10_digests_34 rfl (by decide) (lcat_n rfl) ?_
        refine r_goto B dX10_digests_37 (tgt := 5) (by decide) ?_
        exact r_lv (lvLe_s rfl (lvLe_s rfl (lvLe_s rfl (lvLe_n (lvLe_s rfl lvLe_nil))))) (ih (k + 1) _ (by omega) (by rw [dig_succ _ i1.1, ← i2]; rfl) (by omega))
  exact r_lv (lvLe_s rfl (lvLe_s rfl (lvLe_s rfl (lvLe_n (lvLe_s rfl lvLe_nil))))) (loop5 _ 0 _ (by omega) rfl (Nat.lt_succ_self _))
abbrev rmX10_marks : Room := { frames := 1, cells := 0, slots := 0, locals := 22 }
theorem w_X10_marks_c132 : Cond.constant RX10 132 (iI 65535) ∈ wsX10_marks := by decide +kernel
theorem w_X10_marks_c133 : Cond.constant RX10 133 (iI 40503) ∈ wsX10_marks := by decide +kernel
theorem w_X10_marks_c134 : Cond.constant RX10 134 (iI 65536) ∈ wsX10_marks := by decide +kernel
set_option maxHeartbeats 4000000 in
set_option maxRecDepth 100000 in
theorem ct_X10_marks (l : Launch) (g : GG) (sz0 : Nat) (ad : Nat → Nat) (hA : ADok ad) {h h0 : AH} {mthrown mnights mbits mleast mmost mroom mreserve mmount mspeed : Int} {mdata msize mends mmany mkind mchain mholds mbid mbound mcheap mpromised mcoin mpaid mowed mturn misAsking mwant mcost misServed mitsRow mitsChunk : Int → Int} (hM : MW g ad h0 mthrown mdata msize mends mmany mkind mchain mholds mnights mbits mleast mmost mroom mreserve mmount mspeed mbid mbound mcheap mpromised mcoin mpaid mowed mturn misAsking mwant mcost misServed mitsRow mitsChunk h) (r u : Int) (hr : 0 ≤ r ∧ r < 244) (hp0 : 0 ≤ u ∧ u < 48) : CT l yX10_marks wsX10_marks rmX10_marks g sz0 [.ref (ad 0), .int (iI (r)), .int (iI (u))] h (fun v h' => v = some (.int (mkv (rowF mdata r) u)) ∧ h' = h) := by
  refine CT.of (by decide +kernel) rfl [some (.ref (ad 0)), some (.int (iI (r))), some (.int (iI (u))), none, none] rfl (Nat.le_of_ble_eq_true rfl) ?_
  intro p e s m args below meth c B hr hlk hnm
  refine r_iconst B dX10_marks_0 ?_
  refine r_istore_n B dX10_marks_1 rfl (by decide) (lcat_v rfl rfl) ?_
  have join14 : WA p l e rmX10_marks s m args below meth c g sz0 5 (MQ below (QQ g sz0 (fun v h' => v = some (.int (mkv (rowF mdata r) u)) ∧ h' = h)) args s rmX10_marks.cells rmX10_marks.slots (A0 sz0)) h 0 0 [some (.ref (ad 0)), some (.int (iI (r))), some (.int (iI (u))), some (.int (iI (0))), none] 14 [.int (iI (mkl u))] := by
    have hlo : 0 ≤ mkl u ∧ mkl u ≤ u := by unfold mkl; split <;> omega
    refine r_istore B dX10_marks_14 (by decide) (lcat_v rfl rfl) ?_
    have loop16 : ∀ (nn : Nat) (k : Int) (x : Int32), (mkl u ≤ k ∧ k ≤ u + 1) → (x = mkn (rowF mdata r) (mkl u) (k - mkl u).toNat) → (u + 1 - k).toNat < nn → WA p l e rmX10_marks s m args below meth c g sz0 5 (MQ below (QQ g sz0 (fun v h' => v = some (.int (mkv (rowF mdata r) u)) ∧ h' = h)) args s rmX10_marks.cells rmX10_marks.slots (A0 sz0)) h 0 0 [some (.ref (ad 0)), some (.int (iI (r))), some (.int (iI (u))), some (.int x), some (.int (iI (k)))] 16 [] := by
      intro nn
      induction nn with
      | zero => intro k x i1 i2 hn; exact absurd hn (Nat.not_lt_zero _)
      | succ nn ih =>
        intro k x i1 i2 hn
        refine r_iload B dX10_marks_16 rfl ?_
        refine r_iload_n B dX10_marks_18 rfl ?_
        refine r_icmp_gt B dX10_marks_19 (tgt := 54) (by decide) (by omega) (by omega) (fun c19 => ?_) (fun c19 => ?_)
        · refine r_iload_n B dX10_marks_54 rfl ?_
          exact r_iret B hr hlk dX10_marks_55 (Nat.le_of_ble_eq_true rfl) (Nat.le_of_ble_eq_true rfl) ⟨by rw [i2, show k = u + 1 by omega]; rfl, rfl⟩
        · refine r_iload_n B dX10_marks_22 rfl ?_
          refine r_iconst B dX10_marks_23 ?_
          refine r_ishl B dX10_marks_24 ?_
          refine r_iload_n B dX10_marks_25 rfl ?_
          refine r_bipush B dX10_marks_26 (by decide) ?_
          refine r_ishr B dX10_marks_28 ?_
          refine r_ior B dX10_marks_29 ?_
          refine r_ldc B dX10_marks_30 (v := 65535) w_X10_marks_c132 ?_
          refine r_iand B dX10_marks_32 ?_
          refine r_ldc B dX10_marks_33 (v := 40503) w_X10_marks_c133 ?_
          refine r_aload_n B dX10_marks_35 rfl rfl ?_
          refine r_iload_n B dX10_marks_36 rfl ?_
          refine r_iload B dX10_marks_37 rfl ?_
          refine r_callV (n := 2) B dX10_marks_39 (ct_X10_at0 l g sz0 ad hA hM _ _ (by omega)) gX10_marks_X10_at0 rfl (by decide +kernel) ⟨Nat.le_of_ble_eq_true rfl, Nat.le_of_ble_eq_true rfl⟩ hM.obj rfl rfl rfl (Nat.le_of_ble_eq_true rfl) (Nat.le_of_ble_eq_true rfl) (Nat.le_of_ble_eq_true rfl) (fun v h' hp => ?_)
          obtain ⟨hv, hh⟩ := hp
          subst v
          subst h'
          dsimp only [Option.toList, List.cons_append, List.nil_append]
          refine r_imul B dX10_marks_42 ?_
          refine r_ldc B dX10_marks_43 (v := 65536) w_X10_marks_c134 ?_
          refine r_irem B dX10_marks_45 (by decide) ?_
          refine r_ixor B dX10_marks_46 ?_
          refine r_istore_n B dX10_marks_47 rfl (by decide) (lcat_v rfl rfl) ?_
          refine r_iinc B dX10_marks_48 rfl (by decide) (lcat_v rfl rfl) ?_
          refine r_goto B dX10_marks_51 (tgt := 16) (by decide) ?_
          exact r_lv (lvLe_s rfl (lvLe_s rfl (lvLe_s rfl (lvLe_s rfl (lvLe_s rfl lvLe_nil))))) (ih (k + 1) _ (by omega) (by rw [mkn_succ _ _ i1.1, ← i2]; rfl) (by omega))
    exact r_lv (lvLe_s rfl (lvLe_s rfl (lvLe_s rfl (lvLe_s rfl (lvLe_s rfl lvLe_nil))))) (loop16 _ (mkl u) _ (by omega) (by rw [Int.sub_self]; rfl) (Nat.lt_succ_self _))
  refine r_iload_n B dX10_marks_2 rfl ?_
  refine r_iconst B dX10_marks_3 ?_
  refine r_icmp_ge B dX10_marks_4 (tgt := 11) (by decide) (by omega) (by omega) (fun c4 => ?_) (fun c4 => ?_)
  · refine r_iload_n B dX10_marks_11 rfl ?_
    refine r_iconst B dX10_marks_12 ?_
    refine r_isub B dX10_marks_13 ?_
    have hlo : 0 ≤ mkl u ∧ mkl u ≤ u := by unfold mkl; split <;> omega
    unfold mkl at join14
    first | rw [if_pos (by omega)] at join14 | rw [if_neg (by omega)] at join14
    exact r_lv (lvLe_s rfl (lvLe_s rfl (lvLe_s rfl (lvLe_s rfl (lvLe_n lvLe_nil))))) (join14)
  · refine r_iconst B dX10_marks_7 ?_
    refine r_goto B dX10_marks_8 (tgt := 14) (by decide) ?_
    have hlo : 0 ≤ mkl u ∧ mkl u ≤ u := by unfold mkl; split <;> omega
    unfold mkl at join14
    first | rw [if_pos (by omega)] at join14 | rw [if_neg (by omega)] at join14
    exact r_lv (lvLe_s rfl (lvLe_s rfl (lvLe_s rfl (lvLe_s rfl (lvLe_n lvLe_nil))))) (join14)
