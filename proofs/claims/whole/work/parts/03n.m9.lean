abbrev rmX10_wantsBase : Room := { frames := 1, cells := 0, slots := 0, locals := 24 }
theorem in_X10_wantsBase_X10 : ∀ w ∈ wsX100, w ∈ wsX10_wantsBase := by decide +kernel
theorem w_X10_wantsBase_f57 : Cond.fieldLink RX10 57 "DeltaNightsModel" "bound" "[I" ∈ wsX10_wantsBase := by decide +kernel
theorem w_X10_wantsBase_f45 : Cond.fieldLink RX10 45 "DeltaNightsModel" "reserve" "I" ∈ wsX10_wantsBase := by decide +kernel
theorem w_X10_wantsBase_f60 : Cond.fieldLink RX10 60 "DeltaNightsModel" "cheap" "[I" ∈ wsX10_wantsBase := by decide +kernel
set_option maxHeartbeats 4000000 in
set_option maxRecDepth 100000 in
theorem ct_X10_wantsBase (l : Launch) (g : GG) (sz0 : Nat) (ad : Nat → Nat) (hA : ADok ad) {h h0 : AH} {mthrown mnights mbits mleast mmost mroom mreserve mmount mspeed : Int} {mdata msize mends mmany mkind mchain mholds mbid mbound mcheap mpromised mcoin mpaid mowed mturn misAsking mwant mcost misServed mitsRow mitsChunk : Int → Int} (hM : MW g ad h0 mthrown mdata msize mends mmany mkind mchain mholds mnights mbits mleast mmost mroom mreserve mmount mspeed mbid mbound mcheap mpromised mcoin mpaid mowed mturn misAsking mwant mcost misServed mitsRow mitsChunk h) (x : Int) (hx : 0 ≤ x ∧ x ≤ 3) (hn0 : 0 ≤ mnights ∧ mnights ≤ 60) : CT l yX10_wantsBase wsX10_wantsBase rmX10_wantsBase g sz0 [.ref (ad 0), .int (iI (x))] h (fun v h' => v = some (.int (iI (bI (wbP mkind mbound mcheap mnights mreserve x)))) ∧ h' = h) := by
  refine CT.of (by decide +kernel) rfl [some (.ref (ad 0)), some (.int (iI (x)))] rfl (Nat.le_of_ble_eq_true rfl) ?_
  intro p e s m args below meth c B hr hlk hnm
  refine r_aload_n B dX10_wantsBase_0 rfl rfl ?_
  refine r_iload_n B dX10_wantsBase_1 rfl ?_
  refine r_callV (n := 1) B dX10_wantsBase_2 (ct_X10_differences l g sz0 ad hA hM _ (by omega) (by omega)) gX10_wantsBase_X10_differences rfl (by decide +kernel) ⟨Nat.le_of_ble_eq_true rfl, Nat.le_of_ble_eq_true rfl⟩ hM.obj rfl rfl rfl (Nat.le_of_ble_eq_true rfl) (Nat.le_of_ble_eq_true rfl) (Nat.le_of_ble_eq_true rfl) (fun v h' hp => ?_)
  obtain ⟨hv, hh⟩ := hp
  subst v
  subst h'
  dsimp only [Option.toList, List.cons_append, List.nil_append]
  have hd := dfN_rng (colF mkind x) mnights.toNat
  refine r_iconst B dX10_wantsBase_5 ?_
  refine r_icmp_eq B dX10_wantsBase_6 (tgt := 36) (by decide) (by omega) (by omega) (fun c6 => ?_) (fun c6 => ?_)
  · refine r_iconst B dX10_wantsBase_36 ?_
    refine r_goto B dX10_wantsBase_37 (tgt := 41) (by decide) ?_
    exact r_zret B hr hlk dX10_wantsBase_41 (Nat.le_of_ble_eq_true rfl) (Nat.le_of_ble_eq_true rfl) (by first | exact nar_0 | exact nar_1 | exact nar_bI _) ⟨by rw [bI_t (show wbP mkind mbound mcheap mnights mreserve x by unfold wbP; omega)], rfl⟩
  · refine r_aload_n B dX10_wantsBase_9 rfl rfl ?_
    refine r_iload_n B dX10_wantsBase_10 rfl ?_
    refine r_callV (n := 1) B dX10_wantsBase_11 (ct_X10_differences l g sz0 ad hA hM _ (by omega) (by omega)) gX10_wantsBase_X10_differences rfl (by decide +kernel) ⟨Nat.le_of_ble_eq_true rfl, Nat.le_of_ble_eq_true rfl⟩ hM.obj rfl rfl rfl (Nat.le_of_ble_eq_true rfl) (Nat.le_of_ble_eq_true rfl) (Nat.le_of_ble_eq_true rfl) (fun v h' hp => ?_)
    obtain ⟨hv, hh⟩ := hp
    subst v
    subst h'
    dsimp only [Option.toList, List.cons_append, List.nil_append]
    refine r_aload_n B dX10_wantsBase_14 rfl rfl ?_
    refine m_get_bound B dX10_wantsBase_15 in_X10_wantsBase_X10 w_X10_wantsBase_f57 hM ?_
    refine r_iload_n B dX10_wantsBase_18 rfl ?_
    refine m_ld_bound B dX10_wantsBase_19 hM (by omega) (by omega) (fun r19 => ?_)
    refine r_icmp_lt B dX10_wantsBase_20 (tgt := 40) (by decide) (by omega) (by omega) (fun c20 => ?_) (fun c20 => ?_)
    · refine r_iconst B dX10_wantsBase_40 ?_
      exact r_zret B hr hlk dX10_wantsBase_41 (Nat.le_of_ble_eq_true rfl) (Nat.le_of_ble_eq_true rfl) (by first | exact nar_0 | exact nar_1 | exact nar_bI _) ⟨by rw [bI_f (show ¬ wbP mkind mbound mcheap mnights mreserve x by unfold wbP; omega)], rfl⟩
    · refine r_aload_n B dX10_wantsBase_23 rfl rfl ?_
      refine m_get_reserve B dX10_wantsBase_24 in_X10_wantsBase_X10 w_X10_wantsBase_f45 hM (fun r24 => ?_)
      refine r_aload_n B dX10_wantsBase_27 rfl rfl ?_
      refine m_get_cheap B dX10_wantsBase_28 in_X10_wantsBase_X10 w_X10_wantsBase_f60 hM ?_
      refine r_iload_n B dX10_wantsBase_31 rfl ?_
      refine m_ld_cheap B dX10_wantsBase_32 hM (by omega) (by omega) (fun r32 => ?_)
      refine r_icmp_gt B dX10_wantsBase_33 (tgt := 40) (by decide) (by omega) (by omega) (fun c33 => ?_) (fun c33 => ?_)
      · refine r_iconst B dX10_wantsBase_40 ?_
        exact r_zret B hr hlk dX10_wantsBase_41 (Nat.le_of_ble_eq_true rfl) (Nat.le_of_ble_eq_true rfl) (by first | exact nar_0 | exact nar_1 | exact nar_bI _) ⟨by rw [bI_f (show ¬ wbP mkind mbound mcheap mnights mreserve x by unfold wbP; omega)], rfl⟩
      · refine r_iconst B dX10_wantsBase_36 ?_
        refine r_goto B dX10_wantsBase_37 (tgt := 41) (by decide) ?_
        exact r_zret B hr hlk dX10_wantsBase_41 (Nat.le_of_ble_eq_true rfl) (Nat.le_of_ble_eq_true rfl) (by first | exact nar_0 | exact nar_1 | exact nar_bI _) ⟨by rw [bI_t (show wbP mkind mbound mcheap mnights mreserve x by unfold wbP; omega)], rfl⟩
abbrev rmX10_isOther : Room := { frames := 3, cells := 0, slots := 0, locals := 72 }
theorem in_X10_isOther_X10 : ∀ w ∈ wsX100, w ∈ wsX10_isOther := by decide +kernel
theorem w_X10_isOther_f19 : Cond.fieldLink RX10 19 "DeltaNightsModel" "many" "[I" ∈ wsX10_isOther := by decide +kernel
set_option maxHeartbeats 4000000 in
set_option maxRecDepth 100000 in
theorem ct_X10_isOther (l : Launch) (g : GG) (sz0 : Nat) (ad : Nat → Nat) (hA : ADok ad) {h h0 : AH} {mthrown mnights mbits mleast mmost mroom mreserve mmount mspeed : Int} {mdata msize mends mmany mkind mchain mholds mbid mbound mcheap mpromised mcoin mpaid mowed mturn misAsking mwant mcost misServed mitsRow mitsChunk : Int → Int} (hM : MW g ad h0 mthrown mdata msize mends mmany mkind mchain mholds mnights mbits mleast mmost mroom mreserve mmount mspeed mbid mbound mcheap mpromised mcoin mpaid mowed mturn misAsking mwant mcost misServed mitsRow mitsChunk h) (x : Int) (hx : 0 ≤ x ∧ x ≤ 3) (hsx : 0 ≤ msize (240 + x) ∧ msize (240 + x) ≤ 48)(hn0 : 0 ≤ mnights ∧ mnights ≤ 60)(hLK : LKo mends mmany) : CT l yX10_isOther wsX10_isOther rmX10_isOther g sz0 [.ref (ad 0), .int (iI (x))] h (fun v h' => v = some (.int (iI (bI (otP (rowF mdata (240 + x)) (cutR (rowF mdata (240 + x)) (msize (240 + x)) mbits mleast mmost).2.2 (cutR (rowF mdata (240 + x)) (msize (240 + x)) mbits mleast mmost).2.1 mdata mends mmany x (ltN (colF mkind x) mnights.toNat))))) ∧ MW g ad h0 mthrown mdata msize (putRow mends (48 * (240 + x)) (cutR (rowF mdata (240 + x)) (msize (240 + x)) mbits mleast mmost).2.1 (cutR (rowF mdata (240 + x)) (msize (240 + x)) mbits mleast mmost).2.2) (upZ mmany (240 + x) (cutR (rowF mdata (240 + x)) (msize (240 + x)) mbits mleast mmost).2.1) mkind mchain mholds mnights mbits mleast mmost mroom mreserve mmount mspeed mbid mbound mcheap mpromised mcoin mpaid mowed mturn misAsking mwant mcost misServed mitsRow mitsChunk h') := by
  refine CT.of (by decide +kernel) rfl [some (.ref (ad 0)), some (.int (iI (x))), none, none, none, none] rfl (Nat.le_of_ble_eq_true rfl) ?_
  intro p e s m args below meth c B hr hlk hnm
  refine r_aload_n B dX10_isOther_0 rfl rfl ?_
  refine r_iload_n B dX10_isOther_1 rfl ?_
  refine r_callV (n := 1) B dX10_isOther_2 (ct_X10_cuts l g sz0 ad hA hM _ (by omega) hsx) gX10_isOther_X10_cuts rfl (by decide +kernel) ⟨Nat.le_of_ble_eq_true rfl, Nat.le_of_ble_eq_true rfl⟩ hM.obj rfl rfl rfl (Nat.le_of_ble_eq_true rfl) (Nat.le_of_ble_eq_true rfl) (Nat.le_of_ble_eq_true rfl) (fun v h hp => ?_)
  obtain ⟨hv, hM⟩ := hp
  subst v
  dsimp only [Option.toList, List.cons_append, List.nil_append]
  have hco := cutR_ok (rowF mdata (240 + x)) (b := mbits) (ls := mleast) (ms := mmost) hsx.1 hsx.2
  have hrp : ∀ j : Int, 0 ≤ j → j < (cutR (rowF mdata (240 + x)) (msize (240 + x)) mbits mleast mmost).2.1 → (cutR (rowF mdata (240 + x)) (msize (240 + x)) mbits mleast mmost).2.2 j = (rowF (putRow mends (48 * (240 + x)) (cutR (rowF mdata (240 + x)) (msize (240 + x)) mbits mleast mmost).2.1 (cutR (rowF mdata (240 + x)) (msize (240 + x)) mbits mleast mmost).2.2) (240 + x)) j := fun j j0 j1 => (row_put mends (240 + x) (cutR (rowF mdata (240 + x)) (msize (240 + x)) mbits mleast mmost).2.1 (cutR (rowF mdata (240 + x)) (msize (240 + x)) mbits mleast mmost).2.2 j0 j1).symm
  have hEO : EOK (rowF (putRow mends (48 * (240 + x)) (cutR (rowF mdata (240 + x)) (msize (240 + x)) mbits mleast mmost).2.1 (cutR (rowF mdata (240 + x)) (msize (240 + x)) mbits mleast mmost).2.2) (240 + x)) (cutR (rowF mdata (240 + x)) (msize (240 + x)) mbits mleast mmost).2.1 := EOK_congr hrp hco.2.2
  have hfc : ∀ q : Int, 0 ≤ q → q < (cutR (rowF mdata (240 + x)) (msize (240 + x)) mbits mleast mmost).2.1 → (fstC (chk (rowF mdata (240 + x)) (rowF (putRow mends (48 * (240 + x)) (cutR (rowF mdata (240 + x)) (msize (240 + x)) mbits mleast mmost).2.1 (cutR (rowF mdata (240 + x)) (msize (240 + x)) mbits mleast mmost).2.2) (240 + x))) q ↔ fstC (chk (rowF mdata (240 + x)) (cutR (rowF mdata (240 + x)) (msize (240 + x)) mbits mleast mmost).2.2) q) := fun q q0 q1 => (fst_congr hrp hco.2.2 q0 q1).symm
  have hln : ∀ q : Int, 0 ≤ q → q < (cutR (rowF mdata (240 + x)) (msize (240 + x)) mbits mleast mmost).2.1 → lnF (rowF (putRow mends (48 * (240 + x)) (cutR (rowF mdata (240 + x)) (msize (240 + x)) mbits mleast mmost).2.1 (cutR (rowF mdata (240 + x)) (msize (240 + x)) mbits mleast mmost).2.2) (240 + x)) q = lnF (cutR (rowF mdata (240 + x)) (msize (240 + x)) mbits mleast mmost).2.2 q := fun q q0 q1 => (lnF_congr hrp q0 q1).symm
  have hle := lk_put mends mmany (cutR (rowF mdata (240 + x)) (msize (240 + x)) mbits mleast mmost).2.2 (n := (cutR (rowF mdata (240 + x)) (msize (240 + x)) mbits mleast mmost).2.1) hx.1 (by omega)
  have hlk1 := hLK.e hle
  have hck : ∀ q : Int, 0 ≤ q → q < (cutR (rowF mdata (240 + x)) (msize (240 + x)) mbits mleast mmost).2.1 → chk (rowF mdata (240 + x)) (cutR (rowF mdata (240 + x)) (msize (240 + x)) mbits mleast mmost).2.2 q = chk (rowF mdata (240 + x)) (rowF (putRow mends (48 * (240 + x)) (cutR (rowF mdata (240 + x)) (msize (240 + x)) mbits mleast mmost).2.1 (cutR (rowF mdata (240 + x)) (msize (240 + x)) mbits mleast mmost).2.2) (240 + x)) q := fun q q0 q1 => chk_congr hrp q0 q1 (hco.2.2 q q0 q1).1 (fun _ _ _ => rfl)
  refine r_istore_n B dX10_isOther_5 rfl (by decide) (lcat_v rfl rfl) ?_
  refine r_aload_n B dX10_isOther_6 rfl rfl ?_
  refine r_iload_n B dX10_isOther_7 rfl ?_
  refine r_callV (n := 1) B dX10_isOther_8 (ct_X10_latestNow l g sz0 ad hA hM _ (by omega) (by omega)) gX10_isOther_X10_latestNow rfl (by decide +kernel) ⟨Nat.le_of_ble_eq_true rfl, Nat.le_of_ble_eq_true rfl⟩ hM.obj rfl rfl rfl (Nat.le_of_ble_eq_true rfl) (Nat.le_of_ble_eq_true rfl) (Nat.le_of_ble_eq_true rfl) (fun v h' hp => ?_)
  obtain ⟨hv, hh⟩ := hp
  subst v
  subst h'
  dsimp only [Option.toList, List.cons_append, List.nil_append]
  have hl0 := ltN_rng (colF mkind x) mnights.toNat
  have hlv : ltv x (ltN (colF mkind x) mnights.toNat) = if ltN (colF mkind x) mnights.toNat = -1 then -1 else 60 * x + ltN (colF mkind x) mnights.toNat := rfl
  generalize ltv x (ltN (colF mkind x) mnights.toNat) = z at hlv ⊢
  have hz : z = -1 ↔ ltN (colF mkind x) mnights.toNat = -1 := by split at hlv <;> omega
  refine r_istore_n B dX10_isOther_11 rfl (by decide) (lcat_v rfl rfl) ?_
  refine r_iload_n B dX10_isOther_12 rfl ?_
  refine r_iconst B dX10_isOther_13 ?_
  refine r_icmp_eq B dX10_isOther_14 (tgt := 32) (by decide) (by split at hlv <;> omega) (by omega) (fun c14 => ?_) (fun c14 => ?_)
  · refine r_iconst B dX10_isOther_32 ?_
    exact r_zret B hr hlk dX10_isOther_33 (Nat.le_of_ble_eq_true rfl) (Nat.le_of_ble_eq_true rfl) (by first | exact nar_0 | exact nar_1 | exact nar_bI _) ⟨by rw [bI_t (show otP (rowF mdata (240 + x)) (cutR (rowF mdata (240 + x)) (msize (240 + x)) mbits mleast mmost).2.2 (cutR (rowF mdata (240 + x)) (msize (240 + x)) mbits mleast mmost).2.1 mdata mends mmany x (ltN (colF mkind x) mnights.toNat) from Or.inl (hz.mp c14))], hM⟩
  · have hz1 : ¬ ltN (colF mkind x) mnights.toNat = -1 := fun y9 => c14 (hz.mpr y9)
    rw [if_neg hz1] at hlv
    subst hlv
    have he1 := hle (60 * x + ltN (colF mkind x) mnights.toNat) (by omega) (by omega)
    have ho1 := hLK (60 * x + ltN (colF mkind x) mnights.toNat) (by omega) (by omega)
    have hck2 : ∀ q : Int, 0 ≤ q → q < (cutR (rowF mdata (240 + x)) (msize (240 + x)) mbits mleast mmost).2.1 → mmany (60 * x + ltN (colF mkind x) mnights.toNat) = (cutR (rowF mdata (240 + x)) (msize (240 + x)) mbits mleast mmost).2.1 → (chk (rowF mdata (60 * x + ltN (colF mkind x) mnights.toNat)) (rowF mends (60 * x + ltN (colF mkind x) mnights.toNat))) q = chk (rowF mdata (60 * x + ltN (colF mkind x) mnights.toNat)) (rowF (putRow mends (48 * (240 + x)) (cutR (rowF mdata (240 + x)) (msize (240 + x)) mbits mleast mmost).2.1 (cutR (rowF mdata (240 + x)) (msize (240 + x)) mbits mleast mmost).2.2) (60 * x + ltN (colF mkind x) mnights.toNat)) q := fun q q0 q1 q2 => chk_congr (n := (cutR (rowF mdata (240 + x)) (msize (240 + x)) mbits mleast mmost).2.1) (fun a a0 a1 => he1.2 a a0 (by omega)) q0 q1 (ho1.2 q q0 (by omega)).1 (fun _ _ _ => rfl)
    refine r_aload_n B dX10_isOther_17 rfl rfl ?_
    refine m_get_many B dX10_isOther_18 in_X10_isOther_X10 w_X10_isOther_f19 hM ?_
    refine r_iload_n B dX10_isOther_21 rfl ?_
    refine m_ld_many B dX10_isOther_22 hM (by omega) (by omega) (fun r22 => ?_)
    rw [← he1.1]
    have r22 := hM.r_many (60 * x + ltN (colF mkind x) mnights.toNat)
    rw [← he1.1] at r22
    refine r_aload_n B dX10_isOther_23 rfl rfl ?_
    refine m_get_many B dX10_isOther_24 in_X10_isOther_X10 w_X10_isOther_f19 hM ?_
    refine r_iload_n B dX10_isOther_27 rfl ?_
    refine m_ld_many B dX10_isOther_28 hM (by omega) (by omega) (fun r28 => ?_)
    rw [upZ_at]
    refine r_icmp_eq B dX10_isOther_29 (tgt := 34) (by decide) (by omega) (by omega) (fun c29 => ?_) (fun c29 => ?_)
    · refine r_iconst B dX10_isOther_34 ?_
      refine r_istore B dX10_isOther_35 (by decide) (lcat_v rfl rfl) ?_
      refine r_iconst B dX10_isOther_37 ?_
      refine r_istore B dX10_isOther_38 (by decide) (lcat_v rfl rfl) ?_
      have loop40 : ∀ (nn : Nat) (q : Int) (b : Int), (0 ≤ q ∧ q ≤ (cutR (rowF mdata (240 + x)) (msize (240 + x)) mbits mleast mmost).2.1) → (b = bI (exN (fun j => ¬ chk (rowF mdata (240 + x)) (cutR (rowF mdata (240 + x)) (msize (240 + x)) mbits mleast mmost).2.2 j = (chk (rowF mdata (60 * x + ltN (colF mkind x) mnights.toNat)) (rowF mends (60 * x + ltN (colF mkind x) mnights.toNat))) j) q)) → ((cutR (rowF mdata (240 + x)) (msize (240 + x)) mbits mleast mmost).2.1 - q).toNat < nn → WA p l e rmX10_isOther s m args below meth c g sz0 6 (MQ below (QQ g sz0 (fun v h' => v = some (.int (iI (bI (otP (rowF mdata (240 + x)) (cutR (rowF mdata (240 + x)) (msize (240 + x)) mbits mleast mmost).2.2 (cutR (rowF mdata (240 + x)) (msize (240 + x)) mbits mleast mmost).2.1 mdata mends mmany x (ltN (colF mkind x) mnights.toNat))))) ∧ MW g ad h0 mthrown mdata msize (putRow mends (48 * (240 + x)) (cutR (rowF mdata (240 + x)) (msize (240 + x)) mbits mleast mmost).2.1 (cutR (rowF mdata (240 + x)) (msize (240 + x)) mbits mleast mmost).2.2) (upZ mmany (240 + x) (cutR (rowF mdata (240 + x)) (msize (240 + x)) mbits mleast mmost).2.1) mkind mchain mholds mnights mbits mleast mmost mroom mreserve mmount mspeed mbid mbound mcheap mpromised mcoin mpaid mowed mturn misAsking mwant mcost misServed mitsRow mitsChunk h')) args s rmX10_isOther.cells rmX10_isOther.slots (A0 sz0)) h 0 0 [some (.ref (ad 0)), some (.int (iI (x))), some (.int (iI (240 + x))), some (.int (iI (60 * x + ltN (colF mkind x) mnights.toNat))), some (.int (iI (b))), some (.int (iI (q)))] 40 [] := by
        intro nn
        induction nn with
        | zero => intro q b i1 i2 hn; exact absurd hn (Nat.not_lt_zero _)
        | succ nn ih =>
          intro q b i1 i2 hn
          refine r_iload B dX10_isOther_40 rfl ?_
          refine r_aload_n B dX10_isOther_42 rfl rfl ?_
          refine m_get_many B dX10_isOther_43 in_X10_isOther_X10 w_X10_isOther_f19 hM ?_
          refine r_iload_n B dX10_isOther_46 rfl ?_
          refine m_ld_many B dX10_isOther_47 hM (by omega) (by omega) (fun r47 => ?_)
          rw [upZ_at]
          refine r_icmp_ge B dX10_isOther_48 (tgt := 82) (by decide) (by omega) (by omega) (fun c48 => ?_) (fun c48 => ?_)
          · refine r_iload B dX10_isOther_82 rfl ?_
            exact r_zret B hr hlk dX10_isOther_84 (Nat.le_of_ble_eq_true rfl) (Nat.le_of_ble_eq_true rfl) (by rw [i2]; exact nar_bI _) ⟨by rw [i2, show q = (cutR (rowF mdata (240 + x)) (msize (240 + x)) mbits mleast mmost).2.1 by omega, bI_eq (show exN (fun j => ¬ chk (rowF mdata (240 + x)) (cutR (rowF mdata (240 + x)) (msize (240 + x)) mbits mleast mmost).2.2 j = (chk (rowF mdata (60 * x + ltN (colF mkind x) mnights.toNat)) (rowF mends (60 * x + ltN (colF mkind x) mnights.toNat))) j) (cutR (rowF mdata (240 + x)) (msize (240 + x)) mbits mleast mmost).2.1 ↔ otP (rowF mdata (240 + x)) (cutR (rowF mdata (240 + x)) (msize (240 + x)) mbits mleast mmost).2.2 (cutR (rowF mdata (240 + x)) (msize (240 + x)) mbits mleast mmost).2.1 mdata mends mmany x (ltN (colF mkind x) mnights.toNat) from ⟨fun y9 => Or.inr (Or.inr y9), fun y9 => (y9.resolve_left hz1).resolve_left (fun w9 => w9 c29)⟩)], hM⟩
          · refine r_iload B dX10_isOther_51 rfl ?_
            refine r_if_ne B dX10_isOther_53 (tgt := 82) (by decide) (by rw [i2]; exact bI_rng _) (fun c53 => ?_) (fun c53 => ?_)
            · have hb := bI_n0.mp (show ¬ bI _ = 0 by rw [← i2]; exact c53)
              refine r_iload B dX10_isOther_82 rfl ?_
              exact r_zret B hr hlk dX10_isOther_84 (Nat.le_of_ble_eq_true rfl) (Nat.le_of_ble_eq_true rfl) (by rw [i2]; exact nar_bI _) ⟨by rw [i2, bI_t hb, bI_t (show otP (rowF mdata (240 + x)) (cutR (rowF mdata (240 + x)) (msize (240 + x)) mbits mleast mmost).2.2 (cutR (rowF mdata (240 + x)) (msize (240 + x)) mbits mleast mmost).2.1 mdata mends mmany x (ltN (colF mkind x) mnights.toNat) from Or.inr (Or.inr (exN_le i1.2 hb)))], hM⟩
            · have hb := bI_0.mp (show bI _ = 0 by rw [← i2]; exact c53)
              refine r_aload_n B dX10_isOther_56 rfl rfl ?_
              refine r_iload_n B dX10_isOther_57 rfl ?_
              refine r_iload B dX10_isOther_58 rfl ?_
              refine r_iload_n B dX10_isOther_60 rfl ?_
              refine r_iload B dX10_isOther_61 rfl ?_
              refine r_callV (n := 4) B dX10_isOther_63 (ct_X10_isSame l g sz0 ad hA hM _ _ _ _ (by omega) (by omega) (by omega) (by omega) (hEO q i1.1 (by omega)) ((hlk1 (60 * x + ltN (colF mkind x) mnights.toNat) (by omega) (by omega)).2 q i1.1 (by rw [upZ_ne _ _ (by omega)]; omega))) gX10_isOther_X10_isSame rfl (by decide +kernel) ⟨Nat.le_of_ble_eq_true rfl, Nat.le_of_ble_eq_true rfl⟩ hM.obj rfl rfl rfl (Nat.le_of_ble_eq_true rfl) (Nat.le_of_ble_eq_true rfl) (Nat.le_of_ble_eq_true rfl) (fun v h' hp => ?_)
              obtain ⟨hv, hh⟩ := hp
              subst v
              subst h'
              dsimp only [Option.toList, List.cons_append, List.nil_append]
              refine r_if_ne B dX10_isOther_66 (tgt := 73) (by decide) (bI_rng _) (fun c66 => ?_) (fun c66 => ?_)
              · replace c66 := bI_n0.mp c66
                refine r_iconst B dX10_isOther_73 ?_
                refine r_istore B dX10_isOther_74 (by decide) (lcat_v rfl rfl) ?_
                refine r_iinc B dX10_isOther_76 rfl (by decide) (lcat_v rfl rfl) ?_
                refine r_goto B dX10_isOther_79 (tgt := 40) (by decide) ?_
                exact r_lv (lvLe_s rfl (lvLe_s rfl (lvLe_s rfl (lvLe_s rfl (lvLe_s rfl (lvLe_s rfl lvLe_nil)))))) (ih (q + 1) _ (by omega) (by rw [bI_f]; intro y9; rcases (exN_s i1.1).mp y9 with y9 | y9; exact hb y9; exact y9 (by rw [hck q i1.1 (by omega), hck2 q i1.1 (by omega) c29]; exact c66)) (by omega))
              · replace c66 := bI_0.mp c66
                refine r_iconst B dX10_isOther_69 ?_
                refine r_goto B dX10_isOther_70 (tgt := 74) (by decide) ?_
                refine r_istore B dX10_isOther_74 (by decide) (lcat_v rfl rfl) ?_
                refine r_iinc B dX10_isOther_76 rfl (by decide) (lcat_v rfl rfl) ?_
                refine r_goto B dX10_isOther_79 (tgt := 40) (by decide) ?_
                exact r_lv (lvLe_s rfl (lvLe_s rfl (lvLe_s rfl (lvLe_s rfl (lvLe_s rfl (lvLe_s rfl lvLe_nil)))))) (ih (q + 1) _ (by omega) (by rw [bI_t]; exact (exN_s i1.1).mpr (Or.inr (fun y9 => c66 (by rw [← hck q i1.1 (by omega), ← hck2 q i1.1 (by omega) c29]; exact y9)))) (by omega))
      exact r_lv (lvLe_s rfl (lvLe_s rfl (lvLe_s rfl (lvLe_s rfl (lvLe_s rfl (lvLe_s rfl lvLe_nil)))))) (loop40 _ 0 _ (by omega) (bI_f (exN_0 _)).symm (Nat.lt_succ_self _))
    · refine r_iconst B dX10_isOther_32 ?_
      exact r_zret B hr hlk dX10_isOther_33 (Nat.le_of_ble_eq_true rfl) (Nat.le_of_ble_eq_true rfl) (by first | exact nar_0 | exact nar_1 | exact nar_bI _) ⟨by rw [bI_t (show otP (rowF mdata (240 + x)) (cutR (rowF mdata (240 + x)) (msize (240 + x)) mbits mleast mmost).2.2 (cutR (rowF mdata (240 + x)) (msize (240 + x)) mbits mleast mmost).2.1 mdata mends mmany x (ltN (colF mkind x) mnights.toNat) from Or.inr (Or.inl c29))], hM⟩
abbrev rmX10_sorts : Room := { frames := 0, cells := 0, slots := 0, locals := 0 }
theorem in_X10_sorts_X10 : ∀ w ∈ wsX100, w ∈ wsX10_sorts := by decide +kernel
theorem w_X10_sorts_f75 : Cond.fieldLink RX10 75 "DeltaNightsModel" "turn" "[I" ∈ wsX10_sorts := by decide +kernel
theorem w_X10_sorts_f54 : Cond.fieldLink RX10 54 "DeltaNightsModel" "bid" "[I" ∈ wsX10_sorts := by decide +kernel
set_option maxHeartbeats 4000000 in
set_option maxRecDepth 100000 in
theorem ct_X10_sorts (l : Launch) (g : GG) (sz0 : Nat) (ad : Nat → Nat) (hA : ADok ad) {h h0 : AH} {mthrown mnights mbits mleast mmost mroom mreserve mmount mspeed : Int} {mdata msize mends mmany mkind mchain mholds mbid mbound mcheap mpromised mcoin mpaid mowed mturn misAsking mwant mcost misServed mitsRow mitsChunk : Int → Int} (hM : MW g ad h0 mthrown mdata msize mends mmany mkind mchain mholds mnights mbits mleast mmost mroom mreserve mmount mspeed mbid mbound mcheap mpromised mcoin mpaid mowed mturn misAsking mwant mcost misServed mitsRow mitsChunk h)  : CT l yX10_sorts wsX10_sorts rmX10_sorts g sz0 [.ref (ad 0)] h (fun v h' => v = none ∧ ∃ tt : Int → Int, turnOK mbid tt ∧ MW g ad h0 mthrown mdata msize mends mmany mkind mchain mholds mnights mbits mleast mmost mroom mreserve mmount mspeed mbid mbound mcheap mpromised mcoin mpaid mowed tt misAsking mwant mcost misServed mitsRow mitsChunk h') := by
  refine CT.of (by decide +kernel) rfl [some (.ref (ad 0)), none, none, none] rfl (Nat.le_of_ble_eq_true rfl) ?_
  intro p e s m args below meth c B hr hlk hnm
  refine r_iconst B dX10_sorts_0 ?_
  refine r_istore_n B dX10_sorts_1 rfl (by decide) (lcat_v rfl rfl) ?_
  have loop2 : ∀ (nn : Nat) (k : Int) (tt : Int → Int) (h : AH), MW g ad h0 mthrown mdata msize mends mmany mkind mchain mholds mnights mbits mleast mmost mroom mreserve mmount mspeed mbid mbound mcheap mpromised mcoin mpaid mowed tt misAsking mwant mcost misServed mitsRow mitsChunk h → (0 ≤ k ∧ k ≤ 4) → (∀ z : Int, 0 ≤ z → z < k → tt (ahB mbid z) = z) → (4 - k).toNat < nn → WA p l e rmX10_sorts s m args below meth c g sz0 4 (MQ below (QQ g sz0 (fun v h' => v = none ∧ ∃ tt : Int → Int, turnOK mbid tt ∧ MW g ad h0 mthrown mdata msize mends mmany mkind mchain mholds mnights mbits mleast mmost mroom mreserve mmount mspeed mbid mbound mcheap mpromised mcoin mpaid mowed tt misAsking mwant mcost misServed mitsRow mitsChunk h')) args s rmX10_sorts.cells rmX10_sorts.slots (A0 sz0)) h 0 0 [some (.ref (ad 0)), some (.int (iI (k))), none, none] 2 [] := by
    intro nn
    induction nn with
    | zero => intro k tt h hM i1 i2 hn; exact absurd hn (Nat.not_lt_zero _)
    | succ nn ih =>
      intro k tt h hM i1 i2 hn
      refine r_iload_n B dX10_sorts_2 rfl ?_
      refine r_iconst B dX10_sorts_3 ?_
      refine r_icmp_ge B dX10_sorts_4 (tgt := 78) (by decide) (by omega) (by omega) (fun c4 => ?_) (fun c4 => ?_)
      · exact r_vret B hr hlk dX10_sorts_78 (Nat.le_of_ble_eq_true rfl) (Nat.le_of_ble_eq_true rfl) ⟨rfl, tt, turn_of (fun z z0 z1 => i2 z z0 (by omega)), hM⟩
      · refine r_iconst B dX10_sorts_7 ?_
        refine r_istore_n B dX10_sorts_8 rfl (by decide) (lcat_v rfl rfl) ?_
        refine r_iconst B dX10_sorts_9 ?_
        refine r_istore_n B dX10_sorts_10 rfl (by decide) (lcat_v rfl rfl) ?_
        have loop11 : ∀ (nn : Nat) (q : Int) (sm : Int), (0 ≤ q ∧ q ≤ 4) → (sm = sumZ (fun d => bI (aheadP mbid d k)) q.toNat) → (4 - q).toNat < nn → WA p l e rmX10_sorts s m args below meth c g sz0 4 (MQ below (QQ g sz0 (fun v h' => v = none ∧ ∃ tt : Int → Int, turnOK mbid tt ∧ MW g ad h0 mthrown mdata msize mends mmany mkind mchain mholds mnights mbits mleast mmost mroom mreserve mmount mspeed mbid mbound mcheap mpromised mcoin mpaid mowed tt misAsking mwant mcost misServed mitsRow mitsChunk h')) args s rmX10_sorts.cells rmX10_sorts.slots (A0 sz0)) h 0 0 [some (.ref (ad 0)), some (.int (iI (k))), some (.int (iI (sm))), some (.int (iI (q)))] 11 [] := by
          intro nn
          induction nn with
          | zero => intro q sm j1 j2 hn; exact absurd hn (Nat.not_lt_zero _)
          | succ nn ih11 =>
            intro q sm j1 j2 hn
            refine r_iload_n B dX10_sorts_11 rfl ?_
            refine r_iconst B dX10_sorts_12 ?_
            refine r_icmp_ge B dX10_sorts_13 (tgt := 65) (by decide) (by omega) (by omega) (fun c13 => ?_) (fun c13 => ?_)
            · have jq : sm = ahB mbid k := by rw [j2, show q = 4 by omega]; rfl
              subst jq
              have hah := ahB_rng mbid (c := k) (by omega)
              refine r_aload_n B dX10_sorts_65 rfl rfl ?_
              refine m_get_turn B dX10_sorts_66 in_X10_sorts_X10 w_X10_sorts_f75 hM ?_
              refine r_iload_n B dX10_sorts_69 rfl ?_
              refine r_iload_n B dX10_sorts_70 rfl ?_
              refine m_st_turn B dX10_sorts_71 hA hM (by omega) (by omega) (by omega) (fun h hM => ?_)
              refine r_iinc B dX10_sorts_72 rfl (by decide) (lcat_v rfl rfl) ?_
              refine r_goto B dX10_sorts_75 (tgt := 2) (by decide) ?_
              have i2n : ∀ z : Int, 0 ≤ z → z < k + 1 → upZ tt (ahB mbid k) k (ahB mbid z) = z := fun z z0 z1 => by
                rcases (show z = k ∨ z < k by omega) with y9 | y9
                · rw [y9, upZ_at]
                · rw [upZ_ne _ _ (fun w9 => absurd (ahB_inj mbid (by omega) (by omega) w9) (by omega))]; exact i2 z z0 y9
              exact r_lv (lvLe_s rfl (lvLe_s rfl (lvLe_n (lvLe_n lvLe_nil)))) (ih (k + 1) _ h hM (by omega) i2n (by omega))
            · refine r_iload_n B dX10_sorts_16 rfl ?_
              refine r_aload_n B dX10_sorts_17 rfl rfl ?_
              refine m_get_bid B dX10_sorts_18 in_X10_sorts_X10 w_X10_sorts_f54 hM ?_
              refine r_iload_n B dX10_sorts_21 rfl ?_
              refine m_ld_bid B dX10_sorts_22 hM (by omega) (by omega) (fun r22 => ?_)
              refine r_aload_n B dX10_sorts_23 rfl rfl ?_
              refine m_get_bid B dX10_sorts_24 in_X10_sorts_X10 w_X10_sorts_f54 hM ?_
              refine r_iload_n B dX10_sorts_27 rfl ?_
              refine m_ld_bid B dX10_sorts_28 hM (by omega) (by omega) (fun r28 => ?_)
              refine r_icmp_gt B dX10_sorts_29 (tgt := 52) (by decide) (by omega) (by omega) (fun c29 => ?_) (fun c29 => ?_)
              · refine r_iconst B dX10_sorts_52 ?_
                refine r_goto B dX10_sorts_53 (tgt := 57) (by decide) ?_
                refine r_iadd B dX10_sorts_57 ?_
                refine r_istore_n B dX10_sorts_58 rfl (by decide) (lcat_v rfl rfl) ?_
                refine r_iinc B dX10_sorts_59 rfl (by decide) (lcat_v rfl rfl) ?_
                refine r_goto B dX10_sorts_62 (tgt := 11) (by decide) ?_
                exact r_lv (lvLe_s rfl (lvLe_s rfl (lvLe_s rfl (lvLe_s rfl lvLe_nil)))) (ih11 (q + 1) _ (by omega) (by rw [sumZ_s _ j1.1, bI_t (show aheadP mbid q k by unfold aheadP; omega), j2]) (by omega))
              · refine r_aload_n B dX10_sorts_32 rfl rfl ?_
                refine m_get_bid B dX10_sorts_33 in_X10_sorts_X10 w_X10_sorts_f54 hM ?_
                refine r_iload_n B dX10_sorts_36 rfl ?_
                refine m_ld_bid B dX10_sorts_37 hM (by omega) (by omega) (fun r37 => ?_)
                refine r_aload_n B dX10_sorts_38 rfl rfl ?_
                refine m_get_bid B dX10_sorts_39 in_X10_sorts_X10 w_X10_sorts_f54 hM ?_
                refine r_iload_n B dX10_sorts_42 rfl ?_
                refine m_ld_bid B dX10_sorts_43 hM (by omega) (by omega) (fun r43 => ?_)
                refine r_icmp_ne B dX10_sorts_44 (tgt := 56) (by decide) (by omega) (by omega) (fun c44 => ?_) (fun c44 => ?_)
                · refine r_iconst B dX10_sorts_56 ?_
                  refine r_iadd B dX10_sorts_57 ?_
                  refine r_istore_n B dX10_sorts_58 rfl (by decide) (lcat_v rfl rfl) ?_
                  refine r_iinc B dX10_sorts_59 rfl (by decide) (lcat_v rfl rfl) ?_
                  refine r_goto B dX10_sorts_62 (tgt := 11) (by decide) ?_
                  exact r_lv (lvLe_s rfl (lvLe_s rfl (lvLe_s rfl (lvLe_s rfl lvLe_nil)))) (ih11 (q + 1) _ (by omega) (by rw [sumZ_s _ j1.1, bI_f (show ¬ aheadP mbid q k by unfold aheadP; omega), j2]) (by omega))
                · refine r_iload_n B dX10_sorts_47 rfl ?_
                  refine r_iload_n B dX10_sorts_48 rfl ?_
                  refine r_icmp_ge B dX10_sorts_49 (tgt := 56) (by decide) (by omega) (by omega) (fun c49 => ?_) (fun c49 => ?_)
                  · refine r_iconst B dX10_sorts_56 ?_
                    refine r_iadd B dX10_sorts_57 ?_
                    refine r_istore_n B dX10_sorts_58 rfl (by decide) (lcat_v rfl rfl) ?_
                    refine r_iinc B dX10_sorts_59 rfl (by decide) (lcat_v rfl rfl) ?_
                    refine r_goto B dX10_sorts_62 (tgt := 11) (by decide) ?_
                    exact r_lv (lvLe_s rfl (lvLe_s rfl (lvLe_s rfl (lvLe_s rfl lvLe_nil)))) (ih11 (q + 1) _ (by omega) (by rw [sumZ_s _ j1.1, bI_f (show ¬ aheadP mbid q k by unfold aheadP; omega), j2]) (by omega))
                  · refine r_iconst B dX10_sorts_52 ?_
                    refine r_goto B dX10_sorts_53 (tgt := 57) (by decide) ?_
                    refine r_iadd B dX10_sorts_57 ?_
                    refine r_istore_n B dX10_sorts_58 rfl (by decide) (lcat_v rfl rfl) ?_
                    refine r_iinc B dX10_sorts_59 rfl (by decide) (lcat_v rfl rfl) ?_
                    refine r_goto B dX10_sorts_62 (tgt := 11) (by decide) ?_
                    exact r_lv (lvLe_s rfl (lvLe_s rfl (lvLe_s rfl (lvLe_s rfl lvLe_nil)))) (ih11 (q + 1) _ (by omega) (by rw [sumZ_s _ j1.1, bI_t (show aheadP mbid q k by unfold aheadP; omega), j2]) (by omega))
        exact r_lv (lvLe_s rfl (lvLe_s rfl (lvLe_s rfl (lvLe_s rfl lvLe_nil)))) (loop11 _ 0 _ (by omega) rfl (Nat.lt_succ_self _))
  exact r_lv (lvLe_s rfl (lvLe_s rfl (lvLe_n (lvLe_n lvLe_nil)))) (loop2 _ 0 _ h hM (by omega) (fun z z0 z1 => absurd z1 (by omega)) (Nat.lt_succ_self _))
abbrev rmX10_price : Room := { frames := 0, cells := 0, slots := 0, locals := 0 }
theorem in_X10_price_X10 : ∀ w ∈ wsX100, w ∈ wsX10_price := by decide +kernel
theorem w_X10_price_f45 : Cond.fieldLink RX10 45 "DeltaNightsModel" "reserve" "I" ∈ wsX10_price := by decide +kernel
theorem w_X10_price_f75 : Cond.fieldLink RX10 75 "DeltaNightsModel" "turn" "[I" ∈ wsX10_price := by decide +kernel
theorem w_X10_price_f78 : Cond.fieldLink RX10 78 "DeltaNightsModel" "isAsking" "[Z" ∈ wsX10_price := by decide +kernel
theorem w_X10_price_f87 : Cond.fieldLink RX10 87 "DeltaNightsModel" "isServed" "[Z" ∈ wsX10_price := by decide +kernel
theorem w_X10_price_f54 : Cond.fieldLink RX10 54 "DeltaNightsModel" "bid" "[I" ∈ wsX10_price := by decide +kernel
set_option maxHeartbeats 4000000 in
set_option maxRecDepth 100000 in
theorem ct_X10_price (l : Launch) (g : GG) (sz0 : Nat) (ad : Nat → Nat) (hA : ADok ad) {h h0 : AH} {mthrown mnights mbits mleast mmost mroom mreserve mmount mspeed : Int} {mdata msize mends mmany mkind mchain mholds mbid mbound mcheap mpromised mcoin mpaid mowed mturn misAsking mwant mcost misServed mitsRow mitsChunk : Int → Int} (hM : MW g ad h0 mthrown mdata msize mends mmany mkind mchain mholds mnights mbits mleast mmost mroom mreserve mmount mspeed mbid mbound mcheap mpromised mcoin mpaid mowed mturn misAsking mwant mcost misServed mitsRow mitsChunk h) (x : Int) (hx : 0 ≤ x ∧ x ≤ 3) (ht : ∀ k : Int, 0 ≤ k → k ≤ 3 → 0 ≤ mturn k ∧ mturn k ≤ 3) : CT l yX10_price wsX10_price rmX10_price g sz0 [.ref (ad 0), .int (iI (x))] h (fun v h' => v = some (.int (iI (prc mbid mturn misAsking misServed mreserve x (4 - x - 1).toNat))) ∧ h' = h) := by
  refine CT.of (by decide +kernel) rfl [some (.ref (ad 0)), some (.int (iI (x))), none, none, none] rfl (Nat.le_of_ble_eq_true rfl) ?_
  intro p e s m args below meth c B hr hlk hnm
  refine r_aload_n B dX10_price_0 rfl rfl ?_
  refine m_get_reserve B dX10_price_1 in_X10_price_X10 w_X10_price_f45 hM (fun r1 => ?_)
  refine r_istore_n B dX10_price_4 rfl (by decide) (lcat_v rfl rfl) ?_
  refine r_iload_n B dX10_price_5 rfl ?_
  refine r_iconst B dX10_price_6 ?_
  refine r_iadd B dX10_price_7 ?_
  refine r_istore_n B dX10_price_8 rfl (by decide) (lcat_v rfl rfl) ?_
  have loop9 : ∀ (nn : Nat) (q : Int) (b : Int), (x + 1 ≤ q ∧ q ≤ 4) → (-2147483648 ≤ b ∧ b < 2147483648) → (b = prc mbid mturn misAsking misServed mreserve x (q - x - 1).toNat) → (4 - q).toNat < nn → WA p l e rmX10_price s m args below meth c g sz0 5 (MQ below (QQ g sz0 (fun v h' => v = some (.int (iI (prc mbid mturn misAsking misServed mreserve x (4 - x - 1).toNat))) ∧ h' = h)) args s rmX10_price.cells rmX10_price.slots (A0 sz0)) h 0 0 [some (.ref (ad 0)), some (.int (iI (x))), some (.int (iI (b))), some (.int (iI (q))), none] 9 [] := by
    intro nn
    induction nn with
    | zero => intro q b i1 i3 i2 hn; exact absurd hn (Nat.not_lt_zero _)
    | succ nn ih =>
      intro q b i1 i3 i2 hn
      refine r_iload_n B dX10_price_9 rfl ?_
      refine r_iconst B dX10_price_10 ?_
      refine r_icmp_ge B dX10_price_11 (tgt := 71) (by decide) (by omega) (by omega) (fun c11 => ?_) (fun c11 => ?_)
      · refine r_iload_n B dX10_price_71 rfl ?_
        exact r_iret B hr hlk dX10_price_72 (Nat.le_of_ble_eq_true rfl) (Nat.le_of_ble_eq_true rfl) ⟨by rw [i2, show q = 4 by omega], rfl⟩
      · have htq := ht q (by omega) (by omega)
        refine r_aload_n B dX10_price_14 rfl rfl ?_
        refine m_get_turn B dX10_price_15 in_X10_price_X10 w_X10_price_f75 hM ?_
        refine r_iload_n B dX10_price_18 rfl ?_
        refine m_ld_turn B dX10_price_19 hM (by omega) (by omega) (fun r19 => ?_)
        refine r_istore B dX10_price_20 (by decide) (lcat_v rfl rfl) ?_
        refine r_aload_n B dX10_price_22 rfl rfl ?_
        refine m_get_isAsking B dX10_price_23 in_X10_price_X10 w_X10_price_f78 hM ?_
        refine r_iload B dX10_price_26 rfl ?_
        refine m_ld_isAsking B dX10_price_28 hM (by omega) (by omega) (fun r28 => ?_)
        refine r_if_eq B dX10_price_29 (tgt := 63) (by decide) (by omega) (fun c29 => ?_) (fun c29 => ?_)
        · refine r_iload_n B dX10_price_63 rfl ?_
          refine r_istore_n B dX10_price_64 rfl (by decide) (lcat_v rfl rfl) ?_
          refine r_iinc B dX10_price_65 rfl (by decide) (lcat_v rfl rfl) ?_
          refine r_goto B dX10_price_68 (tgt := 9) (by decide) ?_
          exact r_lv (lvLe_s rfl (lvLe_s rfl (lvLe_s rfl (lvLe_s rfl (lvLe_n lvLe_nil))))) (ih (q + 1) _ (by omega) i3 (by rw [prc_f _ _ _ _ _ _ i1.1 (fun y9 => y9.1 c29)]; exact i2) (by omega))
        · refine r_aload_n B dX10_price_32 rfl rfl ?_
          refine m_get_isServed B dX10_price_33 in_X10_price_X10 w_X10_price_f87 hM ?_
          refine r_iload B dX10_price_36 rfl ?_
          refine m_ld_isServed B dX10_price_38 hM (by omega) (by omega) (fun r38 => ?_)
          refine r_if_ne B dX10_price_39 (tgt := 63) (by decide) (by omega) (fun c39 => ?_) (fun c39 => ?_)
          · refine r_iload_n B dX10_price_63 rfl ?_
            refine r_istore_n B dX10_price_64 rfl (by decide) (lcat_v rfl rfl) ?_
            refine r_iinc B dX10_price_65 rfl (by decide) (lcat_v rfl rfl) ?_
            refine r_goto B dX10_price_68 (tgt := 9) (by decide) ?_
            exact r_lv (lvLe_s rfl (lvLe_s rfl (lvLe_s rfl (lvLe_s rfl (lvLe_n lvLe_nil))))) (ih (q + 1) _ (by omega) i3 (by rw [prc_f _ _ _ _ _ _ i1.1 (fun y9 => c39 y9.2.1)]; exact i2) (by omega))
          · refine r_aload_n B dX10_price_42 rfl rfl ?_
            refine m_get_bid B dX10_price_43 in_X10_price_X10 w_X10_price_f54 hM ?_
            refine r_iload B dX10_price_46 rfl ?_
            refine m_ld_bid B dX10_price_48 hM (by omega) (by omega) (fun r48 => ?_)
            refine r_iload_n B dX10_price_49 rfl ?_
            refine r_icmp_le B dX10_price_50 (tgt := 63) (by decide) (by omega) (by omega) (fun c50 => ?_) (fun c50 => ?_)
            · refine r_iload_n B dX10_price_63 rfl ?_
              refine r_istore_n B dX10_price_64 rfl (by decide) (lcat_v rfl rfl) ?_
              refine r_iinc B dX10_price_65 rfl (by decide) (lcat_v rfl rfl) ?_
              refine r_goto B dX10_price_68 (tgt := 9) (by decide) ?_
              exact r_lv (lvLe_s rfl (lvLe_s rfl (lvLe_s rfl (lvLe_s rfl (lvLe_n lvLe_nil))))) (ih (q + 1) _ (by omega) i3 (by rw [prc_f _ _ _ _ _ _ i1.1 (fun y9 => by have := y9.2.2; rw [← i2] at this; omega)]; exact i2) (by omega))
            · refine r_aload_n B dX10_price_53 rfl rfl ?_
              refine m_get_bid B dX10_price_54 in_X10_price_X10 w_X10_price_f54 hM ?_
              refine r_iload B dX10_price_57 rfl ?_
              refine m_ld_bid B dX10_price_59 hM (by omega) (by omega) (fun r59 => ?_)
              refine r_goto B dX10_price_60 (tgt := 64) (by decide) ?_
              refine r_istore_n B dX10_price_64 rfl (by decide) (lcat_v rfl rfl) ?_
              refine r_iinc B dX10_price_65 rfl (by decide) (lcat_v rfl rfl) ?_
              refine r_goto B dX10_price_68 (tgt := 9) (by decide) ?_
              exact r_lv (lvLe_s rfl (lvLe_s rfl (lvLe_s rfl (lvLe_s rfl (lvLe_n lvLe_nil))))) (ih (q + 1) _ (by omega) (by omega) (by rw [prc_t _ _ _ _ _ _ i1.1 ⟨c29, c39, by rw [← i2]; omega⟩]) (by omega))
  exact r_lv (lvLe_s rfl (lvLe_s rfl (lvLe_s rfl (lvLe_s rfl (lvLe_n lvLe_nil))))) (loop9 _ (x + 1) _ (by omega) (by omega) (by rw [show (x + 1 - x - 1).toNat = 0 by omega]; rfl) (Nat.lt_succ_self _))
