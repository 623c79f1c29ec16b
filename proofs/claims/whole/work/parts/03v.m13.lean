abbrev rmX10_store : Room := { frames := 3, cells := 0, slots := 0, locals := 71 }
theorem in_X10_store_X10 : ∀ w ∈ wsX100, w ∈ wsX10_store := by decide +kernel
theorem w_X10_store_f96 : Cond.fieldLink RX10 96 "DeltaNightsModel" "thrown" "I" ∈ wsX10_store := by decide +kernel
theorem w_X10_store_f19 : Cond.fieldLink RX10 19 "DeltaNightsModel" "many" "[I" ∈ wsX10_store := by decide +kernel
theorem w_X10_store_f28 : Cond.fieldLink RX10 28 "DeltaNightsModel" "holds" "[Z" ∈ wsX10_store := by decide +kernel
theorem w_X10_store_f90 : Cond.fieldLink RX10 90 "DeltaNightsModel" "itsRow" "[I" ∈ wsX10_store := by decide +kernel
theorem w_X10_store_f93 : Cond.fieldLink RX10 93 "DeltaNightsModel" "itsChunk" "[I" ∈ wsX10_store := by decide +kernel
set_option maxHeartbeats 4000000 in
set_option maxRecDepth 100000 in
theorem ct_X10_store (l : Launch) (g : GG) (sz0 : Nat) (ad : Nat → Nat) (hA : ADok ad) {h h0 : AH} {mthrown mnights mbits mleast mmost mroom mreserve mmount mspeed : Int} {mdata msize mends mmany mkind mchain mholds mbid mbound mcheap mpromised mcoin mpaid mowed mturn misAsking mwant mcost misServed mitsRow mitsChunk : Int → Int} (hM : MW g ad h0 mthrown mdata msize mends mmany mkind mchain mholds mnights mbits mleast mmost mroom mreserve mmount mspeed mbid mbound mcheap mpromised mcoin mpaid mowed mturn misAsking mwant mcost misServed mitsRow mitsChunk h) (hLK : LKo mends mmany) : CT l yX10_store wsX10_store rmX10_store g sz0 [.ref (ad 0)] h (fun v h' => ∃ (iR iC : Int → Int) (L : List (List Int)), L.Nodup ∧ (∀ w : List Int, w ∈ L ↔ exN (fun z => hldC (rowF mholds z) (chk (rowF mdata z) (rowF mends z)) (mmany z) w) 240) ∧ v = some (.int (iI (L.length : Int))) ∧ MW g ad h0 0 mdata msize mends mmany mkind mchain mholds mnights mbits mleast mmost mroom mreserve mmount mspeed mbid mbound mcheap mpromised mcoin mpaid mowed mturn misAsking mwant mcost misServed iR iC h') := by
  refine CT.of (by decide +kernel) rfl [some (.ref (ad 0)), none, none, none, none, none] rfl (Nat.le_of_ble_eq_true rfl) ?_
  intro p e s m args below meth c B hr hlk hnm
  refine r_aload_n B dX10_store_0 rfl rfl ?_
  refine r_iconst B dX10_store_1 ?_
  refine m_put_thrown B dX10_store_2 in_X10_store_X10 w_X10_store_f96 hA hM (by omega) (fun h hM => ?_)
  refine r_iconst B dX10_store_5 ?_
  refine r_istore_n B dX10_store_6 rfl (by decide) (lcat_v rfl rfl) ?_
  refine r_iconst B dX10_store_7 ?_
  refine r_istore_n B dX10_store_8 rfl (by decide) (lcat_v rfl rfl) ?_
  have loop9 : ∀ (nn : Nat) (iR : Int → Int) (iC : Int → Int) (n : Int) (r : Int) (h : AH), MW g ad h0 0 mdata msize mends mmany mkind mchain mholds mnights mbits mleast mmost mroom mreserve mmount mspeed mbid mbound mcheap mpromised mcoin mpaid mowed mturn misAsking mwant mcost misServed iR iC h → (0 ≤ r ∧ r ≤ 240) → (stP mdata mends mmany mholds iR iC (n) (r) (0)) → (240 - r).toNat < nn → WA p l e rmX10_store s m args below meth c g sz0 6 (MQ below (QQ g sz0 (fun v h' => ∃ (iR iC : Int → Int) (L : List (List Int)), L.Nodup ∧ (∀ w : List Int, w ∈ L ↔ exN (fun z => hldC (rowF mholds z) (chk (rowF mdata z) (rowF mends z)) (mmany z) w) 240) ∧ v = some (.int (iI (L.length : Int))) ∧ MW g ad h0 0 mdata msize mends mmany mkind mchain mholds mnights mbits mleast mmost mroom mreserve mmount mspeed mbid mbound mcheap mpromised mcoin mpaid mowed mturn misAsking mwant mcost misServed iR iC h')) args s rmX10_store.cells rmX10_store.slots (A0 sz0)) h 0 0 [some (.ref (ad 0)), some (.int (iI (n))), some (.int (iI (r))), none, none, none] 9 [] := by
    intro nn
    induction nn with
    | zero => intro iR iC n r h hM i1 i2 hn; exact absurd hn (Nat.not_lt_zero _)
    | succ nn ih9 =>
      intro iR iC n r h hM i1 i2 hn
      refine r_iload_n B dX10_store_9 rfl ?_
      refine r_sipush B dX10_store_10 (by decide) ?_
      refine r_icmp_ge B dX10_store_13 (tgt := 125) (by decide) (by omega) (by omega) (fun c13 => ?_) (fun c13 => ?_)
      · refine r_iload_n B dX10_store_125 rfl ?_
        have hr240 : r = 240 := by omega
        subst hr240
        exact r_iret B hr hlk dX10_store_126 (Nat.le_of_ble_eq_true rfl) (Nat.le_of_ble_eq_true rfl) (by obtain ⟨L, hL1, hL2, hL3⟩ := stP_end i2; exact ⟨iR, iC, L, hL1, hL2, by rw [hL3], hM⟩)
      · refine r_iconst B dX10_store_16 ?_
        refine r_istore_n B dX10_store_17 rfl (by decide) (lcat_v rfl rfl) ?_
        have loop18 : ∀ (nn : Nat) (iR : Int → Int) (iC : Int → Int) (n : Int) (k : Int) (h : AH), MW g ad h0 0 mdata msize mends mmany mkind mchain mholds mnights mbits mleast mmost mroom mreserve mmount mspeed mbid mbound mcheap mpromised mcoin mpaid mowed mturn misAsking mwant mcost misServed iR iC h → (0 ≤ k ∧ k ≤ mmany r) → (stP mdata mends mmany mholds iR iC (n) (r) (k)) → (mmany r - k).toNat < nn → WA p l e rmX10_store s m args below meth c g sz0 6 (MQ below (QQ g sz0 (fun v h' => ∃ (iR iC : Int → Int) (L : List (List Int)), L.Nodup ∧ (∀ w : List Int, w ∈ L ↔ exN (fun z => hldC (rowF mholds z) (chk (rowF mdata z) (rowF mends z)) (mmany z) w) 240) ∧ v = some (.int (iI (L.length : Int))) ∧ MW g ad h0 0 mdata msize mends mmany mkind mchain mholds mnights mbits mleast mmost mroom mreserve mmount mspeed mbid mbound mcheap mpromised mcoin mpaid mowed mturn misAsking mwant mcost misServed iR iC h')) args s rmX10_store.cells rmX10_store.slots (A0 sz0)) h 0 0 [some (.ref (ad 0)), some (.int (iI (n))), some (.int (iI (r))), some (.int (iI (k))), none, none] 18 [] := by
          intro nn
          induction nn with
          | zero => intro iR iC n k h hM i3 i4 hn; exact absurd hn (Nat.not_lt_zero _)
          | succ nn ih18 =>
            intro iR iC n k h hM i3 i4 hn
            refine r_iload_n B dX10_store_18 rfl ?_
            refine r_aload_n B dX10_store_19 rfl rfl ?_
            refine m_get_many B dX10_store_20 in_X10_store_X10 w_X10_store_f19 hM ?_
            refine r_iload_n B dX10_store_23 rfl ?_
            have hmr := (hLK r i1.1 (by omega)).1
            have hn1 := i4.1
            refine m_ld_many B dX10_store_24 hM (by omega) (by omega) (fun r24 => ?_)
            refine r_icmp_ge B dX10_store_25 (tgt := 119) (by decide) (by omega) (by omega) (fun c25 => ?_) (fun c25 => ?_)
            · refine r_iinc B dX10_store_119 rfl (by decide) (lcat_v rfl rfl) ?_
              refine r_goto B dX10_store_122 (tgt := 9) (by decide) ?_
              exact r_lv (lvLe_s rfl (lvLe_s rfl (lvLe_s rfl (lvLe_n (lvLe_n (lvLe_n lvLe_nil)))))) (ih9 iR iC n (r + 1) h hM (by omega) (stP_r i1.1 (hLK r i1.1 (by omega)).1.2 (by rw [show mmany r = k by omega]; exact i4)) (by omega))
            · refine r_aload_n B dX10_store_28 rfl rfl ?_
              refine m_get_holds B dX10_store_29 in_X10_store_X10 w_X10_store_f28 hM ?_
              refine r_bipush B dX10_store_32 (by decide) ?_
              refine r_iload_n B dX10_store_34 rfl ?_
              refine r_imul B dX10_store_35 ?_
              refine r_iload_n B dX10_store_36 rfl ?_
              refine r_iadd B dX10_store_37 ?_
              refine m_ld_holds B dX10_store_38 hM (by omega) (by omega) (fun r38 => ?_)
              refine r_istore B dX10_store_39 (by decide) (lcat_v rfl rfl) ?_
              refine r_iconst B dX10_store_41 ?_
              refine r_istore B dX10_store_42 (by decide) (lcat_v rfl rfl) ?_
              have loop44 : ∀ (nn : Nat) (f : Int) (j : Int) (h : AH), MW g ad h0 0 mdata msize mends mmany mkind mchain mholds mnights mbits mleast mmost mroom mreserve mmount mspeed mbid mbound mcheap mpromised mcoin mpaid mowed mturn misAsking mwant mcost misServed iR iC h → ((0 ≤ j ∧ j ≤ n) ∧ -2147483648 ≤ f ∧ f < 2147483648) → ((¬ f = 0 ↔ (¬ rowF mholds r k = 0 ∧ allN (fun i => ¬ ck mdata mends iR iC i = chk (rowF mdata r) (rowF mends r) k) j))) → (n - j).toNat < nn → WA p l e rmX10_store s m args below meth c g sz0 6 (MQ below (QQ g sz0 (fun v h' => ∃ (iR iC : Int → Int) (L : List (List Int)), L.Nodup ∧ (∀ w : List Int, w ∈ L ↔ exN (fun z => hldC (rowF mholds z) (chk (rowF mdata z) (rowF mends z)) (mmany z) w) 240) ∧ v = some (.int (iI (L.length : Int))) ∧ MW g ad h0 0 mdata msize mends mmany mkind mchain mholds mnights mbits mleast mmost mroom mreserve mmount mspeed mbid mbound mcheap mpromised mcoin mpaid mowed mturn misAsking mwant mcost misServed iR iC h')) args s rmX10_store.cells rmX10_store.slots (A0 sz0)) h 0 0 [some (.ref (ad 0)), some (.int (iI (n))), some (.int (iI (r))), some (.int (iI (k))), some (.int (iI (f))), some (.int (iI (j)))] 44 [] := by
                intro nn
                induction nn with
                | zero => intro f j h hM i5 i6 hn; exact absurd hn (Nat.not_lt_zero _)
                | succ nn ih44 =>
                  intro f j h hM i5 i6 hn
                  refine r_iload B dX10_store_44 rfl ?_
                  refine r_iload_n B dX10_store_46 rfl ?_
                  refine r_icmp_ge B dX10_store_47 (tgt := 91) (by decide) (by omega) (by omega) (fun c47 => ?_) (fun c47 => ?_)
                  · refine r_iload B dX10_store_91 rfl ?_
                    refine r_if_eq B dX10_store_93 (tgt := 113) (by decide) (by omega) (fun c93 => ?_) (fun c93 => ?_)
                    · refine r_iinc B dX10_store_113 rfl (by decide) (lcat_v rfl rfl) ?_
                      refine r_goto B dX10_store_116 (tgt := 18) (by decide) ?_
                      have hol : rowF mholds r k = 0 ∨ exN (fun i => ck mdata mends iR iC i = chk (rowF mdata r) (rowF mends r) k) n := by
                        by_cases z8 : rowF mholds r k = 0
                        · exact Or.inl z8
                        · refine Or.inr ?_
                          by_cases z7 : exN (fun i => ck mdata mends iR iC i = chk (rowF mdata r) (rowF mends r) k) n
                          · exact z7
                          · exact absurd c93 (i6.mpr ⟨z8, fun i y0 y1 y2 => z7 ⟨i, y0, by omega, y2⟩⟩)
                      exact r_lv (lvLe_s rfl (lvLe_s rfl (lvLe_s rfl (lvLe_s rfl (lvLe_n (lvLe_n lvLe_nil)))))) (ih18 iR iC n (k + 1) h hM (by omega) (stP_old i3.1 i4 hol) (by omega))
                    · refine r_aload_n B dX10_store_96 rfl rfl ?_
                      refine m_get_itsRow B dX10_store_97 in_X10_store_X10 w_X10_store_f90 hM ?_
                      refine r_iload_n B dX10_store_100 rfl ?_
                      refine r_iload_n B dX10_store_101 rfl ?_
                      refine m_st_itsRow B dX10_store_102 hA hM (by omega) (by omega) (by omega) (fun h hM => ?_)
                      refine r_aload_n B dX10_store_103 rfl rfl ?_
                      refine m_get_itsChunk B dX10_store_104 in_X10_store_X10 w_X10_store_f93 hM ?_
                      refine r_iload_n B dX10_store_107 rfl ?_
                      refine r_iload_n B dX10_store_108 rfl ?_
                      refine m_st_itsChunk B dX10_store_109 hA hM (by omega) (by omega) (by omega) (fun h hM => ?_)
                      refine r_iinc B dX10_store_110 rfl (by decide) (lcat_v rfl rfl) ?_
                      refine r_iinc B dX10_store_113 rfl (by decide) (lcat_v rfl rfl) ?_
                      refine r_goto B dX10_store_116 (tgt := 18) (by decide) ?_
                      have hf6 := i6.mp c93
                      exact r_lv (lvLe_s rfl (lvLe_s rfl (lvLe_s rfl (lvLe_s rfl (lvLe_n (lvLe_n lvLe_nil)))))) (ih18 _ _ (n + 1) (k + 1) h hM (by omega) (stP_new ⟨i1.1, by omega⟩ ⟨i3.1, by omega⟩ i4 hf6.1 (fun z7 => by obtain ⟨i, y0, y1, y2⟩ := z7; exact hf6.2 i y0 (by omega) y2)) (by omega))
                  · refine r_iload B dX10_store_50 rfl ?_
                    refine r_if_eq B dX10_store_52 (tgt := 91) (by decide) (by omega) (fun c52 => ?_) (fun c52 => ?_)
                    · refine r_iload B dX10_store_91 rfl ?_
                      refine r_if_eq B dX10_store_93 (tgt := 113) (by decide) (by omega) (fun c93 => ?_) (fun c93 => ?_)
                      · refine r_iinc B dX10_store_113 rfl (by decide) (lcat_v rfl rfl) ?_
                        refine r_goto B dX10_store_116 (tgt := 18) (by decide) ?_
                        have hol : rowF mholds r k = 0 ∨ exN (fun i => ck mdata mends iR iC i = chk (rowF mdata r) (rowF mends r) k) n := by
                          by_cases z8 : rowF mholds r k = 0
                          · exact Or.inl z8
                          · refine Or.inr ?_
                            by_cases z7 : exN (fun i => ck mdata mends iR iC i = chk (rowF mdata r) (rowF mends r) k) n
                            · exact z7
                            · exact absurd c52 (i6.mpr ⟨z8, fun i y0 y1 y2 => z7 ⟨i, y0, by omega, y2⟩⟩)
                        exact r_lv (lvLe_s rfl (lvLe_s rfl (lvLe_s rfl (lvLe_s rfl (lvLe_n (lvLe_n lvLe_nil)))))) (ih18 iR iC n (k + 1) h hM (by omega) (stP_old i3.1 i4 hol) (by omega))
                      · refine r_aload_n B dX10_store_96 rfl rfl ?_
                        refine m_get_itsRow B dX10_store_97 in_X10_store_X10 w_X10_store_f90 hM ?_
                        refine r_iload_n B dX10_store_100 rfl ?_
                        refine r_iload_n B dX10_store_101 rfl ?_
                        refine m_st_itsRow B dX10_store_102 hA hM (by omega) (by omega) (by omega) (fun h hM => ?_)
                        refine r_aload_n B dX10_store_103 rfl rfl ?_
                        refine m_get_itsChunk B dX10_store_104 in_X10_store_X10 w_X10_store_f93 hM ?_
                        refine r_iload_n B dX10_store_107 rfl ?_
                        refine r_iload_n B dX10_store_108 rfl ?_
                        refine m_st_itsChunk B dX10_store_109 hA hM (by omega) (by omega) (by omega) (fun h hM => ?_)
                        refine r_iinc B dX10_store_110 rfl (by decide) (lcat_v rfl rfl) ?_
                        refine r_iinc B dX10_store_113 rfl (by decide) (lcat_v rfl rfl) ?_
                        refine r_goto B dX10_store_116 (tgt := 18) (by decide) ?_
                        exact r_lv (lvLe_s rfl (lvLe_s rfl (lvLe_s rfl (lvLe_s rfl (lvLe_n (lvLe_n lvLe_nil)))))) (absurd c52 c93)
                    · refine r_aload_n B dX10_store_55 rfl rfl ?_
                      refine r_aload_n B dX10_store_56 rfl rfl ?_
                      refine m_get_itsRow B dX10_store_57 in_X10_store_X10 w_X10_store_f90 hM ?_
                      refine r_iload B dX10_store_60 rfl ?_
                      refine m_ld_itsRow B dX10_store_62 hM (by omega) (by omega) (fun r62 => ?_)
                      refine r_aload_n B dX10_store_63 rfl rfl ?_
                      refine m_get_itsChunk B dX10_store_64 in_X10_store_X10 w_X10_store_f93 hM ?_
                      refine r_iload B dX10_store_67 rfl ?_
                      refine m_ld_itsChunk B dX10_store_69 hM (by omega) (by omega) (fun r69 => ?_)
                      refine r_iload_n B dX10_store_70 rfl ?_
                      refine r_iload_n B dX10_store_71 rfl ?_
                      have hij := i4.2.2.1 j i5.1.1 (by omega)
                      have hlj := hLK (iR j) hij.1.1 hij.1.2
                      have hlr := hLK r i1.1 (by omega)
                      refine r_callV (n := 4) B dX10_store_72 (ct_X10_isSame l g sz0 ad hA hM _ _ _ _ (by omega) (by omega) (by omega) (by omega) (hlj.2 _ hij.2.1 hij.2.2) (hlr.2 k i3.1 (by omega))) gX10_store_X10_isSame rfl (by decide +kernel) ⟨Nat.le_of_ble_eq_true rfl, Nat.le_of_ble_eq_true rfl⟩ hM.obj rfl rfl rfl (Nat.le_of_ble_eq_true rfl) (Nat.le_of_ble_eq_true rfl) (Nat.le_of_ble_eq_true rfl) (fun v h' hp => ?_)
                      obtain ⟨hv, hh⟩ := hp
                      subst v
                      subst h'
                      dsimp only [Option.toList, List.cons_append, List.nil_append]
                      refine r_if_ne B dX10_store_75 (tgt := 82) (by decide) (bI_rng _) (fun c75 => ?_) (fun c75 => ?_)
                      · replace c75 := bI_n0.mp c75
                        refine r_iconst B dX10_store_82 ?_
                        refine r_istore B dX10_store_83 (by decide) (lcat_v rfl rfl) ?_
                        refine r_iinc B dX10_store_85 rfl (by decide) (lcat_v rfl rfl) ?_
                        refine r_goto B dX10_store_88 (tgt := 44) (by decide) ?_
                        exact r_lv (lvLe_s rfl (lvLe_s rfl (lvLe_s rfl (lvLe_s rfl (lvLe_s rfl (lvLe_s rfl lvLe_nil)))))) (ih44 0 (j + 1) h hM ⟨by omega, by omega⟩ ⟨fun z => absurd rfl z, fun z => absurd c75 ((allN_s (P := fun i => ¬ ck mdata mends iR iC i = chk (rowF mdata r) (rowF mends r) k) i5.1.1).mp z.2).2⟩ (by omega))
                      · replace c75 := bI_0.mp c75
                        refine r_iconst B dX10_store_78 ?_
                        refine r_goto B dX10_store_79 (tgt := 83) (by decide) ?_
                        refine r_istore B dX10_store_83 (by decide) (lcat_v rfl rfl) ?_
                        refine r_iinc B dX10_store_85 rfl (by decide) (lcat_v rfl rfl) ?_
                        refine r_goto B dX10_store_88 (tgt := 44) (by decide) ?_
                        have h52 := i6.mp c52
                        exact r_lv (lvLe_s rfl (lvLe_s rfl (lvLe_s rfl (lvLe_s rfl (lvLe_s rfl (lvLe_s rfl lvLe_nil)))))) (ih44 1 (j + 1) h hM ⟨by omega, by omega⟩ ⟨fun _ => ⟨h52.1, (allN_s i5.1.1).mpr ⟨h52.2, c75⟩⟩, fun _ => by omega⟩ (by omega))
              exact r_lv (lvLe_s rfl (lvLe_s rfl (lvLe_s rfl (lvLe_s rfl (lvLe_s rfl (lvLe_s rfl lvLe_nil)))))) (loop44 _ (mholds (48 * r + k)) 0 h hM ⟨by omega, hM.r_holds _⟩ ⟨fun z => ⟨z, allN_0 _⟩, fun z => z.1⟩ (Nat.lt_succ_self _))
        have hmr := (hLK r i1.1 (by omega)).1
        exact r_lv (lvLe_s rfl (lvLe_s rfl (lvLe_s rfl (lvLe_s rfl (lvLe_n (lvLe_n lvLe_nil)))))) (loop18 _ iR iC n 0 h hM (by omega) i2 (Nat.lt_succ_self _))
  exact r_lv (lvLe_s rfl (lvLe_s rfl (lvLe_s rfl (lvLe_n (lvLe_n (lvLe_n lvLe_nil)))))) (loop9 _ mitsRow mitsChunk 0 0 h hM (by omega) (stP_0 _ _ _ _ _ _) (Nat.lt_succ_self _))
