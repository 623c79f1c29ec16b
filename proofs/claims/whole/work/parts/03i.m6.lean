abbrev rmX10_cuts : Room := { frames := 2, cells := 0, slots := 0, locals := 46 }
theorem in_X10_cuts_X10 : ∀ w ∈ wsX100, w ∈ wsX10_cuts := by decide +kernel
theorem w_X10_cuts_f19 : Cond.fieldLink RX10 19 "DeltaNightsModel" "many" "[I" ∈ wsX10_cuts := by decide +kernel
theorem w_X10_cuts_f13 : Cond.fieldLink RX10 13 "DeltaNightsModel" "size" "[I" ∈ wsX10_cuts := by decide +kernel
theorem w_X10_cuts_f16 : Cond.fieldLink RX10 16 "DeltaNightsModel" "ends" "[I" ∈ wsX10_cuts := by decide +kernel
theorem w_X10_cuts_f39 : Cond.fieldLink RX10 39 "DeltaNightsModel" "most" "I" ∈ wsX10_cuts := by decide +kernel
theorem w_X10_cuts_f36 : Cond.fieldLink RX10 36 "DeltaNightsModel" "least" "I" ∈ wsX10_cuts := by decide +kernel
theorem w_X10_cuts_f32 : Cond.fieldLink RX10 32 "DeltaNightsModel" "bits" "I" ∈ wsX10_cuts := by decide +kernel
set_option maxHeartbeats 4000000 in
set_option maxRecDepth 100000 in
theorem ct_X10_cuts (l : Launch) (g : GG) (sz0 : Nat) (ad : Nat → Nat) (hA : ADok ad) {h h0 : AH} {mthrown mnights mbits mleast mmost mroom mreserve mmount mspeed : Int} {mdata msize mends mmany mkind mchain mholds mbid mbound mcheap mpromised mcoin mpaid mowed mturn misAsking mwant mcost misServed mitsRow mitsChunk : Int → Int} (hM : MW g ad h0 mthrown mdata msize mends mmany mkind mchain mholds mnights mbits mleast mmost mroom mreserve mmount mspeed mbid mbound mcheap mpromised mcoin mpaid mowed mturn misAsking mwant mcost misServed mitsRow mitsChunk h) (x : Int) (hx : 0 ≤ x ∧ x ≤ 3) (hsx : 0 ≤ msize (240 + x) ∧ msize (240 + x) ≤ 48) : CT l yX10_cuts wsX10_cuts rmX10_cuts g sz0 [.ref (ad 0), .int (iI (x))] h (fun v h' => v = some (.int (iI (240 + x))) ∧ MW g ad h0 mthrown mdata msize (putRow mends (48 * (240 + x)) (cutR (rowF mdata (240 + x)) (msize (240 + x)) mbits mleast mmost).2.1 (cutR (rowF mdata (240 + x)) (msize (240 + x)) mbits mleast mmost).2.2) (upZ mmany (240 + x) (cutR (rowF mdata (240 + x)) (msize (240 + x)) mbits mleast mmost).2.1) mkind mchain mholds mnights mbits mleast mmost mroom mreserve mmount mspeed mbid mbound mcheap mpromised mcoin mpaid mowed mturn misAsking mwant mcost misServed mitsRow mitsChunk h') := by
  refine CT.of (by decide +kernel) rfl [some (.ref (ad 0)), some (.int (iI (x))), none, none, none, none, none] rfl (Nat.le_of_ble_eq_true rfl) ?_
  intro p e s m args below meth c B hr hlk hnm
  refine r_sipush B dX10_cuts_0 (by decide) ?_
  refine r_iload_n B dX10_cuts_3 rfl ?_
  refine r_iadd B dX10_cuts_4 ?_
  refine r_istore_n B dX10_cuts_5 rfl (by decide) (lcat_v rfl rfl) ?_
  refine r_iconst B dX10_cuts_6 ?_
  refine r_istore_n B dX10_cuts_7 rfl (by decide) (lcat_v rfl rfl) ?_
  refine r_aload_n B dX10_cuts_8 rfl rfl ?_
  refine m_get_many B dX10_cuts_9 in_X10_cuts_X10 w_X10_cuts_f19 hM ?_
  refine r_iload_n B dX10_cuts_12 rfl ?_
  refine r_iconst B dX10_cuts_13 ?_
  refine m_st_many B dX10_cuts_14 hA hM (by omega) (by omega) (by omega) (fun h hM => ?_)
  refine r_iconst B dX10_cuts_15 ?_
  refine r_istore B dX10_cuts_16 (by decide) (lcat_v rfl rfl) ?_
  have loop18 : ∀ (nn : Nat) (q : Int) (bg : Int) (h : AH), MW g ad h0 mthrown mdata msize (putRow mends (48 * (240 + x)) (cutSt (rowF mdata (240 + x)) (msize (240 + x)) mbits mleast mmost (q).toNat).2.1 (cutSt (rowF mdata (240 + x)) (msize (240 + x)) mbits mleast mmost (q).toNat).2.2) (upZ mmany (240 + x) (cutSt (rowF mdata (240 + x)) (msize (240 + x)) mbits mleast mmost (q).toNat).2.1) mkind mchain mholds mnights mbits mleast mmost mroom mreserve mmount mspeed mbid mbound mcheap mpromised mcoin mpaid mowed mturn misAsking mwant mcost misServed mitsRow mitsChunk h → (0 ≤ q ∧ q ≤ msize (240 + x)) → (bg = (cutSt (rowF mdata (240 + x)) (msize (240 + x)) mbits mleast mmost (q).toNat).1) → (msize (240 + x) - q).toNat < nn → WA p l e rmX10_cuts s m args below meth c g sz0 7 (MQ below (QQ g sz0 (fun v h' => v = some (.int (iI (240 + x))) ∧ MW g ad h0 mthrown mdata msize (putRow mends (48 * (240 + x)) (cutR (rowF mdata (240 + x)) (msize (240 + x)) mbits mleast mmost).2.1 (cutR (rowF mdata (240 + x)) (msize (240 + x)) mbits mleast mmost).2.2) (upZ mmany (240 + x) (cutR (rowF mdata (240 + x)) (msize (240 + x)) mbits mleast mmost).2.1) mkind mchain mholds mnights mbits mleast mmost mroom mreserve mmount mspeed mbid mbound mcheap mpromised mcoin mpaid mowed mturn misAsking mwant mcost misServed mitsRow mitsChunk h')) args s rmX10_cuts.cells rmX10_cuts.slots (A0 sz0)) h 0 0 [some (.ref (ad 0)), some (.int (iI (x))), some (.int (iI (240 + x))), some (.int (iI (bg))), some (.int (iI (q))), none, none] 18 [] := by
    intro nn
    induction nn with
    | zero => intro q bg h hM i1 i3 hn; exact absurd hn (Nat.not_lt_zero _)
    | succ nn ih =>
      intro q bg h hM i1 i3 hn
      refine r_iload B dX10_cuts_18 rfl ?_
      refine r_aload_n B dX10_cuts_20 rfl rfl ?_
      refine m_get_size B dX10_cuts_21 in_X10_cuts_X10 w_X10_cuts_f13 hM ?_
      refine r_iload_n B dX10_cuts_24 rfl ?_
      refine m_ld_size B dX10_cuts_25 hM (by omega) (by omega) (fun r25 => ?_)
      refine r_icmp_ge B dX10_cuts_26 (tgt := 140) (by decide) (by omega) (by omega) (fun c26 => ?_) (fun c26 => ?_)
      · have hq : q = msize (240 + x) := by omega
        refine r_iload_n B dX10_cuts_140 rfl ?_
        exact r_iret B hr hlk dX10_cuts_141 (Nat.le_of_ble_eq_true rfl) (Nat.le_of_ble_eq_true rfl) ⟨rfl, by rw [hq] at hM; exact hM⟩
      · have hci := cut_inv (rowF mdata (240 + x)) (msize (240 + x)) mbits mleast mmost q.toNat
        rw [← i3] at hci
        refine r_iload B dX10_cuts_29 rfl ?_
        refine r_iconst B dX10_cuts_31 ?_
        refine r_iadd B dX10_cuts_32 ?_
        refine r_iload_n B dX10_cuts_33 rfl ?_
        refine r_isub B dX10_cuts_34 ?_
        refine r_istore B dX10_cuts_35 (by decide) (lcat_v rfl rfl) ?_
        have join70 : WA p l e rmX10_cuts s m args below meth c g sz0 7 (MQ below (QQ g sz0 (fun v h' => v = some (.int (iI (240 + x))) ∧ MW g ad h0 mthrown mdata msize (putRow mends (48 * (240 + x)) (cutR (rowF mdata (240 + x)) (msize (240 + x)) mbits mleast mmost).2.1 (cutR (rowF mdata (240 + x)) (msize (240 + x)) mbits mleast mmost).2.2) (upZ mmany (240 + x) (cutR (rowF mdata (240 + x)) (msize (240 + x)) mbits mleast mmost).2.1) mkind mchain mholds mnights mbits mleast mmost mroom mreserve mmount mspeed mbid mbound mcheap mpromised mcoin mpaid mowed mturn misAsking mwant mcost misServed mitsRow mitsChunk h')) args s rmX10_cuts.cells rmX10_cuts.slots (A0 sz0)) h 0 0 [some (.ref (ad 0)), some (.int (iI (x))), some (.int (iI (240 + x))), some (.int (iI (bg))), some (.int (iI (q))), some (.int (iI (q + 1 - bg))), none] 70 [.int (iI (bI (mleast ≤ q + 1 - bg ∧ mMask (rowF mdata (240 + x)) mbits q)))] := by
          refine r_istore B dX10_cuts_70 (by decide) (lcat_v rfl rfl) ?_
          have join99 : (cutC (rowF mdata (240 + x)) (msize (240 + x)) mbits mleast mmost (q) (bg)) → WA p l e rmX10_cuts s m args below meth c g sz0 7 (MQ below (QQ g sz0 (fun v h' => v = some (.int (iI (240 + x))) ∧ MW g ad h0 mthrown mdata msize (putRow mends (48 * (240 + x)) (cutR (rowF mdata (240 + x)) (msize (240 + x)) mbits mleast mmost).2.1 (cutR (rowF mdata (240 + x)) (msize (240 + x)) mbits mleast mmost).2.2) (upZ mmany (240 + x) (cutR (rowF mdata (240 + x)) (msize (240 + x)) mbits mleast mmost).2.1) mkind mchain mholds mnights mbits mleast mmost mroom mreserve mmount mspeed mbid mbound mcheap mpromised mcoin mpaid mowed mturn misAsking mwant mcost misServed mitsRow mitsChunk h')) args s rmX10_cuts.cells rmX10_cuts.slots (A0 sz0)) h 0 0 [some (.ref (ad 0)), some (.int (iI (x))), some (.int (iI (240 + x))), some (.int (iI (bg))), some (.int (iI (q))), some (.int (iI (q + 1 - bg))), none] 99 [] := by
            intro  hc
            refine r_aload_n B dX10_cuts_99 rfl rfl ?_
            refine m_get_ends B dX10_cuts_100 in_X10_cuts_X10 w_X10_cuts_f16 hM ?_
            refine r_bipush B dX10_cuts_103 (by decide) ?_
            refine r_iload_n B dX10_cuts_105 rfl ?_
            refine r_imul B dX10_cuts_106 ?_
            refine r_aload_n B dX10_cuts_107 rfl rfl ?_
            refine m_get_many B dX10_cuts_108 in_X10_cuts_X10 w_X10_cuts_f19 hM ?_
            refine r_iload_n B dX10_cuts_111 rfl ?_
            refine m_ld_many B dX10_cuts_112 hM (by omega) (by omega) (fun r112 => ?_)
            rw [upZ_at]
            refine r_iadd B dX10_cuts_113 ?_
            refine r_iload B dX10_cuts_114 rfl ?_
            refine r_iconst B dX10_cuts_116 ?_
            refine r_iadd B dX10_cuts_117 ?_
            refine m_st_ends B dX10_cuts_118 hA hM (by omega) (by omega) (by omega) (fun h hM => ?_)
            refine r_aload_n B dX10_cuts_119 rfl rfl ?_
            refine m_get_many B dX10_cuts_120 in_X10_cuts_X10 w_X10_cuts_f19 hM ?_
            refine r_iload_n B dX10_cuts_123 rfl ?_
            refine r_dup2 B dX10_cuts_124 rfl rfl ?_
            refine m_ld_many B dX10_cuts_125 hM (by omega) (by omega) (fun r125 => ?_)
            rw [upZ_at]
            refine r_iconst B dX10_cuts_126 ?_
            refine r_iadd B dX10_cuts_127 ?_
            refine m_st_many B dX10_cuts_128 hA hM (by omega) (by omega) (by omega) (fun h hM => ?_)
            refine r_iload B dX10_cuts_129 rfl ?_
            refine r_iconst B dX10_cuts_131 ?_
            refine r_iadd B dX10_cuts_132 ?_
            refine r_istore_n B dX10_cuts_133 rfl (by decide) (lcat_v rfl rfl) ?_
            refine r_iinc B dX10_cuts_134 rfl (by decide) (lcat_v rfl rfl) ?_
            refine r_goto B dX10_cuts_137 (tgt := 18) (by decide) ?_
            rw [i3] at hc
            exact r_lv (lvLe_s rfl (lvLe_s rfl (lvLe_s rfl (lvLe_s rfl (lvLe_s rfl (lvLe_n (lvLe_n lvLe_nil))))))) (ih (q + 1) (q + 1) h (by rw [cutSt_t i1.1 hc]; rw [upZ_upZ, putRow_s _ _ _ _ (by omega)] at hM; exact hM) (by omega) (by rw [cutSt_t i1.1 hc]) (by omega))
          refine r_iload B dX10_cuts_72 rfl ?_
          refine r_iconst B dX10_cuts_74 ?_
          refine r_iadd B dX10_cuts_75 ?_
          refine r_aload_n B dX10_cuts_76 rfl rfl ?_
          refine m_get_size B dX10_cuts_77 in_X10_cuts_X10 w_X10_cuts_f13 hM ?_
          refine r_iload_n B dX10_cuts_80 rfl ?_
          refine m_ld_size B dX10_cuts_81 hM (by omega) (by omega) (fun r81 => ?_)
          refine r_icmp_eq B dX10_cuts_82 (tgt := 99) (by decide) (by omega) (by omega) (fun c82 => ?_) (fun c82 => ?_)
          · exact r_lv (lvLe_s rfl (lvLe_s rfl (lvLe_s rfl (lvLe_s rfl (lvLe_s rfl (lvLe_s rfl (lvLe_n lvLe_nil))))))) (join99 (Or.inl c82))
          · refine r_iload B dX10_cuts_85 rfl ?_
            refine r_aload_n B dX10_cuts_87 rfl rfl ?_
            refine m_get_most B dX10_cuts_88 in_X10_cuts_X10 w_X10_cuts_f39 hM (fun r88 => ?_)
            refine r_icmp_eq B dX10_cuts_91 (tgt := 99) (by decide) (by omega) (by omega) (fun c91 => ?_) (fun c91 => ?_)
            · exact r_lv (lvLe_s rfl (lvLe_s rfl (lvLe_s rfl (lvLe_s rfl (lvLe_s rfl (lvLe_s rfl (lvLe_n lvLe_nil))))))) (join99 (Or.inr (Or.inl c91)))
            · refine r_iload B dX10_cuts_94 rfl ?_
              refine r_if_eq B dX10_cuts_96 (tgt := 134) (by decide) (bI_rng _) (fun c96 => ?_) (fun c96 => ?_)
              · replace c96 := bI_0.mp c96
                refine r_iinc B dX10_cuts_134 rfl (by decide) (lcat_v rfl rfl) ?_
                refine r_goto B dX10_cuts_137 (tgt := 18) (by decide) ?_
                have hc : ¬ cutC (rowF mdata (240 + x)) (msize (240 + x)) mbits mleast mmost (q) ((cutSt (rowF mdata (240 + x)) (msize (240 + x)) mbits mleast mmost (q).toNat).1) := by
                  rw [← i3]; rintro (z | z | z)
                  · exact c82 z
                  · exact c91 z
                  · exact c96 z
                exact r_lv (lvLe_s rfl (lvLe_s rfl (lvLe_s rfl (lvLe_s rfl (lvLe_s rfl (lvLe_n (lvLe_n lvLe_nil))))))) (ih (q + 1) bg h (by rw [cutSt_f i1.1 hc]; exact hM) (by omega) (by rw [cutSt_f i1.1 hc]; exact i3) (by omega))
              · replace c96 := bI_n0.mp c96
                exact r_lv (lvLe_s rfl (lvLe_s rfl (lvLe_s rfl (lvLe_s rfl (lvLe_s rfl (lvLe_s rfl (lvLe_n lvLe_nil))))))) (join99 (Or.inr (Or.inr c96)))
        refine r_iload B dX10_cuts_37 rfl ?_
        refine r_aload_n B dX10_cuts_39 rfl rfl ?_
        refine m_get_least B dX10_cuts_40 in_X10_cuts_X10 w_X10_cuts_f36 hM (fun r40 => ?_)
        refine r_icmp_lt B dX10_cuts_43 (tgt := 69) (by decide) (by omega) (by omega) (fun c43 => ?_) (fun c43 => ?_)
        · refine r_iconst B dX10_cuts_69 ?_
          rw [bI_f (fun z : (mleast ≤ q + 1 - bg ∧ mMask (rowF mdata (240 + x)) mbits q) => absurd z.1 (by omega))] at join70
          exact r_lv (lvLe_s rfl (lvLe_s rfl (lvLe_s rfl (lvLe_s rfl (lvLe_s rfl (lvLe_s rfl (lvLe_n lvLe_nil))))))) (join70)
        · refine r_aload_n B dX10_cuts_46 rfl rfl ?_
          refine r_iload_n B dX10_cuts_47 rfl ?_
          refine r_iload B dX10_cuts_48 rfl ?_
          refine r_callV (n := 2) B dX10_cuts_50 (ct_X10_marks l g sz0 ad hA hM _ _ (by omega) (by omega)) gX10_cuts_X10_marks rfl (by decide +kernel) ⟨Nat.le_of_ble_eq_true rfl, Nat.le_of_ble_eq_true rfl⟩ hM.obj rfl rfl rfl (Nat.le_of_ble_eq_true rfl) (Nat.le_of_ble_eq_true rfl) (Nat.le_of_ble_eq_true rfl) (fun v h' hp => ?_)
          obtain ⟨hv, hh⟩ := hp
          subst v
          subst h'
          dsimp only [Option.toList, List.cons_append, List.nil_append]
          refine r_iconst B dX10_cuts_53 ?_
          refine r_aload_n B dX10_cuts_54 rfl rfl ?_
          refine m_get_bits B dX10_cuts_55 in_X10_cuts_X10 w_X10_cuts_f32 hM (fun r55 => ?_)
          refine r_ishl B dX10_cuts_58 ?_
          refine r_iconst B dX10_cuts_59 ?_
          refine r_isubr B dX10_cuts_60 ?_
          refine r_iand B dX10_cuts_61 ?_
          refine r_ifr_ne B dX10_cuts_62 (tgt := 69) (by decide) (fun c62 => ?_) (fun c62 => ?_)
          · refine r_iconst B dX10_cuts_69 ?_
            rw [bI_f (fun z : (mleast ≤ q + 1 - bg ∧ mMask (rowF mdata (240 + x)) mbits q) => c62 z.2)] at join70
            exact r_lv (lvLe_s rfl (lvLe_s rfl (lvLe_s rfl (lvLe_s rfl (lvLe_s rfl (lvLe_s rfl (lvLe_n lvLe_nil))))))) (join70)
          · refine r_iconst B dX10_cuts_65 ?_
            refine r_goto B dX10_cuts_66 (tgt := 70) (by decide) ?_
            rw [bI_t (show (mleast ≤ q + 1 - bg ∧ mMask (rowF mdata (240 + x)) mbits q) from ⟨by omega, c62⟩)] at join70
            exact r_lv (lvLe_s rfl (lvLe_s rfl (lvLe_s rfl (lvLe_s rfl (lvLe_s rfl (lvLe_s rfl (lvLe_n lvLe_nil))))))) (join70)
  have e0 : (cutSt (rowF mdata (240 + x)) (msize (240 + x)) mbits mleast mmost (0 : Int).toNat) = (0, 0, fun _ => 0) := rfl
  exact r_lv (lvLe_s rfl (lvLe_s rfl (lvLe_s rfl (lvLe_s rfl (lvLe_s rfl (lvLe_n (lvLe_n lvLe_nil))))))) (loop18 _ 0 0 h (by rw [e0, putRow_0]; exact hM) (by omega) rfl (Nat.lt_succ_self _))
