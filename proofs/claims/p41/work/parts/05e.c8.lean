abbrev rmX0_linkBytes : Room := { frames := 3, cells := 0, slots := 0, locals := 73 }
theorem in_X0_linkBytes_X0 : ∀ w ∈ wsX00, w ∈ wsX0_linkBytes := by decide +kernel
theorem w_X0_linkBytes_f22 : Cond.fieldLink RX0 22 "DeltaNights$ByteFile" "parts" "I" ∈ wsX0_linkBytes := by decide +kernel
set_option maxHeartbeats 4000000 in
set_option maxRecDepth 100000 in
theorem ct_X0_linkBytes (l : Launch) (g : GG) (sz0 : Nat) {h h0 : AH} {f ac ae : Nat} {G Eg : Int → Int} {sz pt : Int} (hF : FL g f ac ae G Eg sz pt h0 h) {LE : Nat → Option Nat} {RK1 : Nat → Int → Nat} {RN : Nat → Int} {HK1 : Nat → Int → Nat} {HN : Nat → Int} {La : Int → Nat} {len : Int} (hCH : CHN g LE RK1 RN HK1 HN La len h) {CA : Nat → Nat} {PV : Nat → Option Nat} {CF : Nat → Int → Int} {CN : Nat → Int} (hE : EOK Eg pt) (hHK : ∀ i : Int, 0 ≤ i → i < len → RK g CA PV CF CN (HK1 (La i)) (HN (La i)) h) : CT l yX0_linkBytes wsX0_linkBytes rmX0_linkBytes g sz0 [.ref f, va_rf (ptr La len 0)] h (fun v h' => v = some (.int (iI (pt + sumZ (fun k => bI (fstC (chk G Eg) k ∧ ¬ chRun CF CN HK1 HN G (bgF Eg k) (lnF Eg k) La len) * lnF Eg k) pt.toNat))) ∧ h' = h) := by
  refine CT.of (by decide +kernel) rfl [some (.ref f), some (va_rf (ptr La len 0)), none, none, none, none, none] (by generalize ptr La len 0 = o; cases o <;> rfl) (by generalize ptr La len 0 = o; cases o <;> exact Nat.le_of_ble_eq_true rfl) ?_
  intro p e s m args below meth c B hr hlk hnm
  have ht9 := hF.t
  refine r_aload_n B dX0_linkBytes_0 rfl rfl ?_
  refine r_get (C := RX0) (T := TX0) (N := 4) (ci := 0) B dX0_linkBytes_1 in_X0_linkBytes_X0 rfl 3 (by decide) w_X0_linkBytes_f22 rfl hF.1 rfl ?_
  refine r_istore_n B dX0_linkBytes_4 rfl (by decide) (lcat_v rfl (va_rf_cat _)) ?_
  refine r_iconst B dX0_linkBytes_5 ?_
  refine r_istore_n B dX0_linkBytes_6 rfl (by decide) (lcat_v rfl rfl) ?_
  have loop7 : ∀ (nn : Nat) (q : Int) (u : Int), (0 ≤ q ∧ q ≤ pt) → (u = pt + sumZ (fun k => bI (fstC (chk G Eg) k ∧ ¬ chRun CF CN HK1 HN G (bgF Eg k) (lnF Eg k) La len) * lnF Eg k) q.toNat) → (pt - q).toNat < nn → WA p l e rmX0_linkBytes s m args below meth c g sz0 7 (MQ below (QQ g sz0 (fun v h' => v = some (.int (iI (pt + sumZ (fun k => bI (fstC (chk G Eg) k ∧ ¬ chRun CF CN HK1 HN G (bgF Eg k) (lnF Eg k) La len) * lnF Eg k) pt.toNat))) ∧ h' = h)) args s rmX0_linkBytes.cells rmX0_linkBytes.slots (A0 sz0)) h 0 0 [some (.ref f), some (va_rf (ptr La len 0)), some (.int (iI (u))), some (.int (iI (q))), none, none, none] 7 [] := by
    intro nn
    induction nn with
    | zero => intro q u i1 i2 hn; exact absurd hn (Nat.not_lt_zero _)
    | succ nn ih =>
      intro q u i1 i2 hn
      refine r_iload_n B dX0_linkBytes_7 rfl ?_
      refine r_aload_n B dX0_linkBytes_8 rfl rfl ?_
      refine r_get (C := RX0) (T := TX0) (N := 4) (ci := 0) B dX0_linkBytes_9 in_X0_linkBytes_X0 rfl 3 (by decide) w_X0_linkBytes_f22 rfl hF.1 rfl ?_
      refine r_icmp_ge B dX0_linkBytes_12 (tgt := 85) (by decide) (by omega) (by omega) (fun c12 => ?_) (fun c12 => ?_)
      · refine r_iload_n B dX0_linkBytes_85 rfl ?_
        exact r_iret B hr hlk dX0_linkBytes_86 (Nat.le_of_ble_eq_true rfl) (Nat.le_of_ble_eq_true rfl) ⟨by rw [i2, show q = pt by omega], rfl⟩
      · have hek := hE q i1.1 (by omega)
        have hln : lnF Eg q = Eg q - bgF Eg q := rfl
        refine r_aload_n B dX0_linkBytes_15 rfl rfl ?_
        refine r_iload_n B dX0_linkBytes_16 rfl ?_
        refine r_iconst B dX0_linkBytes_17 ?_
        refine r_isub B dX0_linkBytes_18 ?_
        refine r_callV (n := 1) B dX0_linkBytes_19 (ct_X0_partEnd l g sz0 hF _ (by omega)) gX0_linkBytes_X0_partEnd rfl (by decide +kernel) ⟨Nat.le_of_ble_eq_true rfl, Nat.le_of_ble_eq_true rfl⟩ hF.1 rfl rfl rfl (Nat.le_of_ble_eq_true rfl) (Nat.le_of_ble_eq_true rfl) (Nat.le_of_ble_eq_true rfl) (fun v h' hp => ?_)
        obtain ⟨hv, hh⟩ := hp
        subst v
        subst h'
        dsimp only [Option.toList, List.cons_append, List.nil_append]
        rw [ptF_bg i1.1 (by omega)]
        refine r_istore B dX0_linkBytes_22 (by decide) (lcat_v rfl rfl) ?_
        refine r_aload_n B dX0_linkBytes_24 rfl rfl ?_
        refine r_iload_n B dX0_linkBytes_25 rfl ?_
        refine r_callV (n := 1) B dX0_linkBytes_26 (ct_X0_partEnd l g sz0 hF _ (by omega)) gX0_linkBytes_X0_partEnd rfl (by decide +kernel) ⟨Nat.le_of_ble_eq_true rfl, Nat.le_of_ble_eq_true rfl⟩ hF.1 rfl rfl rfl (Nat.le_of_ble_eq_true rfl) (Nat.le_of_ble_eq_true rfl) (Nat.le_of_ble_eq_true rfl) (fun v h' hp => ?_)
        obtain ⟨hv, hh⟩ := hp
        subst v
        subst h'
        dsimp only [Option.toList, List.cons_append, List.nil_append]
        rw [ptF_in (by omega)]
        refine r_iload B dX0_linkBytes_29 rfl ?_
        refine r_isub B dX0_linkBytes_31 ?_
        refine r_topz (y := (lnF Eg q)) (rfl) ?_
        refine r_istore B dX0_linkBytes_32 (by decide) (lcat_v rfl rfl) ?_
        refine r_aload_n B dX0_linkBytes_34 rfl (va_rf_isRef _) ?_
        refine r_ifnull B dX0_linkBytes_35 (tgt := 54) (by decide) (fun c35 => ?_) (fun a35 c35 => ?_)
        · refine r_iconst B dX0_linkBytes_54 ?_
          refine r_istore B dX0_linkBytes_55 (by decide) (lcat_v rfl rfl) ?_
          refine r_iload B dX0_linkBytes_57 rfl ?_
          refine r_if_ne B dX0_linkBytes_59 (tgt := 79) (by decide) (by omega) (fun c59 => ?_) (fun c59 => ?_)
          · exact absurd c59 (by decide)
          · refine r_aload_n B dX0_linkBytes_62 rfl rfl ?_
            refine r_iload_n B dX0_linkBytes_63 rfl ?_
            refine r_iload B dX0_linkBytes_64 rfl ?_
            refine r_iload B dX0_linkBytes_66 rfl ?_
            refine r_callV (n := 3) B dX0_linkBytes_68 (ct_X0_hasPartBefore l g sz0 hF _ _ _ (by omega) rfl rfl hE) gX0_linkBytes_X0_hasPartBefore rfl (by decide +kernel) ⟨Nat.le_of_ble_eq_true rfl, Nat.le_of_ble_eq_true rfl⟩ hF.1 rfl rfl rfl (Nat.le_of_ble_eq_true rfl) (Nat.le_of_ble_eq_true rfl) (Nat.le_of_ble_eq_true rfl) (fun v h' hp => ?_)
            obtain ⟨hv, hh⟩ := hp
            subst v
            subst h'
            dsimp only [Option.toList, List.cons_append, List.nil_append]
            refine r_if_ne B dX0_linkBytes_71 (tgt := 79) (by decide) (bI_rng _) (fun c71 => ?_) (fun c71 => ?_)
            · replace c71 := bI_n0.mp c71
              refine r_iinc B dX0_linkBytes_79 rfl (by decide) (lcat_v rfl rfl) ?_
              refine r_goto B dX0_linkBytes_82 (tgt := 7) (by decide) ?_
              exact r_lv (lvLe_s rfl (lvLe_s rfl (lvLe_s rfl (lvLe_s rfl (lvLe_n (lvLe_n (lvLe_n lvLe_nil))))))) (ih (q + 1) _ (by omega) (by rw [sumZ_s _ i1.1, bI_f (show ¬ (fstC (chk G Eg) q ∧ ¬ chRun CF CN HK1 HN G (bgF Eg q) (lnF Eg q) La len) from fun y => c71 y.1), i2]; omega) (by omega))
            · replace c71 := bI_0.mp c71
              refine r_iload_n B dX0_linkBytes_74 rfl ?_
              refine r_iload B dX0_linkBytes_75 rfl ?_
              refine r_iadd B dX0_linkBytes_77 ?_
              refine r_istore_n B dX0_linkBytes_78 rfl (by decide) (lcat_v rfl (va_rf_cat _)) ?_
              refine r_iinc B dX0_linkBytes_79 rfl (by decide) (lcat_v rfl rfl) ?_
              refine r_goto B dX0_linkBytes_82 (tgt := 7) (by decide) ?_
              exact r_lv (lvLe_s rfl (lvLe_s rfl (lvLe_s rfl (lvLe_s rfl (lvLe_n (lvLe_n (lvLe_n lvLe_nil))))))) (ih (q + 1) _ (by omega) (by rw [sumZ_s _ i1.1, bI_t (show fstC (chk G Eg) q ∧ ¬ chRun CF CN HK1 HN G (bgF Eg q) (lnF Eg q) La len from ⟨Classical.byContradiction (fun y => c71 y), fun y => by obtain ⟨i, y0, y1, y2⟩ := y; exact ptr_none c35 (by omega)⟩), i2]; omega) (by omega))
        · have hl9 := ptr_some c35
          obtain ⟨hl0, rr, rra, rh, rha, fq1, fq2, hl1, hl2, hl3⟩ := hCH 0 (by omega) hl9
          refine r_aload_n B dX0_linkBytes_38 rfl (va_rf_isRef _) ?_
          refine r_topr (ptr_in (ptr_some c35)) ?_
          refine r_aload_n B dX0_linkBytes_39 rfl rfl ?_
          refine r_iload B dX0_linkBytes_40 rfl ?_
          refine r_iload B dX0_linkBytes_42 rfl ?_
          refine r_callV (n := 3) B dX0_linkBytes_44 (ct_X5_chainHoldsRun l g sz0 hF hCH _ _ hl9 (by omega) hHK) gX0_linkBytes_X5_chainHoldsRun rfl (by decide +kernel) ⟨Nat.le_of_ble_eq_true rfl, Nat.le_of_ble_eq_true rfl⟩ hl1 rfl rfl rfl (Nat.le_of_ble_eq_true rfl) (Nat.le_of_ble_eq_true rfl) (Nat.le_of_ble_eq_true rfl) (fun v h' hp => ?_)
          obtain ⟨hv, hh⟩ := hp
          subst v
          subst h'
          dsimp only [Option.toList, List.cons_append, List.nil_append]
          refine r_if_eq B dX0_linkBytes_47 (tgt := 54) (by decide) (bI_rng _) (fun c47 => ?_) (fun c47 => ?_)
          · replace c47 := bI_0.mp c47
            refine r_iconst B dX0_linkBytes_54 ?_
            refine r_istore B dX0_linkBytes_55 (by decide) (lcat_v rfl rfl) ?_
            refine r_iload B dX0_linkBytes_57 rfl ?_
            refine r_if_ne B dX0_linkBytes_59 (tgt := 79) (by decide) (by omega) (fun c59 => ?_) (fun c59 => ?_)
            · exact absurd c59 (by decide)
            · refine r_aload_n B dX0_linkBytes_62 rfl rfl ?_
              refine r_iload_n B dX0_linkBytes_63 rfl ?_
              refine r_iload B dX0_linkBytes_64 rfl ?_
              refine r_iload B dX0_linkBytes_66 rfl ?_
              refine r_callV (n := 3) B dX0_linkBytes_68 (ct_X0_hasPartBefore l g sz0 hF _ _ _ (by omega) rfl rfl hE) gX0_linkBytes_X0_hasPartBefore rfl (by decide +kernel) ⟨Nat.le_of_ble_eq_true rfl, Nat.le_of_ble_eq_true rfl⟩ hF.1 rfl rfl rfl (Nat.le_of_ble_eq_true rfl) (Nat.le_of_ble_eq_true rfl) (Nat.le_of_ble_eq_true rfl) (fun v h' hp => ?_)
              obtain ⟨hv, hh⟩ := hp
              subst v
              subst h'
              dsimp only [Option.toList, List.cons_append, List.nil_append]
              refine r_if_ne B dX0_linkBytes_71 (tgt := 79) (by decide) (bI_rng _) (fun c71 => ?_) (fun c71 => ?_)
              · replace c71 := bI_n0.mp c71
                refine r_iinc B dX0_linkBytes_79 rfl (by decide) (lcat_v rfl rfl) ?_
                refine r_goto B dX0_linkBytes_82 (tgt := 7) (by decide) ?_
                exact r_lv (lvLe_s rfl (lvLe_s rfl (lvLe_s rfl (lvLe_s rfl (lvLe_n (lvLe_n (lvLe_n lvLe_nil))))))) (ih (q + 1) _ (by omega) (by rw [sumZ_s _ i1.1, bI_f (show ¬ (fstC (chk G Eg) q ∧ ¬ chRun CF CN HK1 HN G (bgF Eg q) (lnF Eg q) La len) from fun y => c71 y.1), i2]; omega) (by omega))
              · replace c71 := bI_0.mp c71
                refine r_iload_n B dX0_linkBytes_74 rfl ?_
                refine r_iload B dX0_linkBytes_75 rfl ?_
                refine r_iadd B dX0_linkBytes_77 ?_
                refine r_istore_n B dX0_linkBytes_78 rfl (by decide) (lcat_v rfl (va_rf_cat _)) ?_
                refine r_iinc B dX0_linkBytes_79 rfl (by decide) (lcat_v rfl rfl) ?_
                refine r_goto B dX0_linkBytes_82 (tgt := 7) (by decide) ?_
                exact r_lv (lvLe_s rfl (lvLe_s rfl (lvLe_s rfl (lvLe_s rfl (lvLe_n (lvLe_n (lvLe_n lvLe_nil))))))) (ih (q + 1) _ (by omega) (by rw [sumZ_s _ i1.1, bI_t (show fstC (chk G Eg) q ∧ ¬ chRun CF CN HK1 HN G (bgF Eg q) (lnF Eg q) La len from ⟨Classical.byContradiction (fun y => c71 y), c47⟩), i2]; omega) (by omega))
          · replace c47 := bI_n0.mp c47
            refine r_iconst B dX0_linkBytes_50 ?_
            refine r_goto B dX0_linkBytes_51 (tgt := 55) (by decide) ?_
            refine r_istore B dX0_linkBytes_55 (by decide) (lcat_v rfl rfl) ?_
            refine r_iload B dX0_linkBytes_57 rfl ?_
            refine r_if_ne B dX0_linkBytes_59 (tgt := 79) (by decide) (by omega) (fun c59 => ?_) (fun c59 => ?_)
            · refine r_iinc B dX0_linkBytes_79 rfl (by decide) (lcat_v rfl rfl) ?_
              refine r_goto B dX0_linkBytes_82 (tgt := 7) (by decide) ?_
              exact r_lv (lvLe_s rfl (lvLe_s rfl (lvLe_s rfl (lvLe_s rfl (lvLe_n (lvLe_n (lvLe_n lvLe_nil))))))) (ih (q + 1) _ (by omega) (by rw [sumZ_s _ i1.1, bI_f (show ¬ (fstC (chk G Eg) q ∧ ¬ chRun CF CN HK1 HN G (bgF Eg q) (lnF Eg q) La len) from fun y => y.2 c47), i2]; omega) (by omega))
            · exact absurd c59 (by decide)
  exact r_lv (lvLe_s rfl (lvLe_s rfl (lvLe_s rfl (lvLe_s rfl (lvLe_n (lvLe_n (lvLe_n lvLe_nil))))))) (loop7 _ 0 _ (by omega) (by show _ = _ + 0; omega) (Nat.lt_succ_self _))
abbrev rmX0_isCutAs : Room := { frames := 1, cells := 0, slots := 0, locals := 24 }
theorem in_X0_isCutAs_X2 : ∀ w ∈ wsX20, w ∈ wsX0_isCutAs := by decide +kernel
theorem w_X0_isCutAs_f33 : Cond.fieldLink RX0 33 "DeltaNights$ChunkRow" "count" "I" ∈ wsX0_isCutAs := by decide +kernel
theorem in_X0_isCutAs_X0 : ∀ w ∈ wsX00, w ∈ wsX0_isCutAs := by decide +kernel
theorem w_X0_isCutAs_f22 : Cond.fieldLink RX0 22 "DeltaNights$ByteFile" "parts" "I" ∈ wsX0_isCutAs := by decide +kernel
set_option maxHeartbeats 4000000 in
set_option maxRecDepth 100000 in
theorem ct_X0_isCutAs (l : Launch) (g : GG) (sz0 : Nat) {h h0 : AH} {f ac ae : Nat} {G Eg : Int → Int} {sz pt : Int} (hF : FL g f ac ae G Eg sz pt h0 h) {r ra : Nat} {fq : Int → Option Nat} {K : Int → Nat} {cn : Int} (hR2 : RW g r ra fq K cn h) {CA : Nat → Nat} {PV : Nat → Option Nat} {CF : Nat → Int → Int} {CN : Nat → Int} (hK : RK g CA PV CF CN K cn h) (hE : EOK Eg pt) : CT l yX0_isCutAs wsX0_isCutAs rmX0_isCutAs g sz0 [.ref f, .ref r] h (fun v h' => v = some (.int (iI (bI (cn = pt ∧ allN (fun k => runP CF CN G (bgF Eg k) (lnF Eg k) (K k)) pt)))) ∧ h' = h) := by
  refine CT.of (by decide +kernel) rfl [some (.ref f), some (.ref r), none, none, none] rfl (Nat.le_of_ble_eq_true rfl) ?_
  intro p e s m args below meth c B hr hlk hnm
  have ht9 := hF.t
  have hn9 := hR2.2.2.1
  refine r_aload_n B dX0_isCutAs_0 rfl rfl ?_
  refine r_get (C := RX2) (T := TX2) (N := 2) (ci := 2) B dX0_isCutAs_1 in_X0_isCutAs_X2 rfl 1 (by decide) w_X0_isCutAs_f33 rfl hR2.1 rfl ?_
  refine r_aload_n B dX0_isCutAs_4 rfl rfl ?_
  refine r_get (C := RX0) (T := TX0) (N := 4) (ci := 0) B dX0_isCutAs_5 in_X0_isCutAs_X0 rfl 3 (by decide) w_X0_isCutAs_f22 rfl hF.1 rfl ?_
  refine r_icmp_eq B dX0_isCutAs_8 (tgt := 13) (by decide) (by omega) (by omega) (fun c8 => ?_) (fun c8 => ?_)
  · refine r_iconst B dX0_isCutAs_13 ?_
    refine r_istore_n B dX0_isCutAs_14 rfl (by decide) (lcat_v rfl rfl) ?_
    have loop15 : ∀ (nn : Nat) (q : Int), (0 ≤ q ∧ q ≤ pt) → (allN (fun k => runP CF CN G (bgF Eg k) (lnF Eg k) (K k)) q) → (pt - q).toNat < nn → WA p l e rmX0_isCutAs s m args below meth c g sz0 5 (MQ below (QQ g sz0 (fun v h' => v = some (.int (iI (bI (cn = pt ∧ allN (fun k => runP CF CN G (bgF Eg k) (lnF Eg k) (K k)) pt)))) ∧ h' = h)) args s rmX0_isCutAs.cells rmX0_isCutAs.slots (A0 sz0)) h 0 0 [some (.ref f), some (.ref r), some (.int (iI (q))), none, none] 15 [] := by
      intro nn
      induction nn with
      | zero => intro q i1 i2 hn; exact absurd hn (Nat.not_lt_zero _)
      | succ nn ih =>
        intro q i1 i2 hn
        refine r_iload_n B dX0_isCutAs_15 rfl ?_
        refine r_aload_n B dX0_isCutAs_16 rfl rfl ?_
        refine r_get (C := RX0) (T := TX0) (N := 4) (ci := 0) B dX0_isCutAs_17 in_X0_isCutAs_X0 rfl 3 (by decide) w_X0_isCutAs_f22 rfl hF.1 rfl ?_
        refine r_icmp_ge B dX0_isCutAs_20 (tgt := 68) (by decide) (by omega) (by omega) (fun c20 => ?_) (fun c20 => ?_)
        · refine r_iconst B dX0_isCutAs_68 ?_
          exact r_zret B hr hlk dX0_isCutAs_69 (Nat.le_of_ble_eq_true rfl) (Nat.le_of_ble_eq_true rfl) (by first | exact nar_0 | exact nar_1 | exact nar_bI _) ⟨by rw [bI_t ⟨c8, by rw [show pt = q by omega]; exact i2⟩], rfl⟩
        · have hek := hE q i1.1 (by omega)
          have hln : lnF Eg q = Eg q - bgF Eg q := rfl
          refine r_aload_n B dX0_isCutAs_23 rfl rfl ?_
          refine r_iload_n B dX0_isCutAs_24 rfl ?_
          refine r_iconst B dX0_isCutAs_25 ?_
          refine r_isub B dX0_isCutAs_26 ?_
          refine r_callV (n := 1) B dX0_isCutAs_27 (ct_X0_partEnd l g sz0 hF _ (by omega)) gX0_isCutAs_X0_partEnd rfl (by decide +kernel) ⟨Nat.le_of_ble_eq_true rfl, Nat.le_of_ble_eq_true rfl⟩ hF.1 rfl rfl rfl (Nat.le_of_ble_eq_true rfl) (Nat.le_of_ble_eq_true rfl) (Nat.le_of_ble_eq_true rfl) (fun v h' hp => ?_)
          obtain ⟨hv, hh⟩ := hp
          subst v
          subst h'
          dsimp only [Option.toList, List.cons_append, List.nil_append]
          rw [ptF_bg i1.1 (by omega)]
          refine r_istore_n B dX0_isCutAs_30 rfl (by decide) (lcat_v rfl rfl) ?_
          refine r_aload_n B dX0_isCutAs_31 rfl rfl ?_
          refine r_iload_n B dX0_isCutAs_32 rfl ?_
          refine r_callV (n := 1) B dX0_isCutAs_33 (ct_X2_chunkAt l g sz0 hR2 _ (by omega)) gX0_isCutAs_X2_chunkAt rfl (by decide +kernel) ⟨Nat.le_of_ble_eq_true rfl, Nat.le_of_ble_eq_true rfl⟩ hR2.1 rfl rfl rfl (Nat.le_of_ble_eq_true rfl) (Nat.le_of_ble_eq_true rfl) (Nat.le_of_ble_eq_true rfl) (fun v h' hp => ?_)
          obtain ⟨hv, hh⟩ := hp
          subst v
          subst h'
          dsimp only [Option.toList, List.cons_append, List.nil_append]
          have hck := hK q i1.1 (by omega)
          refine r_astore B dX0_isCutAs_36 rfl (by decide) (lcat_v rfl rfl) ?_
          refine r_aload B dX0_isCutAs_38 rfl rfl ?_
          refine r_ifnull_r B dX0_isCutAs_40 ?_
          refine r_aload B dX0_isCutAs_43 rfl rfl ?_
          refine r_aload_n B dX0_isCutAs_45 rfl rfl ?_
          refine r_iload_n B dX0_isCutAs_46 rfl ?_
          refine r_aload_n B dX0_isCutAs_47 rfl rfl ?_
          refine r_iload_n B dX0_isCutAs_48 rfl ?_
          refine r_callV (n := 1) B dX0_isCutAs_49 (ct_X0_partEnd l g sz0 hF _ (by omega)) gX0_isCutAs_X0_partEnd rfl (by decide +kernel) ⟨Nat.le_of_ble_eq_true rfl, Nat.le_of_ble_eq_true rfl⟩ hF.1 rfl rfl rfl (Nat.le_of_ble_eq_true rfl) (Nat.le_of_ble_eq_true rfl) (Nat.le_of_ble_eq_true rfl) (fun v h' hp => ?_)
          obtain ⟨hv, hh⟩ := hp
          subst v
          subst h'
          dsimp only [Option.toList, List.cons_append, List.nil_append]
          rw [ptF_in (by omega)]
          refine r_iload_n B dX0_isCutAs_52 rfl ?_
          refine r_isub B dX0_isCutAs_53 ?_
          refine r_topz (y := (lnF Eg q)) (rfl) ?_
          refine r_callV (n := 3) B dX0_isCutAs_54 (ct_X1_isRun l g sz0 hF hck _ _ (by omega)) gX0_isCutAs_X1_isRun rfl (by decide +kernel) ⟨Nat.le_of_ble_eq_true rfl, Nat.le_of_ble_eq_true rfl⟩ hck.1 rfl rfl rfl (Nat.le_of_ble_eq_true rfl) (Nat.le_of_ble_eq_true rfl) (Nat.le_of_ble_eq_true rfl) (fun v h' hp => ?_)
          obtain ⟨hv, hh⟩ := hp
          subst v
          subst h'
          dsimp only [Option.toList, List.cons_append, List.nil_append]
          refine r_if_ne B dX0_isCutAs_57 (tgt := 62) (by decide) (bI_rng _) (fun c57 => ?_) (fun c57 => ?_)
          · replace c57 := bI_n0.mp c57
            refine r_iinc B dX0_isCutAs_62 rfl (by decide) (lcat_v rfl rfl) ?_
            refine r_goto B dX0_isCutAs_65 (tgt := 15) (by decide) ?_
            exact r_lv (lvLe_s rfl (lvLe_s rfl (lvLe_s rfl (lvLe_n (lvLe_n lvLe_nil))))) (ih (q + 1) (by omega) ((allN_s i1.1).mpr ⟨i2, c57⟩) (by omega))
          · replace c57 := bI_0.mp c57
            refine r_iconst B dX0_isCutAs_60 ?_
            exact r_zret B hr hlk dX0_isCutAs_61 (Nat.le_of_ble_eq_true rfl) (Nat.le_of_ble_eq_true rfl) (by first | exact nar_0 | exact nar_1 | exact nar_bI _) ⟨by rw [bI_f (fun y => c57 (y.2 q i1.1 (by omega)))], rfl⟩
    exact r_lv (lvLe_s rfl (lvLe_s rfl (lvLe_s rfl (lvLe_n (lvLe_n lvLe_nil))))) (loop15 _ 0 (by omega) (allN_0 _) (Nat.lt_succ_self _))
  · refine r_iconst B dX0_isCutAs_11 ?_
    exact r_zret B hr hlk dX0_isCutAs_12 (Nat.le_of_ble_eq_true rfl) (Nat.le_of_ble_eq_true rfl) (by first | exact nar_0 | exact nar_1 | exact nar_bI _) ⟨by rw [bI_f (fun y => c8 y.1)], rfl⟩
