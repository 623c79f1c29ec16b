abbrev rmX6_hold : Room := { frames := 5, cells := 0, slots := 0, locals := 122 }
theorem in_X6_hold_X6 : ∀ w ∈ wsX60, w ∈ wsX6_hold := by decide +kernel
theorem w_X6_hold_f17 : Cond.fieldLink RX6 17 "DeltaNights$Market" "room" "I" ∈ wsX6_hold := by decide +kernel
theorem w_X6_hold_f11 : Cond.fieldLink RX6 11 "DeltaNights$Market" "turns" "[LDeltaNights$Client;" ∈ wsX6_hold := by decide +kernel
theorem in_X6_hold_X3 : ∀ w ∈ wsX30, w ∈ wsX6_hold := by decide +kernel
theorem w_X6_hold_f41 : Cond.fieldLink RX6 41 "DeltaNights$Client" "waits" "Z" ∈ wsX6_hold := by decide +kernel
theorem w_X6_hold_f21 : Cond.fieldLink RX6 21 "DeltaNights$Market" "reserve" "I" ∈ wsX6_hold := by decide +kernel
theorem w_X6_hold_f24 : Cond.fieldLink RX6 24 "DeltaNights$Client" "file" "LDeltaNights$ByteFile;" ∈ wsX6_hold := by decide +kernel
theorem w_X6_hold_f34 : Cond.fieldLink RX6 34 "DeltaNights$Client" "gets" "I" ∈ wsX6_hold := by decide +kernel
set_option maxHeartbeats 4000000 in
set_option maxRecDepth 100000 in
theorem ct_X6_hold (l : Launch) (g : GG) (sz0 : Nat) {A : Nat → Nat} (hA : AOK A) {h0 h : AH} {ng : Int} {bt : Int} {ls : Int} {ms : Int} {rm : Int} {rs : Int} {mo : Int} {sp : Int} {kp : Int} {hl : Option Nat} {tq : Int → Option Nat} {G : Int → Int → Int} {Eg : Int → Int → Int} {sz : Int → Int} {pt : Int → Int} {bd : Int → Int} {bo : Int → Int} {cp : Int → Int} {pr : Int → Int} {co : Int → Int} {pa : Int → Int} {ow : Int → Int} {wt : Int → Int} {gt : Int → Int} {pc : Int → Int} {LN : Int → Int → Option Nat} {lt : Int → Option Nat} (hC : CW g A h0 ng bt ls ms rm rs mo sp kp hl tq G Eg sz pt bd bo cp pr co pa ow wt gt pc LN lt h) {hK : AH} {LE : Nat → Option Nat} {RK1 : Nat → Int → Nat} {RN : Nat → Int} {HK1 : Nat → Int → Nat} {HN : Nat → Int} {CA : Nat → Nat} {PV : Nat → Option Nat} {CF : Nat → Int → Int} {CN : Nat → Int} {La : Int → Int → Nat} {len : Int → Int} {WB NC OT AK : Int → Prop} {BS DF : Int → Int} (hSub : SUB A hK h0) (hCHC : CHC g LE RK1 RN HK1 HN CA PV CF CN La len lt hK) (hG : ∀ x : Int, 0 ≤ x → x ≤ 3 → ∀ j : Int, 0 ≤ G x j ∧ G x j ≤ 255) (hms : 1 ≤ ms ∧ ms ≤ 24 ∧ 0 ≤ ls ∧ ls < 100) (hrm : 0 ≤ rm ∧ rm ≤ 500) (hrs : 0 ≤ rs ∧ rs ≤ 50) (hbd : ∀ x : Int, 0 ≤ x → x ≤ 3 → 0 ≤ bd x ∧ bd x ≤ 100) (hbo : ∀ x : Int, 0 ≤ x → x ≤ 3 → 0 ≤ bo x ∧ bo x ≤ 30) (hcp : ∀ x : Int, 0 ≤ x → x ≤ 3 → 0 ≤ cp x ∧ cp x ≤ 50) (hWB : ∀ x : Int, 0 ≤ x → x ≤ 3 → ((len x = 0 ∨ (bo x ≤ len x - 1 ∧ rs ≤ cp x)) ↔ WB x)) (hOT : ∀ x : Int, 0 ≤ x → x ≤ 3 → ((0 < len x ∧ ¬ (RN (La x 0) = (ctN G sz bt ls ms) x ∧ allN (fun k => runP CF CN (G x) (bgF ((ctE Eg G sz bt ls ms) x) k) (lnF ((ctE Eg G sz bt ls ms) x) k) (RK1 (La x 0) k)) ((ctN G sz bt ls ms) x))) ↔ OT x ∧ ¬ NC x)) (hNW : ∀ x : Int, 0 ≤ x → x ≤ 3 → NC x → WB x) (hAK : ∀ x : Int, 0 ≤ x → x ≤ 3 → (AK x ↔ 0 < bd x ∧ rs ≤ bd x ∧ (WB x ∨ (OT x ∧ ¬ NC x)))) (hBS : ∀ x : Int, 0 ≤ x → x ≤ 3 → difB (G x) ((ctE Eg G sz bt ls ms) x) ((ctN G sz bt ls ms) x) (chP CF CN HK1 HN (La x) 0) = BS x) (hDF : ∀ x : Int, 0 ≤ x → x ≤ 3 → difB (G x) ((ctE Eg G sz bt ls ms) x) ((ctN G sz bt ls ms) x) (chP CF CN HK1 HN (La x) (len x)) = DF x)  : CT l yX6_hold wsX6_hold rmX6_hold g sz0 [.ref (A 4), .ref (A 1), .ref (A 2)] h (fun v h' => v = none ∧ ∃ (t : Int) (tu : Int → Int) (tq1 : Int → Option Nat) (wt1 gt1 : Int → Int) (L : Int), HI WB NC OT AK BS DF rm A bd 4 t tu tq1 wt1 gt1 L ∧ CW g A h0 ng bt ls ms rm rs mo sp kp hl tq1 G (mixF 4 (ctE Eg G sz bt ls ms) Eg) sz (mixF 4 (ctN G sz bt ls ms) pt) bd bo cp pr co pa ow wt1 gt1 (prS gt1 bd tu rs pc 4).2 LN lt h') := by
  refine CT.of (by decide +kernel) rfl [some (.ref (A 4)), some (.ref (A 1)), some (.ref (A 2)), none, none, none] rfl (Nat.le_of_ble_eq_true rfl) ?_
  intro p e s m args below meth c B hr hlk hnm
  obtain ⟨fc, hQC, hfc⟩ := hC.qc
  refine r_iconst B dX6_hold_0 ?_
  refine r_istore_n B dX6_hold_1 rfl (by decide) (lcat_v rfl rfl) ?_
  have loop2 : ∀ (nn : Nat) (q : Int) (h : AH), CW g A h0 ng bt ls ms rm rs mo sp kp hl tq G (mixF q (ctE Eg G sz bt ls ms) Eg) sz (mixF q (ctN G sz bt ls ms) pt) bd bo cp pr co pa ow (mixF q (fun x => bI (AK x)) wt) (mixF q (fun _ => (0 : Int)) gt) pc LN lt h → (0 ≤ q ∧ q ≤ 4) → (4 - q).toNat < nn → WA p l e rmX6_hold s m args below meth c g sz0 6 (MQ below (QQ g sz0 (fun v h' => v = none ∧ ∃ (t : Int) (tu : Int → Int) (tq1 : Int → Option Nat) (wt1 gt1 : Int → Int) (L : Int), HI WB NC OT AK BS DF rm A bd 4 t tu tq1 wt1 gt1 L ∧ CW g A h0 ng bt ls ms rm rs mo sp kp hl tq1 G (mixF 4 (ctE Eg G sz bt ls ms) Eg) sz (mixF 4 (ctN G sz bt ls ms) pt) bd bo cp pr co pa ow wt1 gt1 (prS gt1 bd tu rs pc 4).2 LN lt h')) args s rmX6_hold.cells rmX6_hold.slots (A0 sz0)) h 0 0 [some (.ref (A 4)), some (.ref (A 1)), some (.ref (A 2)), some (.int (iI (q))), none, none] 2 [] := by
    intro nn
    induction nn with
    | zero => intro q h hC i1 hn; exact absurd hn (Nat.not_lt_zero _)
    | succ nn ih =>
      intro q h hC i1 hn
      refine r_iload_n B dX6_hold_2 rfl ?_
      obtain ⟨fc, hQC, hfc⟩ := hC.qc
      refine r_aload_n B dX6_hold_3 rfl rfl ?_
      refine r_alen_q B dX6_hold_4 rfl hQC ?_
      refine r_icmp_ge B dX6_hold_5 (tgt := 53) (by decide) (by omega) (by omega) (fun c5 => ?_) (fun c5 => ?_)
      · have hq4 : q = 4 := by omega
        subst hq4
        refine r_aload_n B dX6_hold_53 rfl rfl ?_
        refine r_get (C := RX6) (T := TX6) (N := 3) (ci := 6) B dX6_hold_54 in_X6_hold_X6 rfl 1 (by decide) w_X6_hold_f17 rfl hC.mt rfl ?_
        refine r_istore_n B dX6_hold_57 rfl (by decide) (lcat_v rfl rfl) ?_
        refine r_iconst B dX6_hold_58 ?_
        refine r_istore B dX6_hold_59 (by decide) (lcat_v rfl rfl) ?_
        have loop61 : ∀ (nn : Nat) (k : Int) (L : Int) (t : Int) (tu : Int → Int) (tq1 : Int → Option Nat) (wt1 : Int → Int) (gt1 : Int → Int) (h : AH), CW g A h0 ng bt ls ms rm rs mo sp kp hl tq1 G (mixF 4 (ctE Eg G sz bt ls ms) Eg) sz (mixF 4 (ctN G sz bt ls ms) pt) bd bo cp pr co pa ow wt1 gt1 pc LN lt h → (0 ≤ k ∧ k ≤ 4) → (HI WB NC OT AK BS DF rm A bd k t tu tq1 wt1 gt1 L) → (0 ≤ L ∧ L ≤ 500) → (4 - k).toNat < nn → WA p l e rmX6_hold s m args below meth c g sz0 6 (MQ below (QQ g sz0 (fun v h' => v = none ∧ ∃ (t : Int) (tu : Int → Int) (tq1 : Int → Option Nat) (wt1 gt1 : Int → Int) (L : Int), HI WB NC OT AK BS DF rm A bd 4 t tu tq1 wt1 gt1 L ∧ CW g A h0 ng bt ls ms rm rs mo sp kp hl tq1 G (mixF 4 (ctE Eg G sz bt ls ms) Eg) sz (mixF 4 (ctN G sz bt ls ms) pt) bd bo cp pr co pa ow wt1 gt1 (prS gt1 bd tu rs pc 4).2 LN lt h')) args s rmX6_hold.cells rmX6_hold.slots (A0 sz0)) h 0 0 [some (.ref (A 4)), some (.ref (A 1)), some (.ref (A 2)), some (.int (iI (L))), some (.int (iI (k))), none] 61 [] := by
          intro nn
          induction nn with
          | zero => intro k L t tu tq1 wt1 gt1 h hC j1 hI hL hn; exact absurd hn (Nat.not_lt_zero _)
          | succ nn ih2 =>
            intro k L t tu tq1 wt1 gt1 h hC j1 hI hL hn
            refine r_iload B dX6_hold_61 rfl ?_
            refine r_aload_n B dX6_hold_63 rfl rfl ?_
            refine r_get (C := RX6) (T := TX6) (N := 3) (ci := 6) B dX6_hold_64 in_X6_hold_X6 rfl 0 (by decide) w_X6_hold_f11 rfl hC.mt rfl ?_
            refine r_alen_q B dX6_hold_67 rfl hC.tu ?_
            refine r_icmp_ge B dX6_hold_68 (tgt := 116) (by decide) (by omega) (by omega) (fun c68 => ?_) (fun c68 => ?_)
            · have hk4 : k = 4 := by omega
              subst hk4
              refine r_aload_n B dX6_hold_116 rfl rfl ?_
              refine r_callV (n := 0) B dX6_hold_117 (ct_X6_setPrices l g sz0 hA hC (tu := tu) (by omega) hbd (fun x x0 x1 => by rw [hI.fin.1 x x0 x1]; exact gtS_rng _ _ _ _ _ _ _ _ x) (fun i i0 i1 => ⟨(hI.2.2.2.2.1 i i0 i1).1, (hI.2.2.2.2.1 i i0 i1).2.1⟩)) gX6_hold_X6_setPrices rfl (by decide +kernel) ⟨Nat.le_of_ble_eq_true rfl, Nat.le_of_ble_eq_true rfl⟩ hC.mt rfl rfl rfl (Nat.le_of_ble_eq_true rfl) (Nat.le_of_ble_eq_true rfl) (Nat.le_of_ble_eq_true rfl) (fun v h1 hp => ?_)
              obtain ⟨hv, hC1⟩ := hp
              subst v
              dsimp only [Option.toList, List.cons_append, List.nil_append]
              exact r_vret B hr hlk dX6_hold_120 (Nat.le_of_ble_eq_true rfl) (Nat.le_of_ble_eq_true rfl) ⟨rfl, t, tu, tq1, wt1, gt1, L, hI, hC1⟩
            · refine r_aload_n B dX6_hold_71 rfl rfl ?_
              refine r_callS (n := 1) B dX6_hold_72 (ct_X6_nextInTurn l g sz0 hA hC hbd hI.wt) gX6_hold_X6_nextInTurn rfl (by decide +kernel) ⟨Nat.le_of_ble_eq_true rfl, Nat.le_of_ble_eq_true rfl⟩ rfl rfl (Nat.le_of_ble_eq_true rfl) (Nat.le_of_ble_eq_true rfl) (Nat.le_of_ble_eq_true rfl) (fun v h' hp => ?_)
              obtain ⟨hv, hh⟩ := hp
              subst v
              subst h'
              dsimp only [Option.toList, List.cons_append, List.nil_append]
              refine r_astore B dX6_hold_75 (va_rf_isRef _) (by decide) (lcat_v rfl rfl) ?_
              refine r_aload_n B dX6_hold_77 rfl rfl ?_
              refine r_get (C := RX6) (T := TX6) (N := 3) (ci := 6) B dX6_hold_78 in_X6_hold_X6 rfl 0 (by decide) w_X6_hold_f11 rfl hC.mt rfl ?_
              refine r_iload B dX6_hold_81 rfl ?_
              refine r_aload B dX6_hold_83 rfl (va_rf_isRef _) ?_
              refine r_aastq (ci := 3) B dX6_hold_85 rfl rfl hC.tu (fun v hv => by
                have h1 := clO_some hv
                obtain rfl := Option.some.inj (h1.2.symm.trans hv)
                exact ⟨_, hC.cl h1.1 (by have := nxW_rng wt1 bd 4; omega)⟩) (by decide) (by omega) (by omega) ?_
              refine k_next (P := fun x9 => CW g A h0 ng bt ls ms rm rs mo sp kp hl (upQ tq1 k (clO A (nxW wt1 bd 4))) G (mixF 4 (ctE Eg G sz bt ls ms) Eg) sz (mixF 4 (ctN G sz bt ls ms) pt) bd bo cp pr co pa ow wt1 gt1 pc LN lt x9) (hC.s_tq hA) (fun h hC => ?_)
              refine r_aload B dX6_hold_86 rfl (va_rf_isRef _) ?_
              refine r_ifnull B dX6_hold_88 (tgt := 110) (by decide) (fun c88 => ?_) (fun a88 c88 => ?_)
              · refine r_iinc B dX6_hold_110 rfl (by decide) (lcat_v rfl rfl) ?_
                refine r_goto B dX6_hold_113 (tgt := 61) (by decide) ?_
                rw [c88] at hC
                have hn9 := clO_none c88
                have hn8 := nxW_rng wt1 bd 4
                exact r_lv (lvLe_s rfl (lvLe_s rfl (lvLe_s rfl (lvLe_s rfl (lvLe_s rfl (lvLe_n lvLe_nil)))))) (ih2 (k + 1) L t _ _ _ _ h hC (by omega) (hI.non j1.1 (by omega)) hL (by omega))
              · have hc9 := clO_some c88
                have hc8 : nxW wt1 bd 4 ≤ 3 := by have := nxW_rng wt1 bd 4; omega
                refine r_aload B dX6_hold_91 rfl (va_rf_isRef _) ?_
                refine r_topr hc9.2 ?_
                refine r_iconst B dX6_hold_93 ?_
                refine r_put (C := RX3) (T := TX3) (N := 13) (ci := 3) B dX6_hold_94 in_X6_hold_X3 tyX3 tyX3_ok nmX3 rfl 10 (by decide) w_X6_hold_f41 rfl rfl (ty := .boolean) (by decide +kernel) (by first | exact nar_0 | exact nar_1 | exact nar_bI _) rfl (hC.cl hc9.1 hc8) (by show 10 < 13; decide) ?_
                refine k_next (P := fun x9 => CW g A h0 ng bt ls ms rm rs mo sp kp hl (upQ tq1 k (clO A (nxW wt1 bd 4))) G (mixF 4 (ctE Eg G sz bt ls ms) Eg) sz (mixF 4 (ctN G sz bt ls ms) pt) bd bo cp pr co pa ow (upZ wt1 (nxW wt1 bd 4) 0) gt1 pc LN lt x9) (hC.s_wt hA hc9.1 hc8) (fun h hC => ?_)
                refine r_iload_n B dX6_hold_97 rfl ?_
                refine r_aload B dX6_hold_98 rfl (va_rf_isRef _) ?_
                refine r_topr hc9.2 ?_
                refine r_iload_n B dX6_hold_100 rfl ?_
                refine r_aload_n B dX6_hold_101 rfl rfl ?_
                refine r_get (C := RX6) (T := TX6) (N := 3) (ci := 6) B dX6_hold_102 in_X6_hold_X6 rfl 2 (by decide) w_X6_hold_f21 rfl hC.mt rfl ?_
                have hFq := hC.fl hc9.1 hc8
                have hx4 : 0 ≤ (nxW wt1 bd 4) ∧ (nxW wt1 bd 4) < 4 := ⟨hc9.1, by omega⟩
                have hFq2 := hFq
                rw [mixF_in hx4, mixF_in hx4] at hFq2
                have hCHq := (hCHC.sub (hC.sub hSub)) (nxW wt1 bd 4) hc9.1 hc8
                have hEq := ctE_ok Eg G sz bt ls ms hFq.s.1 hFq.s.2
                have hak := hI.ak hc9.1
                refine r_callV (n := 2) B dX6_hold_105 (ct_takeTurn2 l g sz0 hA hC hc9.1 hc8 hCHq.1 hCHq.2.2.1 hCHq.2.2.2.1 hCHq.2.2.2.2 (by rw [mixF_in hx4, mixF_in hx4]; exact hEq.1) ⟨hCHq.2.1, hbo _ hc9.1 hc8, hcp _ hc9.1 hc8, hbd _ hc9.1 hc8⟩ hL hrs (hWB _ hc9.1 hc8) (by rw [mixF_in hx4, mixF_in hx4]; exact hOT _ hc9.1 hc8) (hNW _ hc9.1 hc8) (by rw [mixF_in hx4, mixF_in hx4]; exact hBS _ hc9.1 hc8) (by rw [mixF_in hx4, mixF_in hx4]; exact hDF _ hc9.1 hc8) hak.1 hak.2) gX6_hold_X3_takeTurn rfl (by decide +kernel) ⟨Nat.le_of_ble_eq_true rfl, Nat.le_of_ble_eq_true rfl⟩ (hC.cl hc9.1 hc8) rfl rfl rfl (Nat.le_of_ble_eq_true rfl) (Nat.le_of_ble_eq_true rfl) (Nat.le_of_ble_eq_true rfl) (fun v h1 hp => ?_)
                obtain ⟨z, gt2, hv, hC1, hz1, hz2, hz3⟩ := hp
                subst v
                dsimp only [Option.toList, List.cons_append, List.nil_append]
                refine k_next (P := fun x9 => CW g A h0 ng bt ls ms rm rs mo sp kp hl (upQ tq1 k (clO A (nxW wt1 bd 4))) G (mixF 4 (ctE Eg G sz bt ls ms) Eg) sz (mixF 4 (ctN G sz bt ls ms) pt) bd bo cp pr co pa ow (upZ wt1 (nxW wt1 bd 4) 0) gt2 pc LN lt x9) (hC1) (fun h hC => ?_)
                refine r_isub B dX6_hold_108 ?_
                refine r_istore_n B dX6_hold_109 rfl (by decide) (lcat_v rfl rfl) ?_
                refine r_iinc B dX6_hold_110 rfl (by decide) (lcat_v rfl rfl) ?_
                refine r_goto B dX6_hold_113 (tgt := 61) (by decide) ?_
                exact r_lv (lvLe_s rfl (lvLe_s rfl (lvLe_s rfl (lvLe_s rfl (lvLe_s rfl (lvLe_n lvLe_nil)))))) (ih2 (k + 1) (L - z) _ _ _ _ _ h hC (by omega) (hI.som j1.1 hc9.1 hz1 hz2).2 (by omega) (by omega))
        exact r_lv (lvLe_s rfl (lvLe_s rfl (lvLe_s rfl (lvLe_s rfl (lvLe_s rfl (lvLe_n lvLe_nil)))))) (loop61 _ 0 rm 0 (fun _ => 0) tq _ _ h hC (by omega) (HI.init (fun x x0 x1 => mixF_in ⟨x0, by omega⟩) (fun x x0 x1 => mixF_in ⟨x0, by omega⟩)) hrm (Nat.lt_succ_self _))
      · have hb9 := hbd q i1.1 (by omega)
        refine r_aload_n B dX6_hold_8 rfl rfl ?_
        refine r_iload_n B dX6_hold_9 rfl ?_
        refine r_aald B dX6_hold_10 rfl hQC (by decide) (by omega) (by omega) ?_
        refine r_topr (hfc q i1.1 (by omega)) ?_
        refine r_astore B dX6_hold_11 rfl (by decide) (lcat_v rfl rfl) ?_
        refine r_aload B dX6_hold_13 rfl rfl ?_
        refine r_ifnull_r B dX6_hold_15 ?_
        have hFq := hC.fl i1.1 (by omega)
        rw [mixF_out (by omega), mixF_out (by omega)] at hFq
        refine r_aload_n B dX6_hold_18 rfl rfl ?_
        refine r_aload B dX6_hold_19 rfl rfl ?_
        refine r_get (C := RX3) (T := TX3) (N := 13) (ci := 3) B dX6_hold_21 in_X6_hold_X3 rfl 0 (by decide) w_X6_hold_f24 rfl (hC.cl i1.1 (by omega)) rfl ?_
        refine r_callV (n := 1) B dX6_hold_24 (ct_X7_cutUp l g sz0 hFq (hG q i1.1 (by omega)) hC.mk hms) gX6_hold_X7_cutUp rfl (by decide +kernel) ⟨Nat.le_of_ble_eq_true rfl, Nat.le_of_ble_eq_true rfl⟩ hC.mk rfl rfl rfl (Nat.le_of_ble_eq_true rfl) (Nat.le_of_ble_eq_true rfl) (Nat.le_of_ble_eq_true rfl) (fun v h1 hp => ?_)
        obtain ⟨hv, hF1⟩ := hp
        subst v
        dsimp only [Option.toList, List.cons_append, List.nil_append]
        replace hF1 := hC.file hA i1.1 (by omega) hF1
        rw [upG_self, upZ_self] at hF1
        have hC1 : CW g A h0 ng bt ls ms rm rs mo sp kp hl tq G (mixF (q + 1) (ctE Eg G sz bt ls ms) Eg) sz (mixF (q + 1) (ctN G sz bt ls ms) pt) bd bo cp pr co pa ow (mixF q (fun x => bI (AK x)) wt) (mixF q (fun _ => (0 : Int)) gt) pc LN lt h1 := by
          have z1 := mixG_s (q := q) (ctE Eg G sz bt ls ms) Eg i1.1
          have z2 := mixZ_s (q := q) (ctN G sz bt ls ms) pt i1.1
          rw [← z1, ← z2]
          exact hF1
        refine k_next (P := fun x9 => CW g A h0 ng bt ls ms rm rs mo sp kp hl tq G (mixF (q + 1) (ctE Eg G sz bt ls ms) Eg) sz (mixF (q + 1) (ctN G sz bt ls ms) pt) bd bo cp pr co pa ow (mixF q (fun x => bI (AK x)) wt) (mixF q (fun _ => (0 : Int)) gt) pc LN lt x9) hC1 (fun h hC => ?_)
        refine r_aload B dX6_hold_27 rfl rfl ?_
        refine r_iconst B dX6_hold_29 ?_
        refine r_put (C := RX3) (T := TX3) (N := 13) (ci := 3) B dX6_hold_30 in_X6_hold_X3 tyX3 tyX3_ok nmX3 rfl 11 (by decide) w_X6_hold_f34 rfl rfl (ty := .int) (by decide +kernel) rfl rfl (hC.cl i1.1 (by omega)) (by show 11 < 13; decide) ?_
        refine k_next (P := fun x9 => CW g A h0 ng bt ls ms rm rs mo sp kp hl tq G (mixF (q + 1) (ctE Eg G sz bt ls ms) Eg) sz (mixF (q + 1) (ctN G sz bt ls ms) pt) bd bo cp pr co pa ow (mixF q (fun x => bI (AK x)) wt) (mixF (q + 1) (fun _ => (0 : Int)) gt) pc LN lt x9) (by
          have z := hC.s_gt hA i1.1 (by omega) (v := 0)
          have z1 := mixZ_s (q := q) (fun _ => (0 : Int)) gt i1.1
          rw [← z1]
          exact z) (fun h hC => ?_)
        refine r_aload B dX6_hold_33 rfl rfl ?_
        refine r_aload B dX6_hold_35 rfl rfl ?_
        refine r_aload_n B dX6_hold_37 rfl rfl ?_
        refine r_get (C := RX6) (T := TX6) (N := 3) (ci := 6) B dX6_hold_38 in_X6_hold_X6 rfl 2 (by decide) w_X6_hold_f21 rfl hC.mt rfl ?_
        have hFq := hC.fl i1.1 (by omega)
        rw [mixF_in (by omega), mixF_in (by omega)] at hFq
        have hCHq := (hCHC.sub (hC.sub hSub)) q i1.1 (by omega)
        have hCL := hC.cl i1.1 (by omega)
        rw [hCHq.1] at hCL
        have hEq := ctE_ok Eg G sz bt ls ms hFq.s.1 hFq.s.2
        refine r_callV (n := 1) B dX6_hold_41 (ct_X3_asks l g sz0 hFq hCHq.2.2.1 hCL _ (by omega) ⟨hCHq.2.1, hbo q i1.1 (by omega), hcp q i1.1 (by omega), hb9⟩ hEq.1 hCHq.2.2.2.1 hCHq.2.2.2.2) gX6_hold_X3_asks rfl (by decide +kernel) ⟨Nat.le_of_ble_eq_true rfl, Nat.le_of_ble_eq_true rfl⟩ (hC.cl i1.1 (by omega)) rfl rfl rfl (Nat.le_of_ble_eq_true rfl) (Nat.le_of_ble_eq_true rfl) (Nat.le_of_ble_eq_true rfl) (fun v h' hp => ?_)
        obtain ⟨hv, hh⟩ := hp
        subst v
        subst h'
        dsimp only [Option.toList, List.cons_append, List.nil_append]
        refine r_topz (y := bI (AK q)) (bI_eq (((and_congr_right fun _ => and_congr_right fun _ => or_congr (hWB q i1.1 (by omega)) (hOT q i1.1 (by omega)))).trans (hAK q i1.1 (by omega)).symm)) ?_
        refine r_put (C := RX3) (T := TX3) (N := 13) (ci := 3) B dX6_hold_44 in_X6_hold_X3 tyX3 tyX3_ok nmX3 rfl 10 (by decide) w_X6_hold_f41 rfl rfl (ty := .boolean) (by decide +kernel) (by first | exact nar_0 | exact nar_1 | exact nar_bI _) (fit_bI _) (hC.cl i1.1 (by omega)) (by show 10 < 13; decide) ?_
        refine k_next (P := fun x9 => CW g A h0 ng bt ls ms rm rs mo sp kp hl tq G (mixF (q + 1) (ctE Eg G sz bt ls ms) Eg) sz (mixF (q + 1) (ctN G sz bt ls ms) pt) bd bo cp pr co pa ow (mixF (q + 1) (fun x => bI (AK x)) wt) (mixF (q + 1) (fun _ => (0 : Int)) gt) pc LN lt x9) (by
          have z := hC.s_wt hA i1.1 (by omega) (v := bI (AK q))
          have z1 := mixZ_s (q := q) (fun x => bI (AK x)) wt i1.1
          rw [← z1]
          exact z) (fun h hC => ?_)
        refine r_iinc B dX6_hold_47 rfl (by decide) (lcat_v rfl rfl) ?_
        refine r_goto B dX6_hold_50 (tgt := 2) (by decide) ?_
        exact r_lv (lvLe_s rfl (lvLe_s rfl (lvLe_s rfl (lvLe_s rfl (lvLe_n (lvLe_n lvLe_nil)))))) (ih (q + 1) h hC (by omega) (by omega))
  exact r_lv (lvLe_s rfl (lvLe_s rfl (lvLe_s rfl (lvLe_s rfl (lvLe_n (lvLe_n lvLe_nil)))))) (loop2 _ 0 h (by rw [mixF_0, mixF_0, mixF_0, mixF_0]; exact hC) (by omega) (Nat.lt_succ_self _))
