abbrev rmX9_night : Room := { frames := 6, cells := 421, slots := 10406, locals := 147 }
theorem in_X9_night_X9 : ∀ w ∈ wsX90, w ∈ wsX9_night := by decide +kernel
theorem w_X9_night_f43 : Cond.fieldLink RX9 43 "DeltaNights" "nightsGone" "I" ∈ wsX9_night := by decide +kernel
theorem w_X9_night_f32 : Cond.fieldLink RX9 32 "DeltaNights" "market" "LDeltaNights$Market;" ∈ wsX9_night := by decide +kernel
theorem w_X9_night_f11 : Cond.fieldLink RX9 11 "DeltaNights" "clients" "[LDeltaNights$Client;" ∈ wsX9_night := by decide +kernel
theorem w_X9_night_f18 : Cond.fieldLink RX9 18 "DeltaNights" "marks" "LDeltaNights$Marks;" ∈ wsX9_night := by decide +kernel
theorem in_X9_night_X3 : ∀ w ∈ wsX30, w ∈ wsX9_night := by decide +kernel
theorem w_X9_night_f170 : Cond.fieldLink RX9 170 "DeltaNights$Client" "gets" "I" ∈ wsX9_night := by decide +kernel
theorem w_X9_night_k76 : Cond.classLink RX9 76 "java/lang/IllegalStateException" ∈ wsX9_night := by decide +kernel
theorem w_X9_night_ii76 : Cond.initialized "java/lang/IllegalStateException" ∈ wsX9_night := by decide +kernel
theorem xg_X9_night_80 : ∀ w ∈ (vx_atS RX9 80 "java/lang/IllegalStateException" xnm).filter goodWord, w ∈ wsX9_night := by decide +kernel
set_option maxHeartbeats 4000000 in
set_option maxRecDepth 100000 in
theorem ct_X9_night (l : Launch) (g : GG) (sz0 : Nat) {A : Nat → Nat} {Z : Nat → Prop} (hA : AOK A) {hZ : AH} {mnights mbits mleast mmost mroom mreserve mmount mspeed : Int} {mdata msize mends mmany mkind mchain mholds mbid mbound mcheap mpromised mcoin mpaid mowed : Int → Int} (hT : ST g A Z hZ mdata msize mends mmany mkind mchain mholds mnights mbits mleast mmost mroom mreserve mmount mspeed mbid mbound mcheap mpromised mcoin mpaid mowed hZ) (hG : RGm mnights mbits mleast mmost mroom mreserve mmount mspeed msize mbid mbound mcheap mpromised mcoin mpaid mowed) (hl0 : l.stackTraces = false)  (hZs : ∀ q : Nat, Z q → hZ q ≠ none)  : CTX l yX9_night wsX9_night rmX9_night g sz0 [.ref (A 0)] hZ (fun v h' => tNg mnights = 0 ∧ ∃ n : Int, v = some (.int (iI n)) ∧ (∀ tt AS WT CS SV dd ss ee mm kk cc hh pp : Int → Int, turnOK mbid tt → gI (wbP mkind mbound mcheap mnights mreserve) (mNC mkind mnights) (mOT mdata msize mends mmany mkind mnights mbits mleast mmost) (mAK mdata msize mends mmany mkind mbid mbound mcheap mnights mreserve mbits mleast mmost) (mBS mdata msize mbits mleast mmost) (mDF mdata msize mends mmany mkind mchain mholds mnights mbits mleast mmost) mroom tt AS WT CS SV 4 → (∀ y : Int, 0 ≤ y → y ≤ 3 → nwC mdata msize mends mmany mkind mchain mholds mnights mbits mleast mmost (WT y) (SV y) dd ss ee mm kk cc hh y) → (∀ y : Int, 0 ≤ y → y ≤ 3 → pp y = mpaid y + payF mbid tt AS SV CS mreserve (4 : Int) y) → LKo ee mm → n = sumZ (fun j => SV (tt j)) 4 ∧ ST g A Z hZ dd ss ee mm kk cc hh (mnights + 1) mbits mleast mmost mroom mreserve mmount mspeed mbid mbound mcheap mpromised mcoin pp mowed h')) (fun E h' => ((E = "java/lang/IllegalStateException" ∧ tNg mnights = 1)) ∧ ST g A Z hZ mdata msize mends mmany mkind mchain mholds mnights mbits mleast mmost mroom mreserve mmount mspeed mbid mbound mcheap mpromised mcoin mpaid mowed h') := by
  refine CTX.of (by decide +kernel) rfl [some (.ref (A 0)), none, none, none] rfl (Nat.le_of_ble_eq_true rfl) ?_
  intro p e s m args below meth c B hr hlk hout
  have hT0 := hT
  obtain ⟨hK, LE, RK1, RN, HK1, HN, CA, PV, CF, CN, Ha, hN, tq, G, Eg, sz, pt, wt, gt, pc, LN, lt, hC, hSub, hZn, hX, hM⟩ := hT
  have hN0 := hG.1
  obtain ⟨fc, hQC, hfc⟩ := hC.qc
  have hC0 := hC
  have hms9 : 1 ≤ mmost ∧ mmost ≤ 24 ∧ 0 ≤ mleast ∧ mleast < 100 := by have := hG.2.1; omega
  have hG255 : ∀ x : Int, 0 ≤ x → x ≤ 3 → ∀ j : Int, 0 ≤ G x j ∧ G x j ≤ 255 := fun x x0 x1 => (hM.1 x x0 x1).2.1
  obtain ⟨La, nt, len, hchc, hlen, hchn⟩ := hX.chc hN0
  have hrm9 := hG.2.2.1
  have hbds := hG.2.2.2.2.1
  have hWB : ∀ x : Int, 0 ≤ x → x ≤ 3 → ((len x = 0 ∨ (mbound x ≤ len x - 1 ∧ mreserve ≤ mcheap x)) ↔ (wbP mkind mbound mcheap mnights mreserve) x) := fun x x0 x1 => by
    have h1 := (hlen x x0 x1).1
    have h2 := dfN_rng (colF mkind x) mnights.toNat
    unfold wbP
    omega
  have hNW : ∀ x : Int, 0 ≤ x → x ≤ 3 → (mNC mkind mnights) x → (wbP mkind mbound mcheap mnights mreserve) x := fun x x0 x1 y => Or.inl (dfN_neg.mpr y)
  have hAK : ∀ x : Int, 0 ≤ x → x ≤ 3 → ((mAK mdata msize mends mmany mkind mbid mbound mcheap mnights mreserve mbits mleast mmost) x ↔ 0 < mbid x ∧ mreserve ≤ mbid x ∧ ((wbP mkind mbound mcheap mnights mreserve) x ∨ ((mOT mdata msize mends mmany mkind mnights mbits mleast mmost) x ∧ ¬ (mNC mkind mnights) x))) := fun x x0 x1 => and_congr_right fun _ => and_congr_right fun _ => ⟨fun y => y.elim Or.inl (fun w => by
    by_cases z : (mNC mkind mnights) x
    · exact Or.inl (hNW x x0 x1 z)
    · exact Or.inr ⟨w, z⟩), fun y => y.elim Or.inl (fun w => Or.inr w.1)⟩
  refine r_aload_n B dX9_night_0 rfl rfl ?_
  refine r_get (C := RX9) (T := TX9) (N := 6) (ci := 9) B dX9_night_1 in_X9_night_X9 rfl 5 (by decide) w_X9_night_f43 rfl hC.ro rfl ?_
  refine r_bipush B dX9_night_4 (by decide) ?_
  refine r_icmp_lt B dX9_night_6 (tgt := 19) (by decide) (by omega) (by omega) (fun c6 => ?_) (fun c6 => ?_)
  · refine r_aload_n B dX9_night_19 rfl rfl ?_
    refine r_get (C := RX9) (T := TX9) (N := 6) (ci := 9) B dX9_night_20 in_X9_night_X9 rfl 3 (by decide) w_X9_night_f32 rfl hC.ro rfl ?_
    refine r_aload_n B dX9_night_23 rfl rfl ?_
    refine r_get (C := RX9) (T := TX9) (N := 6) (ci := 9) B dX9_night_24 in_X9_night_X9 rfl 0 (by decide) w_X9_night_f11 rfl hC.ro rfl ?_
    refine r_aload_n B dX9_night_27 rfl rfl ?_
    refine r_get (C := RX9) (T := TX9) (N := 6) (ci := 9) B dX9_night_28 in_X9_night_X9 rfl 1 (by decide) w_X9_night_f18 rfl hC.ro rfl ?_
    refine r_callV (n := 2) B dX9_night_31 (ct_X6_hold l g sz0 hA hC (WB := (wbP mkind mbound mcheap mnights mreserve)) (NC := (mNC mkind mnights)) (OT := (mOT mdata msize mends mmany mkind mnights mbits mleast mmost)) (AK := (mAK mdata msize mends mmany mkind mbid mbound mcheap mnights mreserve mbits mleast mmost)) (BS := (mBS mdata msize mbits mleast mmost)) (DF := (mDF mdata msize mends mmany mkind mchain mholds mnights mbits mleast mmost)) hSub hchc hG255 hms9 hrm9.1 hrm9.2 (fun x x0 x1 => (hbds x x0 x1).1) (fun x x0 x1 => (hbds x x0 x1).2.1) (fun x x0 x1 => (hbds x x0 x1).2.2.1) hWB (fun x x0 x1 => asked_other hX hM hG hlen hchn x0 x1) hNW hAK (fun x x0 x1 => cut_base hM hG x0 x1 (fun c => chP_0 c)) (fun x x0 x1 => cut_dif hM hG x0 x1 (fun c => chain_in hX hN0 hlen hchn x0 x1 c))) gX9_night_X6_hold rfl (by decide +kernel) ⟨Nat.le_of_ble_eq_true rfl, Nat.le_of_ble_eq_true rfl⟩ hC.mt rfl rfl rfl (Nat.le_of_ble_eq_true rfl) (Nat.le_of_ble_eq_true rfl) (Nat.le_of_ble_eq_true rfl) (fun v h1 hp => ?_)
    obtain ⟨hv, t, tu, tq1, wt1, gt1, L, hI, hC1⟩ := hp
    subst v
    dsimp only [Option.toList, List.cons_append, List.nil_append]
    refine k_next (P := fun x9 => (∃ (LE1 : Nat → Option Nat) (RK2 : Nat → Int → Nat) (RN2 : Nat → Int) (HK2 : Nat → Int → Nat) (HN2 : Nat → Int) (CA1 : Nat → Nat) (PV1 : Nat → Option Nat) (CF1 : Nat → Int → Int) (CN1 : Nat → Int) (Ha1 : Int → Nat) (hN1 : Int) (LN1 : Int → Int → Option Nat) (lt1 : Int → Option Nat) (pa1 : Int → Int), CW g A hZ mnights mbits mleast mmost mroom mreserve mmount mspeed hN1 (ptr Ha1 hN1 0) tq1 G (mixF 4 (ctE Eg G sz mbits mleast mmost) Eg) sz (mixF 4 (ctN G sz mbits mleast mmost) pt) mbid mbound mcheap mpromised mcoin pa1 mowed wt1 gt1 (prS gt1 mbid tu mreserve pc 4).2 LN1 lt1 x9 ∧ NIs g hZ hK LE RK1 RN HK1 HN CA PV CF CN Ha hN mpaid LN lt (fun y => ptr (La y) (if gt1 y = 1 then 0 else len y) 0) G (ctE Eg G sz mbits mleast mmost) (ctN G sz mbits mleast mmost) (fun y k => flg CF CN HK1 HN (La y) (if gt1 y = 1 then 0 else len y) (G y) ((ctE Eg G sz mbits mleast mmost) y) k) gt1 (fun y => difB (G y) ((ctE Eg G sz mbits mleast mmost) y) ((ctN G sz mbits mleast mmost) y) (chP CF CN HK1 HN (La y) (if gt1 y = 1 then 0 else len y)) * (prS gt1 mbid tu mreserve pc 4).2 y) mnights 0 LE1 RK2 RN2 HK2 HN2 CA1 PV1 CF1 CN1 Ha1 hN1 LN1 lt1 pa1 x9)) ⟨LE, RK1, RN, HK1, HN, CA, PV, CF, CN, Ha, hN, LN, lt, mpaid, hC1, NIs.init (hX.hs.mv (fun z hz => ⟨hC1.sub hSub z (sm_ne (hX.hs.ck hz).1), hC1.sub hSub _ (sm_ne (hX.hs.ck hz).2.1)⟩))⟩ (fun h hP => ?_)
    refine r_iconst B dX9_night_34 ?_
    refine r_istore_n B dX9_night_35 rfl (by decide) (lcat_v rfl rfl) ?_
    refine r_iconst B dX9_night_36 ?_
    refine r_istore_n B dX9_night_37 rfl (by decide) (lcat_v rfl rfl) ?_
    have loop38 : ∀ (nn : Nat) (q : Int) (u : Int) (h : AH), (∃ (LE1 : Nat → Option Nat) (RK2 : Nat → Int → Nat) (RN2 : Nat → Int) (HK2 : Nat → Int → Nat) (HN2 : Nat → Int) (CA1 : Nat → Nat) (PV1 : Nat → Option Nat) (CF1 : Nat → Int → Int) (CN1 : Nat → Int) (Ha1 : Int → Nat) (hN1 : Int) (LN1 : Int → Int → Option Nat) (lt1 : Int → Option Nat) (pa1 : Int → Int), CW g A hZ mnights mbits mleast mmost mroom mreserve mmount mspeed hN1 (ptr Ha1 hN1 0) tq1 G (mixF 4 (ctE Eg G sz mbits mleast mmost) Eg) sz (mixF 4 (ctN G sz mbits mleast mmost) pt) mbid mbound mcheap mpromised mcoin pa1 mowed wt1 gt1 (prS gt1 mbid tu mreserve pc 4).2 LN1 lt1 h ∧ NIs g hZ hK LE RK1 RN HK1 HN CA PV CF CN Ha hN mpaid LN lt (fun y => ptr (La y) (if gt1 y = 1 then 0 else len y) 0) G (ctE Eg G sz mbits mleast mmost) (ctN G sz mbits mleast mmost) (fun y k => flg CF CN HK1 HN (La y) (if gt1 y = 1 then 0 else len y) (G y) ((ctE Eg G sz mbits mleast mmost) y) k) gt1 (fun y => difB (G y) ((ctE Eg G sz mbits mleast mmost) y) ((ctN G sz mbits mleast mmost) y) (chP CF CN HK1 HN (La y) (if gt1 y = 1 then 0 else len y)) * (prS gt1 mbid tu mreserve pc 4).2 y) mnights q LE1 RK2 RN2 HK2 HN2 CA1 PV1 CF1 CN1 Ha1 hN1 LN1 lt1 pa1 h) → (0 ≤ q ∧ q ≤ 4) → (u = sumZ (fun y => bI (¬ gt1 y = 0)) q.toNat) → (4 - q).toNat < nn → WA p l e rmX9_night s m args below meth c g sz0 4 (vx_MQ below (QQ g sz0 (fun v h' => tNg mnights = 0 ∧ ∃ n : Int, v = some (.int (iI n)) ∧ (∀ tt AS WT CS SV dd ss ee mm kk cc hh pp : Int → Int, turnOK mbid tt → gI (wbP mkind mbound mcheap mnights mreserve) (mNC mkind mnights) (mOT mdata msize mends mmany mkind mnights mbits mleast mmost) (mAK mdata msize mends mmany mkind mbid mbound mcheap mnights mreserve mbits mleast mmost) (mBS mdata msize mbits mleast mmost) (mDF mdata msize mends mmany mkind mchain mholds mnights mbits mleast mmost) mroom tt AS WT CS SV 4 → (∀ y : Int, 0 ≤ y → y ≤ 3 → nwC mdata msize mends mmany mkind mchain mholds mnights mbits mleast mmost (WT y) (SV y) dd ss ee mm kk cc hh y) → (∀ y : Int, 0 ≤ y → y ≤ 3 → pp y = mpaid y + payF mbid tt AS SV CS mreserve (4 : Int) y) → LKo ee mm → n = sumZ (fun j => SV (tt j)) 4 ∧ ST g A Z hZ dd ss ee mm kk cc hh (mnights + 1) mbits mleast mmost mroom mreserve mmount mspeed mbid mbound mcheap mpromised mcoin pp mowed h'))) (XQ g sz0 (fun E h' => ((E = "java/lang/IllegalStateException" ∧ tNg mnights = 1)) ∧ ST g A Z hZ mdata msize mends mmany mkind mchain mholds mnights mbits mleast mmost mroom mreserve mmount mspeed mbid mbound mcheap mpromised mcoin mpaid mowed h')) args s rmX9_night.cells rmX9_night.slots (A0 sz0)) h (0 + 0 + q.toNat * 105) (0 + 0 + q.toNat * 2600) [some (.ref (A 0)), some (.int (iI (u))), some (.int (iI (q))), none] 38 [] := by
      intro nn
      induction nn with
      | zero => intro q u h hP i1 i2 hn; exact absurd hn (Nat.not_lt_zero _)
      | succ nn ih =>
        intro q u h hP i1 i2 hn
        refine r_iload_n B dX9_night_38 rfl ?_
        obtain ⟨LE1, RK2, RN2, HK2, HN2, CA1, PV1, CF1, CN1, Ha1, hN1, LN1, lt1, pa1, hC, hNI⟩ := hP
        obtain ⟨fc3, hQC, hfc3⟩ := hC.qc
        refine r_aload_n B dX9_night_39 rfl rfl ?_
        refine r_get (C := RX9) (T := TX9) (N := 6) (ci := 9) B dX9_night_40 in_X9_night_X9 rfl 0 (by decide) w_X9_night_f11 rfl hC.ro rfl ?_
        refine r_alen_q B dX9_night_43 rfl hQC ?_
        refine r_icmp_ge B dX9_night_44 (tgt := 79) (by decide) (by omega) (by omega) (fun c44 => ?_) (fun c44 => ?_)
        · have hq4 : q = 4 := by omega
          subst hq4
          refine r_aload_n B dX9_night_79 rfl rfl ?_
          refine r_dup B dX9_night_80 rfl ?_
          refine r_get (C := RX9) (T := TX9) (N := 6) (ci := 9) B dX9_night_81 in_X9_night_X9 rfl 5 (by decide) w_X9_night_f43 rfl hC.ro rfl ?_
          refine r_iconst B dX9_night_84 ?_
          refine r_iadd B dX9_night_85 ?_
          refine r_put (C := RX9) (T := TX9) (N := 6) (ci := 9) B dX9_night_86 in_X9_night_X9 tyX9 tyX9_ok nmX9 rfl 5 (by decide) w_X9_night_f43 rfl rfl (ty := .int) (by decide +kernel) rfl rfl hC.ro (by show 5 < 6; decide) ?_
          have hfz : ∀ z : Nat, inH Ha1 hN1 z → ∀ i : Nat, i < 27 → z ≠ A i ∧ CA1 z ≠ A i := fun z hz i hi => by
            rcases hNI.2.1.2 z hz with y | y
            · have hk := hX.hs.ck y
              rw [(hNI.2.1.1 z y).2.1]
              exact ⟨(hSub _ (sm_ne hk.1)).2 i hi, (hSub _ (sm_ne hk.2.1)).2 i hi⟩
            · exact ⟨fun w => hC0.stands hi (by rw [← w]; exact y.1), fun w => hC0.stands hi (by rw [← w]; exact y.2)⟩
          refine k_next (P := fun x9 => CW g A hZ (mnights + 1) mbits mleast mmost mroom mreserve mmount mspeed hN1 (ptr Ha1 hN1 0) tq1 G (mixF 4 (ctE Eg G sz mbits mleast mmost) Eg) sz (mixF 4 (ctN G sz mbits mleast mmost) pt) mbid mbound mcheap mpromised mcoin pa1 mowed wt1 gt1 (prS gt1 mbid tu mreserve pc 4).2 LN1 lt1 x9 ∧ NIs g hZ hK LE RK1 RN HK1 HN CA PV CF CN Ha hN mpaid LN lt (fun y => ptr (La y) (if gt1 y = 1 then 0 else len y) 0) G (ctE Eg G sz mbits mleast mmost) (ctN G sz mbits mleast mmost) (fun y k => flg CF CN HK1 HN (La y) (if gt1 y = 1 then 0 else len y) (G y) ((ctE Eg G sz mbits mleast mmost) y) k) gt1 (fun y => difB (G y) ((ctE Eg G sz mbits mleast mmost) y) ((ctN G sz mbits mleast mmost) y) (chP CF CN HK1 HN (La y) (if gt1 y = 1 then 0 else len y)) * (prS gt1 mbid tu mreserve pc 4).2 y) mnights 4 LE1 RK2 RN2 HK2 HN2 CA1 PV1 CF1 CN1 Ha1 hN1 LN1 lt1 pa1 x9) ⟨hC.s_ng hA, hNI.top (fun z hz => ⟨if_neg (hfz z hz 0 (by omega)).1, if_neg (hfz z hz 0 (by omega)).2⟩) (fun b hb => if_neg (fun w => hC0.stands (i := 0) (by omega) (by rw [← w]; exact hb)))⟩ (fun h2 hX2 => ?_)
          refine r_iload_n B dX9_night_89 rfl ?_
          exact x_ret (r_iret B hr hlk dX9_night_90 (by show 0 + 0 + (4 : Int).toNat * 105 ≤ 421; decide) (by show 0 + 0 + (4 : Int).toNat * 2600 ≤ 10406; decide) ⟨(by unfold tNg; rw [if_neg (by omega)]), _, by rw [i2]; rfl, night_fin hA hX2.1 hX2.2 (fun i hi => hC0.stands hi) hSub hZn hZs hX hM hG (by omega) hlen hchn (fun x x0 x1 => (hchc x x0 x1).1) hI⟩)
        · refine r_aload_n B dX9_night_47 rfl rfl ?_
          refine r_get (C := RX9) (T := TX9) (N := 6) (ci := 9) B dX9_night_48 in_X9_night_X9 rfl 0 (by decide) w_X9_night_f11 rfl hC.ro rfl ?_
          refine r_iload_n B dX9_night_51 rfl ?_
          refine r_aald B dX9_night_52 rfl hQC (by decide) (by omega) (by omega) ?_
          refine r_topr (hfc3 q i1.1 (by omega)) ?_
          refine r_astore_n B dX9_night_53 rfl rfl (by decide) (lcat_v rfl rfl) ?_
          refine r_aload_n B dX9_night_54 rfl rfl ?_
          refine r_ifnull_r B dX9_night_55 ?_
          have hgq9 := gtS_rng (wbP mkind mbound mcheap mnights mreserve) (mNC mkind mnights) (mOT mdata msize mends mmany mkind mnights mbits mleast mmost) (mAK mdata msize mends mmany mkind mbid mbound mcheap mnights mreserve mbits mleast mmost) (mBS mdata msize mbits mleast mmost) (mDF mdata msize mends mmany mkind mchain mholds mnights mbits mleast mmost) mroom mbid q
          rw [← hI.fin.1 q i1.1 (by omega)] at hgq9
          refine r_aload_n B dX9_night_58 rfl rfl ?_
          refine r_get (C := RX3) (T := TX3) (N := 13) (ci := 3) B dX9_night_59 in_X9_night_X3 rfl 11 (by decide) w_X9_night_f170 rfl (hC.cl i1.1 (by omega)) rfl ?_
          refine r_if_eq B dX9_night_62 (tgt := 73) (by decide) (by omega) (fun c62 => ?_) (fun c62 => ?_)
          · refine r_iinc B dX9_night_73 rfl (by decide) (lcat_v rfl rfl) ?_
            refine r_goto B dX9_night_76 (tgt := 38) (by decide) ?_
            refine r_widen (k := 0 + 0 + (q + 1).toNat * 105) (n := 0 + 0 + (q + 1).toNat * 2600) (by show 0 + 0 + q.toNat * 105 ≤ _; omega) (by show 0 + 0 + q.toNat * 2600 ≤ _; omega) ?_
            exact r_lv (lvLe_s rfl (lvLe_s rfl (lvLe_s rfl (lvLe_n lvLe_nil)))) (ih (q + 1) _ h ⟨LE1, RK2, RN2, HK2, HN2, CA1, PV1, CF1, CN1, Ha1, hN1, LN1, lt1, pa1, hC, hNI.skip i1.1 c62⟩ (by omega) (by rw [sumZ_s _ i1.1, bI_f (fun w => w c62), i2]; omega) (by omega))
          · refine r_aload_n B dX9_night_65 rfl rfl ?_
            refine r_aload_n B dX9_night_66 rfl rfl ?_
            have x0 : 0 ≤ q := i1.1
            have x1 : q ≤ 3 := by omega
            have hni := hNI
            obtain ⟨p1, p2, p3, p4, p5⟩ := hni
            have hsz := (hM.1 q x0 x1).1
            have hs8 := hG.2.2.2.2.2 (240 + q) (by omega) (by omega)
            have hE9 := ctE_ok Eg G sz mbits mleast mmost (x := q) (by rw [hsz]; exact hs8.1) (by rw [hsz]; exact hs8.2)
            have eE : mixF 4 (ctE Eg G sz mbits mleast mmost) Eg q = (ctE Eg G sz mbits mleast mmost) q := mixF_in ⟨x0, by omega⟩
            have eN : mixF 4 (ctN G sz mbits mleast mmost) pt q = (ctN G sz mbits mleast mmost) q := mixF_in ⟨x0, by omega⟩
            have hsb := hC.sub hSub
            have hchq := hchc.sub hsb q x0 x1
            have hCHq : CHN g LE RK1 RN HK1 HN (La q) (if gt1 q = 1 then 0 else len q) h := by
              split
              · exact fun i i0 i1 => absurd i1 (by omega)
              · exact hchq.2.2.1
            have hl0q : 0 ≤ (if gt1 q = 1 then 0 else len q) := by
              split
              · omega
              · exact hchq.2.1.1
            have hle : (if gt1 q = 1 then 0 else len q) ≤ len q := by
              split
              · exact hchq.2.1.1
              · omega
            have hchq2 : ∀ i : Int, 0 ≤ i → i < (if gt1 q = 1 then 0 else len q) → ∀ j : Int, 0 ≤ j → j < HN (La q i) → inH Ha hN (HK1 (La q i) j) := fun i i0 i1 => (hlen q x0 x1).2 i i0 (by omega)
            have hchq1 : ∀ i : Int, 0 ≤ i → i < (if gt1 q = 1 then 0 else len q) → ∀ j : Int, 0 ≤ j → j < HN (La q i) → inH Ha1 hN1 (HK1 (La q i) j) := fun i i0 i1 j j0 j1 => (p2.1 _ (hchq2 i i0 i1 j j0 j1)).1
            have hcz : ∀ z : Nat, inH Ha1 hN1 z → ∀ i : Nat, i < 27 → z ≠ A i ∧ CA1 z ≠ A i := fun z hz i hi => by
              rcases p2.2 z hz with y | y
              · have hk := hX.hs.ck y
                rw [(p2.1 z y).2.1]
                exact ⟨(hSub _ (sm_ne hk.1)).2 i hi, (hSub _ (sm_ne hk.2.1)).2 i hi⟩
              · exact ⟨fun w => hC0.stands hi (by rw [← w]; exact y.1), fun w => hC0.stands hi (by rw [← w]; exact y.2)⟩
            have hq4 := (p4 q x0 x1).2 (fun w => by omega)
            have hgq := gtS_rng (wbP mkind mbound mcheap mnights mreserve) (mNC mkind mnights) (mOT mdata msize mends mmany mkind mnights mbits mleast mmost) (mAK mdata msize mends mmany mkind mbid mbound mcheap mnights mreserve mbits mleast mmost) (mBS mdata msize mbits mleast mmost) (mDF mdata msize mends mmany mkind mchain mholds mnights mbits mleast mmost) mroom mbid q
            rw [← hI.fin.1 q x0 x1] at hgq
            have hgt9 : (gt1 q = 1 ∧ (if gt1 q = 1 then 0 else len q) = 0) ∨ (¬ gt1 q = 1 ∧ lt1 q = ptr (La q) (if gt1 q = 1 then 0 else len q) 0) := by
              by_cases y : gt1 q = 1
              · exact Or.inl ⟨y, if_pos y⟩
              · refine Or.inr ⟨y, ?_⟩
                rw [if_neg y, hq4.2.1]
                exact hchq.1
            refine r_callV (n := 1) B dX9_night_67 (ct_X9_serve l g sz0 hA hC.base x0 x1 p1 hcz hCHq hchq1 hl0q (by rw [eE, eN]; exact hE9.1) ⟨hN0.1, by omega⟩ hgq hgt9) gX9_night_X9_serve rfl (by decide +kernel) ⟨Nat.le_of_ble_eq_true rfl, Nat.le_of_ble_eq_true rfl⟩ hC.ro rfl rfl rfl (Nat.le_of_ble_eq_true rfl) (by show 0 + 0 + q.toNat * 105 + 105 ≤ 421; omega) (by show 0 + 0 + q.toNat * 2600 + 2600 ≤ 10406; omega) (fun v h1 hp => ?_)
            obtain ⟨hv, a, rr, rra, rh, rha, CA2, PV2, CF2, CN2, Ha2, hN2, fq1, fq2, K, HL2, nH, hd, hCn, s1, s2, s3, s4, s5, s6, s7, s8, hNH⟩ := hp
            subst v
            dsimp only [Option.toList, List.cons_append, List.nil_append]
            rw [eE, eN] at hCn
            rw [eN, eE] at s6 s7 s8
            rw [eN] at s4 hNH
            have hext : ∀ w : List Int, chP CF1 CN1 HK1 HN (La q) (if gt1 q = 1 then 0 else len q) w ↔ chP CF CN HK1 HN (La q) (if gt1 q = 1 then 0 else len q) w := chP_ext (fun i i0 i1 j j0 j1 => ⟨(p2.1 _ (hchq2 i i0 i1 j j0 j1)).2.2.2.1, (p2.1 _ (hchq2 i i0 i1 j j0 j1)).2.2.2.2⟩)
            have hfrA : ∀ b : Nat, (∀ i : Nat, i < 27 → b ≠ A i) → h b ≠ none → h1 b = h b := fun b hb hn9 => hCn.fr b hn9 hb
            have hnA : ∀ b : Nat, hZ b = none → ∀ i : Nat, i < 27 → b ≠ A i := fun b hb i hi w => hC0.stands hi (by rw [← w]; exact hb)
            have hsub9 : ∀ b : Nat, hZ b ≠ none → h b ≠ none := fun b hb => by
              by_cases w : ∀ i : Nat, i < 27 → b ≠ A i
              · rw [hC.fr b hb w]; exact hb
              · intro v
                refine w fun i hi e => ?_
                exact hC.stands hi (by rw [← e]; exact v)
            have hNI2 := NIs.serve (FX := flg CF1 CN1 HK1 HN (La q) (if gt1 q = 1 then 0 else len q) (G q) ((ctE Eg G sz mbits mleast mmost) q)) ⟨x0, x1⟩ c62 hNI hsub9 (fun b hb => by rw [(hSub b hb).1]; exact hb) hd (fun b hb hn9 => hfrA b (hnA b hb) hn9) (fun k k0 k1 => and_congr Iff.rfl (not_congr (hext _))) s1 s2 s3 s4 s5 s6 s7 s8 (new_held s1 s2 hchq1 s6 s7 s8 hNH) hE9.2.1 (fun y y0 y1 => (hX.2.2.1 y y0 y1 mnights hN0.1 (by omega)).nz.mpr (hX.2.2.2.1 y y0 y1 mnights (Int.le_refl _) (by omega)))
            have hCn2 := hCn.tr hC.fr
            rw [difB_congr hext] at hCn2
            refine r_iinc B dX9_night_70 rfl (by decide) (lcat_v rfl rfl) ?_
            refine r_iinc B dX9_night_73 rfl (by decide) (lcat_v rfl rfl) ?_
            refine r_goto B dX9_night_76 (tgt := 38) (by decide) ?_
            refine r_widen (k := 0 + 0 + (q + 1).toNat * 105) (n := 0 + 0 + (q + 1).toNat * 2600) (by show 0 + 0 + q.toNat * 105 + 105 ≤ _; omega) (by show 0 + 0 + q.toNat * 2600 + 2600 ≤ _; omega) ?_
            exact r_lv (lvLe_s rfl (lvLe_s rfl (lvLe_s rfl (lvLe_n lvLe_nil)))) (ih (q + 1) _ h1 ⟨_, _, _, _, _, _, _, _, _, _, _, _, _, _, hCn2, hNI2⟩ (by omega) (by rw [sumZ_s _ i1.1, bI_t c62, i2]) (by omega))
    exact r_lv (lvLe_s rfl (lvLe_s rfl (lvLe_s rfl (lvLe_n lvLe_nil)))) (loop38 _ 0 _ h hP (by omega) rfl (Nat.lt_succ_self _))
  · exact r_throwS (text := "all nights have gone by") B hl0 xat_IS w_X9_night_k76 w_X9_night_ii76 xg_X9_night_80 (by decide +kernel) dX9_night_9 dX9_night_12 dX9_night_13 dX9_night_15 dX9_night_18 hout hlk (Nat.le_of_ble_eq_true rfl) (Nat.le_of_ble_eq_true rfl) (Nat.le_of_ble_eq_true rfl) (Nat.le_of_ble_eq_true rfl) (Nat.le_of_ble_eq_true rfl) (Nat.le_of_ble_eq_true rfl) ⟨⟨rfl, (by unfold tNg; rw [if_pos (by omega)])⟩, hT0⟩
