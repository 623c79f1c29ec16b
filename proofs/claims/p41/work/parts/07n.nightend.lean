theorem CW.cpa {g : GG} {A : Nat → Nat} {h0 h : AH} {ng : Int} {bt : Int} {ls : Int} {ms : Int} {rm : Int} {rs : Int} {mo : Int} {sp : Int} {kp : Int} {hl : Option Nat} {tq : Int → Option Nat} {G : Int → Int → Int} {Eg : Int → Int → Int} {sz : Int → Int} {pt : Int → Int} {bd : Int → Int} {bo : Int → Int} {cp : Int → Int} {pr : Int → Int} {co : Int → Int} {pa : Int → Int} {ow : Int → Int} {wt : Int → Int} {gt : Int → Int} {pc : Int → Int} {LN : Int → Int → Option Nat} {lt : Int → Option Nat} {pa2 : Int → Int} (hC : CW g A h0 ng bt ls ms rm rs mo sp kp hl tq G Eg sz pt bd bo cp pr co pa ow wt gt pc LN lt h) (he : ∀ y : Int, 0 ≤ y → y ≤ 3 → pa y = pa2 y) : CW g A h0 ng bt ls ms rm rs mo sp kp hl tq G Eg sz pt bd bo cp pr co pa2 ow wt gt pc LN lt h := by
  refine ⟨hC.1, hC.2.1, hC.2.2.1, hC.2.2.2.1, hC.2.2.2.2.1, hC.2.2.2.2.2.1, hC.2.2.2.2.2.2.1, fun y y0 y1 => ?_, hC.2.2.2.2.2.2.2.2⟩
  rw [← he y y0 y1]
  exact hC.2.2.2.2.2.2.2.1 y y0 y1
/-- the price that the class set is the model's -/
theorem price_eq {WB NC OT AK : Int → Prop} {BS DF : Int → Int} {room : Int} {A : Nat → Nat} {bd tt AS SV tu wt gt1 : Int → Int} {tq : Int → Option Nat} {t L rs : Int} (pc : Int → Int) (hI : HI WB NC OT AK BS DF room A bd 4 t tu tq wt gt1 L) (hT : turnOK bd tt) (hA : ∀ x : Int, 0 ≤ x → x ≤ 3 → AS x = bI (AK x)) (hS : ∀ x : Int, 0 ≤ x → x ≤ 3 → (gt1 x = 0 ↔ SV x = 0)) {y : Int} (y0 : 0 ≤ y) (y1 : y ≤ 3) (hy : AK y) (hg : ¬ gt1 y = 0) : (prS gt1 bd tu rs pc 4).2 y = prc bd tt AS SV rs (ahB bd y) (4 - ahB bd y - 1).toNat := by
  have hfin := hI.fin
  obtain ⟨p1, p2, p3, p4, p5, p6, p7, p8⟩ := hI
  obtain ⟨j0, z0, z1, ej⟩ := hfin.2 y y0 y1 hy
  have har := ahB_rng bd ⟨y0, y1⟩
  have h1 := prS_at (gt := gt1) (bd := bd) (tu := tu) pc rs (j := j0) ⟨z0, z1⟩ (by rw [ej]; exact y0) (by rw [ej]; exact hg) (fun i i0 i1 e => by
    have := p6 i j0 i0 i1 z1 (by rw [ej]; exact y0)
    rw [e] at this
    omega) 4 (by omega) (by omega)
  rw [ej] at h1
  rw [h1]
  have hm : ∀ i j : Int, 0 ≤ i → i < 4 → 0 ≤ j → j < 4 → 0 ≤ tu i → 0 ≤ tu j → ahB bd (tu i) < ahB bd (tu j) → i < j := fun i j i0 i1 j0' j1 ti tj h => by
    rcases Int.lt_trichotomy i j with w | w | w
    · exact w
    · rw [w] at h; omega
    · have := p6 j i j0' w i1 ti
      omega
  refine isPr.uniq (prS_is pc rs (3 - j0).toNat (by omega)) (prc_is tt AS SV rs (ahB bd y) (4 - ahB bd y - 1).toNat) (fun d => ⟨?_, ?_⟩)
  · rintro ⟨j, a0, a1, a2, a3, a4⟩
    have h5 := p5 j (by omega) (by omega)
    have h6 := p6 j0 j z0 (by omega) (by omega) (by omega)
    rw [a2] at h5 h6
    rw [ej] at h6
    have hd := h5.2.2 a3
    have hdr := ahB_rng bd ⟨a3, h5.2.1.2⟩
    refine ⟨ahB bd d, h6.2, by omega, hT.1 d a3 h5.2.1.2, ?_, (hS d a3 h5.2.1.2).mp a4⟩
    rw [hA d a3 h5.2.1.2, bI_t hd.1]
    decide
  · rintro ⟨j, a0, a1, a2, a3, a4⟩
    have hj := hT.2 j (by omega) (by omega)
    rw [a2] at hj
    have hk : AK d := by
      rw [hA d hj.1.1 hj.1.2] at a3
      exact bI_n0.mp a3
    obtain ⟨i, i0, i1, ei⟩ := hfin.2 d hj.1.1 hj.1.2 hk
    have := hm j0 i z0 z1 i0 i1 (by omega) (by omega) (by rw [ej, ei]; omega)
    exact ⟨i, by omega, by omega, ei, hj.1.1, (hS d hj.1.1 hj.1.2).mpr a4⟩
theorem night_fin {g : GG} {A : Nat → Nat} {Z : Nat → Prop} {hZ hK h' : AH} {LE : Nat → Option Nat} {RK1 : Nat → Int → Nat} {RN : Nat → Int} {HK1 : Nat → Int → Nat} {HN : Nat → Int} {CA : Nat → Nat} {PV : Nat → Option Nat} {CF : Nat → Int → Int} {CN : Nat → Int} {Ha : Int → Nat} {hN : Int} {LE1 : Nat → Option Nat} {RK2 : Nat → Int → Nat} {RN2 : Nat → Int} {HK2 : Nat → Int → Nat} {HN2 : Nat → Int} {CA1 : Nat → Nat} {PV1 : Nat → Option Nat} {CF1 : Nat → Int → Int} {CN1 : Nat → Int} {Ha1 : Int → Nat} {hN1 : Int} {mnights mbits mleast mmost mroom mreserve mmount mspeed : Int} {mdata msize mends mmany mkind mchain mholds mbid mbound mcheap mpromised mcoin mpaid mowed : Int → Int} {G : Int → Int → Int} {Eg : Int → Int → Int} {sz : Int → Int} {pt : Int → Int} {pc : Int → Int} {LN : Int → Int → Option Nat} {lt : Int → Option Nat} {La : Int → Int → Nat} {nt : Int → Int → Int} {len : Int → Int} {t L : Int} {tu wt1 gt1 pa1 : Int → Int} {tq1 : Int → Option Nat} {LN1 : Int → Int → Option Nat} {lt1 : Int → Option Nat} (hA : AOK A) (hC : CW g A hZ (mnights + 1) mbits mleast mmost mroom mreserve mmount mspeed hN1 (ptr Ha1 hN1 0) tq1 G (mixF 4 (ctE Eg G sz mbits mleast mmost) Eg) sz (mixF 4 (ctN G sz mbits mleast mmost) pt) mbid mbound mcheap mpromised mcoin pa1 mowed wt1 gt1 (prS gt1 mbid tu mreserve pc 4).2 LN1 lt1 h') (hNI : NIs g hZ hK LE RK1 RN HK1 HN CA PV CF CN Ha hN mpaid LN lt (fun y => ptr (La y) (if gt1 y = 1 then 0 else len y) 0) G (ctE Eg G sz mbits mleast mmost) (ctN G sz mbits mleast mmost) (fun y k => flg CF CN HK1 HN (La y) (if gt1 y = 1 then 0 else len y) (G y) ((ctE Eg G sz mbits mleast mmost) y) k) gt1 (fun y => difB (G y) ((ctE Eg G sz mbits mleast mmost) y) ((ctN G sz mbits mleast mmost) y) (chP CF CN HK1 HN (La y) (if gt1 y = 1 then 0 else len y)) * (prS gt1 mbid tu mreserve pc 4).2 y) mnights 4 LE1 RK2 RN2 HK2 HN2 CA1 PV1 CF1 CN1 Ha1 hN1 LN1 lt1 pa1 h') (hst : ∀ i : Nat, i < 27 → hZ (A i) ≠ none) (hSub : SUB A hK hZ) (hZn : ∀ q : Nat, hK q ≠ none → ¬ Z q) (hZs : ∀ q : Nat, Z q → hZ q ≠ none) (hX : KPX g hK LE RK1 RN HK1 HN CA PV CF CN Ha hN mdata msize mends mmany mkind mchain mholds mnights LN lt) (hM : MGP mdata msize G sz) (hG : RGm mnights mbits mleast mmost mroom mreserve mmount mspeed msize mbid mbound mcheap mpromised mcoin mpaid mowed) (hn : mnights < 60) (hlen : ∀ x : Int, 0 ≤ x → x ≤ 3 → len x = dfN (colF mkind x) mnights.toNat + 1 ∧ (∀ i : Int, 0 ≤ i → i < len x → ∀ t : Int, 0 ≤ t → t < HN (La x i) → inH Ha hN (HK1 (La x i) t))) (hchn : ∀ x : Int, 0 ≤ x → x ≤ 3 → ¬ ltN (colF mkind x) mnights.toNat = -1 → chnP g hK LE RK1 RN HK1 HN mkind mchain (LN x) x (ltN (colF mkind x) mnights.toNat) (La x) (nt x) (len x)) (hlt : ∀ x : Int, 0 ≤ x → x ≤ 3 → lt x = ptr (La x) (len x) 0) (hI : HI (wbP mkind mbound mcheap mnights mreserve) (mNC mkind mnights) (mOT mdata msize mends mmany mkind mnights mbits mleast mmost) (mAK mdata msize mends mmany mkind mbid mbound mcheap mnights mreserve mbits mleast mmost) (mBS mdata msize mbits mleast mmost) (mDF mdata msize mends mmany mkind mchain mholds mnights mbits mleast mmost) mroom A mbid 4 t tu tq1 wt1 gt1 L) : ∀ tt AS WT CS SV dd ss ee mm kk cc hh pp : Int → Int, turnOK mbid tt → gI (wbP mkind mbound mcheap mnights mreserve) (mNC mkind mnights) (mOT mdata msize mends mmany mkind mnights mbits mleast mmost) (mAK mdata msize mends mmany mkind mbid mbound mcheap mnights mreserve mbits mleast mmost) (mBS mdata msize mbits mleast mmost) (mDF mdata msize mends mmany mkind mchain mholds mnights mbits mleast mmost) mroom tt AS WT CS SV 4 → (∀ y : Int, 0 ≤ y → y ≤ 3 → nwC mdata msize mends mmany mkind mchain mholds mnights mbits mleast mmost (WT y) (SV y) dd ss ee mm kk cc hh y) → (∀ y : Int, 0 ≤ y → y ≤ 3 → pp y = mpaid y + payF mbid tt AS SV CS mreserve (4 : Int) y) → LKo ee mm → sumZ (fun y => bI (¬ gt1 y = 0)) 4 = sumZ (fun j => SV (tt j)) 4 ∧ ST g A Z hZ dd ss ee mm kk cc hh (mnights + 1) mbits mleast mmost mroom mreserve mmount mspeed mbid mbound mcheap mpromised mcoin pp mowed h' := by
  intro tt AS WT CS SV dd ss ee mm kk cc hh pp hT hGI hNW hPP hLK
  have hN0 := hG.1
  have hfin := hI.fin
  have hout : ∀ x : Int, 0 ≤ x → x ≤ 3 → _ := fun x x0 x1 => gI_out hT hGI (c := x) ⟨x0, x1⟩
  have hS01 : ∀ x : Int, 0 ≤ x → x ≤ 3 → SV x = 0 ∨ SV x = 1 := fun x x0 x1 => by rw [(hout x x0 x1).2.2.2]; exact bI_01 _
  have hgS : ∀ x : Int, 0 ≤ x → x ≤ 3 → gt1 x = SV x * WT x := fun x x0 x1 => by
    rw [hfin.1 x x0 x1, (hout x x0 x1).2.2.2, (hout x x0 x1).2.1]; rfl
  have hgz : ∀ x : Int, 0 ≤ x → x ≤ 3 → (gt1 x = 0 ↔ SV x = 0) := fun x x0 x1 => by
    rw [hfin.1 x x0 x1, (hout x x0 x1).2.2.2]
    exact ⟨fun y => bI_0.mpr fun w => gtS_nz.mpr w y, fun y => Classical.byContradiction fun w => bI_0.mp y (gtS_nz.mp w)⟩
  have hg1 : ∀ x : Int, 0 ≤ x → x ≤ 3 → ¬ gt1 x = 0 → gt1 x = WT x ∧ SV x = 1 := fun x x0 x1 hg => by
    have h1 := hgS x x0 x1
    rcases hS01 x x0 x1 with y | y
    · exact absurd ((hgz x x0 x1).mpr y) hg
    · rw [y] at h1; exact ⟨by omega, y⟩
  have hsrv : ∀ x : Int, 0 ≤ x → x ≤ 3 → ¬ gt1 x = 0 → srv (wbP mkind mbound mcheap mnights mreserve) (mNC mkind mnights) (mOT mdata msize mends mmany mkind mnights mbits mleast mmost) (mAK mdata msize mends mmany mkind mbid mbound mcheap mnights mreserve mbits mleast mmost) (mBS mdata msize mbits mleast mmost) (mDF mdata msize mends mmany mkind mchain mholds mnights mbits mleast mmost) x (outL (wbP mkind mbound mcheap mnights mreserve) (mNC mkind mnights) (mOT mdata msize mends mmany mkind mnights mbits mleast mmost) (mAK mdata msize mends mmany mkind mbid mbound mcheap mnights mreserve mbits mleast mmost) (mBS mdata msize mbits mleast mmost) (mDF mdata msize mends mmany mkind mchain mholds mnights mbits mleast mmost) mroom mbid x) := fun x x0 x1 hg => gtS_nz.mp (by rw [← hfin.1 x x0 x1]; exact hg)
  have hNCd : ∀ x : Int, (mNC mkind mnights) x ↔ ltN (colF mkind x) mnights.toNat = -1 := fun x => Iff.rfl
  have hNWB : ∀ x : Int, (mNC mkind mnights) x → (wbP mkind mbound mcheap mnights mreserve) x := fun x y => Or.inl (dfN_neg.mpr y)
  -- what a served client wants
  have hW12 : ∀ x : Int, 0 ≤ x → x ≤ 3 → ¬ gt1 x = 0 → WT x = 1 ∨ (WT x = 2 ∧ ¬ ltN (colF mkind x) mnights.toNat = -1) := fun x x0 x1 hg => by
    have h1 := hg1 x x0 x1 hg
    have h2 := (hout x x0 x1).2.1
    by_cases y : (wbP mkind mbound mcheap mnights mreserve) x ∧ ((mNC mkind mnights) x ∨ (mBS mdata msize mbits mleast mmost) x ≤ outL (wbP mkind mbound mcheap mnights mreserve) (mNC mkind mnights) (mOT mdata msize mends mmany mkind mnights mbits mleast mmost) (mAK mdata msize mends mmany mkind mbid mbound mcheap mnights mreserve mbits mleast mmost) (mBS mdata msize mbits mleast mmost) (mDF mdata msize mends mmany mkind mchain mholds mnights mbits mleast mmost) mroom mbid x)
    · rw [wnt_1 y] at h2; exact Or.inl h2
    · by_cases w : (mOT mdata msize mends mmany mkind mnights mbits mleast mmost) x
      · rw [wnt_2 y w] at h2
        exact Or.inr ⟨h2, fun v => y ⟨hNWB x v, Or.inl v⟩⟩
      · rw [wnt_0 y w] at h2
        omega
  refine ⟨?_, ?_⟩
  · rw [sum_turn hT SV]
    refine sumZ_congr fun y y0 y1 => ?_
    have h1 := hgz y y0 (by omega)
    rcases hS01 y y0 (by omega) with w | w
    · rw [w]; exact bI_f (fun v => v (h1.mpr w))
    · rw [w]; exact bI_t (fun v => by have := h1.mp v; omega)
  · obtain ⟨n1, n2, n3, n4, n5⟩ := hNI
    have hnewA : ∀ b : Nat, hZ b = none → (∀ i : Nat, i < 27 → b ≠ A i) ∧ ¬ Z b := fun b hb => ⟨fun i hi w => hst i hi (by rw [← w]; exact hb), fun w => hZs b w hb⟩
    have holdA : ∀ b : Nat, hK b ≠ none → (∀ i : Nat, i < 27 → b ≠ A i) ∧ ¬ Z b := fun b hb => ⟨(hSub b hb).2, hZn b hb⟩
    have hKh : ∀ b : Nat, hK b ≠ none → h' b = hK b := hC.sub hSub
    -- what is kept now
    have hin : ∀ b : Nat, ((∀ i : Nat, i < 27 → b ≠ A i) ∧ ¬ Z b) → (fun b => @ite _ ((∃ i : Nat, i < 27 ∧ b = A i) ∨ Z b) (Classical.propDecidable _) none (h' b)) b = h' b := fun b hb => @if_neg _ (Classical.propDecidable _) (fun y => y.elim (fun ⟨i, hi, e⟩ => hb.1 i hi e) hb.2) _ _ _
    have hinv : ∀ b : Nat, (fun b => @ite _ ((∃ i : Nat, i < 27 ∧ b = A i) ∨ Z b) (Classical.propDecidable _) none (h' b)) b ≠ none → (h' b = (fun b => @ite _ ((∃ i : Nat, i < 27 ∧ b = A i) ∨ Z b) (Classical.propDecidable _) none (h' b)) b ∧ ∀ i : Nat, i < 27 → b ≠ A i) ∧ ¬ Z b := fun b hb => by
      by_cases y : (∃ i : Nat, i < 27 ∧ b = A i) ∨ Z b
      · exact absurd (@if_pos _ (Classical.propDecidable _) y _ _ _) hb
      · exact ⟨⟨(@if_neg _ (Classical.propDecidable _) y _ _ _).symm, fun i hi e => y (Or.inl ⟨i, hi, e⟩)⟩, fun w => y (Or.inr w)⟩
    generalize hKd : (fun b => @ite _ ((∃ i : Nat, i < 27 ∧ b = A i) ∨ Z b) (Classical.propDecidable _) none (h' b)) = hK1 at hin hinv
    have hzA : ∀ z : Nat, inH Ha1 hN1 z → ((∀ i : Nat, i < 27 → z ≠ A i) ∧ ¬ Z z) ∧ ((∀ i : Nat, i < 27 → CA1 z ≠ A i) ∧ ¬ Z (CA1 z)) := fun z hz => by
      rcases n2.2 z hz with y | y
      · have hk := hX.hs.ck y
        rw [(n2.1 z y).2.1]
        exact ⟨holdA _ (sm_ne hk.1), holdA _ (sm_ne hk.2.1)⟩
      · exact ⟨hnewA _ y.1, hnewA _ y.2⟩
    have hS1 : HS g CA1 PV1 CF1 CN1 Ha1 hN1 hK1 := n1.mv (fun z hz => ⟨hin z (hzA z hz).1, hin _ (hzA z hz).2⟩)
    have hLNn : ∀ x : Int, 0 ≤ x → x ≤ 3 → LN x mnights = none ∧ mkind (60 * x + mnights) = 0 := fun x x0 x1 => ⟨(hX.2.2.1 x x0 x1 mnights hN0.1 (by omega)).nz.mpr (hX.2.2.2.1 x x0 x1 mnights (Int.le_refl _) (by omega)), hX.2.2.2.1 x x0 x1 mnights (Int.le_refl _) (by omega)⟩
    have hLNo : ∀ x : Int, 0 ≤ x → x ≤ 3 → ∀ j : Int, ¬ j = mnights → LN1 x j = LN x j := fun x x0 x1 j hj => by
      by_cases y : x < 4 ∧ ¬ gt1 x = 0
      · obtain ⟨a, a1, _⟩ := (n4 x x0 x1).1 y
        rw [a1, upQ_ne _ _ hj]
      · rw [((n4 x x0 x1).2 y).1]
    have hrows : ∀ x : Int, 0 ≤ x → x ≤ 3 → ∀ j : Int, 0 ≤ j → j < 60 → ¬ j = mnights → rowE mdata msize mends mmany mkind mchain mholds dd ss ee mm kk cc hh (60 * x + j) := fun x x0 x1 => (hNW x x0 x1).1
    have hltn : ∀ x : Int, 0 ≤ x → x ≤ 3 → ltN (colF mkind x) mnights.toNat = ltN (colF kk x) mnights.toNat := fun x x0 x1 => ltN_congr fun i i0 i1 => (hrows x x0 x1 i i0 (by omega) (by omega)).2.2.1
    have hwit : ∀ z : Nat, inH Ha hN z → inH Ha1 hN1 z ∧ CF1 z = CF z ∧ CN1 z = CN z := fun z hz => ⟨(n2.1 z hz).1, (n2.1 z hz).2.2.2.1, (n2.1 z hz).2.2.2.2⟩
    -- the cells of files
    have hMG : MGP dd ss G sz := by
      refine ⟨fun x x0 x1 => ?_, fun i i0 i1 => ?_⟩
      · have h1 := hM.1 x x0 x1
        have h2 := (hNW x x0 x1).2.1
        exact ⟨h1.1.trans h2.1, h1.2.1, fun j j0 j1 => (h1.2.2 j j0 j1).trans (h2.2 j j0 j1)⟩
      · by_cases y : i < 11520
        · have hx : 0 ≤ i / 48 / 60 ∧ i / 48 / 60 ≤ 3 := by omega
          have ei : 48 * (60 * (i / 48 / 60) + i / 48 % 60) + i % 48 = i := by omega
          by_cases w : i / 48 % 60 = mnights
          · by_cases v : SV (i / 48 / 60) = 0
            · have h1 := ((hNW _ hx.1 hx.2).2.2.1 v).2.2.2.2 (i % 48) (by omega) (by omega)
              have h2 : mdata i = dd i := by
                have := h1.1
                unfold rowF at this
                rw [← w, ei] at this
                exact this
              rw [← h2]
              exact hM.2 i i0 i1
            · have h1 := ((hNW _ hx.1 hx.2).2.2.2 v).2.2.2.2.1 (i % 48) (by omega) (by omega)
              unfold rowF at h1
              rw [← w, ei] at h1
              rw [h1]
              exact hM.2 _ (by omega) (by omega)
          · have h1 := (hrows _ hx.1 hx.2 (i / 48 % 60) (by omega) (by omega) w).2.2.2.2 (i % 48) (by omega) (by omega)
            have h2 : mdata i = dd i := by
              have := h1.1
              unfold rowF at this
              rw [ei] at this
              exact this
            rw [← h2]
            exact hM.2 i i0 i1
        · have h1 := (hNW ((i - 11520) / 48) (by omega) (by omega)).2.1.2 (i % 48) (by omega) (by omega)
          unfold rowF at h1
          rw [show 48 * (240 + (i - 11520) / 48) + i % 48 = i by omega] at h1
          rw [← h1]
          exact hM.2 i i0 i1
    have hKP : KPX g hK1 LE1 RK2 RN2 HK2 HN2 CA1 PV1 CF1 CN1 Ha1 hN1 dd ss ee mm kk cc hh (mnights + 1) LN1 lt1 := by
      refine ⟨hLK, hS1, fun x x0 x1 j j0 j1 => ?_, fun x x0 x1 j j0 j1 => ?_, fun z hz => ?_, fun x x0 x1 => ?_⟩
      · have hold := hX.2.2.1 x x0 x1 j j0 j1
        by_cases hj : j = mnights
        · subst hj
          by_cases y : x < 4 ∧ ¬ gt1 x = 0
          · obtain ⟨a, a1, a2, a3, ⟨rr, rra, rh, rha, fq1, fq2, d, e1, e2, e3⟩, b2, b3, b4, b5, b6⟩ := (n4 x x0 x1).1 y
            have hs := hG.2.2.2.2.2 (240 + x) (by omega) (by omega)
            have hcr := hM.cr x0 x1 hs mbits mleast mmost
            have hga := hg1 x x0 x1 y.2
            have hw12 := hW12 x x0 x1 y.2
            have hNR := (hNW x x0 x1).2.2.2 (by omega)
            have hrr := ltN_rng (colF mkind x) j.toNat
            refine LNK.new (FLG := (fun y k => flg CF CN HK1 HN (La y) (if gt1 y = 1 then 0 else len y) (G y) ((ctE Eg G sz mbits mleast mmost) y) k) x) (n := (ctN G sz mbits mleast mmost) x) (b := mbits) (ls := mleast) (ms := mmost) (W := WT x) (eo := (fun y => ptr (La y) (if gt1 y = 1 then 0 else len y) 0) x) (Gx := G x) (Ex := (ctE Eg G sz mbits mleast mmost) x) hX.1 ⟨x0, x1⟩ ⟨j0, j1⟩ hs (by rw [a1, upQ_at]) ⟨rr, rra, rh, rha, fq1, fq2, (hin a (hnewA a d.1)).trans e1, e2.mv (hin rr (hnewA _ d.2.1)) (hin rra (hnewA _ d.2.2.1)), e3.mv (hin rh (hnewA _ d.2.2.2.1)) (hin rha (hnewA _ d.2.2.2.2))⟩ b2 b3 b4 b5 b6 (by unfold ctN; rw [hcr]) (fun k k0 k1 => by rw [ctE_at Eg G sz mbits mleast mmost k0 k1, hcr]) (fun q q0 q1 => (hM.1 x x0 x1).2.2 q q0 q1) hNR (fun i i0 i1 => hrows x x0 x1 i i0 (by omega) (by omega)) ?_ (fun k k0 k1 => ?_)
            · rcases hw12 with w | ⟨w1, w2⟩
              · refine Or.inl ⟨w, ?_⟩
                show ptr (La x) (if gt1 x = 1 then 0 else len x) 0 = none
                rw [hga.1, w, if_pos rfl]
                exact ptr_out (by omega)
              · refine Or.inr ⟨w1, w2, ?_⟩
                show ptr (La x) (if gt1 x = 1 then 0 else len x) 0 = _
                rw [hga.1, w1, if_neg (by omega), ← hlt x x0 x1, hX.2.2.2.2.2 x x0 x1]
                unfold ltp
                rw [if_neg w2]
                exact (hLNo x x0 x1 _ (by omega)).symm
            · show (fstC _ k ∧ ¬ chP CF CN HK1 HN (La x) (if gt1 x = 1 then 0 else len x) _) ↔ _
              refine and_congr Iff.rfl ?_
              rcases hw12 with w | ⟨w1, w2⟩
              · rw [hga.1, w, if_pos rfl]
                exact ⟨fun _ => Or.inl rfl, fun _ => chP_0 _⟩
              · rw [hga.1, w1, if_neg (by omega), not_congr (chain_in hX hN0 hlen hchn x0 x1 _)]
                exact ⟨fun v => Or.inr v, fun v => v.elim (fun u => by omega) id⟩
          · have hSV : SV x = 0 := by
              have := hgz x x0 x1
              by_cases w : gt1 x = 0
              · exact this.mp w
              · exact absurd ⟨by omega, w⟩ y
            have hR := (hNW x x0 x1).2.2.1 hSV
            have h0 := hLNn x x0 x1
            refine Or.inl ⟨hR.2.2.1.symm.trans h0.2, by rw [((n4 x x0 x1).2 y).1]; exact h0.1, hR.2.1.symm.trans ?_⟩
            rcases hold with w | ⟨b, b1, _⟩
            · exact w.2.2
            · rw [h0.1] at b1; cases b1
        · by_cases hlt9 : j < mnights
          · exact (hold.cg hX.1 ⟨x0, x1⟩ ⟨j0, j1⟩ (fun i i0 i1 => hrows x x0 x1 i i0 (by omega) (by omega))).wit j0 n3 (fun b hb => (hin b (holdA b hb)).trans (hKh b hb)) hwit (fun i i0 i1 => hLNo x x0 x1 i (by omega))
          · have hk0 := hX.2.2.2.1 x x0 x1 j (by omega) j1
            have hR := hrows x x0 x1 j j0 j1 hj
            rcases hold with w | ⟨b, b1, b2, b3, b4, b5⟩
            · exact Or.inl ⟨hR.2.2.1.symm.trans hk0, (hLNo x x0 x1 j hj).trans w.2.1, hR.2.1.symm.trans w.2.2⟩
            · exfalso
              rcases b4 with v | v
              · have := v.1; omega
              · have := v.1; omega
      · exact (hrows x x0 x1 j (by omega) j1 (by omega)).2.2.1.symm.trans (hX.2.2.2.1 x x0 x1 j (by omega) j1)
      · rcases n5 z hz with y | ⟨y, a, i, y0, b1, b2, b3⟩
        · obtain ⟨x, j, a, i, x0, j0, c1, c2, c3⟩ := hX.2.2.2.2.1 z y
          have hj : ¬ j = mnights := fun w => by
            rw [w, (hLNn x x0.1 x0.2).1] at c1; cases c1
          obtain ⟨rr, rra, rh, rha, fq1, fq2, p1, _⟩ := ((hX.2.2.1 x x0.1 x0.2 j j0.1 j0.2).at c1).1
          obtain ⟨w1, w2, w3, w4, w5⟩ := n3 a (sm_ne p1)
          exact ⟨x, j, a, i, x0, j0, (hLNo x x0.1 x0.2 j hj).trans c1, by rw [w5]; exact c2, by rw [w4]; exact c3⟩
        · exact ⟨y, mnights, a, i, y0, ⟨hN0.1, hn⟩, b1, b2, b3⟩
      · by_cases y : x < 4 ∧ ¬ gt1 x = 0
        · obtain ⟨a, a1, a2, _⟩ := (n4 x x0 x1).1 y
          have hga := hg1 x x0 x1 y.2
          have hNR := (hNW x x0 x1).2.2.2 (by omega)
          have hkk : ¬ colF kk x mnights = 0 := by
            show ¬ kk (60 * x + mnights) = 0
            rw [hNR.2.2.1]
            have := y.2
            rw [hga.1] at this
            exact this
          rw [ltN_nz _ hN0.1 hkk, a2]
          unfold ltp
          rw [if_neg (by omega), a1, upQ_at]
        · have hSV : SV x = 0 := by
            have := hgz x x0 x1
            by_cases w : gt1 x = 0
            · exact this.mp w
            · exact absurd ⟨by omega, w⟩ y
          have hR := (hNW x x0 x1).2.2.1 hSV
          have h0 := hLNn x x0 x1
          have hkk : colF kk x mnights = 0 := hR.2.2.1.symm.trans h0.2
          have h4 := (n4 x x0 x1).2 y
          rw [ltN_z _ hN0.1 hkk, ← hltn x x0 x1, h4.2.1, h4.1]
          exact hX.2.2.2.2.2 x x0 x1
    have hpa : ∀ y : Int, 0 ≤ y → y ≤ 3 → pa1 y = pp y := fun y y0 y1 => by
      rw [hPP y y0 y1]
      have har := ahB_rng mbid ⟨y0, y1⟩
      by_cases w : y < 4 ∧ ¬ gt1 y = 0
      · obtain ⟨a, a1, a2, a3, _⟩ := (n4 y y0 y1).1 w
        have hga := hg1 y y0 y1 w.2
        have hsv := hsrv y y0 y1 w.2
        rw [a3, payF_t ⟨by omega, by omega⟩, ← price_eq pc hI hT (fun x x0 x1 => (hout x x0 x1).1) hgz y0 y1 hsv.1 w.2, (hout y y0 y1).2.2.1]
        have hw12 := hW12 y y0 y1 w.2
        have hcst : cst (wbP mkind mbound mcheap mnights mreserve) (mNC mkind mnights) (mOT mdata msize mends mmany mkind mnights mbits mleast mmost) (mBS mdata msize mbits mleast mmost) (mDF mdata msize mends mmany mkind mchain mholds mnights mbits mleast mmost) y (outL (wbP mkind mbound mcheap mnights mreserve) (mNC mkind mnights) (mOT mdata msize mends mmany mkind mnights mbits mleast mmost) (mAK mdata msize mends mmany mkind mbid mbound mcheap mnights mreserve mbits mleast mmost) (mBS mdata msize mbits mleast mmost) (mDF mdata msize mends mmany mkind mchain mholds mnights mbits mleast mmost) mroom mbid y) = difB (G y) ((ctE Eg G sz mbits mleast mmost) y) ((ctN G sz mbits mleast mmost) y) (chP CF CN HK1 HN (La y) (if gt1 y = 1 then 0 else len y)) := by
          have h2 := (hout y y0 y1).2.1
          rcases hw12 with v | ⟨v1, v2⟩
          · unfold cst
            rw [if_pos (h2.symm.trans v), hga.1, v, if_pos rfl]
            exact (cut_base hM hG y0 y1 (fun c => chP_0 c)).symm
          · unfold cst
            rw [if_neg (by omega), if_pos (h2.symm.trans v1), hga.1, v1, if_neg (by omega)]
            exact (cut_dif hM hG y0 y1 (fun c => chain_in hX hN0 hlen hchn y0 y1 c)).symm
        rw [hcst, Int.mul_comm]
      · rw [((n4 y y0 y1).2 w).2.2, payF_f (fun v => ?_)]
        · omega
        · have := hgz y y0 y1
          refine v.2 (this.mp ?_)
          exact Classical.byContradiction fun u => w ⟨by omega, u⟩
    have hC2 := hC.cpa hpa
    exact ⟨hK1, LE1, RK2, RN2, HK2, HN2, CA1, PV1, CF1, CN1, Ha1, hN1, _, _, _, _, _, _, _, _, _, _, hC2, fun b hb => (hinv b hb).1, fun b hb => (hinv b hb).2, hKP, hMG⟩
