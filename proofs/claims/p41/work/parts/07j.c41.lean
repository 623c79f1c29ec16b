abbrev rmX9_serve : Room := { frames := 5, cells := 105, slots := 2600, locals := 114 }
theorem in_X9_serve_X9 : ∀ w ∈ wsX90, w ∈ wsX9_serve := by decide +kernel
theorem w_X9_serve_f25 : Cond.fieldLink RX9 25 "DeltaNights" "house" "LDeltaNights$House;" ∈ wsX9_serve := by decide +kernel
theorem in_X9_serve_X3 : ∀ w ∈ wsX30, w ∈ wsX9_serve := by decide +kernel
theorem w_X9_serve_f52 : Cond.fieldLink RX9 52 "DeltaNights$Client" "file" "LDeltaNights$ByteFile;" ∈ wsX9_serve := by decide +kernel
theorem w_X9_serve_f170 : Cond.fieldLink RX9 170 "DeltaNights$Client" "gets" "I" ∈ wsX9_serve := by decide +kernel
theorem w_X9_serve_f43 : Cond.fieldLink RX9 43 "DeltaNights" "nightsGone" "I" ∈ wsX9_serve := by decide +kernel
theorem w_X9_serve_f260 : Cond.fieldLink RX9 260 "DeltaNights$Client" "paid" "I" ∈ wsX9_serve := by decide +kernel
theorem w_X9_serve_f294 : Cond.fieldLink RX9 294 "DeltaNights$Client" "price" "I" ∈ wsX9_serve := by decide +kernel
theorem w_X9_serve_f160 : Cond.fieldLink RX9 160 "DeltaNights$Client" "latest" "LDeltaNights$Link;" ∈ wsX9_serve := by decide +kernel
set_option maxHeartbeats 4000000 in
set_option maxRecDepth 100000 in
theorem ct_X9_serve (l : Launch) (g : GG) (sz0 : Nat) {A : Nat → Nat} (hA : AOK A) {h0 hZ : AH} {ng : Int} {bt : Int} {ls : Int} {ms : Int} {rm : Int} {rs : Int} {mo : Int} {sp : Int} {tq : Int → Option Nat} {G : Int → Int → Int} {Eg : Int → Int → Int} {sz : Int → Int} {pt : Int → Int} {bd : Int → Int} {bo : Int → Int} {cp : Int → Int} {pr : Int → Int} {co : Int → Int} {pa : Int → Int} {ow : Int → Int} {wt : Int → Int} {gt : Int → Int} {pc : Int → Int} {LN : Int → Int → Option Nat} {lt : Int → Option Nat} {LE : Nat → Option Nat} {RK1 : Nat → Int → Nat} {RN : Nat → Int} {HK1 : Nat → Int → Nat} {HN : Nat → Int} {La : Int → Nat} {len : Int} {CA : Nat → Nat} {PV : Nat → Option Nat} {CF : Nat → Int → Int} {CN : Nat → Int} {Ha : Int → Nat} {hN : Int} (hC : CW g A h0 ng bt ls ms rm rs mo sp hN (ptr Ha hN 0) tq G Eg sz pt bd bo cp pr co pa ow wt gt pc LN lt hZ) {x : Int} (x0 : 0 ≤ x) (x1 : x ≤ 3) (hS0 : HS g CA PV CF CN Ha hN hZ) (hcz : ∀ z : Nat, inH Ha hN z → ∀ i : Nat, i < 27 → z ≠ A i ∧ CA z ≠ A i) (hCH : CHN g LE RK1 RN HK1 HN La len hZ) (hch : ∀ i : Int, 0 ≤ i → i < len → ∀ j : Int, 0 ≤ j → j < HN (La i) → inH Ha hN (HK1 (La i) j)) (hlen : 0 ≤ len) (hE : EOK (Eg x) (pt x)) (hng : 0 ≤ ng ∧ ng < 60) (hgr : 0 ≤ gt x ∧ gt x ≤ 2) (hgt : (gt x = 1 ∧ len = 0) ∨ (¬ gt x = 1 ∧ lt x = ptr La len 0))  : CT l yX9_serve wsX9_serve rmX9_serve g sz0 [.ref (A 0), .ref (A (7 + 5 * x.toNat))] hZ (fun v h' => v = none ∧ ∃ (a rr rra rh rha : Nat) (CA2 : Nat → Nat) (PV2 : Nat → Option Nat) (CF2 : Nat → Int → Int) (CN2 : Nat → Int) (Ha2 : Int → Nat) (hN2 : Int) (fq1 fq2 : Int → Option Nat) (K HL2 : Int → Nat) (nH : Int), (hZ a = none ∧ hZ rr = none ∧ hZ rra = none ∧ hZ rh = none ∧ hZ rha = none) ∧ CW g A h0 ng bt ls ms rm rs mo sp hN2 (ptr Ha2 hN2 0) tq G Eg sz pt bd bo cp pr co (upZ pa x (pa x + (difB (G x) (Eg x) (pt x) (chP CF CN HK1 HN La len)) * pc x)) ow wt gt pc (upL LN x (upQ (LN x) ng (some a))) (upQ lt x (some a)) h' ∧ HS g CA2 PV2 CF2 CN2 Ha2 hN2 h' ∧ HX hZ CA PV CF CN Ha hN CA2 PV2 CF2 CN2 Ha2 hN2 ∧ h' a = some (oE 5 [va_rf (ptr La len 0), .ref rr, .ref rh]) ∧ RW g rr rra fq1 K (pt x) h' ∧ RW g rh rha fq2 HL2 nH h' ∧ (∀ j : Int, 0 ≤ j → j < pt x → inH Ha2 hN2 (K j) ∧ cont (CF2 (K j)) (CN2 (K j)) = chk (G x) (Eg x) j) ∧ nH = sumZ (fun j => bI ((flg CF CN HK1 HN La len (G x) (Eg x)) j)) (pt x).toNat ∧ (∀ j : Int, 0 ≤ j → j < pt x → (flg CF CN HK1 HN La len (G x) (Eg x)) j → HL2 (sumZ (fun j => bI ((flg CF CN HK1 HN La len (G x) (Eg x)) j)) j.toNat) = K j) ∧ (∀ y : Nat, inH Ha2 hN2 y → inH Ha hN y ∨ ∃ j : Int, 0 ≤ j ∧ j < pt x ∧ K j = y)) := by
  refine CT.of (by decide +kernel) rfl [some (.ref (A 0)), some (.ref (A (7 + 5 * x.toNat))), none] rfl (Nat.le_of_ble_eq_true rfl) ?_
  intro p e s m args below meth c B hr hlk hnm
  have hFx := hC.fl x0 x1
  obtain ⟨fc, hQC, hfc⟩ := hC.qc
  refine r_aload_n B dX9_serve_0 rfl rfl ?_
  refine r_get (C := RX9) (T := TX9) (N := 6) (ci := 9) B dX9_serve_1 in_X9_serve_X9 rfl 2 (by decide) w_X9_serve_f25 rfl (by first | exact hC1.ro | exact hC.ro) rfl ?_
  refine r_aload_n B dX9_serve_4 rfl rfl ?_
  refine r_get (C := RX3) (T := TX3) (N := 13) (ci := 3) B dX9_serve_5 in_X9_serve_X3 rfl 0 (by decide) w_X9_serve_f52 rfl (by first | exact hC2.cl x0 x1 | exact hC1.cl x0 x1 | exact hC.cl x0 x1) rfl ?_
  refine r_aload_n B dX9_serve_8 rfl rfl ?_
  refine r_get (C := RX3) (T := TX3) (N := 13) (ci := 3) B dX9_serve_9 in_X9_serve_X3 rfl 11 (by decide) w_X9_serve_f170 rfl (by first | exact hC2.cl x0 x1 | exact hC1.cl x0 x1 | exact hC.cl x0 x1) rfl ?_
  refine r_iconst B dX9_serve_12 ?_
  have join24 : WA p l e rmX9_serve s m args below meth c g sz0 3 (MQ below (QQ g sz0 (fun v h' => v = none ∧ ∃ (a rr rra rh rha : Nat) (CA2 : Nat → Nat) (PV2 : Nat → Option Nat) (CF2 : Nat → Int → Int) (CN2 : Nat → Int) (Ha2 : Int → Nat) (hN2 : Int) (fq1 fq2 : Int → Option Nat) (K HL2 : Int → Nat) (nH : Int), (hZ a = none ∧ hZ rr = none ∧ hZ rra = none ∧ hZ rh = none ∧ hZ rha = none) ∧ CW g A h0 ng bt ls ms rm rs mo sp hN2 (ptr Ha2 hN2 0) tq G Eg sz pt bd bo cp pr co (upZ pa x (pa x + (difB (G x) (Eg x) (pt x) (chP CF CN HK1 HN La len)) * pc x)) ow wt gt pc (upL LN x (upQ (LN x) ng (some a))) (upQ lt x (some a)) h' ∧ HS g CA2 PV2 CF2 CN2 Ha2 hN2 h' ∧ HX hZ CA PV CF CN Ha hN CA2 PV2 CF2 CN2 Ha2 hN2 ∧ h' a = some (oE 5 [va_rf (ptr La len 0), .ref rr, .ref rh]) ∧ RW g rr rra fq1 K (pt x) h' ∧ RW g rh rha fq2 HL2 nH h' ∧ (∀ j : Int, 0 ≤ j → j < pt x → inH Ha2 hN2 (K j) ∧ cont (CF2 (K j)) (CN2 (K j)) = chk (G x) (Eg x) j) ∧ nH = sumZ (fun j => bI ((flg CF CN HK1 HN La len (G x) (Eg x)) j)) (pt x).toNat ∧ (∀ j : Int, 0 ≤ j → j < pt x → (flg CF CN HK1 HN La len (G x) (Eg x)) j → HL2 (sumZ (fun j => bI ((flg CF CN HK1 HN La len (G x) (Eg x)) j)) j.toNat) = K j) ∧ (∀ y : Nat, inH Ha2 hN2 y → inH Ha hN y ∨ ∃ j : Int, 0 ≤ j ∧ j < pt x ∧ K j = y))) args s rmX9_serve.cells rmX9_serve.slots (A0 sz0)) hZ 0 0 [some (.ref (A 0)), some (.ref (A (7 + 5 * x.toNat))), none] 24 [va_rf (ptr La len 0), .ref (A (9 + 5 * x.toNat)), .ref (A 3)] := by
    refine r_callV (n := 2) B dX9_serve_24 (ct_X4_linkFor l g sz0 hFx hCH hE hC.ho hS0 hch hlen) gX9_serve_X4_linkFor rfl (by decide +kernel) ⟨Nat.le_of_ble_eq_true rfl, Nat.le_of_ble_eq_true rfl⟩ hC.ho rfl rfl rfl (Nat.le_of_ble_eq_true rfl) (Nat.le_of_ble_eq_true rfl) (Nat.le_of_ble_eq_true rfl) (fun v h1 hp => ?_)
    obtain ⟨a, rr, rra, rh, rha, CA2, PV2, CF2, CN2, Ha2, hN2, fq1, fq2, K, HL2, nH, hv, hd, hL, hNH⟩ := hp
    subst v
    dsimp only [Option.toList, List.cons_append, List.nil_append]
    obtain ⟨q1, q2, q3, q4, q5, q6, q7, q8, q9, q10⟩ := hL
    have hC1 := hC.house hA q2 q10
    have ha0 : h1 a = some (oE 5 [va_rf (ptr La len 0), .ref rr, .ref rh]) := q4
    refine r_astore_n B dX9_serve_27 rfl rfl (by decide) (lcat_v rfl rfl) ?_
    refine r_aload_n B dX9_serve_28 rfl rfl ?_
    refine r_aload_n B dX9_serve_29 rfl rfl ?_
    refine r_get (C := RX9) (T := TX9) (N := 6) (ci := 9) B dX9_serve_30 in_X9_serve_X9 rfl 5 (by decide) w_X9_serve_f43 rfl (by first | exact hC1.ro | exact hC.ro) rfl ?_
    refine r_aload_n B dX9_serve_33 rfl rfl ?_
    refine r_callV (n := 2) B dX9_serve_34 (ct_X3_addLink l g sz0 (hC1.cl x0 x1) (hC1.ln x0 x1) _ _ hng ha0) gX9_serve_X3_addLink rfl (by decide +kernel) ⟨Nat.le_of_ble_eq_true rfl, Nat.le_of_ble_eq_true rfl⟩ (by first | exact hC2.cl x0 x1 | exact hC1.cl x0 x1 | exact hC.cl x0 x1) rfl rfl rfl (Nat.le_of_ble_eq_true rfl) (Nat.le_of_ble_eq_true rfl) (Nat.le_of_ble_eq_true rfl) (fun v h2 hp => ?_)
    obtain ⟨hv, w1, w2, w3⟩ := hp
    subst v
    dsimp only [Option.toList, List.cons_append, List.nil_append]
    have nA : ∀ b : Nat, hZ b = none → ∀ i : Nat, i < 27 → b ≠ A i := fun b hb i hi z => hC.stands hi (by rw [← z]; exact hb)
    have nC : ∀ z : Nat, inH Ha2 hN2 z → ∀ i : Nat, i < 27 → z ≠ A i ∧ CA2 z ≠ A i := fun z hz i hi => by
      rcases q3.2 z hz with y | y
      · have hk := hS0.ck y
        have e := (q3.1 z y).2.1
        rw [e]
        exact hcz z y i hi
      · exact ⟨nA z y.1 i hi, nA _ y.2 i hi⟩
    have hC2 := hC1.link hA x0 x1 w1 w2 w3
    have fr2 : ∀ b : Nat, (∀ i : Nat, i < 27 → b ≠ A i) → h2 b = h1 b := fun b hb => w3 b (hb _ (by omega)) (hb _ (by omega))
    have s1 : HS g CA2 PV2 CF2 CN2 Ha2 hN2 h2 := q1.mv (fun z hz => ⟨fr2 z (fun i hi => (nC z hz i hi).1), fr2 _ (fun i hi => (nC z hz i hi).2)⟩)
    have s4 := (fr2 a (nA a hd.1)).trans q4
    have s5 := q5.mv (fr2 rr (nA rr hd.2.1)) (fr2 rra (nA rra hd.2.2.1))
    have s6 := q6.mv (fr2 rh (nA rh hd.2.2.2.1)) (fr2 rha (nA rha hd.2.2.2.2))
    have hLK : LKA g (fun _ => ptr La len 0) (fun _ => K) (fun _ => pt x) (fun _ => HL2) (fun _ => nH) a h2 := ⟨rr, rra, rh, rha, fq1, fq2, s4, s5, s6⟩
    have hRKn : RK g CA2 PV2 CF2 CN2 HL2 nH h2 := fun i i0 i1 => by
      rw [q8] at i1
      obtain ⟨j, j0, j1, j2, j3⟩ := cnt_surj (P := (flg CF CN HK1 HN La len (G x) (Eg x))) i0 i1
      have e := q9 j j0 (by omega) j2
      rw [j3] at e
      rw [e]
      exact s1.ck (q7 j j0 (by omega)).1
    have hby : pt x + sumZ (fun i => CN2 (HL2 i)) nH.toNat = (difB (G x) (Eg x) (pt x) (chP CF CN HK1 HN La len)) := by
      unfold difB
      congr 1
      rw [q8, sum_cnt (P := (flg CF CN HK1 HN La len (G x) (Eg x))) (K := K) (HL := HL2) CN2 (fun k k0 k1 hp => q9 k k0 (by omega) hp)]
      refine sumZ_congr fun k k0 k1 => ?_
      have h7 := q7 k k0 (by omega)
      have hk := s1.ck h7.1
      have hl := lnF_rng hE k0 (by omega)
      rw [((cont_chk (E := Eg x) (k := k) hk.2.2.1.1 rfl rfl (by omega)).mpr h7.2).1]
      rfl
    refine r_aload_n B dX9_serve_37 rfl rfl ?_
    refine r_dup B dX9_serve_38 rfl ?_
    refine r_get (C := RX3) (T := TX3) (N := 13) (ci := 3) B dX9_serve_39 in_X9_serve_X3 rfl 8 (by decide) w_X9_serve_f260 rfl (by first | exact hC2.cl x0 x1 | exact hC1.cl x0 x1 | exact hC.cl x0 x1) rfl ?_
    refine r_aload_n B dX9_serve_42 rfl rfl ?_
    refine r_callV (n := 0) B dX9_serve_43 (ct_X5_linkBytes l g sz0 hLK hRKn) gX9_serve_X5_linkBytes rfl (by decide +kernel) ⟨Nat.le_of_ble_eq_true rfl, Nat.le_of_ble_eq_true rfl⟩ hLK.choose_spec.choose_spec.choose_spec.choose_spec.choose_spec.choose_spec.1 rfl rfl rfl (Nat.le_of_ble_eq_true rfl) (Nat.le_of_ble_eq_true rfl) (Nat.le_of_ble_eq_true rfl) (fun v h' hp => ?_)
    obtain ⟨hv, hh⟩ := hp
    subst v
    subst h'
    dsimp only [Option.toList, List.cons_append, List.nil_append]
    refine r_topz hby ?_
    refine r_aload_n B dX9_serve_46 rfl rfl ?_
    refine r_get (C := RX3) (T := TX3) (N := 13) (ci := 3) B dX9_serve_47 in_X9_serve_X3 rfl 12 (by decide) w_X9_serve_f294 rfl (by first | exact hC2.cl x0 x1 | exact hC1.cl x0 x1 | exact hC.cl x0 x1) rfl ?_
    refine r_imul B dX9_serve_50 ?_
    refine r_iadd B dX9_serve_51 ?_
    refine r_put (C := RX3) (T := TX3) (N := 13) (ci := 3) B dX9_serve_52 in_X9_serve_X3 tyX3 tyX3_ok nmX3 rfl 8 (by decide) w_X9_serve_f260 rfl rfl (ty := .int) (by decide +kernel) rfl rfl (by first | exact hC2.cl x0 x1 | exact hC1.cl x0 x1 | exact hC.cl x0 x1) (by show 8 < 13; decide) ?_
    refine k_next (P := fun x9 => CW g A h0 ng bt ls ms rm rs mo sp hN2 (ptr Ha2 hN2 0) tq G Eg sz pt bd bo cp pr co (upZ pa x (pa x + (difB (G x) (Eg x) (pt x) (chP CF CN HK1 HN La len)) * pc x)) ow wt gt pc (upL LN x (upQ (LN x) ng (some a))) (upQ lt x (some a)) x9 ∧ ∀ b : Nat, (∀ i : Nat, i < 27 → b ≠ A i) → x9 b = h2 b) ⟨hC2.s_pa hA x0 x1, fun b hb => if_neg (hb _ (by omega))⟩ (fun h3 hX3 => ?_)
    exact r_vret B hr hlk dX9_serve_55 (Nat.le_of_ble_eq_true rfl) (Nat.le_of_ble_eq_true rfl) ⟨rfl, a, rr, rra, rh, rha, CA2, PV2, CF2, CN2, Ha2, hN2, fq1, fq2, K, HL2, nH, hd, hX3.1, s1.mv (fun z hz => ⟨hX3.2 z (fun i hi => (nC z hz i hi).1), hX3.2 _ (fun i hi => (nC z hz i hi).2)⟩), q3, (hX3.2 a (nA a hd.1)).trans s4, s5.mv (hX3.2 rr (nA rr hd.2.1)) (hX3.2 rra (nA rra hd.2.2.1)), s6.mv (hX3.2 rh (nA rh hd.2.2.2.1)) (hX3.2 rha (nA rha hd.2.2.2.2)), q7, q8, q9, hNH⟩
  refine r_icmp_ne B dX9_serve_13 (tgt := 20) (by decide) (by omega) (by omega) (fun c13 => ?_) (fun c13 => ?_)
  · refine r_aload_n B dX9_serve_20 rfl rfl ?_
    refine r_get (C := RX3) (T := TX3) (N := 13) (ci := 3) B dX9_serve_21 in_X9_serve_X3 rfl 2 (by decide) w_X9_serve_f160 rfl (by first | exact hC2.cl x0 x1 | exact hC1.cl x0 x1 | exact hC.cl x0 x1) rfl ?_
    rcases hgt with y | y
    · exact absurd y.1 c13
    refine r_topv y.2 ?_
    exact r_lv (lvLe_s rfl (lvLe_s rfl (lvLe_n lvLe_nil))) (join24)
  · refine r_null B dX9_serve_16 ?_
    refine r_topn ?_
    refine r_topv (o' := (ptr La len 0)) (ptr_out (by omega)).symm ?_
    refine r_goto B dX9_serve_17 (tgt := 24) (by decide) ?_
    exact r_lv (lvLe_s rfl (lvLe_s rfl (lvLe_n lvLe_nil))) (join24)
