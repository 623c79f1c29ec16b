abbrev rmX4_linkFor : Room := { frames := 4, cells := 105, slots := 2600, locals := 89 }
theorem w_X4_linkFor_iniX5 : Cond.initialized RX5 ∈ wsX4_linkFor := by decide +kernel
theorem w_X4_linkFor_insX5_init : Cond.instanceMethod yX5_init ∈ wsX4_linkFor := by decide +kernel
theorem w_X4_linkFor_ml19 : Cond.methodLink RX4 19 yX5_init ∈ wsX4_linkFor := by decide +kernel
theorem in_X4_linkFor_X0 : ∀ w ∈ wsX00, w ∈ wsX4_linkFor := by decide +kernel
theorem w_X4_linkFor_f22 : Cond.fieldLink RX4 22 "DeltaNights$ByteFile" "parts" "I" ∈ wsX4_linkFor := by decide +kernel
set_option maxHeartbeats 4000000 in
set_option maxRecDepth 100000 in
theorem ct_X4_linkFor (l : Launch) (g : GG) (sz0 : Nat) {hB : AH} {f ac ae : Nat} {G Eg : Int → Int} {sz pt : Int} (hF : FL g f ac ae G Eg sz pt hB hB) {ho : Nat} {CA0 : Nat → Nat} {PV0 : Nat → Option Nat} {CF0 : Nat → Int → Int} {CN0 : Nat → Int} {Ha0 : Int → Nat} {hN0 : Int} {LE : Nat → Option Nat} {RK1 : Nat → Int → Nat} {RN : Nat → Int} {HK1 : Nat → Int → Nat} {HN : Nat → Int} {La : Int → Nat} {len : Int} (hCH : CHN g LE RK1 RN HK1 HN La len hB) (hE : EOK Eg pt) (hHO : hB ho = some (oE 4 [va_rf (ptr Ha0 hN0 0), .int (iI hN0)])) (hS0 : HS g CA0 PV0 CF0 CN0 Ha0 hN0 hB) (hch : ∀ i : Int, 0 ≤ i → i < len → ∀ j : Int, 0 ≤ j → j < HN (La i) → inH Ha0 hN0 (HK1 (La i) j)) (hlen : 0 ≤ len)  : CT l yX4_linkFor wsX4_linkFor rmX4_linkFor g sz0 [.ref ho, .ref f, va_rf (ptr La len 0)] hB (fun v h' => ∃ (a rr rra rh rha : Nat) (CA : Nat → Nat) (PV : Nat → Option Nat) (CF : Nat → Int → Int) (CN : Nat → Int) (Ha : Int → Nat) (hN : Int) (fq1 fq2 : Int → Option Nat) (K HL : Int → Nat) (nH : Int), v = some (.ref a) ∧ (hB a = none ∧ hB rr = none ∧ hB rra = none ∧ hB rh = none ∧ hB rha = none) ∧ LFI g hB ho a rr rra rh rha (ptr La len 0) CA0 PV0 CF0 CN0 Ha0 hN0 HK1 HN La len G Eg pt CA PV CF CN Ha hN fq1 fq2 K HL nH h' ∧ (∀ y : Nat, inH Ha hN y → inH Ha0 hN0 y ∨ ∃ j : Int, 0 ≤ j ∧ j < pt ∧ K j = y)) := by
  refine CT.of (by decide +kernel) rfl [some (.ref ho), some (.ref f), some (va_rf (ptr La len 0)), none, none, none] (by generalize ptr La len 0 = o; cases o <;> rfl) (by generalize ptr La len 0 = o; cases o <;> exact Nat.le_of_ble_eq_true rfl) ?_
  intro p e s m args below meth c B hr hlk hnm
  have ht9 := hF.t
  refine r_new (C := RX5) (T := TX5) (N := 3) (ci := 5) (fs := [.null, .null, .null]) B dX4_linkFor_0 (by decide +kernel) tyX5 tyX5_ok (by decide +kernel) (by decide +kernel) (by decide +kernel) rfl (by decide) (Nat.le_of_ble_eq_true rfl) (Nat.le_of_ble_eq_true rfl) (fun a sa na => ?_)
  refine k_next (P := fun x => x a = some (oE 5 [.null, .null, .null]) ∧ ∀ b : Nat, b ≠ a → x b = hB b) ⟨if_pos rfl, fun b b0 => if_neg b0⟩ (fun h1 hX => ?_)
  refine r_dup B dX4_linkFor_3 rfl ?_
  refine r_aload_n B dX4_linkFor_4 rfl (va_rf_isRef _) ?_
  refine r_callI (n := 1) B dX4_linkFor_5 (ct_X5_init l g sz0 hX.1) gX4_linkFor_X5_init rfl w_X4_linkFor_iniX5 w_X4_linkFor_ml19 w_X4_linkFor_insX5_init rfl (by decide +kernel) ⟨Nat.le_of_ble_eq_true rfl, Nat.le_of_ble_eq_true rfl⟩ rfl rfl (Nat.le_of_ble_eq_true rfl) (Nat.le_of_ble_eq_true rfl) (Nat.le_of_ble_eq_true rfl) (fun v h2 hp => ?_)
  obtain ⟨hv, rr, rra, rh, rha, d1, d2, w1, w2, w3, w4⟩ := hp
  subst v
  dsimp only [Option.toList, List.cons_append, List.nil_append]
  have nba : ∀ b : Nat, hB b ≠ none → b ≠ a := fun b hb z => hb (by rw [z]; exact na)
  have fr1 : ∀ b : Nat, hB b ≠ none → h2 b = hB b := fun b hb => by rw [w4 b (nba b hb) (by rw [hX.2 b (nba b hb)]; exact hb), hX.2 b (nba b hb)]
  have nh : ∀ b : Nat, h1 b = none → hB b = none := fun b hb => Classical.byContradiction fun y => by
    rw [hX.2 b (nba b y)] at hb
    exact y hb
  have nLa : ∀ i : Int, 0 ≤ i → i < len → La i ≠ a := fun i i0 i1 z => by
    obtain ⟨_, _, _, _, _, _, p1, _, _⟩ := (hCH i i0 i1).2
    rw [z, na] at p1
    cases p1
  have hd : hB rr = none ∧ hB rra = none ∧ hB rh = none ∧ hB rha = none := ⟨nh _ d2.1, nh _ d2.2.1, nh _ d2.2.2.1, nh _ d2.2.2.2⟩
  have hHOn : hB ho ≠ none := sm_ne hHO
  have hL0 : LFI g hB ho a rr rra rh rha (ptr La len 0) CA0 PV0 CF0 CN0 Ha0 hN0 HK1 HN La len G Eg 0 CA0 PV0 CF0 CN0 Ha0 hN0 (fun _ => none) (fun _ => none) (fun _ => 0) (fun _ => 0) 0 h2 := ⟨hS0.mv (fun z hz => ⟨fr1 z (sm_ne (hS0.ck hz).1), fr1 _ (sm_ne (hS0.ck hz).2.1)⟩), (fr1 ho hHOn).trans hHO, HX.same _ _ _ _ _ _ _, w1, w2 _, w3 _, fun j j0 j1 => absurd j1 (by omega), rfl, fun j j0 j1 => absurd j1 (by omega), fun b b0 _ => fr1 b b0⟩
  refine r_astore_n B dX4_linkFor_8 rfl rfl (by decide) (lcat_v rfl (va_rf_cat _)) ?_
  refine r_iconst B dX4_linkFor_9 ?_
  refine r_istore B dX4_linkFor_10 (by decide) (lcat_v rfl rfl) ?_
  have loop12 : ∀ (nn : Nat) (q : Int) (CA : Nat → Nat) (PV : Nat → Option Nat) (CF : Nat → Int → Int) (CN : Nat → Int) (Ha : Int → Nat) (hN : Int) (fq1 : Int → Option Nat) (fq2 : Int → Option Nat) (K : Int → Nat) (HL : Int → Nat) (nH : Int) (h : AH), LFI g hB ho a rr rra rh rha (ptr La len 0) CA0 PV0 CF0 CN0 Ha0 hN0 HK1 HN La len G Eg q CA PV CF CN Ha hN fq1 fq2 K HL nH h → (0 ≤ q ∧ q ≤ pt) → ((∀ y : Nat, inH Ha hN y → inH Ha0 hN0 y ∨ ∃ j : Int, 0 ≤ j ∧ j < q ∧ K j = y)) → (pt - q).toNat < nn → WA p l e rmX4_linkFor s m args below meth c g sz0 6 (MQ below (QQ g sz0 (fun v h' => ∃ (a rr rra rh rha : Nat) (CA : Nat → Nat) (PV : Nat → Option Nat) (CF : Nat → Int → Int) (CN : Nat → Int) (Ha : Int → Nat) (hN : Int) (fq1 fq2 : Int → Option Nat) (K HL : Int → Nat) (nH : Int), v = some (.ref a) ∧ (hB a = none ∧ hB rr = none ∧ hB rra = none ∧ hB rh = none ∧ hB rha = none) ∧ LFI g hB ho a rr rra rh rha (ptr La len 0) CA0 PV0 CF0 CN0 Ha0 hN0 HK1 HN La len G Eg pt CA PV CF CN Ha hN fq1 fq2 K HL nH h' ∧ (∀ y : Nat, inH Ha hN y → inH Ha0 hN0 y ∨ ∃ j : Int, 0 ≤ j ∧ j < pt ∧ K j = y))) args s rmX4_linkFor.cells rmX4_linkFor.slots (A0 sz0)) h (0 + 1 + 4 + q.toNat * 2) (0 + 3 + 100 + q.toNat * 50) [some (.ref ho), some (.ref f), some (va_rf (ptr La len 0)), some (.ref a), some (.int (iI (q))), none] 12 [] := by
    intro nn
    induction nn with
    | zero => intro q CA PV CF CN Ha hN fq1 fq2 K HL nH h hL i1 i9 hn; exact absurd hn (Nat.not_lt_zero _)
    | succ nn ih =>
      intro q CA PV CF CN Ha hN fq1 fq2 K HL nH h hL i1 i9 hn
      refine r_iload B dX4_linkFor_12 rfl ?_
      have hFh := hF.mv (hL.2.2.2.2.2.2.2.2.2 f (sm_ne hF.1) (oci_ne hF.1 hHO (by decide))) (hL.2.2.2.2.2.2.2.2.2 ac (sm_ne hF.2.1) (fun z => ioe_ne hHO hF.2.1 z.symm)) (hL.2.2.2.2.2.2.2.2.2 ae (sm_ne hF.2.2.1) (fun z => ioe_ne hHO hF.2.2.1 z.symm))
      refine r_aload_n B dX4_linkFor_14 rfl rfl ?_
      refine r_get (C := RX0) (T := TX0) (N := 4) (ci := 0) B dX4_linkFor_15 in_X4_linkFor_X0 rfl 3 (by decide) w_X4_linkFor_f22 rfl hFh.1 rfl ?_
      refine r_icmp_ge B dX4_linkFor_18 (tgt := 57) (by decide) (by omega) (by omega) (fun c18 => ?_) (fun c18 => ?_)
      · have hq9 : q = pt := by omega
        subst hq9
        refine r_aload_n B dX4_linkFor_57 rfl rfl ?_
        exact r_aret B hr hlk dX4_linkFor_58 rfl (by show _ ≤ 105; omega) (by show _ ≤ 2600; omega) ⟨a, rr, rra, rh, rha, CA, PV, CF, CN, Ha, hN, fq1, fq2, K, HL, nH, rfl, ⟨na, hd.1, hd.2.1, hd.2.2.1, hd.2.2.2⟩, hL, i9⟩
      · have hek := hE q i1.1 (by omega)
        have hln : lnF Eg q = Eg q - bgF Eg q := rfl
        refine r_aload_n B dX4_linkFor_21 rfl rfl ?_
        refine r_iload B dX4_linkFor_22 rfl ?_
        refine r_iconst B dX4_linkFor_24 ?_
        refine r_isub B dX4_linkFor_25 ?_
        refine r_callV (n := 1) B dX4_linkFor_26 (ct_X0_partEnd l g sz0 hFh _ (by omega)) gX4_linkFor_X0_partEnd rfl (by decide +kernel) ⟨Nat.le_of_ble_eq_true rfl, Nat.le_of_ble_eq_true rfl⟩ hFh.1 rfl rfl rfl (Nat.le_of_ble_eq_true rfl) (by show 0 + 1 + 4 + q.toNat * 2 + 0 ≤ 105; omega) (by show 0 + 3 + 100 + q.toNat * 50 + 0 ≤ 2600; omega) (fun v h' hp => ?_)
        obtain ⟨hv, hh⟩ := hp
        subst v
        subst h'
        dsimp only [Option.toList, List.cons_append, List.nil_append]
        rw [ptF_bg i1.1 (by omega)]
        refine r_istore B dX4_linkFor_29 (by decide) (lcat_v rfl rfl) ?_
        refine r_aload_n B dX4_linkFor_31 rfl rfl ?_
        refine r_aload_n B dX4_linkFor_32 rfl rfl ?_
        refine r_aload_n B dX4_linkFor_33 rfl rfl ?_
        refine r_iload B dX4_linkFor_34 rfl ?_
        refine r_aload_n B dX4_linkFor_36 rfl rfl ?_
        refine r_iload B dX4_linkFor_37 rfl ?_
        refine r_callV (n := 1) B dX4_linkFor_39 (ct_X0_partEnd l g sz0 hFh _ (by omega)) gX4_linkFor_X0_partEnd rfl (by decide +kernel) ⟨Nat.le_of_ble_eq_true rfl, Nat.le_of_ble_eq_true rfl⟩ hFh.1 rfl rfl rfl (Nat.le_of_ble_eq_true rfl) (by show 0 + 1 + 4 + q.toNat * 2 + 0 + 0 ≤ 105; omega) (by show 0 + 3 + 100 + q.toNat * 50 + 0 + 0 ≤ 2600; omega) (fun v h' hp => ?_)
        obtain ⟨hv, hh⟩ := hp
        subst v
        subst h'
        dsimp only [Option.toList, List.cons_append, List.nil_append]
        rw [ptF_in (by omega)]
        refine r_iload B dX4_linkFor_42 rfl ?_
        refine r_isub B dX4_linkFor_44 ?_
        refine r_topz (y := (lnF Eg q)) (rfl) ?_
        refine r_callV (n := 3) B dX4_linkFor_45 (ct_keep2 l g sz0 hFh q (by omega) hE hL.2.1 hL.1) gX4_linkFor_X4_keep rfl (by decide +kernel) ⟨Nat.le_of_ble_eq_true rfl, Nat.le_of_ble_eq_true rfl⟩ hL.2.1 rfl rfl rfl (Nat.le_of_ble_eq_true rfl) (by show 0 + 1 + 4 + q.toNat * 2 + 0 + 0 + 2 ≤ 105; omega) (by show 0 + 3 + 100 + q.toNat * 50 + 0 + 0 + 50 ≤ 2600; omega) (fun v h3 hp => ?_)
        obtain ⟨z, CA1, PV1, CF1, CN1, Ha1, hN1, hv, t1, t2, t3, t4, t5, t6, t7⟩ := hp
        subst v
        dsimp only [Option.toList, List.cons_append, List.nil_append]
        have hL2 := hL.keep hHOn t1 t2 t3 t6
        have hko := t1.ck t4
        have hhas := hL2.has (z := z) (LA := consH a La) (HK2 := updN HK1 a HL) (HN2 := updN HN a nH) i1.1 t4 t5 hch (consH_0 _ _) (updN_at _ _ _) (updN_at _ _ _) (fun i i0 i1 => ⟨by rw [consH_s _ _ (by omega), show i + 1 - 1 = i by omega], updN_ne _ _ (nLa i i0 i1), updN_ne _ _ (nLa i i0 i1)⟩) hlen
        have hcnt := cnt_le (flg CF0 CN0 HK1 HN La len G Eg) q.toNat
        have hn8 := hL2.2.2.2.2.2.2.2.1
        refine r_callV (n := 1) B dX4_linkFor_48 (linkAdd l g sz0 hCH hlen hL2 (show hB a = none from na) hd ⟨d1.2.2.1, d1.2.2.2⟩ hHO hko.1 (by omega) (by omega)) gX4_linkFor_X5_add rfl (by decide +kernel) ⟨Nat.le_of_ble_eq_true rfl, Nat.le_of_ble_eq_true rfl⟩ hL2.2.2.2.1 rfl rfl rfl (Nat.le_of_ble_eq_true rfl) (by show 0 + 1 + 4 + q.toNat * 2 + 0 + 0 + 2 + 0 ≤ 105; omega) (by show 0 + 3 + 100 + q.toNat * 50 + 0 + 0 + 50 + 0 ≤ 2600; omega) (fun v h4 hp => ?_)
        obtain ⟨hv, u1, u2, u3, u4, u5⟩ := hp
        subst v
        dsimp only [Option.toList, List.cons_append, List.nil_append]
        obtain ⟨fq2n, HLn, hnn, hL3⟩ := hL2.add (by omega) t4 t5 hhas hd u1 u2 u3 u4 u5
        refine r_iinc B dX4_linkFor_51 rfl (by decide) (lcat_v rfl rfl) ?_
        refine r_goto B dX4_linkFor_54 (tgt := 12) (by decide) ?_
        refine r_widen (k := 0 + 1 + 4 + (q + 1).toNat * 2) (n := 0 + 3 + 100 + (q + 1).toNat * 50) (by show 0 + 1 + 4 + q.toNat * 2 + 0 + 0 + 2 + 0 ≤ _; omega) (by show 0 + 3 + 100 + q.toNat * 50 + 0 + 0 + 50 + 0 ≤ _; omega) ?_
        exact r_lv (lvLe_s rfl (lvLe_s rfl (lvLe_s rfl (lvLe_s rfl (lvLe_s rfl (lvLe_n lvLe_nil)))))) (ih (q + 1) CA1 PV1 CF1 CN1 Ha1 hN1 _ _ _ _ _ h4 hL3 (by omega) (fun y hy => (t7 y hy).elim (fun w => (i9 y w).elim Or.inl (fun ⟨j, j0, j1, e⟩ => Or.inr ⟨j, j0, by omega, (if_neg (by omega)).trans e⟩)) (fun e => Or.inr ⟨q, i1.1, by omega, (if_pos rfl).trans e.symm⟩)) (by omega))
  exact r_lv (lvLe_s rfl (lvLe_s rfl (lvLe_s rfl (lvLe_s rfl (lvLe_s rfl (lvLe_n lvLe_nil)))))) (loop12 _ 0 CA0 PV0 CF0 CN0 Ha0 hN0 _ _ _ _ _ h2 hL0 (by omega) (fun y hy => Or.inl hy) (Nat.lt_succ_self _))
