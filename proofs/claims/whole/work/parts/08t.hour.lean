abbrev rmX9_hourBits : Room := { frames := 8, cells := 3, slots := 18, locals := 146 }
theorem in_X9_hourBits_X9 : ∀ w ∈ wsX90, w ∈ wsX9_hourBits := by decide +kernel
theorem w_X9_hourBits_f39 : Cond.fieldLink RX9 39 "DeltaNights" "recovery" "LDeltaNights$Recovery;" ∈ wsX9_hourBits := by decide +kernel
theorem w_X9_hourBits_cf241 : Cond.constantFloat RX9 241 1114636288 ∈ wsX9_hourBits := by decide +kernel
set_option maxHeartbeats 4000000 in
set_option maxRecDepth 100000 in
theorem ct_X9_hourBits (l : Launch) (g : GG) (sz0 : Nat) {A : Nat → Nat} {Z : Nat → Prop} (hA : AOK A) {h : AH} {mnights mbits mleast mmost mroom mreserve mmount mspeed : Int} {mdata msize mends mmany mkind mchain mholds mbid mbound mcheap mpromised mcoin mpaid mowed : Int → Int} (hT : ST g A Z h mdata msize mends mmany mkind mchain mholds mnights mbits mleast mmost mroom mreserve mmount mspeed mbid mbound mcheap mpromised mcoin mpaid mowed h) (hG : RGm mnights mbits mleast mmost mroom mreserve mmount mspeed msize mbid mbound mcheap mpromised mcoin mpaid mowed) (x k : Int) (hl0 : l.stackTraces = false) (qx : -2147483648 ≤ x ∧ x < 2147483648) (qk : -2147483648 ≤ k ∧ k < 2147483648)  : CTX l yX9_hourBits wsX9_hourBits rmX9_hourBits g sz0 [.ref (A 0), .int (iI (x)), .int (iI (k))] h (fun v h' => tAsk x k mnights (mkind (60 * x + k)) = 0 ∧ v = some (.int (iI (i32z (FP.fdiv (mnF (mmount * (mntM mdata mends mmany mkind mchain mholds mnights x k)) (baseB (rowF mdata (60 * x + k)) (rowF mends (60 * x + k)) (mmany (60 * x + k))) mspeed) 1114636288).toInt32))) ∧ ST g A Z h mdata msize mends mmany mkind mchain mholds mnights mbits mleast mmost mroom mreserve mmount mspeed mbid mbound mcheap mpromised mcoin mpaid mowed h') (fun E h' => ((E = "java/lang/IllegalArgumentException" ∧ tAsk x k mnights (mkind (60 * x + k)) = 1) ∨ (E = "java/lang/IndexOutOfBoundsException" ∧ tAsk x k mnights (mkind (60 * x + k)) = 2) ∨ (E = "java/lang/IllegalStateException" ∧ tAsk x k mnights (mkind (60 * x + k)) = 3)) ∧ ST g A Z h mdata msize mends mmany mkind mchain mholds mnights mbits mleast mmost mroom mreserve mmount mspeed mbid mbound mcheap mpromised mcoin mpaid mowed h') := by
  refine CTX.of (by decide +kernel) rfl [some (.ref (A 0)), some (.int (iI (x))), some (.int (iI (k)))] rfl (Nat.le_of_ble_eq_true rfl) ?_
  intro p e s m args below meth c B hr hlk hout
  have hT0 := hT
  obtain ⟨hK, LE, RK1, RN, HK1, HN, CA, PV, CF, CN, Ha, hN, tq, G, Eg, sz, pt, wt, gt, pc, LN, lt, hC, hSub, hZn, hX, hM⟩ := hT
  have hN0 := hG.1
  obtain ⟨fc, hQC, hfc⟩ := hC.qc
  have hCS : ∀ i : Int, 0 ≤ i → i ≤ 3 → ∃ (fi lk : Nat) (lt : Option Nat) (bd bo cp pr co pa ow wt gt pc : Int), h (A (7 + 5 * i.toNat)) = some (oE 3 [.ref fi, .ref lk, va_rf lt, .int (iI bd), .int (iI bo), .int (iI cp), .int (iI pr), .int (iI co), .int (iI pa), .int (iI ow), .int (iI wt), .int (iI gt), .int (iI pc)]) ∧ h lk = some (qE g 6 60 (LN i)) := fun i i0 i1 => ⟨_, _, _, _, _, _, _, _, _, _, _, _, _, hC.cl i0 i1, hC.ln i0 i1⟩
  have hsp9 : 0 < mspeed ∧ mspeed < 2147483648 := by have := hG.2.2.2.1; omega
  refine r_aload_n B dX9_hourBits_0 rfl rfl ?_
  refine r_get (C := RX9) (T := TX9) (N := 6) (ci := 9) B dX9_hourBits_1 in_X9_hourBits_X9 rfl 4 (by decide) w_X9_hourBits_f39 rfl hC.ro rfl ?_
  refine r_aload_n B dX9_hourBits_4 rfl rfl ?_
  refine r_iload_n B dX9_hourBits_5 rfl ?_
  refine r_iload_n B dX9_hourBits_6 rfl ?_
  refine r_callVX (n := 2) B dX9_hourBits_7 (ct_X9_linkOf l g sz0 hC.ro hQC hfc hCS _ _ hl0 (by omega) (by omega) hN0) gX9_hourBits_X9_linkOf rfl (by decide +kernel) ⟨Nat.le_of_ble_eq_true rfl, Nat.le_of_ble_eq_true rfl⟩ hC.ro rfl rfl rfl (Nat.le_of_ble_eq_true rfl) (Nat.le_of_ble_eq_true rfl) (Nat.le_of_ble_eq_true rfl) (fun E h' hp => wx_out hout hlk ?_ (Nat.le_of_ble_eq_true rfl) (Nat.le_of_ble_eq_true rfl)) (fun v h' hp => ?_)
  · rcases hp with ⟨e1, e2, e3⟩ | ⟨e1, e2, e3, e4⟩ | ⟨e1, e2, e3, e4, e5⟩
    · exact ⟨(Or.inl ⟨e1, (by unfold tAsk; (repeat' split) <;> omega)⟩), by rw [e2]; exact hT0⟩
    · exact ⟨(Or.inr (Or.inl ⟨e1, (by unfold tAsk; (repeat' split) <;> omega)⟩)), by rw [e2]; exact hT0⟩
    · have hz9 := (hX.2.2.1 x e3.1 e3.2 k e4.1 (by omega)).nz.mp e5
      exact ⟨(Or.inr (Or.inr ⟨e1, (by unfold tAsk; (repeat' split) <;> omega)⟩)), by rw [e2]; exact hT0⟩
  obtain ⟨a9, hv, hh, hb1, hb2, hLa⟩ := hp
  subst v
  subst h'
  dsimp only [Option.toList, List.cons_append, List.nil_append]
  have hj9 : 0 ≤ k ∧ k < 60 := by omega
  obtain ⟨hR, La, nt, len, hCh, hLa0⟩ := hX.one hb1 hj9 hLa
  subst hLa0
  have hrk := hX.rk hR
  have hsb := hC.sub hSub
  have hE := hX.eok hb1 hj9
  have hS := hX.hs
  have hH := hX.2.2.1 x hb1.1 hb1.2
  have hnz := hR.2.2.2.2.2.2
  have hCHh := hCh.2.2.2.2.1.sub hsb
  have hLKh := hR.1.sub hsb
  have hLK2 := hLKh
  obtain ⟨rr, rra, rh, rha, fq1, fq2, hl1, hl2, hl3⟩ := hLK2
  have hmt0 := cnt_le (fun q => q = k ∨ ((0 < mkind (60 * x + q) ∧ mchain (60 * x + q) = mchain (60 * x + k)) ∧ exN (fun a => hldC (rowF mholds (60 * x + q)) (chk (rowF mdata (60 * x + q)) (rowF mends (60 * x + q))) (mmany (60 * x + q)) (chk (rowF mdata (60 * x + k)) (rowF mends (60 * x + k)) a)) (mmany (60 * x + k)))) mnights.toNat
  have hmt : 0 ≤ mntM mdata mends mmany mkind mchain mholds mnights x k ∧ mntM mdata mends mmany mkind mchain mholds mnights x k ≤ 60 := ⟨hmt0.1, by have := hmt0.2; unfold mntM; omega⟩
  have hbs9 := baseB_rng (G := rowF mdata (60 * x + k)) hE.1 hE.2
  have hg4 := hG.2.2.2.1
  have hml := Int.mul_le_mul hg4.1.2 hmt.2 hmt.1 (by decide : (0 : Int) ≤ 30)
  have hml0 := Int.mul_nonneg hg4.1.1 hmt.1
  have hbf := bits_form (a := mmount * (mntM mdata mends mmany mkind mchain mholds mnights x k)) (b := (baseB (rowF mdata (60 * x + k)) (rowF mends (60 * x + k)) (mmany (60 * x + k)))) (s := mspeed) (by omega) (by omega) (by omega)
  refine r_callV (n := 1) B dX9_hourBits_10 (ct_X8_minutesFor l g sz0 hCHh hC.rc hCh.1 (hrk.1.sub hsb) hsp9) gX9_hourBits_X8_minutesFor rfl (by decide +kernel) ⟨Nat.le_of_ble_eq_true rfl, Nat.le_of_ble_eq_true rfl⟩ hC.rc rfl rfl rfl (Nat.le_of_ble_eq_true rfl) (Nat.le_of_ble_eq_true rfl) (Nat.le_of_ble_eq_true rfl) (fun v h' hp => ?_)
  obtain ⟨hv, hh⟩ := hp
  subst v
  subst h'
  dsimp only [Option.toList, List.cons_append, List.nil_append]
  rw [mounts_eq hS hH hCh ⟨hb2.1, hb2.2⟩ hN0.2, row_read hS hR hE.2]
  show WA _ _ _ _ _ _ _ _ _ _ _ _ _ _ _ _ _ _ _ (.float (mnF (mmount * (mntM mdata mends mmany mkind mchain mholds mnights x k)) (baseB (rowF mdata (60 * x + k)) (rowF mends (60 * x + k)) (mmany (60 * x + k))) mspeed) :: _)
  refine r_ldcf B dX9_hourBits_13 w_X9_hourBits_cf241 ?_
  refine r_fdiv B dX9_hourBits_15 (vf_of (hv_ok (mn_ok hsp9))) ?_
  refine r_callS (n := 1) B dX9_hourBits_16 (ct_X9_bitsOf l g sz0 _ hbf) gX9_hourBits_X9_bitsOf rfl (by decide +kernel) ⟨Nat.le_of_ble_eq_true rfl, Nat.le_of_ble_eq_true rfl⟩ rfl rfl (Nat.le_of_ble_eq_true rfl) (Nat.le_of_ble_eq_true rfl) (Nat.le_of_ble_eq_true rfl) (fun v h' hp => ?_)
  obtain ⟨hv, hh⟩ := hp
  subst v
  subst h'
  dsimp only [Option.toList, List.cons_append, List.nil_append]
  exact x_ret (r_iret B hr hlk dX9_hourBits_19 (Nat.le_of_ble_eq_true rfl) (Nat.le_of_ble_eq_true rfl) ⟨(by unfold tAsk; (repeat' split) <;> omega), rfl, hT0⟩)
