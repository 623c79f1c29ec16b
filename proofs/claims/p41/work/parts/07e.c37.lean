abbrev rmX9_restore : Room := { frames := 8, cells := 4, slots := 24, locals := 146 }
theorem in_X9_restore_X3 : ∀ w ∈ wsX30, w ∈ wsX9_restore := by decide +kernel
theorem w_X9_restore_f52 : Cond.fieldLink RX9 52 "DeltaNights$Client" "file" "LDeltaNights$ByteFile;" ∈ wsX9_restore := by decide +kernel
theorem in_X9_restore_X5 : ∀ w ∈ wsX50, w ∈ wsX9_restore := by decide +kernel
theorem w_X9_restore_f214 : Cond.fieldLink RX9 214 "DeltaNights$Link" "row" "LDeltaNights$ChunkRow;" ∈ wsX9_restore := by decide +kernel
set_option maxHeartbeats 4000000 in
set_option maxRecDepth 100000 in
theorem ct_X9_restore (l : Launch) (g : GG) (sz0 : Nat) {A : Nat → Nat} {Z : Nat → Prop} (hA : AOK A) {hZ : AH} {mnights mbits mleast mmost mroom mreserve mmount mspeed : Int} {mdata msize mends mmany mkind mchain mholds mbid mbound mcheap mpromised mcoin mpaid mowed : Int → Int} (hT : ST g A Z hZ mdata msize mends mmany mkind mchain mholds mnights mbits mleast mmost mroom mreserve mmount mspeed mbid mbound mcheap mpromised mcoin mpaid mowed hZ) (hG : RGm mnights mbits mleast mmost mroom mreserve mmount mspeed msize mbid mbound mcheap mpromised mcoin mpaid mowed) (x k : Int) (hl0 : l.stackTraces = false) (qx : -2147483648 ≤ x ∧ x < 2147483648) (qk : -2147483648 ≤ k ∧ k < 2147483648)  : CTX l yX9_restore wsX9_restore rmX9_restore g sz0 [.ref (A 0), .int (iI (x)), .int (iI (k))] hZ (fun v h' => tAsk x k mnights (mkind (60 * x + k)) = 0 ∧ v = some (.int (iI (sumZ (fun j => bI (((j < msize (240 + x)) ↔ ¬ (j < msize (60 * x + k))) ∨ (j < msize (60 * x + k) ∧ ¬ mdata (48 * (240 + x) + j) = mdata (48 * (60 * x + k) + j)))) 48))) ∧ ST g A Z hZ (cpyF mdata (48 * (240 + x)) (48 * (60 * x + k)) (msize (60 * x + k))) (upZ msize (240 + x) (msize (60 * x + k))) mends mmany mkind mchain mholds mnights mbits mleast mmost mroom mreserve mmount mspeed mbid mbound mcheap mpromised mcoin mpaid mowed h') (fun E h' => ((E = "java/lang/IllegalArgumentException" ∧ tAsk x k mnights (mkind (60 * x + k)) = 1) ∨ (E = "java/lang/IndexOutOfBoundsException" ∧ tAsk x k mnights (mkind (60 * x + k)) = 2) ∨ (E = "java/lang/IllegalStateException" ∧ tAsk x k mnights (mkind (60 * x + k)) = 3)) ∧ ST g A Z hZ mdata msize mends mmany mkind mchain mholds mnights mbits mleast mmost mroom mreserve mmount mspeed mbid mbound mcheap mpromised mcoin mpaid mowed h') := by
  refine CTX.of (by decide +kernel) rfl [some (.ref (A 0)), some (.int (iI (x))), some (.int (iI (k))), none] rfl (Nat.le_of_ble_eq_true rfl) ?_
  intro p e s m args below meth c B hr hlk hout
  have hT0 := hT
  obtain ⟨hK, LE, RK1, RN, HK1, HN, CA, PV, CF, CN, Ha, hN, tq, G, Eg, sz, pt, wt, gt, pc, LN, lt, hC, hSub, hZn, hX, hM⟩ := hT
  have hN0 := hG.1
  obtain ⟨fc, hQC, hfc⟩ := hC.qc
  have hCS : ∀ i : Int, 0 ≤ i → i ≤ 3 → ∃ (fi lk : Nat) (lt : Option Nat) (bd bo cp pr co pa ow wt gt pc : Int), hZ (A (7 + 5 * i.toNat)) = some (oE 3 [.ref fi, .ref lk, va_rf lt, .int (iI bd), .int (iI bo), .int (iI cp), .int (iI pr), .int (iI co), .int (iI pa), .int (iI ow), .int (iI wt), .int (iI gt), .int (iI pc)]) ∧ hZ lk = some (qE g 6 60 (LN i)) := fun i i0 i1 => ⟨_, _, _, _, _, _, _, _, _, _, _, _, _, hC.cl i0 i1, hC.ln i0 i1⟩
  have hC0 := hC
  refine r_aload_n B dX9_restore_0 rfl rfl ?_
  refine r_iload_n B dX9_restore_1 rfl ?_
  refine r_iload_n B dX9_restore_2 rfl ?_
  refine r_callVX (n := 2) B dX9_restore_3 (ct_X9_linkOf l g sz0 hC.ro hQC hfc hCS _ _ hl0 (by omega) (by omega) hN0) gX9_restore_X9_linkOf rfl (by decide +kernel) ⟨Nat.le_of_ble_eq_true rfl, Nat.le_of_ble_eq_true rfl⟩ hC.ro rfl rfl rfl (Nat.le_of_ble_eq_true rfl) (Nat.le_of_ble_eq_true rfl) (Nat.le_of_ble_eq_true rfl) (fun E h' hp => wx_out hout hlk ?_ (Nat.le_of_ble_eq_true rfl) (Nat.le_of_ble_eq_true rfl)) (fun v h' hp => ?_)
  · rcases hp with ⟨e1, e2, e3⟩ | ⟨e1, e2, e3, e4⟩ | ⟨e1, e2, e3, e4, e5⟩
    · exact ⟨(Or.inl ⟨e1, (by unfold tAsk; (repeat' split) <;> omega)⟩), by rw [e2]; exact hT0⟩
    · exact ⟨(Or.inr (Or.inl ⟨e1, (by unfold tAsk; (repeat' split) <;> omega)⟩)), by rw [e2]; exact hT0⟩
    · have hz9 := (hX.2.2.1 x e3.1 e3.2 k e4.1 (by omega)).nz.mp e5
      exact ⟨(Or.inr (Or.inr ⟨e1, (by unfold tAsk; (repeat' split) <;> omega)⟩)), by rw [e2]; exact hT0⟩
  obtain ⟨a9, hv, hh, hb1, hb2, hLa⟩ := hp
  subst v
  subst h'
  dsimp only [Option.toList, List.cons_append, List.nil_append]
  have hj9 : 0 ≤ k ∧ k < 60 := by omega
  obtain ⟨hR, La, nt, len, hCh, hLa0⟩ := hX.one hb1 hj9 hLa
  subst hLa0
  have hrk := hX.rk hR
  have hsb := hC.sub hSub
  have hE := hX.eok hb1 hj9
  have hS := hX.hs
  have hH := hX.2.2.1 x hb1.1 hb1.2
  have hnz := hR.2.2.2.2.2.2
  have hCHh := hCh.2.2.2.2.1.sub hsb
  have hLKh := hR.1.sub hsb
  have hLK2 := hLKh
  obtain ⟨rr, rra, rh, rha, fq1, fq2, hl1, hl2, hl3⟩ := hLK2
  have hs9 := hG.2.2.2.2.2 (60 * x + k) (by omega) (by omega)
  have hlie : lieP CF CN (RK1 (La 0)) (RN (La 0)) (fun j => if 0 ≤ j ∧ j < 48 then rowF mdata (60 * x + k) j else 0) := fun j j0 j1 i i0 i1 => by
    have h1 := row_lie hS hR hE.2 j j0 j1 i i0 i1
    rw [hR.2.1] at j1
    have h2 := row_sum hS hR hE.2 j0 (by omega : j ≤ mmany (60 * x + k))
    have h3 := (row_cn hS hR hE.2 j0 j1).1
    have h4 := hE.2 j j0 j1
    have h5 : lnF (rowF mends (60 * x + k)) j = rowF mends (60 * x + k) j - bgF (rowF mends (60 * x + k)) j := rfl
    rw [h1]
    exact (if_pos (by omega)).symm
  have hsum := row_size hS hR hE.2 hE.1.1
  have hne9 : ∀ j : Int, 0 ≤ j → j < RN (La 0) → CA (RK1 (La 0) j) ≠ A (10 + 5 * x.toNat) ∧ CA (RK1 (La 0) j) ≠ A (11 + 5 * x.toNat) := fun j j0 j1 => by
    have h1 := (hSub _ (sm_ne (hrk.1 j j0 j1).2.1)).2
    exact ⟨h1 _ (by omega), h1 _ (by omega)⟩
  have hDr : ∀ i, -2147483648 ≤ (fun j => if 0 ≤ j ∧ j < 48 then rowF mdata (60 * x + k) j else 0) i ∧ (fun j => if 0 ≤ j ∧ j < 48 then rowF mdata (60 * x + k) j else 0) i < 2147483648 := fun i => by
    show -2147483648 ≤ (if 0 ≤ i ∧ i < 48 then rowF mdata (60 * x + k) i else 0) ∧ (if 0 ≤ i ∧ i < 48 then rowF mdata (60 * x + k) i else 0) < 2147483648
    split
    · have := hM.2 (48 * (60 * x + k) + i) (by omega) (by omega)
      show -2147483648 ≤ mdata (48 * (60 * x + k) + i) ∧ mdata (48 * (60 * x + k) + i) < 2147483648
      omega
    · omega
  have hDe : ∀ j : Int, 0 ≤ j → j < 48 → (fun j => if 0 ≤ j ∧ j < 48 then rowF mdata (60 * x + k) j else 0) j = mdata (48 * (60 * x + k) + j) := fun j j0 j1 => if_pos ⟨j0, j1⟩
  refine r_astore_n B dX9_restore_6 rfl rfl (by decide) (lcat_v rfl rfl) ?_
  refine r_aload_n B dX9_restore_7 rfl rfl ?_
  refine r_iload_n B dX9_restore_8 rfl ?_
  refine r_callVX (n := 1) B dX9_restore_9 (ct_X9_clientOf l g sz0 hC.ro hQC hfc _ hl0 (by omega)) gX9_restore_X9_clientOf rfl (by decide +kernel) ⟨Nat.le_of_ble_eq_true rfl, Nat.le_of_ble_eq_true rfl⟩ hC.ro rfl rfl rfl (Nat.le_of_ble_eq_true rfl) (Nat.le_of_ble_eq_true rfl) (Nat.le_of_ble_eq_true rfl) (fun E h' hp => wx_out hout hlk ?_ (Nat.le_of_ble_eq_true rfl) (Nat.le_of_ble_eq_true rfl)) (fun v h' hp => ?_)
  · have hx9 := hp.2.2
    exact ⟨(Or.inl ⟨hp.1, (by unfold tAsk; (repeat' split) <;> omega)⟩), by rw [hp.2.1]; exact hT0⟩
  obtain ⟨hv, hh, hb3⟩ := hp
  subst v
  subst h'
  dsimp only [Option.toList, List.cons_append, List.nil_append]
  refine r_get (C := RX3) (T := TX3) (N := 13) (ci := 3) B dX9_restore_12 in_X9_restore_X3 rfl 0 (by decide) w_X9_restore_f52 rfl (hC.cl hb1.1 hb1.2) rfl ?_
  refine r_aload_n B dX9_restore_15 rfl rfl ?_
  refine r_get (C := RX5) (T := TX5) (N := 3) (ci := 5) B dX9_restore_16 in_X9_restore_X5 rfl 1 (by decide) w_X9_restore_f214 rfl hl1 rfl ?_
  refine r_callV (n := 1) B dX9_restore_19 (ct_X0_become l g sz0 (hC.fl hb1.1 hb1.2) hl2 (hrk.1.sub hsb) (D := (fun j => if 0 ≤ j ∧ j < 48 then rowF mdata (60 * x + k) j else 0)) hlie (by rw [hsum]; exact hs9.2) hne9 hDr) gX9_restore_X0_become rfl (by decide +kernel) ⟨Nat.le_of_ble_eq_true rfl, Nat.le_of_ble_eq_true rfl⟩ (hC.fl hb1.1 hb1.2).1 rfl rfl rfl (Nat.le_of_ble_eq_true rfl) (Nat.le_of_ble_eq_true rfl) (Nat.le_of_ble_eq_true rfl) (fun v h1 hp => ?_)
  obtain ⟨hv, hF1⟩ := hp
  subst v
  dsimp only [Option.toList, List.cons_append, List.nil_append]
  refine k_next (P := fun x9 => CW g A hZ mnights mbits mleast mmost mroom mreserve mmount mspeed hN (ptr Ha hN 0) tq (upG G x (ovF (G x) (fun j => if 0 ≤ j ∧ j < 48 then rowF mdata (60 * x + k) j else 0) (sumZ (fun j => CN (RK1 (La 0) j)) (RN (La 0)).toNat))) (upG Eg x (Eg x)) (upZ sz x (sumZ (fun j => CN (RK1 (La 0) j)) (RN (La 0)).toNat)) (upZ pt x (pt x)) mbid mbound mcheap mpromised mcoin mpaid mowed wt gt pc LN lt x9) (hC.file hA hb1.1 hb1.2 hF1) (fun h hC => ?_)
  exact x_ret (r_iret B hr hlk dX9_restore_22 (Nat.le_of_ble_eq_true rfl) (Nat.le_of_ble_eq_true rfl) ⟨(by unfold tAsk; (repeat' split) <;> omega), by rw [rest_cnt (M := fun j => mdata (48 * (240 + x) + j)) (N := fun j => mdata (48 * (60 * x + k) + j)) (hC0.fl hb1.1 hb1.2).s (by rw [hsum]; exact hs9) (hM.1 x hb1.1 hb1.2).2.2 hDe, hsum, (hM.1 x hb1.1 hb1.2).1], ⟨hK, LE, RK1, RN, HK1, HN, CA, PV, CF, CN, Ha, hN, _, _, _, _, _, _, _, _, _, _, hC, (hC.sub2 hSub), hZn, (hX.cg hN0 (rowE.fil (fun i i0 i1 => (by unfold cpyF; rw [if_neg (by omega)])) (fun i i0 i1 => (upZ_ne _ _ (by omega)).symm))), (hM.rest hb1.1 hb1.2 (by omega) (by rw [hsum]; exact hs9) hsum hDe)⟩⟩)
