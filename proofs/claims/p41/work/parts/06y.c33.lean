abbrev rmX9_bytes : Room := { frames := 8, cells := 3, slots := 18, locals := 146 }
set_option maxHeartbeats 4000000 in
set_option maxRecDepth 100000 in
theorem ct_X9_bytes (l : Launch) (g : GG) (sz0 : Nat) {A : Nat → Nat} {Z : Nat → Prop} (hA : AOK A) {h : AH} {mnights mbits mleast mmost mroom mreserve mmount mspeed : Int} {mdata msize mends mmany mkind mchain mholds mbid mbound mcheap mpromised mcoin mpaid mowed : Int → Int} (hT : ST g A Z h mdata msize mends mmany mkind mchain mholds mnights mbits mleast mmost mroom mreserve mmount mspeed mbid mbound mcheap mpromised mcoin mpaid mowed h) (hG : RGm mnights mbits mleast mmost mroom mreserve mmount mspeed msize mbid mbound mcheap mpromised mcoin mpaid mowed) (x k : Int) (hl0 : l.stackTraces = false) (qx : -2147483648 ≤ x ∧ x < 2147483648) (qk : -2147483648 ≤ k ∧ k < 2147483648)  : CTX l yX9_bytes wsX9_bytes rmX9_bytes g sz0 [.ref (A 0), .int (iI (x)), .int (iI (k))] h (fun v h' => tAsk x k mnights (mkind (60 * x + k)) = 0 ∧ v = some (.int (iI (mmany (60 * x + k) + sumZ (fun j => bI (rowF mholds (60 * x + k) j ≠ 0) * lnF (rowF mends (60 * x + k)) j) (mmany (60 * x + k)).toNat))) ∧ ST g A Z h mdata msize mends mmany mkind mchain mholds mnights mbits mleast mmost mroom mreserve mmount mspeed mbid mbound mcheap mpromised mcoin mpaid mowed h') (fun E h' => ((E = "java/lang/IllegalArgumentException" ∧ tAsk x k mnights (mkind (60 * x + k)) = 1) ∨ (E = "java/lang/IndexOutOfBoundsException" ∧ tAsk x k mnights (mkind (60 * x + k)) = 2) ∨ (E = "java/lang/IllegalStateException" ∧ tAsk x k mnights (mkind (60 * x + k)) = 3)) ∧ ST g A Z h mdata msize mends mmany mkind mchain mholds mnights mbits mleast mmost mroom mreserve mmount mspeed mbid mbound mcheap mpromised mcoin mpaid mowed h') := by
  refine CTX.of (by decide +kernel) rfl [some (.ref (A 0)), some (.int (iI (x))), some (.int (iI (k)))] rfl (Nat.le_of_ble_eq_true rfl) ?_
  intro p e s m args below meth c B hr hlk hout
  have hT0 := hT
  obtain ⟨hK, LE, RK1, RN, HK1, HN, CA, PV, CF, CN, Ha, hN, tq, G, Eg, sz, pt, wt, gt, pc, LN, lt, hC, hSub, hZn, hX, hM⟩ := hT
  have hN0 := hG.1
  obtain ⟨fc, hQC, hfc⟩ := hC.qc
  have hCS : ∀ i : Int, 0 ≤ i → i ≤ 3 → ∃ (fi lk : Nat) (lt : Option Nat) (bd bo cp pr co pa ow wt gt pc : Int), h (A (7 + 5 * i.toNat)) = some (oE 3 [.ref fi, .ref lk, va_rf lt, .int (iI bd), .int (iI bo), .int (iI cp), .int (iI pr), .int (iI co), .int (iI pa), .int (iI ow), .int (iI wt), .int (iI gt), .int (iI pc)]) ∧ h lk = some (qE g 6 60 (LN i)) := fun i i0 i1 => ⟨_, _, _, _, _, _, _, _, _, _, _, _, _, hC.cl i0 i1, hC.ln i0 i1⟩
  refine r_aload_n B dX9_bytes_0 rfl rfl ?_
  refine r_iload_n B dX9_bytes_1 rfl ?_
  refine r_iload_n B dX9_bytes_2 rfl ?_
  refine r_callVX (n := 2) B dX9_bytes_3 (ct_X9_linkOf l g sz0 hC.ro hQC hfc hCS _ _ hl0 (by omega) (by omega) hN0) gX9_bytes_X9_linkOf rfl (by decide +kernel) ⟨Nat.le_of_ble_eq_true rfl, Nat.le_of_ble_eq_true rfl⟩ hC.ro rfl rfl rfl (Nat.le_of_ble_eq_true rfl) (Nat.le_of_ble_eq_true rfl) (Nat.le_of_ble_eq_true rfl) (fun E h' hp => wx_out hout hlk ?_ (Nat.le_of_ble_eq_true rfl) (Nat.le_of_ble_eq_true rfl)) (fun v h' hp => ?_)
  · rcases hp with ⟨e1, e2, e3⟩ | ⟨e1, e2, e3, e4⟩ | ⟨e1, e2, e3, e4, e5⟩
    · exact ⟨(Or.inl ⟨e1, (by unfold tAsk; (repeat' split) <;> omega)⟩), by rw [e2]; exact hT0⟩
    · exact ⟨(Or.inr (Or.inl ⟨e1, (by unfold tAsk; (repeat' split) <;> omega)⟩)), by rw [e2]; exact hT0⟩
    · have hz9 := (hX.2.2.1 x e3.1 e3.2 k e4.1 (by omega)).nz.mp e5
      exact ⟨(Or.inr (Or.inr ⟨e1, (by unfold tAsk; (repeat' split) <;> omega)⟩)), by rw [e2]; exact hT0⟩
  obtain ⟨a9, hv, hh, hb1, hb2, hLa⟩ := hp
  subst v
  subst h'
  dsimp only [Option.toList, List.cons_append, List.nil_append]
  have hj9 : 0 ≤ k ∧ k < 60 := by omega
  obtain ⟨hR, La, nt, len, hCh, hLa0⟩ := hX.one hb1 hj9 hLa
  subst hLa0
  have hrk := hX.rk hR
  have hsb := hC.sub hSub
  have hE := hX.eok hb1 hj9
  have hS := hX.hs
  have hH := hX.2.2.1 x hb1.1 hb1.2
  have hnz := hR.2.2.2.2.2.2
  have hCHh := hCh.2.2.2.2.1.sub hsb
  have hLKh := hR.1.sub hsb
  have hLK2 := hLKh
  obtain ⟨rr, rra, rh, rha, fq1, fq2, hl1, hl2, hl3⟩ := hLK2
  refine r_callV (n := 0) B dX9_bytes_6 (ct_X5_linkBytes l g sz0 hLKh (hrk.2.sub hsb)) gX9_bytes_X5_linkBytes rfl (by decide +kernel) ⟨Nat.le_of_ble_eq_true rfl, Nat.le_of_ble_eq_true rfl⟩ hl1 rfl rfl rfl (Nat.le_of_ble_eq_true rfl) (Nat.le_of_ble_eq_true rfl) (Nat.le_of_ble_eq_true rfl) (fun v h' hp => ?_)
  obtain ⟨hv, hh⟩ := hp
  subst v
  subst h'
  dsimp only [Option.toList, List.cons_append, List.nil_append]
  exact x_ret (r_iret B hr hlk dX9_bytes_9 (Nat.le_of_ble_eq_true rfl) (Nat.le_of_ble_eq_true rfl) ⟨(by unfold tAsk; (repeat' split) <;> omega), by rw [row_bytes hS hR hE.2], hT0⟩)
abbrev rmX9_held : Room := { frames := 8, cells := 3, slots := 18, locals := 146 }
theorem in_X9_held_X5 : ∀ w ∈ wsX50, w ∈ wsX9_held := by decide +kernel
theorem w_X9_held_f205 : Cond.fieldLink RX9 205 "DeltaNights$Link" "holds" "LDeltaNights$ChunkRow;" ∈ wsX9_held := by decide +kernel
theorem in_X9_held_X2 : ∀ w ∈ wsX20, w ∈ wsX9_held := by decide +kernel
theorem w_X9_held_f209 : Cond.fieldLink RX9 209 "DeltaNights$ChunkRow" "count" "I" ∈ wsX9_held := by decide +kernel
set_option maxHeartbeats 4000000 in
set_option maxRecDepth 100000 in
theorem ct_X9_held (l : Launch) (g : GG) (sz0 : Nat) {A : Nat → Nat} {Z : Nat → Prop} (hA : AOK A) {h : AH} {mnights mbits mleast mmost mroom mreserve mmount mspeed : Int} {mdata msize mends mmany mkind mchain mholds mbid mbound mcheap mpromised mcoin mpaid mowed : Int → Int} (hT : ST g A Z h mdata msize mends mmany mkind mchain mholds mnights mbits mleast mmost mroom mreserve mmount mspeed mbid mbound mcheap mpromised mcoin mpaid mowed h) (hG : RGm mnights mbits mleast mmost mroom mreserve mmount mspeed msize mbid mbound mcheap mpromised mcoin mpaid mowed) (x k : Int) (hl0 : l.stackTraces = false) (qx : -2147483648 ≤ x ∧ x < 2147483648) (qk : -2147483648 ≤ k ∧ k < 2147483648)  : CTX l yX9_held wsX9_held rmX9_held g sz0 [.ref (A 0), .int (iI (x)), .int (iI (k))] h (fun v h' => tAsk x k mnights (mkind (60 * x + k)) = 0 ∧ v = some (.int (iI (sumZ (fun j => bI (rowF mholds (60 * x + k) j ≠ 0)) (mmany (60 * x + k)).toNat))) ∧ ST g A Z h mdata msize mends mmany mkind mchain mholds mnights mbits mleast mmost mroom mreserve mmount mspeed mbid mbound mcheap mpromised mcoin mpaid mowed h') (fun E h' => ((E = "java/lang/IllegalArgumentException" ∧ tAsk x k mnights (mkind (60 * x + k)) = 1) ∨ (E = "java/lang/IndexOutOfBoundsException" ∧ tAsk x k mnights (mkind (60 * x + k)) = 2) ∨ (E = "java/lang/IllegalStateException" ∧ tAsk x k mnights (mkind (60 * x + k)) = 3)) ∧ ST g A Z h mdata msize mends mmany mkind mchain mholds mnights mbits mleast mmost mroom mreserve mmount mspeed mbid mbound mcheap mpromised mcoin mpaid mowed h') := by
  refine CTX.of (by decide +kernel) rfl [some (.ref (A 0)), some (.int (iI (x))), some (.int (iI (k)))] rfl (Nat.le_of_ble_eq_true rfl) ?_
  intro p e s m args below meth c B hr hlk hout
  have hT0 := hT
  obtain ⟨hK, LE, RK1, RN, HK1, HN, CA, PV, CF, CN, Ha, hN, tq, G, Eg, sz, pt, wt, gt, pc, LN, lt, hC, hSub, hZn, hX, hM⟩ := hT
  have hN0 := hG.1
  obtain ⟨fc, hQC, hfc⟩ := hC.qc
  have hCS : ∀ i : Int, 0 ≤ i → i ≤ 3 → ∃ (fi lk : Nat) (lt : Option Nat) (bd bo cp pr co pa ow wt gt pc : Int), h (A (7 + 5 * i.toNat)) = some (oE 3 [.ref fi, .ref lk, va_rf lt, .int (iI bd), .int (iI bo), .int (iI cp), .int (iI pr), .int (iI co), .int (iI pa), .int (iI ow), .int (iI wt), .int (iI gt), .int (iI pc)]) ∧ h lk = some (qE g 6 60 (LN i)) := fun i i0 i1 => ⟨_, _, _, _, _, _, _, _, _, _, _, _, _, hC.cl i0 i1, hC.ln i0 i1⟩
  refine r_aload_n B dX9_held_0 rfl rfl ?_
  refine r_iload_n B dX9_held_1 rfl ?_
  refine r_iload_n B dX9_held_2 rfl ?_
  refine r_callVX (n := 2) B dX9_held_3 (ct_X9_linkOf l g sz0 hC.ro hQC hfc hCS _ _ hl0 (by omega) (by omega) hN0) gX9_held_X9_linkOf rfl (by decide +kernel) ⟨Nat.le_of_ble_eq_true rfl, Nat.le_of_ble_eq_true rfl⟩ hC.ro rfl rfl rfl (Nat.le_of_ble_eq_true rfl) (Nat.le_of_ble_eq_true rfl) (Nat.le_of_ble_eq_true rfl) (fun E h' hp => wx_out hout hlk ?_ (Nat.le_of_ble_eq_true rfl) (Nat.le_of_ble_eq_true rfl)) (fun v h' hp => ?_)
  · rcases hp with ⟨e1, e2, e3⟩ | ⟨e1, e2, e3, e4⟩ | ⟨e1, e2, e3, e4, e5⟩
    · exact ⟨(Or.inl ⟨e1, (by unfold tAsk; (repeat' split) <;> omega)⟩), by rw [e2]; exact hT0⟩
    · exact ⟨(Or.inr (Or.inl ⟨e1, (by unfold tAsk; (repeat' split) <;> omega)⟩)), by rw [e2]; exact hT0⟩
    · have hz9 := (hX.2.2.1 x e3.1 e3.2 k e4.1 (by omega)).nz.mp e5
      exact ⟨(Or.inr (Or.inr ⟨e1, (by unfold tAsk; (repeat' split) <;> omega)⟩)), by rw [e2]; exact hT0⟩
  obtain ⟨a9, hv, hh, hb1, hb2, hLa⟩ := hp
  subst v
  subst h'
  dsimp only [Option.toList, List.cons_append, List.nil_append]
  have hj9 : 0 ≤ k ∧ k < 60 := by omega
  obtain ⟨hR, La, nt, len, hCh, hLa0⟩ := hX.one hb1 hj9 hLa
  subst hLa0
  have hrk := hX.rk hR
  have hsb := hC.sub hSub
  have hE := hX.eok hb1 hj9
  have hS := hX.hs
  have hH := hX.2.2.1 x hb1.1 hb1.2
  have hnz := hR.2.2.2.2.2.2
  have hCHh := hCh.2.2.2.2.1.sub hsb
  have hLKh := hR.1.sub hsb
  have hLK2 := hLKh
  obtain ⟨rr, rra, rh, rha, fq1, fq2, hl1, hl2, hl3⟩ := hLK2
  refine r_get (C := RX5) (T := TX5) (N := 3) (ci := 5) B dX9_held_6 in_X9_held_X5 rfl 2 (by decide) w_X9_held_f205 rfl hl1 rfl ?_
  refine r_get (C := RX2) (T := TX2) (N := 2) (ci := 2) B dX9_held_9 in_X9_held_X2 rfl 1 (by decide) w_X9_held_f209 rfl hl3.1 rfl ?_
  exact x_ret (r_iret B hr hlk dX9_held_12 (Nat.le_of_ble_eq_true rfl) (Nat.le_of_ble_eq_true rfl) ⟨(by unfold tAsk; (repeat' split) <;> omega), by rw [hR.2.2.2.1], hT0⟩)
abbrev rmX9_lengthOf : Room := { frames := 8, cells := 3, slots := 18, locals := 146 }
theorem in_X9_lengthOf_X5 : ∀ w ∈ wsX50, w ∈ wsX9_lengthOf := by decide +kernel
theorem w_X9_lengthOf_f214 : Cond.fieldLink RX9 214 "DeltaNights$Link" "row" "LDeltaNights$ChunkRow;" ∈ wsX9_lengthOf := by decide +kernel
set_option maxHeartbeats 4000000 in
set_option maxRecDepth 100000 in
theorem ct_X9_lengthOf (l : Launch) (g : GG) (sz0 : Nat) {A : Nat → Nat} {Z : Nat → Prop} (hA : AOK A) {h : AH} {mnights mbits mleast mmost mroom mreserve mmount mspeed : Int} {mdata msize mends mmany mkind mchain mholds mbid mbound mcheap mpromised mcoin mpaid mowed : Int → Int} (hT : ST g A Z h mdata msize mends mmany mkind mchain mholds mnights mbits mleast mmost mroom mreserve mmount mspeed mbid mbound mcheap mpromised mcoin mpaid mowed h) (hG : RGm mnights mbits mleast mmost mroom mreserve mmount mspeed msize mbid mbound mcheap mpromised mcoin mpaid mowed) (x k : Int) (hl0 : l.stackTraces = false) (qx : -2147483648 ≤ x ∧ x < 2147483648) (qk : -2147483648 ≤ k ∧ k < 2147483648)  : CTX l yX9_lengthOf wsX9_lengthOf rmX9_lengthOf g sz0 [.ref (A 0), .int (iI (x)), .int (iI (k))] h (fun v h' => tAsk x k mnights (mkind (60 * x + k)) = 0 ∧ v = some (.int (iI (msize (60 * x + k)))) ∧ ST g A Z h mdata msize mends mmany mkind mchain mholds mnights mbits mleast mmost mroom mreserve mmount mspeed mbid mbound mcheap mpromised mcoin mpaid mowed h') (fun E h' => ((E = "java/lang/IllegalArgumentException" ∧ tAsk x k mnights (mkind (60 * x + k)) = 1) ∨ (E = "java/lang/IndexOutOfBoundsException" ∧ tAsk x k mnights (mkind (60 * x + k)) = 2) ∨ (E = "java/lang/IllegalStateException" ∧ tAsk x k mnights (mkind (60 * x + k)) = 3)) ∧ ST g A Z h mdata msize mends mmany mkind mchain mholds mnights mbits mleast mmost mroom mreserve mmount mspeed mbid mbound mcheap mpromised mcoin mpaid mowed h') := by
  refine CTX.of (by decide +kernel) rfl [some (.ref (A 0)), some (.int (iI (x))), some (.int (iI (k)))] rfl (Nat.le_of_ble_eq_true rfl) ?_
  intro p e s m args below meth c B hr hlk hout
  have hT0 := hT
  obtain ⟨hK, LE, RK1, RN, HK1, HN, CA, PV, CF, CN, Ha, hN, tq, G, Eg, sz, pt, wt, gt, pc, LN, lt, hC, hSub, hZn, hX, hM⟩ := hT
  have hN0 := hG.1
  obtain ⟨fc, hQC, hfc⟩ := hC.qc
  have hCS : ∀ i : Int, 0 ≤ i → i ≤ 3 → ∃ (fi lk : Nat) (lt : Option Nat) (bd bo cp pr co pa ow wt gt pc : Int), h (A (7 + 5 * i.toNat)) = some (oE 3 [.ref fi, .ref lk, va_rf lt, .int (iI bd), .int (iI bo), .int (iI cp), .int (iI pr), .int (iI co), .int (iI pa), .int (iI ow), .int (iI wt), .int (iI gt), .int (iI pc)]) ∧ h lk = some (qE g 6 60 (LN i)) := fun i i0 i1 => ⟨_, _, _, _, _, _, _, _, _, _, _, _, _, hC.cl i0 i1, hC.ln i0 i1⟩
  refine r_aload_n B dX9_lengthOf_0 rfl rfl ?_
  refine r_iload_n B dX9_lengthOf_1 rfl ?_
  refine r_iload_n B dX9_lengthOf_2 rfl ?_
  refine r_callVX (n := 2) B dX9_lengthOf_3 (ct_X9_linkOf l g sz0 hC.ro hQC hfc hCS _ _ hl0 (by omega) (by omega) hN0) gX9_lengthOf_X9_linkOf rfl (by decide +kernel) ⟨Nat.le_of_ble_eq_true rfl, Nat.le_of_ble_eq_true rfl⟩ hC.ro rfl rfl rfl (Nat.le_of_ble_eq_true rfl) (Nat.le_of_ble_eq_true rfl) (Nat.le_of_ble_eq_true rfl) (fun E h' hp => wx_out hout hlk ?_ (Nat.le_of_ble_eq_true rfl) (Nat.le_of_ble_eq_true rfl)) (fun v h' hp => ?_)
  · rcases hp with ⟨e1, e2, e3⟩ | ⟨e1, e2, e3, e4⟩ | ⟨e1, e2, e3, e4, e5⟩
    · exact ⟨(Or.inl ⟨e1, (by unfold tAsk; (repeat' split) <;> omega)⟩), by rw [e2]; exact hT0⟩
    · exact ⟨(Or.inr (Or.inl ⟨e1, (by unfold tAsk; (repeat' split) <;> omega)⟩)), by rw [e2]; exact hT0⟩
    · have hz9 := (hX.2.2.1 x e3.1 e3.2 k e4.1 (by omega)).nz.mp e5
      exact ⟨(Or.inr (Or.inr ⟨e1, (by unfold tAsk; (repeat' split) <;> omega)⟩)), by rw [e2]; exact hT0⟩
  obtain ⟨a9, hv, hh, hb1, hb2, hLa⟩ := hp
  subst v
  subst h'
  dsimp only [Option.toList, List.cons_append, List.nil_append]
  have hj9 : 0 ≤ k ∧ k < 60 := by omega
  obtain ⟨hR, La, nt, len, hCh, hLa0⟩ := hX.one hb1 hj9 hLa
  subst hLa0
  have hrk := hX.rk hR
  have hsb := hC.sub hSub
  have hE := hX.eok hb1 hj9
  have hS := hX.hs
  have hH := hX.2.2.1 x hb1.1 hb1.2
  have hnz := hR.2.2.2.2.2.2
  have hCHh := hCh.2.2.2.2.1.sub hsb
  have hLKh := hR.1.sub hsb
  have hLK2 := hLKh
  obtain ⟨rr, rra, rh, rha, fq1, fq2, hl1, hl2, hl3⟩ := hLK2
  refine r_get (C := RX5) (T := TX5) (N := 3) (ci := 5) B dX9_lengthOf_6 in_X9_lengthOf_X5 rfl 1 (by decide) w_X9_lengthOf_f214 rfl hl1 rfl ?_
  refine r_callV (n := 0) B dX9_lengthOf_9 (ct_X2_byteCount l g sz0 hl2 (hrk.1.sub hsb)) gX9_lengthOf_X2_byteCount rfl (by decide +kernel) ⟨Nat.le_of_ble_eq_true rfl, Nat.le_of_ble_eq_true rfl⟩ hl2.1 rfl rfl rfl (Nat.le_of_ble_eq_true rfl) (Nat.le_of_ble_eq_true rfl) (Nat.le_of_ble_eq_true rfl) (fun v h' hp => ?_)
  obtain ⟨hv, hh⟩ := hp
  subst v
  subst h'
  dsimp only [Option.toList, List.cons_append, List.nil_append]
  exact x_ret (r_iret B hr hlk dX9_lengthOf_12 (Nat.le_of_ble_eq_true rfl) (Nat.le_of_ble_eq_true rfl) ⟨(by unfold tAsk; (repeat' split) <;> omega), by rw [row_size hS hR hE.2 hE.1.1], hT0⟩)
abbrev rmX9_digestOf : Room := { frames := 8, cells := 3, slots := 18, locals := 146 }
set_option maxHeartbeats 4000000 in
set_option maxRecDepth 100000 in
theorem ct_X9_digestOf (l : Launch) (g : GG) (sz0 : Nat) {A : Nat → Nat} {Z : Nat → Prop} (hA : AOK A) {h : AH} {mnights mbits mleast mmost mroom mreserve mmount mspeed : Int} {mdata msize mends mmany mkind mchain mholds mbid mbound mcheap mpromised mcoin mpaid mowed : Int → Int} (hT : ST g A Z h mdata msize mends mmany mkind mchain mholds mnights mbits mleast mmost mroom mreserve mmount mspeed mbid mbound mcheap mpromised mcoin mpaid mowed h) (hG : RGm mnights mbits mleast mmost mroom mreserve mmount mspeed msize mbid mbound mcheap mpromised mcoin mpaid mowed) (x k : Int) (hl0 : l.stackTraces = false) (qx : -2147483648 ≤ x ∧ x < 2147483648) (qk : -2147483648 ≤ k ∧ k < 2147483648)  : CTX l yX9_digestOf wsX9_digestOf rmX9_digestOf g sz0 [.ref (A 0), .int (iI (x)), .int (iI (k))] h (fun v h' => tAsk x k mnights (mkind (60 * x + k)) = 0 ∧ v = some (.long (dig (rowF mdata (60 * x + k)) (msize (60 * x + k)).toNat)) ∧ ST g A Z h mdata msize mends mmany mkind mchain mholds mnights mbits mleast mmost mroom mreserve mmount mspeed mbid mbound mcheap mpromised mcoin mpaid mowed h') (fun E h' => ((E = "java/lang/IllegalArgumentException" ∧ tAsk x k mnights (mkind (60 * x + k)) = 1) ∨ (E = "java/lang/IndexOutOfBoundsException" ∧ tAsk x k mnights (mkind (60 * x + k)) = 2) ∨ (E = "java/lang/IllegalStateException" ∧ tAsk x k mnights (mkind (60 * x + k)) = 3)) ∧ ST g A Z h mdata msize mends mmany mkind mchain mholds mnights mbits mleast mmost mroom mreserve mmount mspeed mbid mbound mcheap mpromised mcoin mpaid mowed h') := by
  refine CTX.of (by decide +kernel) rfl [some (.ref (A 0)), some (.int (iI (x))), some (.int (iI (k)))] rfl (Nat.le_of_ble_eq_true rfl) ?_
  intro p e s m args below meth c B hr hlk hout
  have hT0 := hT
  obtain ⟨hK, LE, RK1, RN, HK1, HN, CA, PV, CF, CN, Ha, hN, tq, G, Eg, sz, pt, wt, gt, pc, LN, lt, hC, hSub, hZn, hX, hM⟩ := hT
  have hN0 := hG.1
  obtain ⟨fc, hQC, hfc⟩ := hC.qc
  have hCS : ∀ i : Int, 0 ≤ i → i ≤ 3 → ∃ (fi lk : Nat) (lt : Option Nat) (bd bo cp pr co pa ow wt gt pc : Int), h (A (7 + 5 * i.toNat)) = some (oE 3 [.ref fi, .ref lk, va_rf lt, .int (iI bd), .int (iI bo), .int (iI cp), .int (iI pr), .int (iI co), .int (iI pa), .int (iI ow), .int (iI wt), .int (iI gt), .int (iI pc)]) ∧ h lk = some (qE g 6 60 (LN i)) := fun i i0 i1 => ⟨_, _, _, _, _, _, _, _, _, _, _, _, _, hC.cl i0 i1, hC.ln i0 i1⟩
  refine r_aload_n B dX9_digestOf_0 rfl rfl ?_
  refine r_iload_n B dX9_digestOf_1 rfl ?_
  refine r_iload_n B dX9_digestOf_2 rfl ?_
  refine r_callVX (n := 2) B dX9_digestOf_3 (ct_X9_linkOf l g sz0 hC.ro hQC hfc hCS _ _ hl0 (by omega) (by omega) hN0) gX9_digestOf_X9_linkOf rfl (by decide +kernel) ⟨Nat.le_of_ble_eq_true rfl, Nat.le_of_ble_eq_true rfl⟩ hC.ro rfl rfl rfl (Nat.le_of_ble_eq_true rfl) (Nat.le_of_ble_eq_true rfl) (Nat.le_of_ble_eq_true rfl) (fun E h' hp => wx_out hout hlk ?_ (Nat.le_of_ble_eq_true rfl) (Nat.le_of_ble_eq_true rfl)) (fun v h' hp => ?_)
  · rcases hp with ⟨e1, e2, e3⟩ | ⟨e1, e2, e3, e4⟩ | ⟨e1, e2, e3, e4, e5⟩
    · exact ⟨(Or.inl ⟨e1, (by unfold tAsk; (repeat' split) <;> omega)⟩), by rw [e2]; exact hT0⟩
    · exact ⟨(Or.inr (Or.inl ⟨e1, (by unfold tAsk; (repeat' split) <;> omega)⟩)), by rw [e2]; exact hT0⟩
    · have hz9 := (hX.2.2.1 x e3.1 e3.2 k e4.1 (by omega)).nz.mp e5
      exact ⟨(Or.inr (Or.inr ⟨e1, (by unfold tAsk; (repeat' split) <;> omega)⟩)), by rw [e2]; exact hT0⟩
  obtain ⟨a9, hv, hh, hb1, hb2, hLa⟩ := hp
  subst v
  subst h'
  dsimp only [Option.toList, List.cons_append, List.nil_append]
  have hj9 : 0 ≤ k ∧ k < 60 := by omega
  obtain ⟨hR, La, nt, len, hCh, hLa0⟩ := hX.one hb1 hj9 hLa
  subst hLa0
  have hrk := hX.rk hR
  have hsb := hC.sub hSub
  have hE := hX.eok hb1 hj9
  have hS := hX.hs
  have hH := hX.2.2.1 x hb1.1 hb1.2
  have hnz := hR.2.2.2.2.2.2
  have hCHh := hCh.2.2.2.2.1.sub hsb
  have hLKh := hR.1.sub hsb
  have hLK2 := hLKh
  obtain ⟨rr, rra, rh, rha, fq1, fq2, hl1, hl2, hl3⟩ := hLK2
  refine r_callV (n := 0) B dX9_digestOf_6 (ct_X5_fingerprintFromChain l g sz0 hCHh hCh.1 (hrk.1.sub hsb) (all_has hS hH hCh hj9)) gX9_digestOf_X5_fingerprintFromChain rfl (by decide +kernel) ⟨Nat.le_of_ble_eq_true rfl, Nat.le_of_ble_eq_true rfl⟩ hl1 rfl rfl rfl (Nat.le_of_ble_eq_true rfl) (Nat.le_of_ble_eq_true rfl) (Nat.le_of_ble_eq_true rfl) (fun v h' hp => ?_)
  obtain ⟨hv, hh⟩ := hp
  subst v
  subst h'
  dsimp only [Option.toList, List.cons_append, List.nil_append]
  exact x_ret (r_lret B hr hlk dX9_digestOf_9 (Nat.le_of_ble_eq_true rfl) (Nat.le_of_ble_eq_true rfl) ⟨(by unfold tAsk; (repeat' split) <;> omega), by rw [row_digest hS hR hE.2 hE.1.1], hT0⟩)
abbrev rmX9_digestByChunks : Room := { frames := 8, cells := 3, slots := 18, locals := 146 }
theorem in_X9_digestByChunks_X5 : ∀ w ∈ wsX50, w ∈ wsX9_digestByChunks := by decide +kernel
theorem w_X9_digestByChunks_f214 : Cond.fieldLink RX9 214 "DeltaNights$Link" "row" "LDeltaNights$ChunkRow;" ∈ wsX9_digestByChunks := by decide +kernel
set_option maxHeartbeats 4000000 in
set_option maxRecDepth 100000 in
theorem ct_X9_digestByChunks (l : Launch) (g : GG) (sz0 : Nat) {A : Nat → Nat} {Z : Nat → Prop} (hA : AOK A) {h : AH} {mnights mbits mleast mmost mroom mreserve mmount mspeed : Int} {mdata msize mends mmany mkind mchain mholds mbid mbound mcheap mpromised mcoin mpaid mowed : Int → Int} (hT : ST g A Z h mdata msize mends mmany mkind mchain mholds mnights mbits mleast mmost mroom mreserve mmount mspeed mbid mbound mcheap mpromised mcoin mpaid mowed h) (hG : RGm mnights mbits mleast mmost mroom mreserve mmount mspeed msize mbid mbound mcheap mpromised mcoin mpaid mowed) (x k : Int) (hl0 : l.stackTraces = false) (qx : -2147483648 ≤ x ∧ x < 2147483648) (qk : -2147483648 ≤ k ∧ k < 2147483648)  : CTX l yX9_digestByChunks wsX9_digestByChunks rmX9_digestByChunks g sz0 [.ref (A 0), .int (iI (x)), .int (iI (k))] h (fun v h' => tAsk x k mnights (mkind (60 * x + k)) = 0 ∧ v = some (.long (dig (rowF mdata (60 * x + k)) (msize (60 * x + k)).toNat)) ∧ ST g A Z h mdata msize mends mmany mkind mchain mholds mnights mbits mleast mmost mroom mreserve mmount mspeed mbid mbound mcheap mpromised mcoin mpaid mowed h') (fun E h' => ((E = "java/lang/IllegalArgumentException" ∧ tAsk x k mnights (mkind (60 * x + k)) = 1) ∨ (E = "java/lang/IndexOutOfBoundsException" ∧ tAsk x k mnights (mkind (60 * x + k)) = 2) ∨ (E = "java/lang/IllegalStateException" ∧ tAsk x k mnights (mkind (60 * x + k)) = 3)) ∧ ST g A Z h mdata msize mends mmany mkind mchain mholds mnights mbits mleast mmost mroom mreserve mmount mspeed mbid mbound mcheap mpromised mcoin mpaid mowed h') := by
  refine CTX.of (by decide +kernel) rfl [some (.ref (A 0)), some (.int (iI (x))), some (.int (iI (k)))] rfl (Nat.le_of_ble_eq_true rfl) ?_
  intro p e s m args below meth c B hr hlk hout
  have hT0 := hT
  obtain ⟨hK, LE, RK1, RN, HK1, HN, CA, PV, CF, CN, Ha, hN, tq, G, Eg, sz, pt, wt, gt, pc, LN, lt, hC, hSub, hZn, hX, hM⟩ := hT
  have hN0 := hG.1
  obtain ⟨fc, hQC, hfc⟩ := hC.qc
  have hCS : ∀ i : Int, 0 ≤ i → i ≤ 3 → ∃ (fi lk : Nat) (lt : Option Nat) (bd bo cp pr co pa ow wt gt pc : Int), h (A (7 + 5 * i.toNat)) = some (oE 3 [.ref fi, .ref lk, va_rf lt, .int (iI bd), .int (iI bo), .int (iI cp), .int (iI pr), .int (iI co), .int (iI pa), .int (iI ow), .int (iI wt), .int (iI gt), .int (iI pc)]) ∧ h lk = some (qE g 6 60 (LN i)) := fun i i0 i1 => ⟨_, _, _, _, _, _, _, _, _, _, _, _, _, hC.cl i0 i1, hC.ln i0 i1⟩
  refine r_aload_n B dX9_digestByChunks_0 rfl rfl ?_
  refine r_iload_n B dX9_digestByChunks_1 rfl ?_
  refine r_iload_n B dX9_digestByChunks_2 rfl ?_
  refine r_callVX (n := 2) B dX9_digestByChunks_3 (ct_X9_linkOf l g sz0 hC.ro hQC hfc hCS _ _ hl0 (by omega) (by omega) hN0) gX9_digestByChunks_X9_linkOf rfl (by decide +kernel) ⟨Nat.le_of_ble_eq_true rfl, Nat.le_of_ble_eq_true rfl⟩ hC.ro rfl rfl rfl (Nat.le_of_ble_eq_true rfl) (Nat.le_of_ble_eq_true rfl) (Nat.le_of_ble_eq_true rfl) (fun E h' hp => wx_out hout hlk ?_ (Nat.le_of_ble_eq_true rfl) (Nat.le_of_ble_eq_true rfl)) (fun v h' hp => ?_)
  · rcases hp with ⟨e1, e2, e3⟩ | ⟨e1, e2, e3, e4⟩ | ⟨e1, e2, e3, e4, e5⟩
    · exact ⟨(Or.inl ⟨e1, (by unfold tAsk; (repeat' split) <;> omega)⟩), by rw [e2]; exact hT0⟩
    · exact ⟨(Or.inr (Or.inl ⟨e1, (by unfold tAsk; (repeat' split) <;> omega)⟩)), by rw [e2]; exact hT0⟩
    · have hz9 := (hX.2.2.1 x e3.1 e3.2 k e4.1 (by omega)).nz.mp e5
      exact ⟨(Or.inr (Or.inr ⟨e1, (by unfold tAsk; (repeat' split) <;> omega)⟩)), by rw [e2]; exact hT0⟩
  obtain ⟨a9, hv, hh, hb1, hb2, hLa⟩ := hp
  subst v
  subst h'
  dsimp only [Option.toList, List.cons_append, List.nil_append]
  have hj9 : 0 ≤ k ∧ k < 60 := by omega
  obtain ⟨hR, La, nt, len, hCh, hLa0⟩ := hX.one hb1 hj9 hLa
  subst hLa0
  have hrk := hX.rk hR
  have hsb := hC.sub hSub
  have hE := hX.eok hb1 hj9
  have hS := hX.hs
  have hH := hX.2.2.1 x hb1.1 hb1.2
  have hnz := hR.2.2.2.2.2.2
  have hCHh := hCh.2.2.2.2.1.sub hsb
  have hLKh := hR.1.sub hsb
  have hLK2 := hLKh
  obtain ⟨rr, rra, rh, rha, fq1, fq2, hl1, hl2, hl3⟩ := hLK2
  refine r_get (C := RX5) (T := TX5) (N := 3) (ci := 5) B dX9_digestByChunks_6 in_X9_digestByChunks_X5 rfl 1 (by decide) w_X9_digestByChunks_f214 rfl hl1 rfl ?_
  refine r_callV (n := 0) B dX9_digestByChunks_9 (ct_X2_fingerprint l g sz0 hl2 (hrk.1.sub hsb)) gX9_digestByChunks_X2_fingerprint rfl (by decide +kernel) ⟨Nat.le_of_ble_eq_true rfl, Nat.le_of_ble_eq_true rfl⟩ hl2.1 rfl rfl rfl (Nat.le_of_ble_eq_true rfl) (Nat.le_of_ble_eq_true rfl) (Nat.le_of_ble_eq_true rfl) (fun v h' hp => ?_)
  obtain ⟨hv, hh⟩ := hp
  subst v
  subst h'
  dsimp only [Option.toList, List.cons_append, List.nil_append]
  exact x_ret (r_lret B hr hlk dX9_digestByChunks_12 (Nat.le_of_ble_eq_true rfl) (Nat.le_of_ble_eq_true rfl) ⟨(by unfold tAsk; (repeat' split) <;> omega), by rw [row_digest hS hR hE.2 hE.1.1], hT0⟩)
abbrev rmX9_mounts : Room := { frames := 8, cells := 3, slots := 18, locals := 146 }
set_option maxHeartbeats 4000000 in
set_option maxRecDepth 100000 in
theorem ct_X9_mounts (l : Launch) (g : GG) (sz0 : Nat) {A : Nat → Nat} {Z : Nat → Prop} (hA : AOK A) {h : AH} {mnights mbits mleast mmost mroom mreserve mmount mspeed : Int} {mdata msize mends mmany mkind mchain mholds mbid mbound mcheap mpromised mcoin mpaid mowed : Int → Int} (hT : ST g A Z h mdata msize mends mmany mkind mchain mholds mnights mbits mleast mmost mroom mreserve mmount mspeed mbid mbound mcheap mpromised mcoin mpaid mowed h) (hG : RGm mnights mbits mleast mmost mroom mreserve mmount mspeed msize mbid mbound mcheap mpromised mcoin mpaid mowed) (x k : Int) (hl0 : l.stackTraces = false) (qx : -2147483648 ≤ x ∧ x < 2147483648) (qk : -2147483648 ≤ k ∧ k < 2147483648)  : CTX l yX9_mounts wsX9_mounts rmX9_mounts g sz0 [.ref (A 0), .int (iI (x)), .int (iI (k))] h (fun v h' => tAsk x k mnights (mkind (60 * x + k)) = 0 ∧ v = some (.int (iI (mntM mdata mends mmany mkind mchain mholds mnights x k))) ∧ ST g A Z h mdata msize mends mmany mkind mchain mholds mnights mbits mleast mmost mroom mreserve mmount mspeed mbid mbound mcheap mpromised mcoin mpaid mowed h') (fun E h' => ((E = "java/lang/IllegalArgumentException" ∧ tAsk x k mnights (mkind (60 * x + k)) = 1) ∨ (E = "java/lang/IndexOutOfBoundsException" ∧ tAsk x k mnights (mkind (60 * x + k)) = 2) ∨ (E = "java/lang/IllegalStateException" ∧ tAsk x k mnights (mkind (60 * x + k)) = 3)) ∧ ST g A Z h mdata msize mends mmany mkind mchain mholds mnights mbits mleast mmost mroom mreserve mmount mspeed mbid mbound mcheap mpromised mcoin mpaid mowed h') := by
  refine CTX.of (by decide +kernel) rfl [some (.ref (A 0)), some (.int (iI (x))), some (.int (iI (k)))] rfl (Nat.le_of_ble_eq_true rfl) ?_
  intro p e s m args below meth c B hr hlk hout
  have hT0 := hT
  obtain ⟨hK, LE, RK1, RN, HK1, HN, CA, PV, CF, CN, Ha, hN, tq, G, Eg, sz, pt, wt, gt, pc, LN, lt, hC, hSub, hZn, hX, hM⟩ := hT
  have hN0 := hG.1
  obtain ⟨fc, hQC, hfc⟩ := hC.qc
  have hCS : ∀ i : Int, 0 ≤ i → i ≤ 3 → ∃ (fi lk : Nat) (lt : Option Nat) (bd bo cp pr co pa ow wt gt pc : Int), h (A (7 + 5 * i.toNat)) = some (oE 3 [.ref fi, .ref lk, va_rf lt, .int (iI bd), .int (iI bo), .int (iI cp), .int (iI pr), .int (iI co), .int (iI pa), .int (iI ow), .int (iI wt), .int (iI gt), .int (iI pc)]) ∧ h lk = some (qE g 6 60 (LN i)) := fun i i0 i1 => ⟨_, _, _, _, _, _, _, _, _, _, _, _, _, hC.cl i0 i1, hC.ln i0 i1⟩
  refine r_aload_n B dX9_mounts_0 rfl rfl ?_
  refine r_iload_n B dX9_mounts_1 rfl ?_
  refine r_iload_n B dX9_mounts_2 rfl ?_
  refine r_callVX (n := 2) B dX9_mounts_3 (ct_X9_linkOf l g sz0 hC.ro hQC hfc hCS _ _ hl0 (by omega) (by omega) hN0) gX9_mounts_X9_linkOf rfl (by decide +kernel) ⟨Nat.le_of_ble_eq_true rfl, Nat.le_of_ble_eq_true rfl⟩ hC.ro rfl rfl rfl (Nat.le_of_ble_eq_true rfl) (Nat.le_of_ble_eq_true rfl) (Nat.le_of_ble_eq_true rfl) (fun E h' hp => wx_out hout hlk ?_ (Nat.le_of_ble_eq_true rfl) (Nat.le_of_ble_eq_true rfl)) (fun v h' hp => ?_)
  · rcases hp with ⟨e1, e2, e3⟩ | ⟨e1, e2, e3, e4⟩ | ⟨e1, e2, e3, e4, e5⟩
    · exact ⟨(Or.inl ⟨e1, (by unfold tAsk; (repeat' split) <;> omega)⟩), by rw [e2]; exact hT0⟩
    · exact ⟨(Or.inr (Or.inl ⟨e1, (by unfold tAsk; (repeat' split) <;> omega)⟩)), by rw [e2]; exact hT0⟩
    · have hz9 := (hX.2.2.1 x e3.1 e3.2 k e4.1 (by omega)).nz.mp e5
      exact ⟨(Or.inr (Or.inr ⟨e1, (by unfold tAsk; (repeat' split) <;> omega)⟩)), by rw [e2]; exact hT0⟩
  obtain ⟨a9, hv, hh, hb1, hb2, hLa⟩ := hp
  subst v
  subst h'
  dsimp only [Option.toList, List.cons_append, List.nil_append]
  have hj9 : 0 ≤ k ∧ k < 60 := by omega
  obtain ⟨hR, La, nt, len, hCh, hLa0⟩ := hX.one hb1 hj9 hLa
  subst hLa0
  have hrk := hX.rk hR
  have hsb := hC.sub hSub
  have hE := hX.eok hb1 hj9
  have hS := hX.hs
  have hH := hX.2.2.1 x hb1.1 hb1.2
  have hnz := hR.2.2.2.2.2.2
  have hCHh := hCh.2.2.2.2.1.sub hsb
  have hLKh := hR.1.sub hsb
  have hLK2 := hLKh
  obtain ⟨rr, rra, rh, rha, fq1, fq2, hl1, hl2, hl3⟩ := hLK2
  refine r_callV (n := 0) B dX9_mounts_6 (ct_X5_linksToMount l g sz0 hCHh hCh.1) gX9_mounts_X5_linksToMount rfl (by decide +kernel) ⟨Nat.le_of_ble_eq_true rfl, Nat.le_of_ble_eq_true rfl⟩ hl1 rfl rfl rfl (Nat.le_of_ble_eq_true rfl) (Nat.le_of_ble_eq_true rfl) (Nat.le_of_ble_eq_true rfl) (fun v h' hp => ?_)
  obtain ⟨hv, hh⟩ := hp
  subst v
  subst h'
  dsimp only [Option.toList, List.cons_append, List.nil_append]
  exact x_ret (r_iret B hr hlk dX9_mounts_9 (Nat.le_of_ble_eq_true rfl) (Nat.le_of_ble_eq_true rfl) ⟨(by unfold tAsk; (repeat' split) <;> omega), by rw [mounts_eq hS hH hCh ⟨hb2.1, hb2.2⟩ hN0.2]; rfl, hT0⟩)
abbrev rmX9_minutes : Room := { frames := 8, cells := 3, slots := 18, locals := 146 }
theorem in_X9_minutes_X9 : ∀ w ∈ wsX90, w ∈ wsX9_minutes := by decide +kernel
theorem w_X9_minutes_f39 : Cond.fieldLink RX9 39 "DeltaNights" "recovery" "LDeltaNights$Recovery;" ∈ wsX9_minutes := by decide +kernel
set_option maxHeartbeats 4000000 in
set_option maxRecDepth 100000 in
theorem ct_X9_minutes (l : Launch) (g : GG) (sz0 : Nat) {A : Nat → Nat} {Z : Nat → Prop} (hA : AOK A) {h : AH} {mnights mbits mleast mmost mroom mreserve mmount mspeed : Int} {mdata msize mends mmany mkind mchain mholds mbid mbound mcheap mpromised mcoin mpaid mowed : Int → Int} (hT : ST g A Z h mdata msize mends mmany mkind mchain mholds mnights mbits mleast mmost mroom mreserve mmount mspeed mbid mbound mcheap mpromised mcoin mpaid mowed h) (hG : RGm mnights mbits mleast mmost mroom mreserve mmount mspeed msize mbid mbound mcheap mpromised mcoin mpaid mowed) (x k : Int) (hl0 : l.stackTraces = false) (qx : -2147483648 ≤ x ∧ x < 2147483648) (qk : -2147483648 ≤ k ∧ k < 2147483648)  : CTX l yX9_minutes wsX9_minutes rmX9_minutes g sz0 [.ref (A 0), .int (iI (x)), .int (iI (k))] h (fun v h' => tAsk x k mnights (mkind (60 * x + k)) = 0 ∧ v = some (.float (mnF (mmount * (mntM mdata mends mmany mkind mchain mholds mnights x k)) (baseB (rowF mdata (60 * x + k)) (rowF mends (60 * x + k)) (mmany (60 * x + k))) mspeed)) ∧ ST g A Z h mdata msize mends mmany mkind mchain mholds mnights mbits mleast mmost mroom mreserve mmount mspeed mbid mbound mcheap mpromised mcoin mpaid mowed h') (fun E h' => ((E = "java/lang/IllegalArgumentException" ∧ tAsk x k mnights (mkind (60 * x + k)) = 1) ∨ (E = "java/lang/IndexOutOfBoundsException" ∧ tAsk x k mnights (mkind (60 * x + k)) = 2) ∨ (E = "java/lang/IllegalStateException" ∧ tAsk x k mnights (mkind (60 * x + k)) = 3)) ∧ ST g A Z h mdata msize mends mmany mkind mchain mholds mnights mbits mleast mmost mroom mreserve mmount mspeed mbid mbound mcheap mpromised mcoin mpaid mowed h') := by
  refine CTX.of (by decide +kernel) rfl [some (.ref (A 0)), some (.int (iI (x))), some (.int (iI (k)))] rfl (Nat.le_of_ble_eq_true rfl) ?_
  intro p e s m args below meth c B hr hlk hout
  have hT0 := hT
  obtain ⟨hK, LE, RK1, RN, HK1, HN, CA, PV, CF, CN, Ha, hN, tq, G, Eg, sz, pt, wt, gt, pc, LN, lt, hC, hSub, hZn, hX, hM⟩ := hT
  have hN0 := hG.1
  obtain ⟨fc, hQC, hfc⟩ := hC.qc
  have hCS : ∀ i : Int, 0 ≤ i → i ≤ 3 → ∃ (fi lk : Nat) (lt : Option Nat) (bd bo cp pr co pa ow wt gt pc : Int), h (A (7 + 5 * i.toNat)) = some (oE 3 [.ref fi, .ref lk, va_rf lt, .int (iI bd), .int (iI bo), .int (iI cp), .int (iI pr), .int (iI co), .int (iI pa), .int (iI ow), .int (iI wt), .int (iI gt), .int (iI pc)]) ∧ h lk = some (qE g 6 60 (LN i)) := fun i i0 i1 => ⟨_, _, _, _, _, _, _, _, _, _, _, _, _, hC.cl i0 i1, hC.ln i0 i1⟩
  have hsp9 : 0 < mspeed ∧ mspeed < 2147483648 := by have := hG.2.2.2.1; omega
  refine r_aload_n B dX9_minutes_0 rfl rfl ?_
  refine r_get (C := RX9) (T := TX9) (N := 6) (ci := 9) B dX9_minutes_1 in_X9_minutes_X9 rfl 4 (by decide) w_X9_minutes_f39 rfl hC.ro rfl ?_
  refine r_aload_n B dX9_minutes_4 rfl rfl ?_
  refine r_iload_n B dX9_minutes_5 rfl ?_
  refine r_iload_n B dX9_minutes_6 rfl ?_
  refine r_callVX (n := 2) B dX9_minutes_7 (ct_X9_linkOf l g sz0 hC.ro hQC hfc hCS _ _ hl0 (by omega) (by omega) hN0) gX9_minutes_X9_linkOf rfl (by decide +kernel) ⟨Nat.le_of_ble_eq_true rfl, Nat.le_of_ble_eq_true rfl⟩ hC.ro rfl rfl rfl (Nat.le_of_ble_eq_true rfl) (Nat.le_of_ble_eq_true rfl) (Nat.le_of_ble_eq_true rfl) (fun E h' hp => wx_out hout hlk ?_ (Nat.le_of_ble_eq_true rfl) (Nat.le_of_ble_eq_true rfl)) (fun v h' hp => ?_)
  · rcases hp with ⟨e1, e2, e3⟩ | ⟨e1, e2, e3, e4⟩ | ⟨e1, e2, e3, e4, e5⟩
    · exact ⟨(Or.inl ⟨e1, (by unfold tAsk; (repeat' split) <;> omega)⟩), by rw [e2]; exact hT0⟩
    · exact ⟨(Or.inr (Or.inl ⟨e1, (by unfold tAsk; (repeat' split) <;> omega)⟩)), by rw [e2]; exact hT0⟩
    · have hz9 := (hX.2.2.1 x e3.1 e3.2 k e4.1 (by omega)).nz.mp e5
      exact ⟨(Or.inr (Or.inr ⟨e1, (by unfold tAsk; (repeat' split) <;> omega)⟩)), by rw [e2]; exact hT0⟩
  obtain ⟨a9, hv, hh, hb1, hb2, hLa⟩ := hp
  subst v
  subst h'
  dsimp only [Option.toList, List.cons_append, List.nil_append]
  have hj9 : 0 ≤ k ∧ k < 60 := by omega
  obtain ⟨hR, La, nt, len, hCh, hLa0⟩ := hX.one hb1 hj9 hLa
  subst hLa0
  have hrk := hX.rk hR
  have hsb := hC.sub hSub
  have hE := hX.eok hb1 hj9
  have hS := hX.hs
  have hH := hX.2.2.1 x hb1.1 hb1.2
  have hnz := hR.2.2.2.2.2.2
  have hCHh := hCh.2.2.2.2.1.sub hsb
  have hLKh := hR.1.sub hsb
  have hLK2 := hLKh
  obtain ⟨rr, rra, rh, rha, fq1, fq2, hl1, hl2, hl3⟩ := hLK2
  refine r_callV (n := 1) B dX9_minutes_10 (ct_X8_minutesFor l g sz0 hCHh hC.rc hCh.1 (hrk.1.sub hsb) hsp9) gX9_minutes_X8_minutesFor rfl (by decide +kernel) ⟨Nat.le_of_ble_eq_true rfl, Nat.le_of_ble_eq_true rfl⟩ hC.rc rfl rfl rfl (Nat.le_of_ble_eq_true rfl) (Nat.le_of_ble_eq_true rfl) (Nat.le_of_ble_eq_true rfl) (fun v h' hp => ?_)
  obtain ⟨hv, hh⟩ := hp
  subst v
  subst h'
  dsimp only [Option.toList, List.cons_append, List.nil_append]
  exact x_ret (r_fret B hr hlk dX9_minutes_13 (Nat.le_of_ble_eq_true rfl) (Nat.le_of_ble_eq_true rfl) ⟨(by unfold tAsk; (repeat' split) <;> omega), by rw [mounts_eq hS hH hCh ⟨hb2.1, hb2.2⟩ hN0.2, row_read hS hR hE.2]; rfl, hT0⟩)
