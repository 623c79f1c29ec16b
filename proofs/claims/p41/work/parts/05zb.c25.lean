abbrev rmX9_linkOf : Room := { frames := 7, cells := 3, slots := 18, locals := 122 }
theorem w_X9_linkOf_k76 : Cond.classLink RX9 76 "java/lang/IllegalStateException" ∈ wsX9_linkOf := by decide +kernel
theorem w_X9_linkOf_ii76 : Cond.initialized "java/lang/IllegalStateException" ∈ wsX9_linkOf := by decide +kernel
theorem xg_X9_linkOf_80 : ∀ w ∈ (vx_atS RX9 80 "java/lang/IllegalStateException" xnm).filter goodWord, w ∈ wsX9_linkOf := by decide +kernel
set_option maxHeartbeats 4000000 in
set_option maxRecDepth 100000 in
theorem ct_X9_linkOf (l : Launch) (g : GG) (sz0 : Nat) {h : AH} {ro qc mk ho mt rc : Nat} {ng : Int} {fc : Int → Option Nat} {cl : Int → Nat} (hRO : h ro = some (oE 9 [.ref qc, .ref mk, .ref ho, .ref mt, .ref rc, .int (iI ng)])) (hQC : h qc = some (qE g 5 4 fc)) (hfc : ∀ i : Int, 0 ≤ i → i < 4 → fc i = some (cl i)) {LN : Int → Int → Option Nat} (hCS : ∀ i : Int, 0 ≤ i → i ≤ 3 → ∃ (fi lk : Nat) (lt : Option Nat) (bd bo cp pr co pa ow wt gt pc : Int), h (cl i) = some (oE 3 [.ref fi, .ref lk, va_rf lt, .int (iI bd), .int (iI bo), .int (iI cp), .int (iI pr), .int (iI co), .int (iI pa), .int (iI ow), .int (iI wt), .int (iI gt), .int (iI pc)]) ∧ h lk = some (qE g 6 60 (LN i))) (x y : Int) (hl0 : l.stackTraces = false) (qx : -2147483648 ≤ x ∧ x < 2147483648) (qy : -2147483648 ≤ y ∧ y < 2147483648) (hng : 0 ≤ ng ∧ ng ≤ 60)  : CTX l yX9_linkOf wsX9_linkOf rmX9_linkOf g sz0 [.ref ro, .int (iI x), .int (iI y)] h (fun v h' => ∃ a : Nat, v = some (.ref a) ∧ h' = h ∧ (0 ≤ x ∧ x ≤ 3) ∧ (0 ≤ y ∧ y < ng) ∧ LN x y = some a) (fun E h' => (E = "java/lang/IllegalArgumentException" ∧ h' = h ∧ ¬ (0 ≤ x ∧ x ≤ 3)) ∨ (E = "java/lang/IndexOutOfBoundsException" ∧ h' = h ∧ (0 ≤ x ∧ x ≤ 3) ∧ ¬ (0 ≤ y ∧ y < ng)) ∨ (E = "java/lang/IllegalStateException" ∧ h' = h ∧ (0 ≤ x ∧ x ≤ 3) ∧ (0 ≤ y ∧ y < ng) ∧ LN x y = none)) := by
  refine CTX.of (by decide +kernel) rfl [some (.ref ro), some (.int (iI (x))), some (.int (iI (y))), none, none] rfl (Nat.le_of_ble_eq_true rfl) ?_
  intro p e s m args below meth c B hr hlk hout
  refine r_aload_n B dX9_linkOf_0 rfl rfl ?_
  refine r_iload_n B dX9_linkOf_1 rfl ?_
  refine r_callVX (n := 1) B dX9_linkOf_2 (ct_X9_clientOf l g sz0 hRO hQC hfc _ hl0 (by omega)) gX9_linkOf_X9_clientOf rfl (by decide +kernel) ⟨Nat.le_of_ble_eq_true rfl, Nat.le_of_ble_eq_true rfl⟩ hRO rfl rfl rfl (Nat.le_of_ble_eq_true rfl) (Nat.le_of_ble_eq_true rfl) (Nat.le_of_ble_eq_true rfl) (fun E h' hp => wx_out hout hlk ?_ (Nat.le_of_ble_eq_true rfl) (Nat.le_of_ble_eq_true rfl)) (fun v h' hp => ?_)
  · exact Or.inl hp
  obtain ⟨hv, hh, hb1⟩ := hp
  subst v
  subst h'
  dsimp only [Option.toList, List.cons_append, List.nil_append]
  obtain ⟨fi, lk, lt, bd, bo, cp, pr, co, pa, ow, wt, gt, pc, hCL, hLN⟩ := hCS x hb1.1 hb1.2
  refine r_astore_n B dX9_linkOf_5 rfl rfl (by decide) (lcat_v rfl rfl) ?_
  refine r_aload_n B dX9_linkOf_6 rfl rfl ?_
  refine r_iload_n B dX9_linkOf_7 rfl ?_
  refine r_callVX (n := 1) B dX9_linkOf_8 (ct_X9_needNight l g sz0 hRO hQC hfc _ hl0 (by omega) hng) gX9_linkOf_X9_needNight rfl (by decide +kernel) ⟨Nat.le_of_ble_eq_true rfl, Nat.le_of_ble_eq_true rfl⟩ hRO rfl rfl rfl (Nat.le_of_ble_eq_true rfl) (Nat.le_of_ble_eq_true rfl) (Nat.le_of_ble_eq_true rfl) (fun E h' hp => wx_out hout hlk ?_ (Nat.le_of_ble_eq_true rfl) (Nat.le_of_ble_eq_true rfl)) (fun v h' hp => ?_)
  · exact Or.inr (Or.inl ⟨hp.1, hp.2.1, hb1, hp.2.2⟩)
  obtain ⟨hv, hh, hb2⟩ := hp
  subst v
  subst h'
  dsimp only [Option.toList, List.cons_append, List.nil_append]
  refine r_aload_n B dX9_linkOf_11 rfl rfl ?_
  refine r_iload_n B dX9_linkOf_12 rfl ?_
  refine r_callV (n := 1) B dX9_linkOf_13 (ct_X3_linkAt l g sz0 hCL hLN _ (by omega)) gX9_linkOf_X3_linkAt rfl (by decide +kernel) ⟨Nat.le_of_ble_eq_true rfl, Nat.le_of_ble_eq_true rfl⟩ hCL rfl rfl rfl (Nat.le_of_ble_eq_true rfl) (Nat.le_of_ble_eq_true rfl) (Nat.le_of_ble_eq_true rfl) (fun v h' hp => ?_)
  obtain ⟨hv, hh⟩ := hp
  subst v
  subst h'
  dsimp only [Option.toList, List.cons_append, List.nil_append]
  refine r_astore B dX9_linkOf_16 (va_rf_isRef _) (by decide) (lcat_v rfl rfl) ?_
  refine r_aload B dX9_linkOf_18 rfl (va_rf_isRef _) ?_
  refine r_ifnonnull B dX9_linkOf_20 (tgt := 34) (by decide) (fun a20 c20 => ?_) (fun c20 => ?_)
  · refine r_aload B dX9_linkOf_34 rfl (va_rf_isRef _) ?_
    refine r_topr c20 ?_
    exact x_ret (r_aret B hr hlk dX9_linkOf_36 rfl (Nat.le_of_ble_eq_true rfl) (Nat.le_of_ble_eq_true rfl) ⟨a20, rfl, rfl, hb1, hb2, c20⟩)
  · exact r_throwSW (text := "the client was not served in this night") B hl0 xat_IS w_X9_linkOf_k76 w_X9_linkOf_ii76 xg_X9_linkOf_80 (by decide +kernel) dX9_linkOf_23 dX9_linkOf_26 dX9_linkOf_27 dX9_linkOf_30 dX9_linkOf_33 hout hlk (Nat.le_of_ble_eq_true rfl) (Nat.le_of_ble_eq_true rfl) (Nat.le_of_ble_eq_true rfl) (Nat.le_of_ble_eq_true rfl) (Nat.le_of_ble_eq_true rfl) (Nat.le_of_ble_eq_true rfl) (Or.inr (Or.inr ⟨rfl, rfl, hb1, hb2, c20⟩))
