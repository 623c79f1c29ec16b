theorem AL.of1 {h h' : AH} {a : Nat} {e : va_E} (h1 : h' a = some e) (h2 : ∀ b : Nat, b ≠ a → h' b = h b) : AL [(a, e)] h h' := ⟨fun x hx => by rw [List.mem_singleton.mp hx]; exact h1, by simp, fun q hq => h2 q (fun z => hq (by rw [z]; exact List.mem_singleton.mpr rfl))⟩
/-- where the class's parts lie, told by the order in which they were made -/
def caP (i : Nat) : Nat := [26, 25, 24, 23, 22, 21, 20, 19, 15, 18, 17, 16, 14, 10, 13, 12, 11, 9, 5, 8, 7, 6, 4, 0, 3, 2, 1].getD i 0
def caL (N : List Nat) : Nat → Nat := fun i => N.getD (caP i) 0
theorem caL_ok {N : List Nat} (h : N.Nodup) (hl : N.length = 27) : AOK (caL N) := fun i hi j hj hne => by
  have key : ∀ i : Nat, i < 27 → ∀ j : Nat, j < 27 → i ≠ j → caP i ≠ caP j ∧ caP i < 27 ∧ caP j < 27 := by decide +kernel
  have h1 := key i hi j hj hne
  exact nd_ne h (by omega) (by omega) h1.1
theorem caL_all (N : List Nat) (q : Nat) (h : ∀ i : Nat, i < 27 → q ≠ caL N i) (hl : N.length = 27) : ¬ q ∈ N := fun z => by
  obtain ⟨j, hj, e⟩ := List.mem_iff_getElem.mp z
  have key : ∀ j : Nat, j < 27 → ∃ i : Nat, i < 27 ∧ caP i = j := by decide +kernel
  obtain ⟨i, hi, ei⟩ := key j (by omega)
  refine h i hi ?_
  unfold caL
  rw [ei, List.getD_eq_getElem?_getD, List.getElem?_eq_getElem hj]
  exact e.symm
abbrev rmX9_init : Room := { frames := 3, cells := 26, slots := 800, locals := 80 }
theorem w_X9_init_oi1 : Cond.methodLink RX9 1 Lib.objectInit ∈ wsX9_init := by decide +kernel
theorem w_X9_init_oi2 : Cond.instanceMethod Lib.objectInit ∈ wsX9_init := by decide +kernel
theorem w_X9_init_oi3 : Cond.code Lib.objectInit ⟨#[0xb1]⟩ 1 none ∈ wsX9_init := by decide +kernel
theorem w_X9_init_iniX7 : Cond.initialized RX7 ∈ wsX9_init := by decide +kernel
theorem w_X9_init_insX7_init : Cond.instanceMethod yX7_init ∈ wsX9_init := by decide +kernel
theorem w_X9_init_iniX4 : Cond.initialized RX4 ∈ wsX9_init := by decide +kernel
theorem w_X9_init_insX4_init : Cond.instanceMethod yX4_init ∈ wsX9_init := by decide +kernel
theorem w_X9_init_iniX6 : Cond.initialized RX6 ∈ wsX9_init := by decide +kernel
theorem w_X9_init_insX6_init : Cond.instanceMethod yX6_init ∈ wsX9_init := by decide +kernel
theorem w_X9_init_iniX8 : Cond.initialized RX8 ∈ wsX9_init := by decide +kernel
theorem w_X9_init_insX8_init : Cond.instanceMethod yX8_init ∈ wsX9_init := by decide +kernel
theorem in_X9_init_X9 : ∀ w ∈ wsX90, w ∈ wsX9_init := by decide +kernel
theorem w_X9_init_f11 : Cond.fieldLink RX9 11 "DeltaNights" "clients" "[LDeltaNights$Client;" ∈ wsX9_init := by decide +kernel
theorem w_X9_init_iniX3 : Cond.initialized RX3 ∈ wsX9_init := by decide +kernel
theorem w_X9_init_insX3_init : Cond.instanceMethod yX3_init ∈ wsX9_init := by decide +kernel
set_option maxHeartbeats 4000000 in
set_option maxRecDepth 100000 in
theorem ct_X9_init (l : Launch) (g : GG) (sz0 : Nat) {hI : AH} {a : Nat} (ha0 : hI a = some (oE 9 [.null, .null, .null, .null, .null, .int (iI 0)]))  : CT l yX9_init wsX9_init rmX9_init g sz0 [.ref a] hI (fun v h' => v = none ∧ ∃ A : Nat → Nat, A 0 = a ∧ AOK A ∧ (∀ i : Nat, 0 < i → i < 27 → hI (A i) = none) ∧ (∀ q : Nat, (∀ i : Nat, i < 27 → q ≠ A i) → h' q = hI q) ∧ CW g A hI 0 2 3 12 200 1 5 4 0 none (fun _ => none) (fun _ _ => 0) (fun _ _ => 0) (fun _ => 0) (fun _ => 0) (fun _ => 0) (fun _ => 5) (fun _ => 0) (fun _ => 60) (fun _ => 0) (fun _ => 0) (fun _ => 0) (fun _ => 0) (fun _ => 0) (fun _ => 0) (fun _ _ => none) (fun _ => none) h') := by
  refine CT.of (by decide +kernel) rfl [some (.ref a), none] rfl (Nat.le_of_ble_eq_true rfl) ?_
  intro p e s m args below meth c B hr hlk hnm
  have hL := AL.one ha0
  have hat_a := ha0
  refine r_aload_n B dX9_init_0 rfl rfl ?_
  refine r_objInit B dX9_init_1 w_X9_init_oi1 w_X9_init_oi2 w_X9_init_oi3 (Nat.le_of_ble_eq_true rfl) (Nat.le_of_ble_eq_true rfl) ?_
  refine r_aload_n B dX9_init_4 rfl rfl ?_
  refine r_iconst B dX9_init_5 ?_
  refine r_newq (C := RX3) (t0 := 5) B dX9_init_6 (by decide +kernel) B.2.2.2.2.2.1.2.2.2.1.2.1 rfl (by decide) (by decide) (Nat.le_of_ble_eq_true rfl) (Nat.le_of_ble_eq_true rfl) (fun qc sqc nqc => ?_)
  have fqc := (hL.non nqc).2
  refine k_next (P := fun x9 => AL [(qc, qE g 5 4 (fun _ => none)), (a, oE 9 [.null, .null, .null, .null, .null, .int (iI 0)])] hI x9) (hL.new nqc) (fun h1 hL => ?_)
  have hat_a : h1 a = some (oE 9 [.null, .null, .null, .null, .null, .int (iI 0)]) := hL.at (i := 1) rfl
  have hat_qc : h1 qc = some (qE g 5 4 (fun _ => none)) := hL.at (i := 0) rfl
  refine r_putF (C := RX9) (T := TX9) (N := 6) (ci := 9) B dX9_init_9 in_X9_init_X9 tyX9 tyX9_ok nmX9 rfl 0 (by decide) (by decide +kernel : Cond.fieldLink RX9 11 "DeltaNights" "clients" "[LDeltaNights$Client;" ∈ wsX9_init) rfl rfl hnm rfl (ty := .array (.object "DeltaNights$Client")) (by decide +kernel) rfl rfl (hL.at (i := 1) rfl) (by show 0 < 6; decide) ?_
  refine k_next (P := fun x9 => AL [(qc, qE g 5 4 (fun _ => none)), (a, oE 9 [.ref qc, .null, .null, .null, .null, .int (iI 0)])] hI x9) (hL.put (i := 1) rfl) (fun h2 hL => ?_)
  have hat_a : h2 a = some (oE 9 [.ref qc, .null, .null, .null, .null, .int (iI 0)]) := hL.at (i := 1) rfl
  have hat_qc : h2 qc = some (qE g 5 4 (fun _ => none)) := hL.at (i := 0) rfl
  refine r_aload_n B dX9_init_12 rfl rfl ?_
  refine r_new (C := RX7) (T := TX7) (N := 3) (ci := 7) (fs := [.int (iI 0), .int (iI 0), .int (iI 0)]) B dX9_init_13 (by decide +kernel) tyX7 tyX7_ok (by decide +kernel) (by decide +kernel) (by decide +kernel) rfl (by decide) (Nat.le_of_ble_eq_true rfl) (Nat.le_of_ble_eq_true rfl) (fun mk smk nmk => ?_)
  have fmk := (hL.non nmk).2
  refine k_next (P := fun x9 => AL [(mk, oE 7 [.int (iI 0), .int (iI 0), .int (iI 0)]), (qc, qE g 5 4 (fun _ => none)), (a, oE 9 [.ref qc, .null, .null, .null, .null, .int (iI 0)])] hI x9) (hL.new nmk) (fun h3 hL => ?_)
  have hat_a : h3 a = some (oE 9 [.ref qc, .null, .null, .null, .null, .int (iI 0)]) := hL.at (i := 2) rfl
  have hat_qc : h3 qc = some (qE g 5 4 (fun _ => none)) := hL.at (i := 1) rfl
  refine r_dup B dX9_init_16 rfl ?_
  refine r_callIN (n := 0) B dX9_init_17 (ct_X7_init l g sz0 (hL.at (i := 0) rfl)) gX9_init_X7_init_n17 rfl w_X9_init_iniX7 (by decide +kernel) w_X9_init_insX7_init rfl (by decide +kernel) ⟨Nat.le_of_ble_eq_true rfl, Nat.le_of_ble_eq_true rfl⟩ rfl rfl (Nat.le_of_ble_eq_true rfl) (Nat.le_of_ble_eq_true rfl) (Nat.le_of_ble_eq_true rfl) (fun v hc hp => ?_)
  obtain ⟨hv, hM1, hM2⟩ := hp
  subst v
  dsimp only [Option.toList, List.cons_append, List.nil_append]
  have hcat := hL.cat (i := 0) (M := []) rfl (AL.of1 hM1 hM2) (fun x hx => absurd hx List.not_mem_nil)
  refine k_next (P := fun x9 => AL [(mk, oE 7 [.int (iI 2), .int (iI 3), .int (iI 12)]), (qc, qE g 5 4 (fun _ => none)), (a, oE 9 [.ref qc, .null, .null, .null, .null, .int (iI 0)])] hI x9) (hcat.1) (fun h4 hL => ?_)
  have hat_a : h4 a = some (oE 9 [.ref qc, .null, .null, .null, .null, .int (iI 0)]) := hL.at (i := 2) rfl
  have hat_qc : h4 qc = some (qE g 5 4 (fun _ => none)) := hL.at (i := 1) rfl
  refine r_putF (C := RX9) (T := TX9) (N := 6) (ci := 9) B dX9_init_20 in_X9_init_X9 tyX9 tyX9_ok nmX9 rfl 1 (by decide) (by decide +kernel : Cond.fieldLink RX9 18 "DeltaNights" "marks" "LDeltaNights$Marks;" ∈ wsX9_init) rfl rfl hnm rfl (ty := .object "DeltaNights$Marks") (by decide +kernel) rfl rfl (hL.at (i := 2) rfl) (by show 1 < 6; decide) ?_
  refine k_next (P := fun x9 => AL [(mk, oE 7 [.int (iI 2), .int (iI 3), .int (iI 12)]), (qc, qE g 5 4 (fun _ => none)), (a, oE 9 [.ref qc, .ref mk, .null, .null, .null, .int (iI 0)])] hI x9) (hL.put (i := 2) rfl) (fun h5 hL => ?_)
  have hat_a : h5 a = some (oE 9 [.ref qc, .ref mk, .null, .null, .null, .int (iI 0)]) := hL.at (i := 2) rfl
  have hat_qc : h5 qc = some (qE g 5 4 (fun _ => none)) := hL.at (i := 1) rfl
  refine r_aload_n B dX9_init_23 rfl rfl ?_
  refine r_new (C := RX4) (T := TX4) (N := 2) (ci := 4) (fs := [.null, .int (iI 0)]) B dX9_init_24 (by decide +kernel) tyX4 tyX4_ok (by decide +kernel) (by decide +kernel) (by decide +kernel) rfl (by decide) (Nat.le_of_ble_eq_true rfl) (Nat.le_of_ble_eq_true rfl) (fun ho sho nho => ?_)
  have fho := (hL.non nho).2
  refine k_next (P := fun x9 => AL [(ho, oE 4 [.null, .int (iI 0)]), (mk, oE 7 [.int (iI 2), .int (iI 3), .int (iI 12)]), (qc, qE g 5 4 (fun _ => none)), (a, oE 9 [.ref qc, .ref mk, .null, .null, .null, .int (iI 0)])] hI x9) (hL.new nho) (fun h6 hL => ?_)
  have hat_a : h6 a = some (oE 9 [.ref qc, .ref mk, .null, .null, .null, .int (iI 0)]) := hL.at (i := 3) rfl
  have hat_qc : h6 qc = some (qE g 5 4 (fun _ => none)) := hL.at (i := 2) rfl
  refine r_dup B dX9_init_27 rfl ?_
  refine r_callIN (n := 0) B dX9_init_28 (ct_X4_init l g sz0 (hL.at (i := 0) rfl)) gX9_init_X4_init_n24 rfl w_X9_init_iniX4 (by decide +kernel) w_X9_init_insX4_init rfl (by decide +kernel) ⟨Nat.le_of_ble_eq_true rfl, Nat.le_of_ble_eq_true rfl⟩ rfl rfl (Nat.le_of_ble_eq_true rfl) (Nat.le_of_ble_eq_true rfl) (Nat.le_of_ble_eq_true rfl) (fun v hc hp => ?_)
  obtain ⟨hv, hM1, hM2⟩ := hp
  subst v
  dsimp only [Option.toList, List.cons_append, List.nil_append]
  have hcat := hL.cat (i := 0) (M := []) rfl (AL.of1 hM1 hM2) (fun x hx => absurd hx List.not_mem_nil)
  refine k_next (P := fun x9 => AL [(ho, oE 4 [.null, .int (iI 0)]), (mk, oE 7 [.int (iI 2), .int (iI 3), .int (iI 12)]), (qc, qE g 5 4 (fun _ => none)), (a, oE 9 [.ref qc, .ref mk, .null, .null, .null, .int (iI 0)])] hI x9) (hcat.1) (fun h7 hL => ?_)
  have hat_a : h7 a = some (oE 9 [.ref qc, .ref mk, .null, .null, .null, .int (iI 0)]) := hL.at (i := 3) rfl
  have hat_qc : h7 qc = some (qE g 5 4 (fun _ => none)) := hL.at (i := 2) rfl
  refine r_putF (C := RX9) (T := TX9) (N := 6) (ci := 9) B dX9_init_31 in_X9_init_X9 tyX9 tyX9_ok nmX9 rfl 2 (by decide) (by decide +kernel : Cond.fieldLink RX9 25 "DeltaNights" "house" "LDeltaNights$House;" ∈ wsX9_init) rfl rfl hnm rfl (ty := .object "DeltaNights$House") (by decide +kernel) rfl rfl (hL.at (i := 3) rfl) (by show 2 < 6; decide) ?_
  refine k_next (P := fun x9 => AL [(ho, oE 4 [.null, .int (iI 0)]), (mk, oE 7 [.int (iI 2), .int (iI 3), .int (iI 12)]), (qc, qE g 5 4 (fun _ => none)), (a, oE 9 [.ref qc, .ref mk, .ref ho, .null, .null, .int (iI 0)])] hI x9) (hL.put (i := 3) rfl) (fun h8 hL => ?_)
  have hat_a : h8 a = some (oE 9 [.ref qc, .ref mk, .ref ho, .null, .null, .int (iI 0)]) := hL.at (i := 3) rfl
  have hat_qc : h8 qc = some (qE g 5 4 (fun _ => none)) := hL.at (i := 2) rfl
  refine r_aload_n B dX9_init_34 rfl rfl ?_
  refine r_new (C := RX6) (T := TX6) (N := 3) (ci := 6) (fs := [.null, .int (iI 0), .int (iI 0)]) B dX9_init_35 (by decide +kernel) tyX6 tyX6_ok (by decide +kernel) (by decide +kernel) (by decide +kernel) rfl (by decide) (Nat.le_of_ble_eq_true rfl) (Nat.le_of_ble_eq_true rfl) (fun mt smt nmt => ?_)
  have fmt := (hL.non nmt).2
  refine k_next (P := fun x9 => AL [(mt, oE 6 [.null, .int (iI 0), .int (iI 0)]), (ho, oE 4 [.null, .int (iI 0)]), (mk, oE 7 [.int (iI 2), .int (iI 3), .int (iI 12)]), (qc, qE g 5 4 (fun _ => none)), (a, oE 9 [.ref qc, .ref mk, .ref ho, .null, .null, .int (iI 0)])] hI x9) (hL.new nmt) (fun h9 hL => ?_)
  have hat_a : h9 a = some (oE 9 [.ref qc, .ref mk, .ref ho, .null, .null, .int (iI 0)]) := hL.at (i := 4) rfl
  have hat_qc : h9 qc = some (qE g 5 4 (fun _ => none)) := hL.at (i := 3) rfl
  refine r_dup B dX9_init_38 rfl ?_
  refine r_callIN (n := 0) B dX9_init_39 (ct_X6_init l g sz0 (hL.at (i := 0) rfl)) gX9_init_X6_init_n31 rfl w_X9_init_iniX6 (by decide +kernel) w_X9_init_insX6_init rfl (by decide +kernel) ⟨Nat.le_of_ble_eq_true rfl, Nat.le_of_ble_eq_true rfl⟩ rfl rfl (Nat.le_of_ble_eq_true rfl) (Nat.le_of_ble_eq_true rfl) (Nat.le_of_ble_eq_true rfl) (fun v hc hp => ?_)
  obtain ⟨hv, tu, gtu, hM⟩ := hp
  subst v
  dsimp only [Option.toList, List.cons_append, List.nil_append]
  have hcat := hL.cat (i := 0) (M := [(tu, qE g 5 4 (fun _ => none))]) rfl hM (fun x hx => by
    rw [List.mem_singleton.mp hx]; exact gtu)
  have ftu : hI tu = none := hcat.2 (tu, qE g 5 4 (fun _ => none)) (List.mem_of_getElem? (i := 0) rfl)
  refine k_next (P := fun x9 => AL [(tu, qE g 5 4 (fun _ => none)), (mt, oE 6 [.ref tu, .int (iI 200), .int (iI 1)]), (ho, oE 4 [.null, .int (iI 0)]), (mk, oE 7 [.int (iI 2), .int (iI 3), .int (iI 12)]), (qc, qE g 5 4 (fun _ => none)), (a, oE 9 [.ref qc, .ref mk, .ref ho, .null, .null, .int (iI 0)])] hI x9) (hcat.1) (fun h10 hL => ?_)
  have hat_a : h10 a = some (oE 9 [.ref qc, .ref mk, .ref ho, .null, .null, .int (iI 0)]) := hL.at (i := 5) rfl
  have hat_qc : h10 qc = some (qE g 5 4 (fun _ => none)) := hL.at (i := 4) rfl
  refine r_putF (C := RX9) (T := TX9) (N := 6) (ci := 9) B dX9_init_42 in_X9_init_X9 tyX9 tyX9_ok nmX9 rfl 3 (by decide) (by decide +kernel : Cond.fieldLink RX9 32 "DeltaNights" "market" "LDeltaNights$Market;" ∈ wsX9_init) rfl rfl hnm rfl (ty := .object "DeltaNights$Market") (by decide +kernel) rfl rfl (hL.at (i := 5) rfl) (by show 3 < 6; decide) ?_
  refine k_next (P := fun x9 => AL [(tu, qE g 5 4 (fun _ => none)), (mt, oE 6 [.ref tu, .int (iI 200), .int (iI 1)]), (ho, oE 4 [.null, .int (iI 0)]), (mk, oE 7 [.int (iI 2), .int (iI 3), .int (iI 12)]), (qc, qE g 5 4 (fun _ => none)), (a, oE 9 [.ref qc, .ref mk, .ref ho, .ref mt, .null, .int (iI 0)])] hI x9) (hL.put (i := 5) rfl) (fun h11 hL => ?_)
  have hat_a : h11 a = some (oE 9 [.ref qc, .ref mk, .ref ho, .ref mt, .null, .int (iI 0)]) := hL.at (i := 5) rfl
  have hat_qc : h11 qc = some (qE g 5 4 (fun _ => none)) := hL.at (i := 4) rfl
  refine r_aload_n B dX9_init_45 rfl rfl ?_
  refine r_new (C := RX8) (T := TX8) (N := 2) (ci := 8) (fs := [.int (iI 0), .int (iI 0)]) B dX9_init_46 (by decide +kernel) tyX8 tyX8_ok (by decide +kernel) (by decide +kernel) (by decide +kernel) rfl (by decide) (Nat.le_of_ble_eq_true rfl) (Nat.le_of_ble_eq_true rfl) (fun rc src nrc => ?_)
  have frc := (hL.non nrc).2
  refine k_next (P := fun x9 => AL [(rc, oE 8 [.int (iI 0), .int (iI 0)]), (tu, qE g 5 4 (fun _ => none)), (mt, oE 6 [.ref tu, .int (iI 200), .int (iI 1)]), (ho, oE 4 [.null, .int (iI 0)]), (mk, oE 7 [.int (iI 2), .int (iI 3), .int (iI 12)]), (qc, qE g 5 4 (fun _ => none)), (a, oE 9 [.ref qc, .ref mk, .ref ho, .ref mt, .null, .int (iI 0)])] hI x9) (hL.new nrc) (fun h12 hL => ?_)
  have hat_a : h12 a = some (oE 9 [.ref qc, .ref mk, .ref ho, .ref mt, .null, .int (iI 0)]) := hL.at (i := 6) rfl
  have hat_qc : h12 qc = some (qE g 5 4 (fun _ => none)) := hL.at (i := 5) rfl
  refine r_dup B dX9_init_49 rfl ?_
  refine r_callIN (n := 0) B dX9_init_50 (ct_X8_init l g sz0 (hL.at (i := 0) rfl)) gX9_init_X8_init_n38 rfl w_X9_init_iniX8 (by decide +kernel) w_X9_init_insX8_init rfl (by decide +kernel) ⟨Nat.le_of_ble_eq_true rfl, Nat.le_of_ble_eq_true rfl⟩ rfl rfl (Nat.le_of_ble_eq_true rfl) (Nat.le_of_ble_eq_true rfl) (Nat.le_of_ble_eq_true rfl) (fun v hc hp => ?_)
  obtain ⟨hv, hM1, hM2⟩ := hp
  subst v
  dsimp only [Option.toList, List.cons_append, List.nil_append]
  have hcat := hL.cat (i := 0) (M := []) rfl (AL.of1 hM1 hM2) (fun x hx => absurd hx List.not_mem_nil)
  refine k_next (P := fun x9 => AL [(rc, oE 8 [.int (iI 5), .int (iI 4)]), (tu, qE g 5 4 (fun _ => none)), (mt, oE 6 [.ref tu, .int (iI 200), .int (iI 1)]), (ho, oE 4 [.null, .int (iI 0)]), (mk, oE 7 [.int (iI 2), .int (iI 3), .int (iI 12)]), (qc, qE g 5 4 (fun _ => none)), (a, oE 9 [.ref qc, .ref mk, .ref ho, .ref mt, .null, .int (iI 0)])] hI x9) (hcat.1) (fun h13 hL => ?_)
  have hat_a : h13 a = some (oE 9 [.ref qc, .ref mk, .ref ho, .ref mt, .null, .int (iI 0)]) := hL.at (i := 6) rfl
  have hat_qc : h13 qc = some (qE g 5 4 (fun _ => none)) := hL.at (i := 5) rfl
  refine r_putF (C := RX9) (T := TX9) (N := 6) (ci := 9) B dX9_init_53 in_X9_init_X9 tyX9 tyX9_ok nmX9 rfl 4 (by decide) (by decide +kernel : Cond.fieldLink RX9 39 "DeltaNights" "recovery" "LDeltaNights$Recovery;" ∈ wsX9_init) rfl rfl hnm rfl (ty := .object "DeltaNights$Recovery") (by decide +kernel) rfl rfl (hL.at (i := 6) rfl) (by show 4 < 6; decide) ?_
  refine k_next (P := fun x9 => AL [(rc, oE 8 [.int (iI 5), .int (iI 4)]), (tu, qE g 5 4 (fun _ => none)), (mt, oE 6 [.ref tu, .int (iI 200), .int (iI 1)]), (ho, oE 4 [.null, .int (iI 0)]), (mk, oE 7 [.int (iI 2), .int (iI 3), .int (iI 12)]), (qc, qE g 5 4 (fun _ => none)), (a, oE 9 [.ref qc, .ref mk, .ref ho, .ref mt, .ref rc, .int (iI 0)])] hI x9) (hL.put (i := 6) rfl) (fun h14 hL => ?_)
  have hat_a : h14 a = some (oE 9 [.ref qc, .ref mk, .ref ho, .ref mt, .ref rc, .int (iI 0)]) := hL.at (i := 6) rfl
  have hat_qc : h14 qc = some (qE g 5 4 (fun _ => none)) := hL.at (i := 5) rfl
  refine r_aload_n B dX9_init_56 rfl rfl ?_
  refine r_iconst B dX9_init_57 ?_
  refine r_put (C := RX9) (T := TX9) (N := 6) (ci := 9) B dX9_init_58 in_X9_init_X9 tyX9 tyX9_ok nmX9 rfl 5 (by decide) (by decide +kernel : Cond.fieldLink RX9 43 "DeltaNights" "nightsGone" "I" ∈ wsX9_init) rfl rfl (ty := .int) (by decide +kernel) rfl rfl (hL.at (i := 6) rfl) (by show 5 < 6; decide) ?_
  refine k_next (P := fun x9 => AL [(rc, oE 8 [.int (iI 5), .int (iI 4)]), (tu, qE g 5 4 (fun _ => none)), (mt, oE 6 [.ref tu, .int (iI 200), .int (iI 1)]), (ho, oE 4 [.null, .int (iI 0)]), (mk, oE 7 [.int (iI 2), .int (iI 3), .int (iI 12)]), (qc, qE g 5 4 (fun _ => none)), (a, oE 9 [.ref qc, .ref mk, .ref ho, .ref mt, .ref rc, .int (iI 0)])] hI x9) (hL.put (i := 6) rfl) (fun h15 hL => ?_)
  have hat_a : h15 a = some (oE 9 [.ref qc, .ref mk, .ref ho, .ref mt, .ref rc, .int (iI 0)]) := hL.at (i := 6) rfl
  have hat_qc : h15 qc = some (qE g 5 4 (fun _ => none)) := hL.at (i := 5) rfl
  refine r_iconst B dX9_init_61 ?_
  refine r_istore_n B dX9_init_62 rfl (by decide) (lcat_v rfl rfl) ?_
  refine r_iload_n B dX9_init_63 rfl ?_
  refine r_aload_n B dX9_init_64 rfl rfl ?_
  refine r_get (C := RX9) (T := TX9) (N := 6) (ci := 9) B dX9_init_65 in_X9_init_X9 rfl 0 (by decide) w_X9_init_f11 rfl hat_a rfl ?_
  refine r_alen_q B dX9_init_68 rfl hat_qc ?_
  refine r_icmp_ge B dX9_init_69 (tgt := 91) (by decide) (by omega) (by omega) (fun c69 => ?_) (fun c69 => ?_)
  · exfalso; omega
  · refine r_aload_n B dX9_init_72 rfl rfl ?_
    refine r_get (C := RX9) (T := TX9) (N := 6) (ci := 9) B dX9_init_73 in_X9_init_X9 rfl 0 (by decide) w_X9_init_f11 rfl hat_a rfl ?_
    refine r_iload_n B dX9_init_76 rfl ?_
    refine r_new (C := RX3) (T := TX3) (N := 13) (ci := 3) (fs := [.null, .null, .null, .int (iI 0), .int (iI 0), .int (iI 0), .int (iI 0), .int (iI 0), .int (iI 0), .int (iI 0), .int (iI 0), .int (iI 0), .int (iI 0)]) B dX9_init_77 (by decide +kernel) tyX3 tyX3_ok (by decide +kernel) (by decide +kernel) (by decide +kernel) rfl (by decide) (Nat.le_of_ble_eq_true rfl) (Nat.le_of_ble_eq_true rfl) (fun cl0 scl0 ncl0 => ?_)
    have fcl0 := (hL.non ncl0).2
    refine k_next (P := fun x9 => AL [(cl0, oE 3 [.null, .null, .null, .int (iI 0), .int (iI 0), .int (iI 0), .int (iI 0), .int (iI 0), .int (iI 0), .int (iI 0), .int (iI 0), .int (iI 0), .int (iI 0)]), (rc, oE 8 [.int (iI 5), .int (iI 4)]), (tu, qE g 5 4 (fun _ => none)), (mt, oE 6 [.ref tu, .int (iI 200), .int (iI 1)]), (ho, oE 4 [.null, .int (iI 0)]), (mk, oE 7 [.int (iI 2), .int (iI 3), .int (iI 12)]), (qc, qE g 5 4 (fun _ => none)), (a, oE 9 [.ref qc, .ref mk, .ref ho, .ref mt, .ref rc, .int (iI 0)])] hI x9) (hL.new ncl0) (fun h16 hL => ?_)
    have hat_a : h16 a = some (oE 9 [.ref qc, .ref mk, .ref ho, .ref mt, .ref rc, .int (iI 0)]) := hL.at (i := 7) rfl
    have hat_qc : h16 qc = some (qE g 5 4 (fun _ => none)) := hL.at (i := 6) rfl
    refine r_dup B dX9_init_80 rfl ?_
    refine r_callIN (n := 0) B dX9_init_81 (ct_X3_init l g sz0 (hL.at (i := 0) rfl)) gX9_init_X3_init_n47 rfl w_X9_init_iniX3 (by decide +kernel) w_X9_init_insX3_init rfl (by decide +kernel) ⟨Nat.le_of_ble_eq_true rfl, Nat.le_of_ble_eq_true rfl⟩ rfl rfl (Nat.le_of_ble_eq_true rfl) (Nat.le_of_ble_eq_true rfl) (Nat.le_of_ble_eq_true rfl) (fun v hc hp => ?_)
    obtain ⟨hv, fi0, ac0, ae0, lk0, ⟨glk0, gae0, gac0, gfi0⟩, hM⟩ := hp
    subst v
    dsimp only [Option.toList, List.cons_append, List.nil_append]
    have hcat := hL.cat (i := 0) (M := [(lk0, qE g 6 60 (fun _ => none)), (ae0, iE g 48 (fun _ => 0)), (ac0, iE g 48 (fun _ => 0)), (fi0, oE 0 [.ref ac0, .ref ae0, .int (iI 0), .int (iI 0)])]) rfl hM (fun x hx => by
      simp only [List.mem_cons, List.not_mem_nil, or_false] at hx
      rcases hx with z | z | z | z
      · rw [z]; exact glk0
      · rw [z]; exact gae0
      · rw [z]; exact gac0
      · rw [z]; exact gfi0)
    have flk0 : hI lk0 = none := hcat.2 (lk0, qE g 6 60 (fun _ => none)) (List.mem_of_getElem? (i := 0) rfl)
    have fae0 : hI ae0 = none := hcat.2 (ae0, iE g 48 (fun _ => 0)) (List.mem_of_getElem? (i := 1) rfl)
    have fac0 : hI ac0 = none := hcat.2 (ac0, iE g 48 (fun _ => 0)) (List.mem_of_getElem? (i := 2) rfl)
    have ffi0 : hI fi0 = none := hcat.2 (fi0, oE 0 [.ref ac0, .ref ae0, .int (iI 0), .int (iI 0)]) (List.mem_of_getElem? (i := 3) rfl)
    refine k_next (P := fun x9 => AL [(lk0, qE g 6 60 (fun _ => none)), (ae0, iE g 48 (fun _ => 0)), (ac0, iE g 48 (fun _ => 0)), (fi0, oE 0 [.ref ac0, .ref ae0, .int (iI 0), .int (iI 0)]), (cl0, oE 3 [.ref fi0, .ref lk0, .null, .int (iI 0), .int (iI 5), .int (iI 0), .int (iI 60), .int (iI 0), .int (iI 0), .int (iI 0), .int (iI 0), .int (iI 0), .int (iI 0)]), (rc, oE 8 [.int (iI 5), .int (iI 4)]), (tu, qE g 5 4 (fun _ => none)), (mt, oE 6 [.ref tu, .int (iI 200), .int (iI 1)]), (ho, oE 4 [.null, .int (iI 0)]), (mk, oE 7 [.int (iI 2), .int (iI 3), .int (iI 12)]), (qc, qE g 5 4 (fun _ => none)), (a, oE 9 [.ref qc, .ref mk, .ref ho, .ref mt, .ref rc, .int (iI 0)])] hI x9) (hcat.1) (fun h17 hL => ?_)
    have hat_a : h17 a = some (oE 9 [.ref qc, .ref mk, .ref ho, .ref mt, .ref rc, .int (iI 0)]) := hL.at (i := 11) rfl
    have hat_qc : h17 qc = some (qE g 5 4 (fun _ => none)) := hL.at (i := 10) rfl
    refine r_aast (ci := 3) B dX9_init_84 rfl rfl (hL.at (i := 10) rfl) (hL.at (i := 4) rfl) (by decide) (by omega) (by omega) ?_
    refine k_next (P := fun x9 => AL [(lk0, qE g 6 60 (fun _ => none)), (ae0, iE g 48 (fun _ => 0)), (ac0, iE g 48 (fun _ => 0)), (fi0, oE 0 [.ref ac0, .ref ae0, .int (iI 0), .int (iI 0)]), (cl0, oE 3 [.ref fi0, .ref lk0, .null, .int (iI 0), .int (iI 5), .int (iI 0), .int (iI 60), .int (iI 0), .int (iI 0), .int (iI 0), .int (iI 0), .int (iI 0), .int (iI 0)]), (rc, oE 8 [.int (iI 5), .int (iI 4)]), (tu, qE g 5 4 (fun _ => none)), (mt, oE 6 [.ref tu, .int (iI 200), .int (iI 1)]), (ho, oE 4 [.null, .int (iI 0)]), (mk, oE 7 [.int (iI 2), .int (iI 3), .int (iI 12)]), (qc, qE g 5 4 (upQ (fun _ => none) 0 (some cl0))), (a, oE 9 [.ref qc, .ref mk, .ref ho, .ref mt, .ref rc, .int (iI 0)])] hI x9) (hL.put (i := 10) rfl) (fun h18 hL => ?_)
    have hat_a : h18 a = some (oE 9 [.ref qc, .ref mk, .ref ho, .ref mt, .ref rc, .int (iI 0)]) := hL.at (i := 11) rfl
    have hat_qc : h18 qc = some (qE g 5 4 (upQ (fun _ => none) 0 (some cl0))) := hL.at (i := 10) rfl
    refine r_iinc B dX9_init_85 rfl (by decide) (lcat_v rfl rfl) ?_
    refine r_goto B dX9_init_88 (tgt := 63) (by decide) ?_
    refine r_iload_n B dX9_init_63 rfl ?_
    refine r_aload_n B dX9_init_64 rfl rfl ?_
    refine r_get (C := RX9) (T := TX9) (N := 6) (ci := 9) B dX9_init_65 in_X9_init_X9 rfl 0 (by decide) w_X9_init_f11 rfl hat_a rfl ?_
    refine r_alen_q B dX9_init_68 rfl hat_qc ?_
    refine r_icmp_ge B dX9_init_69 (tgt := 91) (by decide) (by omega) (by omega) (fun c69 => ?_) (fun c69 => ?_)
    · exfalso; omega
    · refine r_aload_n B dX9_init_72 rfl rfl ?_
      refine r_get (C := RX9) (T := TX9) (N := 6) (ci := 9) B dX9_init_73 in_X9_init_X9 rfl 0 (by decide) w_X9_init_f11 rfl hat_a rfl ?_
      refine r_iload_n B dX9_init_76 rfl ?_
      refine r_new (C := RX3) (T := TX3) (N := 13) (ci := 3) (fs := [.null, .null, .null, .int (iI 0), .int (iI 0), .int (iI 0), .int (iI 0), .int (iI 0), .int (iI 0), .int (iI 0), .int (iI 0), .int (iI 0), .int (iI 0)]) B dX9_init_77 (by decide +kernel) tyX3 tyX3_ok (by decide +kernel) (by decide +kernel) (by decide +kernel) rfl (by decide) (Nat.le_of_ble_eq_true rfl) (Nat.le_of_ble_eq_true rfl) (fun cl1 scl1 ncl1 => ?_)
      have fcl1 := (hL.non ncl1).2
      refine k_next (P := fun x9 => AL [(cl1, oE 3 [.null, .null, .null, .int (iI 0), .int (iI 0), .int (iI 0), .int (iI 0), .int (iI 0), .int (iI 0), .int (iI 0), .int (iI 0), .int (iI 0), .int (iI 0)]), (lk0, qE g 6 60 (fun _ => none)), (ae0, iE g 48 (fun _ => 0)), (ac0, iE g 48 (fun _ => 0)), (fi0, oE 0 [.ref ac0, .ref ae0, .int (iI 0), .int (iI 0)]), (cl0, oE 3 [.ref fi0, .ref lk0, .null, .int (iI 0), .int (iI 5), .int (iI 0), .int (iI 60), .int (iI 0), .int (iI 0), .int (iI 0), .int (iI 0), .int (iI 0), .int (iI 0)]), (rc, oE 8 [.int (iI 5), .int (iI 4)]), (tu, qE g 5 4 (fun _ => none)), (mt, oE 6 [.ref tu, .int (iI 200), .int (iI 1)]), (ho, oE 4 [.null, .int (iI 0)]), (mk, oE 7 [.int (iI 2), .int (iI 3), .int (iI 12)]), (qc, qE g 5 4 (upQ (fun _ => none) 0 (some cl0))), (a, oE 9 [.ref qc, .ref mk, .ref ho, .ref mt, .ref rc, .int (iI 0)])] hI x9) (hL.new ncl1) (fun h19 hL => ?_)
      have hat_a : h19 a = some (oE 9 [.ref qc, .ref mk, .ref ho, .ref mt, .ref rc, .int (iI 0)]) := hL.at (i := 12) rfl
      have hat_qc : h19 qc = some (qE g 5 4 (upQ (fun _ => none) 0 (some cl0))) := hL.at (i := 11) rfl
      refine r_dup B dX9_init_80 rfl ?_
      refine r_callIN (n := 0) B dX9_init_81 (ct_X3_init l g sz0 (hL.at (i := 0) rfl)) gX9_init_X3_init_n47 rfl w_X9_init_iniX3 (by decide +kernel) w_X9_init_insX3_init rfl (by decide +kernel) ⟨Nat.le_of_ble_eq_true rfl, Nat.le_of_ble_eq_true rfl⟩ rfl rfl (Nat.le_of_ble_eq_true rfl) (Nat.le_of_ble_eq_true rfl) (Nat.le_of_ble_eq_true rfl) (fun v hc hp => ?_)
      obtain ⟨hv, fi1, ac1, ae1, lk1, ⟨glk1, gae1, gac1, gfi1⟩, hM⟩ := hp
      subst v
      dsimp only [Option.toList, List.cons_append, List.nil_append]
      have hcat := hL.cat (i := 0) (M := [(lk1, qE g 6 60 (fun _ => none)), (ae1, iE g 48 (fun _ => 0)), (ac1, iE g 48 (fun _ => 0)), (fi1, oE 0 [.ref ac1, .ref ae1, .int (iI 0), .int (iI 0)])]) rfl hM (fun x hx => by
        simp only [List.mem_cons, List.not_mem_nil, or_false] at hx
        rcases hx with z | z | z | z
        · rw [z]; exact glk1
        · rw [z]; exact gae1
        · rw [z]; exact gac1
        · rw [z]; exact gfi1)
      have flk1 : hI lk1 = none := hcat.2 (lk1, qE g 6 60 (fun _ => none)) (List.mem_of_getElem? (i := 0) rfl)
      have fae1 : hI ae1 = none := hcat.2 (ae1, iE g 48 (fun _ => 0)) (List.mem_of_getElem? (i := 1) rfl)
      have fac1 : hI ac1 = none := hcat.2 (ac1, iE g 48 (fun _ => 0)) (List.mem_of_getElem? (i := 2) rfl)
      have ffi1 : hI fi1 = none := hcat.2 (fi1, oE 0 [.ref ac1, .ref ae1, .int (iI 0), .int (iI 0)]) (List.mem_of_getElem? (i := 3) rfl)
      refine k_next (P := fun x9 => AL [(lk1, qE g 6 60 (fun _ => none)), (ae1, iE g 48 (fun _ => 0)), (ac1, iE g 48 (fun _ => 0)), (fi1, oE 0 [.ref ac1, .ref ae1, .int (iI 0), .int (iI 0)]), (cl1, oE 3 [.ref fi1, .ref lk1, .null, .int (iI 0), .int (iI 5), .int (iI 0), .int (iI 60), .int (iI 0), .int (iI 0), .int (iI 0), .int (iI 0), .int (iI 0), .int (iI 0)]), (lk0, qE g 6 60 (fun _ => none)), (ae0, iE g 48 (fun _ => 0)), (ac0, iE g 48 (fun _ => 0)), (fi0, oE 0 [.ref ac0, .ref ae0, .int (iI 0), .int (iI 0)]), (cl0, oE 3 [.ref fi0, .ref lk0, .null, .int (iI 0), .int (iI 5), .int (iI 0), .int (iI 60), .int (iI 0), .int (iI 0), .int (iI 0), .int (iI 0), .int (iI 0), .int (iI 0)]), (rc, oE 8 [.int (iI 5), .int (iI 4)]), (tu, qE g 5 4 (fun _ => none)), (mt, oE 6 [.ref tu, .int (iI 200), .int (iI 1)]), (ho, oE 4 [.null, .int (iI 0)]), (mk, oE 7 [.int (iI 2), .int (iI 3), .int (iI 12)]), (qc, qE g 5 4 (upQ (fun _ => none) 0 (some cl0))), (a, oE 9 [.ref qc, .ref mk, .ref ho, .ref mt, .ref rc, .int (iI 0)])] hI x9) (hcat.1) (fun h20 hL => ?_)
      have hat_a : h20 a = some (oE 9 [.ref qc, .ref mk, .ref ho, .ref mt, .ref rc, .int (iI 0)]) := hL.at (i := 16) rfl
      have hat_qc : h20 qc = some (qE g 5 4 (upQ (fun _ => none) 0 (some cl0))) := hL.at (i := 15) rfl
      refine r_aast (ci := 3) B dX9_init_84 rfl rfl (hL.at (i := 15) rfl) (hL.at (i := 4) rfl) (by decide) (by omega) (by omega) ?_
      refine k_next (P := fun x9 => AL [(lk1, qE g 6 60 (fun _ => none)), (ae1, iE g 48 (fun _ => 0)), (ac1, iE g 48 (fun _ => 0)), (fi1, oE 0 [.ref ac1, .ref ae1, .int (iI 0), .int (iI 0)]), (cl1, oE 3 [.ref fi1, .ref lk1, .null, .int (iI 0), .int (iI 5), .int (iI 0), .int (iI 60), .int (iI 0), .int (iI 0), .int (iI 0), .int (iI 0), .int (iI 0), .int (iI 0)]), (lk0, qE g 6 60 (fun _ => none)), (ae0, iE g 48 (fun _ => 0)), (ac0, iE g 48 (fun _ => 0)), (fi0, oE 0 [.ref ac0, .ref ae0, .int (iI 0), .int (iI 0)]), (cl0, oE 3 [.ref fi0, .ref lk0, .null, .int (iI 0), .int (iI 5), .int (iI 0), .int (iI 60), .int (iI 0), .int (iI 0), .int (iI 0), .int (iI 0), .int (iI 0), .int (iI 0)]), (rc, oE 8 [.int (iI 5), .int (iI 4)]), (tu, qE g 5 4 (fun _ => none)), (mt, oE 6 [.ref tu, .int (iI 200), .int (iI 1)]), (ho, oE 4 [.null, .int (iI 0)]), (mk, oE 7 [.int (iI 2), .int (iI 3), .int (iI 12)]), (qc, qE g 5 4 (upQ (upQ (fun _ => none) 0 (some cl0)) (0 + 1) (some cl1))), (a, oE 9 [.ref qc, .ref mk, .ref ho, .ref mt, .ref rc, .int (iI 0)])] hI x9) (hL.put (i := 15) rfl) (fun h21 hL => ?_)
      have hat_a : h21 a = some (oE 9 [.ref qc, .ref mk, .ref ho, .ref mt, .ref rc, .int (iI 0)]) := hL.at (i := 16) rfl
      have hat_qc : h21 qc = some (qE g 5 4 (upQ (upQ (fun _ => none) 0 (some cl0)) (0 + 1) (some cl1))) := hL.at (i := 15) rfl
      refine r_iinc B dX9_init_85 rfl (by decide) (lcat_v rfl rfl) ?_
      refine r_goto B dX9_init_88 (tgt := 63) (by decide) ?_
      refine r_iload_n B dX9_init_63 rfl ?_
      refine r_aload_n B dX9_init_64 rfl rfl ?_
      refine r_get (C := RX9) (T := TX9) (N := 6) (ci := 9) B dX9_init_65 in_X9_init_X9 rfl 0 (by decide) w_X9_init_f11 rfl hat_a rfl ?_
      refine r_alen_q B dX9_init_68 rfl hat_qc ?_
      refine r_icmp_ge B dX9_init_69 (tgt := 91) (by decide) (by omega) (by omega) (fun c69 => ?_) (fun c69 => ?_)
      · exfalso; omega
      · refine r_aload_n B dX9_init_72 rfl rfl ?_
        refine r_get (C := RX9) (T := TX9) (N := 6) (ci := 9) B dX9_init_73 in_X9_init_X9 rfl 0 (by decide) w_X9_init_f11 rfl hat_a rfl ?_
        refine r_iload_n B dX9_init_76 rfl ?_
        refine r_new (C := RX3) (T := TX3) (N := 13) (ci := 3) (fs := [.null, .null, .null, .int (iI 0), .int (iI 0), .int (iI 0), .int (iI 0), .int (iI 0), .int (iI 0), .int (iI 0), .int (iI 0), .int (iI 0), .int (iI 0)]) B dX9_init_77 (by decide +kernel) tyX3 tyX3_ok (by decide +kernel) (by decide +kernel) (by decide +kernel) rfl (by decide) (Nat.le_of_ble_eq_true rfl) (Nat.le_of_ble_eq_true rfl) (fun cl2 scl2 ncl2 => ?_)
        have fcl2 := (hL.non ncl2).2
        refine k_next (P := fun x9 => AL [(cl2, oE 3 [.null, .null, .null, .int (iI 0), .int (iI 0), .int (iI 0), .int (iI 0), .int (iI 0), .int (iI 0), .int (iI 0), .int (iI 0), .int (iI 0), .int (iI 0)]), (lk1, qE g 6 60 (fun _ => none)), (ae1, iE g 48 (fun _ => 0)), (ac1, iE g 48 (fun _ => 0)), (fi1, oE 0 [.ref ac1, .ref ae1, .int (iI 0), .int (iI 0)]), (cl1, oE 3 [.ref fi1, .ref lk1, .null, .int (iI 0), .int (iI 5), .int (iI 0), .int (iI 60), .int (iI 0), .int (iI 0), .int (iI 0), .int (iI 0), .int (iI 0), .int (iI 0)]), (lk0, qE g 6 60 (fun _ => none)), (ae0, iE g 48 (fun _ => 0)), (ac0, iE g 48 (fun _ => 0)), (fi0, oE 0 [.ref ac0, .ref ae0, .int (iI 0), .int (iI 0)]), (cl0, oE 3 [.ref fi0, .ref lk0, .null, .int (iI 0), .int (iI 5), .int (iI 0), .int (iI 60), .int (iI 0), .int (iI 0), .int (iI 0), .int (iI 0), .int (iI 0), .int (iI 0)]), (rc, oE 8 [.int (iI 5), .int (iI 4)]), (tu, qE g 5 4 (fun _ => none)), (mt, oE 6 [.ref tu, .int (iI 200), .int (iI 1)]), (ho, oE 4 [.null, .int (iI 0)]), (mk, oE 7 [.int (iI 2), .int (iI 3), .int (iI 12)]), (qc, qE g 5 4 (upQ (upQ (fun _ => none) 0 (some cl0)) (0 + 1) (some cl1))), (a, oE 9 [.ref qc, .ref mk, .ref ho, .ref mt, .ref rc, .int (iI 0)])] hI x9) (hL.new ncl2) (fun h22 hL => ?_)
        have hat_a : h22 a = some (oE 9 [.ref qc, .ref mk, .ref ho, .ref mt, .ref rc, .int (iI 0)]) := hL.at (i := 17) rfl
        have hat_qc : h22 qc = some (qE g 5 4 (upQ (upQ (fun _ => none) 0 (some cl0)) (0 + 1) (some cl1))) := hL.at (i := 16) rfl
        refine r_dup B dX9_init_80 rfl ?_
        refine r_callIN (n := 0) B dX9_init_81 (ct_X3_init l g sz0 (hL.at (i := 0) rfl)) gX9_init_X3_init_n47 rfl w_X9_init_iniX3 (by decide +kernel) w_X9_init_insX3_init rfl (by decide +kernel) ⟨Nat.le_of_ble_eq_true rfl, Nat.le_of_ble_eq_true rfl⟩ rfl rfl (Nat.le_of_ble_eq_true rfl) (Nat.le_of_ble_eq_true rfl) (Nat.le_of_ble_eq_true rfl) (fun v hc hp => ?_)
        obtain ⟨hv, fi2, ac2, ae2, lk2, ⟨glk2, gae2, gac2, gfi2⟩, hM⟩ := hp
        subst v
        dsimp only [Option.toList, List.cons_append, List.nil_append]
        have hcat := hL.cat (i := 0) (M := [(lk2, qE g 6 60 (fun _ => none)), (ae2, iE g 48 (fun _ => 0)), (ac2, iE g 48 (fun _ => 0)), (fi2, oE 0 [.ref ac2, .ref ae2, .int (iI 0), .int (iI 0)])]) rfl hM (fun x hx => by
          simp only [List.mem_cons, List.not_mem_nil, or_false] at hx
          rcases hx with z | z | z | z
          · rw [z]; exact glk2
          · rw [z]; exact gae2
          · rw [z]; exact gac2
          · rw [z]; exact gfi2)
        have flk2 : hI lk2 = none := hcat.2 (lk2, qE g 6 60 (fun _ => none)) (List.mem_of_getElem? (i := 0) rfl)
        have fae2 : hI ae2 = none := hcat.2 (ae2, iE g 48 (fun _ => 0)) (List.mem_of_getElem? (i := 1) rfl)
        have fac2 : hI ac2 = none := hcat.2 (ac2, iE g 48 (fun _ => 0)) (List.mem_of_getElem? (i := 2) rfl)
        have ffi2 : hI fi2 = none := hcat.2 (fi2, oE 0 [.ref ac2, .ref ae2, .int (iI 0), .int (iI 0)]) (List.mem_of_getElem? (i := 3) rfl)
        refine k_next (P := fun x9 => AL [(lk2, qE g 6 60 (fun _ => none)), (ae2, iE g 48 (fun _ => 0)), (ac2, iE g 48 (fun _ => 0)), (fi2, oE 0 [.ref ac2, .ref ae2, .int (iI 0), .int (iI 0)]), (cl2, oE 3 [.ref fi2, .ref lk2, .null, .int (iI 0), .int (iI 5), .int (iI 0), .int (iI 60), .int (iI 0), .int (iI 0), .int (iI 0), .int (iI 0), .int (iI 0), .int (iI 0)]), (lk1, qE g 6 60 (fun _ => none)), (ae1, iE g 48 (fun _ => 0)), (ac1, iE g 48 (fun _ => 0)), (fi1, oE 0 [.ref ac1, .ref ae1, .int (iI 0), .int (iI 0)]), (cl1, oE 3 [.ref fi1, .ref lk1, .null, .int (iI 0), .int (iI 5), .int (iI 0), .int (iI 60), .int (iI 0), .int (iI 0), .int (iI 0), .int (iI 0), .int (iI 0), .int (iI 0)]), (lk0, qE g 6 60 (fun _ => none)), (ae0, iE g 48 (fun _ => 0)), (ac0, iE g 48 (fun _ => 0)), (fi0, oE 0 [.ref ac0, .ref ae0, .int (iI 0), .int (iI 0)]), (cl0, oE 3 [.ref fi0, .ref lk0, .null, .int (iI 0), .int (iI 5), .int (iI 0), .int (iI 60), .int (iI 0), .int (iI 0), .int (iI 0), .int (iI 0), .int (iI 0), .int (iI 0)]), (rc, oE 8 [.int (iI 5), .int (iI 4)]), (tu, qE g 5 4 (fun _ => none)), (mt, oE 6 [.ref tu, .int (iI 200), .int (iI 1)]), (ho, oE 4 [.null, .int (iI 0)]), (mk, oE 7 [.int (iI 2), .int (iI 3), .int (iI 12)]), (qc, qE g 5 4 (upQ (upQ (fun _ => none) 0 (some cl0)) (0 + 1) (some cl1))), (a, oE 9 [.ref qc, .ref mk, .ref ho, .ref mt, .ref rc, .int (iI 0)])] hI x9) (hcat.1) (fun h23 hL => ?_)
        have hat_a : h23 a = some (oE 9 [.ref qc, .ref mk, .ref ho, .ref mt, .ref rc, .int (iI 0)]) := hL.at (i := 21) rfl
        have hat_qc : h23 qc = some (qE g 5 4 (upQ (upQ (fun _ => none) 0 (some cl0)) (0 + 1) (some cl1))) := hL.at (i := 20) rfl
        refine r_aast (ci := 3) B dX9_init_84 rfl rfl (hL.at (i := 20) rfl) (hL.at (i := 4) rfl) (by decide) (by omega) (by omega) ?_
        refine k_next (P := fun x9 => AL [(lk2, qE g 6 60 (fun _ => none)), (ae2, iE g 48 (fun _ => 0)), (ac2, iE g 48 (fun _ => 0)), (fi2, oE 0 [.ref ac2, .ref ae2, .int (iI 0), .int (iI 0)]), (cl2, oE 3 [.ref fi2, .ref lk2, .null, .int (iI 0), .int (iI 5), .int (iI 0), .int (iI 60), .int (iI 0), .int (iI 0), .int (iI 0), .int (iI 0), .int (iI 0), .int (iI 0)]), (lk1, qE g 6 60 (fun _ => none)), (ae1, iE g 48 (fun _ => 0)), (ac1, iE g 48 (fun _ => 0)), (fi1, oE 0 [.ref ac1, .ref ae1, .int (iI 0), .int (iI 0)]), (cl1, oE 3 [.ref fi1, .ref lk1, .null, .int (iI 0), .int (iI 5), .int (iI 0), .int (iI 60), .int (iI 0), .int (iI 0), .int (iI 0), .int (iI 0), .int (iI 0), .int (iI 0)]), (lk0, qE g 6 60 (fun _ => none)), (ae0, iE g 48 (fun _ => 0)), (ac0, iE g 48 (fun _ => 0)), (fi0, oE 0 [.ref ac0, .ref ae0, .int (iI 0), .int (iI 0)]), (cl0, oE 3 [.ref fi0, .ref lk0, .null, .int (iI 0), .int (iI 5), .int (iI 0), .int (iI 60), .int (iI 0), .int (iI 0), .int (iI 0), .int (iI 0), .int (iI 0), .int (iI 0)]), (rc, oE 8 [.int (iI 5), .int (iI 4)]), (tu, qE g 5 4 (fun _ => none)), (mt, oE 6 [.ref tu, .int (iI 200), .int (iI 1)]), (ho, oE 4 [.null, .int (iI 0)]), (mk, oE 7 [.int (iI 2), .int (iI 3), .int (iI 12)]), (qc, qE g 5 4 (upQ (upQ (upQ (fun _ => none) 0 (some cl0)) (0 + 1) (some cl1)) (0 + 1 + 1) (some cl2))), (a, oE 9 [.ref qc, .ref mk, .ref ho, .ref mt, .ref rc, .int (iI 0)])] hI x9) (hL.put (i := 20) rfl) (fun h24 hL => ?_)
        have hat_a : h24 a = some (oE 9 [.ref qc, .ref mk, .ref ho, .ref mt, .ref rc, .int (iI 0)]) := hL.at (i := 21) rfl
        have hat_qc : h24 qc = some (qE g 5 4 (upQ (upQ (upQ (fun _ => none) 0 (some cl0)) (0 + 1) (some cl1)) (0 + 1 + 1) (some cl2))) := hL.at (i := 20) rfl
        refine r_iinc B dX9_init_85 rfl (by decide) (lcat_v rfl rfl) ?_
        refine r_goto B dX9_init_88 (tgt := 63) (by decide) ?_
        refine r_iload_n B dX9_init_63 rfl ?_
        refine r_aload_n B dX9_init_64 rfl rfl ?_
        refine r_get (C := RX9) (T := TX9) (N := 6) (ci := 9) B dX9_init_65 in_X9_init_X9 rfl 0 (by decide) w_X9_init_f11 rfl hat_a rfl ?_
        refine r_alen_q B dX9_init_68 rfl hat_qc ?_
        refine r_icmp_ge B dX9_init_69 (tgt := 91) (by decide) (by omega) (by omega) (fun c69 => ?_) (fun c69 => ?_)
        · exfalso; omega
        · refine r_aload_n B dX9_init_72 rfl rfl ?_
          refine r_get (C := RX9) (T := TX9) (N := 6) (ci := 9) B dX9_init_73 in_X9_init_X9 rfl 0 (by decide) w_X9_init_f11 rfl hat_a rfl ?_
          refine r_iload_n B dX9_init_76 rfl ?_
          refine r_new (C := RX3) (T := TX3) (N := 13) (ci := 3) (fs := [.null, .null, .null, .int (iI 0), .int (iI 0), .int (iI 0), .int (iI 0), .int (iI 0), .int (iI 0), .int (iI 0), .int (iI 0), .int (iI 0), .int (iI 0)]) B dX9_init_77 (by decide +kernel) tyX3 tyX3_ok (by decide +kernel) (by decide +kernel) (by decide +kernel) rfl (by decide) (Nat.le_of_ble_eq_true rfl) (Nat.le_of_ble_eq_true rfl) (fun cl3 scl3 ncl3 => ?_)
          have fcl3 := (hL.non ncl3).2
          refine k_next (P := fun x9 => AL [(cl3, oE 3 [.null, .null, .null, .int (iI 0), .int (iI 0), .int (iI 0), .int (iI 0), .int (iI 0), .int (iI 0), .int (iI 0), .int (iI 0), .int (iI 0), .int (iI 0)]), (lk2, qE g 6 60 (fun _ => none)), (ae2, iE g 48 (fun _ => 0)), (ac2, iE g 48 (fun _ => 0)), (fi2, oE 0 [.ref ac2, .ref ae2, .int (iI 0), .int (iI 0)]), (cl2, oE 3 [.ref fi2, .ref lk2, .null, .int (iI 0), .int (iI 5), .int (iI 0), .int (iI 60), .int (iI 0), .int (iI 0), .int (iI 0), .int (iI 0), .int (iI 0), .int (iI 0)]), (lk1, qE g 6 60 (fun _ => none)), (ae1, iE g 48 (fun _ => 0)), (ac1, iE g 48 (fun _ => 0)), (fi1, oE 0 [.ref ac1, .ref ae1, .int (iI 0), .int (iI 0)]), (cl1, oE 3 [.ref fi1, .ref lk1, .null, .int (iI 0), .int (iI 5), .int (iI 0), .int (iI 60), .int (iI 0), .int (iI 0), .int (iI 0), .int (iI 0), .int (iI 0), .int (iI 0)]), (lk0, qE g 6 60 (fun _ => none)), (ae0, iE g 48 (fun _ => 0)), (ac0, iE g 48 (fun _ => 0)), (fi0, oE 0 [.ref ac0, .ref ae0, .int (iI 0), .int (iI 0)]), (cl0, oE 3 [.ref fi0, .ref lk0, .null, .int (iI 0), .int (iI 5), .int (iI 0), .int (iI 60), .int (iI 0), .int (iI 0), .int (iI 0), .int (iI 0), .int (iI 0), .int (iI 0)]), (rc, oE 8 [.int (iI 5), .int (iI 4)]), (tu, qE g 5 4 (fun _ => none)), (mt, oE 6 [.ref tu, .int (iI 200), .int (iI 1)]), (ho, oE 4 [.null, .int (iI 0)]), (mk, oE 7 [.int (iI 2), .int (iI 3), .int (iI 12)]), (qc, qE g 5 4 (upQ (upQ (upQ (fun _ => none) 0 (some cl0)) (0 + 1) (some cl1)) (0 + 1 + 1) (some cl2))), (a, oE 9 [.ref qc, .ref mk, .ref ho, .ref mt, .ref rc, .int (iI 0)])] hI x9) (hL.new ncl3) (fun h25 hL => ?_)
          have hat_a : h25 a = some (oE 9 [.ref qc, .ref mk, .ref ho, .ref mt, .ref rc, .int (iI 0)]) := hL.at (i := 22) rfl
          have hat_qc : h25 qc = some (qE g 5 4 (upQ (upQ (upQ (fun _ => none) 0 (some cl0)) (0 + 1) (some cl1)) (0 + 1 + 1) (some cl2))) := hL.at (i := 21) rfl
          refine r_dup B dX9_init_80 rfl ?_
          refine r_callIN (n := 0) B dX9_init_81 (ct_X3_init l g sz0 (hL.at (i := 0) rfl)) gX9_init_X3_init_n47 rfl w_X9_init_iniX3 (by decide +kernel) w_X9_init_insX3_init rfl (by decide +kernel) ⟨Nat.le_of_ble_eq_true rfl, Nat.le_of_ble_eq_true rfl⟩ rfl rfl (Nat.le_of_ble_eq_true rfl) (Nat.le_of_ble_eq_true rfl) (Nat.le_of_ble_eq_true rfl) (fun v hc hp => ?_)
          obtain ⟨hv, fi3, ac3, ae3, lk3, ⟨glk3, gae3, gac3, gfi3⟩, hM⟩ := hp
          subst v
          dsimp only [Option.toList, List.cons_append, List.nil_append]
          have hcat := hL.cat (i := 0) (M := [(lk3, qE g 6 60 (fun _ => none)), (ae3, iE g 48 (fun _ => 0)), (ac3, iE g 48 (fun _ => 0)), (fi3, oE 0 [.ref ac3, .ref ae3, .int (iI 0), .int (iI 0)])]) rfl hM (fun x hx => by
            simp only [List.mem_cons, List.not_mem_nil, or_false] at hx
            rcases hx with z | z | z | z
            · rw [z]; exact glk3
            · rw [z]; exact gae3
            · rw [z]; exact gac3
            · rw [z]; exact gfi3)
          have flk3 : hI lk3 = none := hcat.2 (lk3, qE g 6 60 (fun _ => none)) (List.mem_of_getElem? (i := 0) rfl)
          have fae3 : hI ae3 = none := hcat.2 (ae3, iE g 48 (fun _ => 0)) (List.mem_of_getElem? (i := 1) rfl)
          have fac3 : hI ac3 = none := hcat.2 (ac3, iE g 48 (fun _ => 0)) (List.mem_of_getElem? (i := 2) rfl)
          have ffi3 : hI fi3 = none := hcat.2 (fi3, oE 0 [.ref ac3, .ref ae3, .int (iI 0), .int (iI 0)]) (List.mem_of_getElem? (i := 3) rfl)
          refine k_next (P := fun x9 => AL [(lk3, qE g 6 60 (fun _ => none)), (ae3, iE g 48 (fun _ => 0)), (ac3, iE g 48 (fun _ => 0)), (fi3, oE 0 [.ref ac3, .ref ae3, .int (iI 0), .int (iI 0)]), (cl3, oE 3 [.ref fi3, .ref lk3, .null, .int (iI 0), .int (iI 5), .int (iI 0), .int (iI 60), .int (iI 0), .int (iI 0), .int (iI 0), .int (iI 0), .int (iI 0), .int (iI 0)]), (lk2, qE g 6 60 (fun _ => none)), (ae2, iE g 48 (fun _ => 0)), (ac2, iE g 48 (fun _ => 0)), (fi2, oE 0 [.ref ac2, .ref ae2, .int (iI 0), .int (iI 0)]), (cl2, oE 3 [.ref fi2, .ref lk2, .null, .int (iI 0), .int (iI 5), .int (iI 0), .int (iI 60), .int (iI 0), .int (iI 0), .int (iI 0), .int (iI 0), .int (iI 0), .int (iI 0)]), (lk1, qE g 6 60 (fun _ => none)), (ae1, iE g 48 (fun _ => 0)), (ac1, iE g 48 (fun _ => 0)), (fi1, oE 0 [.ref ac1, .ref ae1, .int (iI 0), .int (iI 0)]), (cl1, oE 3 [.ref fi1, .ref lk1, .null, .int (iI 0), .int (iI 5), .int (iI 0), .int (iI 60), .int (iI 0), .int (iI 0), .int (iI 0), .int (iI 0), .int (iI 0), .int (iI 0)]), (lk0, qE g 6 60 (fun _ => none)), (ae0, iE g 48 (fun _ => 0)), (ac0, iE g 48 (fun _ => 0)), (fi0, oE 0 [.ref ac0, .ref ae0, .int (iI 0), .int (iI 0)]), (cl0, oE 3 [.ref fi0, .ref lk0, .null, .int (iI 0), .int (iI 5), .int (iI 0), .int (iI 60), .int (iI 0), .int (iI 0), .int (iI 0), .int (iI 0), .int (iI 0), .int (iI 0)]), (rc, oE 8 [.int (iI 5), .int (iI 4)]), (tu, qE g 5 4 (fun _ => none)), (mt, oE 6 [.ref tu, .int (iI 200), .int (iI 1)]), (ho, oE 4 [.null, .int (iI 0)]), (mk, oE 7 [.int (iI 2), .int (iI 3), .int (iI 12)]), (qc, qE g 5 4 (upQ (upQ (upQ (fun _ => none) 0 (some cl0)) (0 + 1) (some cl1)) (0 + 1 + 1) (some cl2))), (a, oE 9 [.ref qc, .ref mk, .ref ho, .ref mt, .ref rc, .int (iI 0)])] hI x9) (hcat.1) (fun h26 hL => ?_)
          have hat_a : h26 a = some (oE 9 [.ref qc, .ref mk, .ref ho, .ref mt, .ref rc, .int (iI 0)]) := hL.at (i := 26) rfl
          have hat_qc : h26 qc = some (qE g 5 4 (upQ (upQ (upQ (fun _ => none) 0 (some cl0)) (0 + 1) (some cl1)) (0 + 1 + 1) (some cl2))) := hL.at (i := 25) rfl
          refine r_aast (ci := 3) B dX9_init_84 rfl rfl (hL.at (i := 25) rfl) (hL.at (i := 4) rfl) (by decide) (by omega) (by omega) ?_
          refine k_next (P := fun x9 => AL [(lk3, qE g 6 60 (fun _ => none)), (ae3, iE g 48 (fun _ => 0)), (ac3, iE g 48 (fun _ => 0)), (fi3, oE 0 [.ref ac3, .ref ae3, .int (iI 0), .int (iI 0)]), (cl3, oE 3 [.ref fi3, .ref lk3, .null, .int (iI 0), .int (iI 5), .int (iI 0), .int (iI 60), .int (iI 0), .int (iI 0), .int (iI 0), .int (iI 0), .int (iI 0), .int (iI 0)]), (lk2, qE g 6 60 (fun _ => none)), (ae2, iE g 48 (fun _ => 0)), (ac2, iE g 48 (fun _ => 0)), (fi2, oE 0 [.ref ac2, .ref ae2, .int (iI 0), .int (iI 0)]), (cl2, oE 3 [.ref fi2, .ref lk2, .null, .int (iI 0), .int (iI 5), .int (iI 0), .int (iI 60), .int (iI 0), .int (iI 0), .int (iI 0), .int (iI 0), .int (iI 0), .int (iI 0)]), (lk1, qE g 6 60 (fun _ => none)), (ae1, iE g 48 (fun _ => 0)), (ac1, iE g 48 (fun _ => 0)), (fi1, oE 0 [.ref ac1, .ref ae1, .int (iI 0), .int (iI 0)]), (cl1, oE 3 [.ref fi1, .ref lk1, .null, .int (iI 0), .int (iI 5), .int (iI 0), .int (iI 60), .int (iI 0), .int (iI 0), .int (iI 0), .int (iI 0), .int (iI 0), .int (iI 0)]), (lk0, qE g 6 60 (fun _ => none)), (ae0, iE g 48 (fun _ => 0)), (ac0, iE g 48 (fun _ => 0)), (fi0, oE 0 [.ref ac0, .ref ae0, .int (iI 0), .int (iI 0)]), (cl0, oE 3 [.ref fi0, .ref lk0, .null, .int (iI 0), .int (iI 5), .int (iI 0), .int (iI 60), .int (iI 0), .int (iI 0), .int (iI 0), .int (iI 0), .int (iI 0), .int (iI 0)]), (rc, oE 8 [.int (iI 5), .int (iI 4)]), (tu, qE g 5 4 (fun _ => none)), (mt, oE 6 [.ref tu, .int (iI 200), .int (iI 1)]), (ho, oE 4 [.null, .int (iI 0)]), (mk, oE 7 [.int (iI 2), .int (iI 3), .int (iI 12)]), (qc, qE g 5 4 (upQ (upQ (upQ (upQ (fun _ => none) 0 (some cl0)) (0 + 1) (some cl1)) (0 + 1 + 1) (some cl2)) (0 + 1 + 1 + 1) (some cl3))), (a, oE 9 [.ref qc, .ref mk, .ref ho, .ref mt, .ref rc, .int (iI 0)])] hI x9) (hL.put (i := 25) rfl) (fun h27 hL => ?_)
          have hat_a : h27 a = some (oE 9 [.ref qc, .ref mk, .ref ho, .ref mt, .ref rc, .int (iI 0)]) := hL.at (i := 26) rfl
          have hat_qc : h27 qc = some (qE g 5 4 (upQ (upQ (upQ (upQ (fun _ => none) 0 (some cl0)) (0 + 1) (some cl1)) (0 + 1 + 1) (some cl2)) (0 + 1 + 1 + 1) (some cl3))) := hL.at (i := 25) rfl
          refine r_iinc B dX9_init_85 rfl (by decide) (lcat_v rfl rfl) ?_
          refine r_goto B dX9_init_88 (tgt := 63) (by decide) ?_
          refine r_iload_n B dX9_init_63 rfl ?_
          refine r_aload_n B dX9_init_64 rfl rfl ?_
          refine r_get (C := RX9) (T := TX9) (N := 6) (ci := 9) B dX9_init_65 in_X9_init_X9 rfl 0 (by decide) w_X9_init_f11 rfl hat_a rfl ?_
          refine r_alen_q B dX9_init_68 rfl hat_qc ?_
          refine r_icmp_ge B dX9_init_69 (tgt := 91) (by decide) (by omega) (by omega) (fun c69 => ?_) (fun c69 => ?_)
          · have hA : AOK (caL [lk3, ae3, ac3, fi3, cl3, lk2, ae2, ac2, fi2, cl2, lk1, ae1, ac1, fi1, cl1, lk0, ae0, ac0, fi0, cl0, rc, tu, mt, ho, mk, qc, a]) := caL_ok hL.2.1 rfl
            have hall : ∀ q : Nat, (∀ i : Nat, i < 27 → q ≠ (caL [lk3, ae3, ac3, fi3, cl3, lk2, ae2, ac2, fi2, cl2, lk1, ae1, ac1, fi1, cl1, lk0, ae0, ac0, fi0, cl0, rc, tu, mt, ho, mk, qc, a]) i) → h27 q = hI q := fun q hq => hL.2.2 q (caL_all _ q hq rfl)
            have hfrs : ∀ i : Nat, 0 < i → i < 27 → hI ((caL [lk3, ae3, ac3, fi3, cl3, lk2, ae2, ac2, fi2, cl2, lk1, ae1, ac1, fi1, cl1, lk0, ae0, ac0, fi0, cl0, rc, tu, mt, ho, mk, qc, a]) i) = none := fun i i0 i1 => by
              match i, i0, i1 with
              | 1, _, _ => exact fqc
              | 2, _, _ => exact fmk
              | 3, _, _ => exact fho
              | 4, _, _ => exact fmt
              | 5, _, _ => exact ftu
              | 6, _, _ => exact frc
              | 7, _, _ => exact fcl0
              | 8, _, _ => exact flk0
              | 9, _, _ => exact ffi0
              | 10, _, _ => exact fac0
              | 11, _, _ => exact fae0
              | 12, _, _ => exact fcl1
              | 13, _, _ => exact flk1
              | 14, _, _ => exact ffi1
              | 15, _, _ => exact fac1
              | 16, _, _ => exact fae1
              | 17, _, _ => exact fcl2
              | 18, _, _ => exact flk2
              | 19, _, _ => exact ffi2
              | 20, _, _ => exact fac2
              | 21, _, _ => exact fae2
              | 22, _, _ => exact fcl3
              | 23, _, _ => exact flk3
              | 24, _, _ => exact ffi3
              | 25, _, _ => exact fac3
              | 26, _, _ => exact fae3
              | n + 27, _, h9 => exact absurd h9 (by omega)
            have hCW : CW g (caL [lk3, ae3, ac3, fi3, cl3, lk2, ae2, ac2, fi2, cl2, lk1, ae1, ac1, fi1, cl1, lk0, ae0, ac0, fi0, cl0, rc, tu, mt, ho, mk, qc, a]) hI 0 2 3 12 200 1 5 4 0 none (fun _ => none) (fun _ _ => 0) (fun _ _ => 0) (fun _ => 0) (fun _ => 0) (fun _ => 0) (fun _ => 5) (fun _ => 0) (fun _ => 60) (fun _ => 0) (fun _ => 0) (fun _ => 0) (fun _ => 0) (fun _ => 0) (fun _ => 0) (fun _ _ => none) (fun _ => none) h27 := by
              unfold CW
              refine ⟨hL.at (i := 26) rfl, ⟨_, hL.at (i := 25) rfl, fun i i0 i1 => ?_⟩, hL.at (i := 24) rfl, hL.at (i := 23) rfl, hL.at (i := 22) rfl, hL.at (i := 21) rfl, hL.at (i := 20) rfl, fun x x0 x1 => ?_, fun q _ q1 => hall q q1⟩
              · rcases (show i = 0 ∨ i = 1 ∨ i = 2 ∨ i = 3 by omega) with z | z | z | z <;> subst z <;> rfl
              · rcases (show x = 0 ∨ x = 1 ∨ x = 2 ∨ x = 3 by omega) with z | z | z | z <;> subst z
                · exact ⟨hL.at (i := 19) rfl, hL.at (i := 15) rfl, FL.base (hL.at (i := 18) rfl) (hL.at (i := 17) rfl) (hL.at (i := 16) rfl) (hA 10 (by decide) 11 (by decide) (by decide)) (by decide) ⟨fun _ => inR_0, fun _ => inR_0⟩⟩
                · exact ⟨hL.at (i := 14) rfl, hL.at (i := 10) rfl, FL.base (hL.at (i := 13) rfl) (hL.at (i := 12) rfl) (hL.at (i := 11) rfl) (hA 15 (by decide) 16 (by decide) (by decide)) (by decide) ⟨fun _ => inR_0, fun _ => inR_0⟩⟩
                · exact ⟨hL.at (i := 9) rfl, hL.at (i := 5) rfl, FL.base (hL.at (i := 8) rfl) (hL.at (i := 7) rfl) (hL.at (i := 6) rfl) (hA 20 (by decide) 21 (by decide) (by decide)) (by decide) ⟨fun _ => inR_0, fun _ => inR_0⟩⟩
                · exact ⟨hL.at (i := 4) rfl, hL.at (i := 0) rfl, FL.base (hL.at (i := 3) rfl) (hL.at (i := 2) rfl) (hL.at (i := 1) rfl) (hA 25 (by decide) 26 (by decide) (by decide)) (by decide) ⟨fun _ => inR_0, fun _ => inR_0⟩⟩
            exact r_vret B hr hlk dX9_init_91 (Nat.le_of_ble_eq_true rfl) (Nat.le_of_ble_eq_true rfl) ⟨rfl, (caL [lk3, ae3, ac3, fi3, cl3, lk2, ae2, ac2, fi2, cl2, lk1, ae1, ac1, fi1, cl1, lk0, ae0, ac0, fi0, cl0, rc, tu, mt, ho, mk, qc, a]), rfl, hA, hfrs, hall, hCW⟩
          · exfalso; omega
