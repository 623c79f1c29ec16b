abbrev rmX5_init : Room := { frames := 2, cells := 4, slots := 100, locals := 60 }
theorem w_X5_init_oi1 : Cond.methodLink RX5 1 Lib.objectInit ∈ wsX5_init := by decide +kernel
theorem w_X5_init_oi2 : Cond.instanceMethod Lib.objectInit ∈ wsX5_init := by decide +kernel
theorem w_X5_init_oi3 : Cond.code Lib.objectInit ⟨#[0xb1]⟩ 1 none ∈ wsX5_init := by decide +kernel
theorem w_X5_init_iniX2 : Cond.initialized RX2 ∈ wsX5_init := by decide +kernel
theorem w_X5_init_insX2_init : Cond.instanceMethod yX2_init ∈ wsX5_init := by decide +kernel
theorem in_X5_init_X5 : ∀ w ∈ wsX50, w ∈ wsX5_init := by decide +kernel
theorem w_X5_init_f10 : Cond.fieldLink RX5 10 "DeltaNights$Link" "row" "LDeltaNights$ChunkRow;" ∈ wsX5_init := by decide +kernel
theorem w_X5_init_f16 : Cond.fieldLink RX5 16 "DeltaNights$Link" "holds" "LDeltaNights$ChunkRow;" ∈ wsX5_init := by decide +kernel
theorem w_X5_init_f19 : Cond.fieldLink RX5 19 "DeltaNights$Link" "earlier" "LDeltaNights$Link;" ∈ wsX5_init := by decide +kernel
set_option maxHeartbeats 4000000 in
set_option maxRecDepth 100000 in
theorem ct_X5_init (l : Launch) (g : GG) (sz0 : Nat) {hI : AH} {a : Nat} {ea : Option Nat} (ha0 : hI a = some (oE 5 [.null, .null, .null]))  : CT l yX5_init wsX5_init rmX5_init g sz0 [.ref a, va_rf ea] hI (fun v h' => v = none ∧ ∃ rr rra rh rha : Nat, (rr ≠ a ∧ rh ≠ a ∧ rh ≠ rr ∧ rha ≠ rra) ∧ (hI rr = none ∧ hI rra = none ∧ hI rh = none ∧ hI rha = none) ∧ h' a = some (oE 5 [va_rf ea, .ref rr, .ref rh]) ∧ (∀ K : Int → Nat, RW g rr rra (fun _ => none) K 0 h') ∧ (∀ K : Int → Nat, RW g rh rha (fun _ => none) K 0 h') ∧ (∀ b : Nat, b ≠ a → hI b ≠ none → h' b = hI b)) := by
  refine CT.of (by decide +kernel) rfl [some (.ref a), some (va_rf ea)] (by generalize ea = o; cases o <;> rfl) (by generalize ea = o; cases o <;> exact Nat.le_of_ble_eq_true rfl) ?_
  intro p e s m args below meth c B hr hlk hnm
  have hX : hI a = some (oE 5 [.null, .null, .null]) ∧ (∀ b : Nat, b ≠ a → hI b ≠ none → hI b = hI b) := ⟨ha0, fun _ _ _ => rfl⟩
  refine r_aload_n B dX5_init_0 rfl rfl ?_
  refine r_objInit B dX5_init_1 w_X5_init_oi1 w_X5_init_oi2 w_X5_init_oi3 (Nat.le_of_ble_eq_true rfl) (Nat.le_of_ble_eq_true rfl) ?_
  refine r_aload_n B dX5_init_4 rfl rfl ?_
  refine r_new (C := RX2) (T := TX2) (N := 2) (ci := 2) (fs := [.null, .int (iI 0)]) B dX5_init_5 (by decide +kernel) tyX2 tyX2_ok (by decide +kernel) (by decide +kernel) (by decide +kernel) rfl (by decide) (Nat.le_of_ble_eq_true rfl) (Nat.le_of_ble_eq_true rfl) (fun rr srr nrr => ?_)
  have e1 : rr ≠ a := fun z => sm_ne hX.1 (by rw [← z]; exact nrr)
  have f1 : hI rr = none := by
    cases hh : hI rr with
    | none => rfl
    | some y => exact absurd ((hX.2 rr e1 (sm_ne hh)).symm.trans nrr) (sm_ne hh)
  refine k_next (P := fun x => x a = some (oE 5 [.null, .null, .null]) ∧ x rr = some (oE 2 [.null, .int (iI 0)]) ∧ (∀ b : Nat, b ≠ a → hI b ≠ none → x b = hI b)) ⟨(if_neg (fun z => e1 z.symm)).trans hX.1, if_pos rfl, fun b b0 b1 => (if_neg (fun z => b1 (by rw [z]; exact f1))).trans (hX.2 b b0 b1)⟩ (fun h2 hX => ?_)
  refine r_dup B dX5_init_8 rfl ?_
  refine r_callIN (n := 0) B dX5_init_9 (ct_X2_init l g sz0 hX.2.1) gX5_init_X2_init_n9 rfl w_X5_init_iniX2 (by decide +kernel) w_X5_init_insX2_init rfl (by decide +kernel) ⟨Nat.le_of_ble_eq_true rfl, Nat.le_of_ble_eq_true rfl⟩ rfl rfl (Nat.le_of_ble_eq_true rfl) (Nat.le_of_ble_eq_true rfl) (Nat.le_of_ble_eq_true rfl) (fun v h9 hp => ?_)
  obtain ⟨hv, RAx⟩ := hp
  subst v
  dsimp only [Option.toList, List.cons_append, List.nil_append]
  obtain ⟨rra, m1, m2, m3⟩ := RAx
  have f3 : hI rra = none := by
    cases hh : hI rra with
    | none => rfl
    | some y => exact absurd ((hX.2.2 rra (fun z => sm_ne hX.1 (by rw [← z]; exact m1)) (sm_ne hh)).symm.trans m1) (sm_ne hh)
  have hX2 : h9 a = some (oE 5 [.null, .null, .null]) ∧ (∀ K : Int → Nat, RW g rr rra (fun _ => none) K 0 h9) ∧ (∀ b : Nat, b ≠ a → hI b ≠ none → h9 b = hI b) := ⟨(m3 a (fun z => e1 z.symm) (sm_ne hX.1)).trans hX.1, m2, fun b b0 b1 => (m3 b (fun z => b1 (by rw [z]; exact f1)) (by rw [hX.2.2 b b0 b1]; exact b1)).trans (hX.2.2 b b0 b1)⟩
  replace hX := hX2
  have e6 : rra ≠ a := fun z => by
    have y := ((hX.2.1 (fun _ => 0)).2.1)
    exact qoe_ne hX.1 y z.symm
  refine r_putF (C := RX5) (T := TX5) (N := 3) (ci := 5) B dX5_init_12 in_X5_init_X5 tyX5 tyX5_ok nmX5 rfl 1 (by decide) w_X5_init_f10 rfl rfl hnm rfl (ty := .object "DeltaNights$ChunkRow") (by decide +kernel) rfl rfl hX.1 (by show 1 < 3; decide) ?_
  refine k_next (P := fun x => x a = some (oE 5 [.null, .ref rr, .null]) ∧ (∀ K : Int → Nat, RW g rr rra (fun _ => none) K 0 x) ∧ (∀ b : Nat, b ≠ a → hI b ≠ none → x b = hI b)) ⟨if_pos rfl, fun K => (hX.2.1 K).mv (if_neg e1) (if_neg e6), fun b b0 b1 => (if_neg b0).trans (hX.2.2 b b0 b1)⟩ (fun h5 hX => ?_)
  refine r_aload_n B dX5_init_15 rfl rfl ?_
  refine r_new (C := RX2) (T := TX2) (N := 2) (ci := 2) (fs := [.null, .int (iI 0)]) B dX5_init_16 (by decide +kernel) tyX2 tyX2_ok (by decide +kernel) (by decide +kernel) (by decide +kernel) rfl (by decide) (Nat.le_of_ble_eq_true rfl) (Nat.le_of_ble_eq_true rfl) (fun rh srh nrh => ?_)
  have e2 : rh ≠ a := fun z => sm_ne hX.1 (by rw [← z]; exact nrh)
  have f2 : hI rh = none := by
    cases hh : hI rh with
    | none => rfl
    | some y => exact absurd ((hX.2.2 rh e2 (sm_ne hh)).symm.trans nrh) (sm_ne hh)
  have hRr := hX.2.1 (fun _ => 0)
  have e3 : rh ≠ rr := fun z => sm_ne hRr.1 (by rw [← z]; exact nrh)
  have e4 : rh ≠ rra := fun z => sm_ne hRr.2.1 (by rw [← z]; exact nrh)
  refine k_next (P := fun x => (x a = some (oE 5 [.null, .ref rr, .null]) ∧ (∀ K : Int → Nat, RW g rr rra (fun _ => none) K 0 x) ∧ (∀ b : Nat, b ≠ a → hI b ≠ none → x b = hI b)) ∧ x rh = some (oE 2 [.null, .int (iI 0)])) ⟨⟨(if_neg (fun z => e2 z.symm)).trans hX.1, fun K => (hX.2.1 K).mv (if_neg (fun z => e3 z.symm)) (if_neg (fun z => e4 z.symm)), fun b b0 b1 => (if_neg (fun z => b1 (by rw [z]; exact f2))).trans (hX.2.2 b b0 b1)⟩, if_pos rfl⟩ (fun h4 hY => ?_)
  have hX := hY.1
  refine r_dup B dX5_init_19 rfl ?_
  refine r_callIN (n := 0) B dX5_init_20 (ct_X2_init l g sz0 hY.2) gX5_init_X2_init_n9 rfl w_X5_init_iniX2 (by decide +kernel) w_X5_init_insX2_init rfl (by decide +kernel) ⟨Nat.le_of_ble_eq_true rfl, Nat.le_of_ble_eq_true rfl⟩ rfl rfl (Nat.le_of_ble_eq_true rfl) (Nat.le_of_ble_eq_true rfl) (Nat.le_of_ble_eq_true rfl) (fun v h10 hp => ?_)
  obtain ⟨hv, RAx⟩ := hp
  subst v
  dsimp only [Option.toList, List.cons_append, List.nil_append]
  obtain ⟨rha, w1, w2, w3⟩ := RAx
  have f4 : hI rha = none := by
    cases hh : hI rha with
    | none => rfl
    | some y => exact absurd ((hY.1.2.2 rha (fun z => sm_ne hY.1.1 (by rw [← z]; exact w1)) (sm_ne hh)).symm.trans w1) (sm_ne hh)
  have e5 : rha ≠ rra := fun z => by
    have := (hY.1.2.1 (fun _ => 0)).2.1
    rw [← z, w1] at this
    cases this
  have hX2 : h10 a = some (oE 5 [.null, .ref rr, .null]) ∧ (∀ K : Int → Nat, RW g rr rra (fun _ => none) K 0 h10) ∧ (∀ b : Nat, b ≠ a → hI b ≠ none → h10 b = hI b) ∧ (∀ K : Int → Nat, RW g rh rha (fun _ => none) K 0 h10) := ⟨(w3 a (fun z => e2 z.symm) (sm_ne hY.1.1)).trans hY.1.1, fun K => (hY.1.2.1 K).mv (w3 rr (fun z => e3 z.symm) (sm_ne (hY.1.2.1 K).1)) (w3 rra (fun z => e4 z.symm) (sm_ne (hY.1.2.1 K).2.1)), fun b b0 b1 => (w3 b (fun z => b1 (by rw [z]; exact f2)) (by rw [hY.1.2.2 b b0 b1]; exact b1)).trans (hY.1.2.2 b b0 b1), w2⟩
  replace hX := hX2
  have e7 : rha ≠ a := fun z => by
    have y := ((hX.2.2.2 (fun _ => 0)).2.1)
    exact qoe_ne hX.1 y z.symm
  refine r_putF (C := RX5) (T := TX5) (N := 3) (ci := 5) B dX5_init_23 in_X5_init_X5 tyX5 tyX5_ok nmX5 rfl 2 (by decide) w_X5_init_f16 rfl rfl hnm rfl (ty := .object "DeltaNights$ChunkRow") (by decide +kernel) rfl rfl hX.1 (by show 2 < 3; decide) ?_
  refine k_next (P := fun x => x a = some (oE 5 [.null, .ref rr, .ref rh]) ∧ (∀ K : Int → Nat, RW g rr rra (fun _ => none) K 0 x) ∧ (∀ b : Nat, b ≠ a → hI b ≠ none → x b = hI b) ∧ (∀ K : Int → Nat, RW g rh rha (fun _ => none) K 0 x)) ⟨if_pos rfl, fun K => (hX.2.1 K).mv (if_neg e1) (if_neg e6), fun b b0 b1 => (if_neg b0).trans (hX.2.2.1 b b0 b1), fun K => (hX.2.2.2 K).mv (if_neg e2) (if_neg e7)⟩ (fun h5 hX => ?_)
  refine r_aload_n B dX5_init_26 rfl rfl ?_
  refine r_aload_n B dX5_init_27 rfl (va_rf_isRef _) ?_
  refine r_putF (C := RX5) (T := TX5) (N := 3) (ci := 5) B dX5_init_28 in_X5_init_X5 tyX5 tyX5_ok nmX5 rfl 0 (by decide) w_X5_init_f19 rfl rfl hnm rfl (ty := .object "DeltaNights$Link") (by decide +kernel) (nar_rf _ _) (fit_rf _ _) hX.1 (by show 0 < 3; decide) ?_
  refine k_next (P := fun x => x a = some (oE 5 [va_rf ea, .ref rr, .ref rh]) ∧ (∀ K : Int → Nat, RW g rr rra (fun _ => none) K 0 x) ∧ (∀ b : Nat, b ≠ a → hI b ≠ none → x b = hI b) ∧ (∀ K : Int → Nat, RW g rh rha (fun _ => none) K 0 x)) ⟨if_pos rfl, fun K => (hX.2.1 K).mv (if_neg e1) (if_neg e6), fun b b0 b1 => (if_neg b0).trans (hX.2.2.1 b b0 b1), fun K => (hX.2.2.2 K).mv (if_neg e2) (if_neg e7)⟩ (fun h5 hX => ?_)
  exact r_vret B hr hlk dX5_init_31 (Nat.le_of_ble_eq_true rfl) (Nat.le_of_ble_eq_true rfl) ⟨rfl, rr, rra, rh, rha, ⟨e1, e2, e3, e5⟩, ⟨f1, f3, f2, f4⟩, hX.1, hX.2.1, hX.2.2.2, hX.2.2.1⟩
