abbrev rmX2_init : Room := { frames := 1, cells := 1, slots := 48, locals := 40 }
theorem w_X2_init_oi1 : Cond.methodLink RX2 3 Lib.objectInit ∈ wsX2_init := by decide +kernel
theorem w_X2_init_oi2 : Cond.instanceMethod Lib.objectInit ∈ wsX2_init := by decide +kernel
theorem w_X2_init_oi3 : Cond.code Lib.objectInit ⟨#[0xb1]⟩ 1 none ∈ wsX2_init := by decide +kernel
theorem in_X2_init_X2 : ∀ w ∈ wsX20, w ∈ wsX2_init := by decide +kernel
theorem w_X2_init_f11 : Cond.fieldLink RX2 11 "DeltaNights$ChunkRow" "chunks" "[LDeltaNights$Chunk;" ∈ wsX2_init := by decide +kernel
theorem w_X2_init_f17 : Cond.fieldLink RX2 17 "DeltaNights$ChunkRow" "count" "I" ∈ wsX2_init := by decide +kernel
set_option maxHeartbeats 4000000 in
set_option maxRecDepth 100000 in
theorem ct_X2_init (l : Launch) (g : GG) (sz0 : Nat) {hI : AH} {r : Nat} (hr0 : hI r = some (oE 2 [.null, .int (iI 0)]))  : CT l yX2_init wsX2_init rmX2_init g sz0 [.ref r] hI (fun v h' => v = none ∧ ∃ ra : Nat, hI ra = none ∧ (∀ K : Int → Nat, RW g r ra (fun _ => none) K 0 h') ∧ (∀ b : Nat, b ≠ r → hI b ≠ none → h' b = hI b)) := by
  refine CT.of (by decide +kernel) rfl [some (.ref r)] rfl (Nat.le_of_ble_eq_true rfl) ?_
  intro p e s m args below meth c B hr hlk hnm
  have hX : hI r = some (oE 2 [.null, .int (iI 0)]) ∧ (∀ b : Nat, b ≠ r → hI b ≠ none → hI b = hI b) := ⟨hr0, fun _ _ _ => rfl⟩
  refine r_aload_n B dX2_init_0 rfl rfl ?_
  refine r_objInit B dX2_init_1 w_X2_init_oi1 w_X2_init_oi2 w_X2_init_oi3 (Nat.le_of_ble_eq_true rfl) (Nat.le_of_ble_eq_true rfl) ?_
  refine r_aload_n B dX2_init_4 rfl rfl ?_
  refine r_bipush B dX2_init_5 (by decide) ?_
  refine r_newq (C := RX1) (t0 := 4) B dX2_init_7 (by decide +kernel) B.2.2.2.2.2.1.2.2.2.1.1 rfl (by decide) (by decide) (Nat.le_of_ble_eq_true rfl) (Nat.le_of_ble_eq_true rfl) (fun ra sra nra => ?_)
  have nck : ra ≠ r := fun z => sm_ne hX.1 (by rw [← z]; exact nra)
  have ncI : hI ra = none := by
    cases hh : hI ra with
    | none => rfl
    | some y => exact absurd ((hX.2 ra nck (sm_ne hh)).symm.trans nra) (sm_ne hh)
  refine k_next (P := fun x => x r = some (oE 2 [.null, .int (iI 0)]) ∧ x ra = some (qE g 4 48 (fun _ => none)) ∧ (∀ b : Nat, b ≠ r → hI b ≠ none → x b = hI b)) ⟨(if_neg (fun z => nck z.symm)).trans hX.1, if_pos rfl, fun b b0 b1 => (if_neg (fun z => b1 (by rw [z]; exact ncI))).trans (hX.2 b b0 b1)⟩ (fun h2 hX => ?_)
  refine r_putF (C := RX2) (T := TX2) (N := 2) (ci := 2) B dX2_init_10 in_X2_init_X2 tyX2 tyX2_ok nmX2 rfl 0 (by decide) w_X2_init_f11 rfl rfl hnm rfl (ty := .array (.object "DeltaNights$Chunk")) (by decide +kernel) rfl rfl hX.1 (by show 0 < 2; decide) ?_
  refine k_next (P := fun x => x r = some (oE 2 [.ref ra, .int (iI 0)]) ∧ x ra = some (qE g 4 48 (fun _ => none)) ∧ (∀ b : Nat, b ≠ r → hI b ≠ none → x b = hI b)) ⟨if_pos rfl, (if_neg nck).trans hX.2.1, fun b b0 b1 => (if_neg b0).trans (hX.2.2 b b0 b1)⟩ (fun h3 hX => ?_)
  refine r_aload_n B dX2_init_13 rfl rfl ?_
  refine r_iconst B dX2_init_14 ?_
  refine r_put (C := RX2) (T := TX2) (N := 2) (ci := 2) B dX2_init_15 in_X2_init_X2 tyX2 tyX2_ok nmX2 rfl 1 (by decide) w_X2_init_f17 rfl rfl (ty := .int) (by decide +kernel) rfl rfl hX.1 (by show 1 < 2; decide) ?_
  refine k_next (P := fun x => x r = some (oE 2 [.ref ra, .int (iI 0)]) ∧ x ra = some (qE g 4 48 (fun _ => none)) ∧ (∀ b : Nat, b ≠ r → hI b ≠ none → x b = hI b)) ⟨if_pos rfl, (if_neg nck).trans hX.2.1, fun b b0 b1 => (if_neg b0).trans (hX.2.2 b b0 b1)⟩ (fun h4 hX => ?_)
  exact r_vret B hr hlk dX2_init_18 (Nat.le_of_ble_eq_true rfl) (Nat.le_of_ble_eq_true rfl) ⟨rfl, ra, ncI, fun K => ⟨hX.1, hX.2.1, by omega, fun j j0 j1 => absurd j1 (by omega)⟩, hX.2.2⟩
