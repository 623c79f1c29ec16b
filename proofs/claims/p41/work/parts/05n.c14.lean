abbrev rmX2_add : Room := { frames := 0, cells := 0, slots := 0, locals := 0 }
theorem in_X2_add_X2 : ∀ w ∈ wsX20, w ∈ wsX2_add := by decide +kernel
theorem w_X2_add_f17 : Cond.fieldLink RX2 17 "DeltaNights$ChunkRow" "count" "I" ∈ wsX2_add := by decide +kernel
theorem w_X2_add_f11 : Cond.fieldLink RX2 11 "DeltaNights$ChunkRow" "chunks" "[LDeltaNights$Chunk;" ∈ wsX2_add := by decide +kernel
set_option maxHeartbeats 4000000 in
set_option maxRecDepth 100000 in
theorem ct_X2_add (l : Launch) (g : GG) (sz0 : Nat) {h : AH} {r ra : Nat} {fq : Int → Option Nat} {K : Int → Nat} {cn : Int} (hR2 : RW g r ra fq K cn h) (z : Nat) {vs : List Value} (hz : h z = some (oE 1 vs)) (hcn : cn < 48) : CT l yX2_add wsX2_add rmX2_add g sz0 [.ref r, .ref z] h (fun v h' => v = none ∧ RW g r ra (upQ fq cn (some z)) (upK K cn z) (cn + 1) h' ∧ (∀ q : Nat, q ≠ r → q ≠ ra → h' q = h q)) := by
  refine CT.of (by decide +kernel) rfl [some (.ref r), some (.ref z)] rfl (Nat.le_of_ble_eq_true rfl) ?_
  intro p e s m args below meth c B hr hlk hnm
  have hn9 := hR2.2.2.1
  refine r_aload_n B dX2_add_0 rfl rfl ?_
  refine r_get (C := RX2) (T := TX2) (N := 2) (ci := 2) B dX2_add_1 in_X2_add_X2 rfl 1 (by decide) w_X2_add_f17 rfl hR2.1 rfl ?_
  refine r_if_lt B dX2_add_4 (tgt := 39) (by decide) (by omega) (fun c4 => ?_) (fun c4 => ?_)
  · exact r_vret B hr hlk dX2_add_39 (Nat.le_of_ble_eq_true rfl) (Nat.le_of_ble_eq_true rfl) (by exfalso; omega)
  · refine r_aload_n B dX2_add_7 rfl rfl ?_
    refine r_get (C := RX2) (T := TX2) (N := 2) (ci := 2) B dX2_add_8 in_X2_add_X2 rfl 1 (by decide) w_X2_add_f17 rfl hR2.1 rfl ?_
    refine r_aload_n B dX2_add_11 rfl rfl ?_
    refine r_get (C := RX2) (T := TX2) (N := 2) (ci := 2) B dX2_add_12 in_X2_add_X2 rfl 0 (by decide) w_X2_add_f11 rfl hR2.1 rfl ?_
    refine r_alen_q B dX2_add_15 rfl hR2.2.1 ?_
    refine r_icmp_ge B dX2_add_16 (tgt := 39) (by decide) (by omega) (by omega) (fun c16 => ?_) (fun c16 => ?_)
    · exact r_vret B hr hlk dX2_add_39 (Nat.le_of_ble_eq_true rfl) (Nat.le_of_ble_eq_true rfl) (by exfalso; omega)
    · refine r_aload_n B dX2_add_19 rfl rfl ?_
      refine r_get (C := RX2) (T := TX2) (N := 2) (ci := 2) B dX2_add_20 in_X2_add_X2 rfl 0 (by decide) w_X2_add_f11 rfl hR2.1 rfl ?_
      refine r_aload_n B dX2_add_23 rfl rfl ?_
      refine r_get (C := RX2) (T := TX2) (N := 2) (ci := 2) B dX2_add_24 in_X2_add_X2 rfl 1 (by decide) w_X2_add_f17 rfl hR2.1 rfl ?_
      refine r_aload_n B dX2_add_27 rfl rfl ?_
      refine r_aast B dX2_add_28 rfl rfl hR2.2.1 hz (by decide) (by omega) (by omega) ?_
      refine k_next (P := fun x => RW g r ra (upQ fq cn (some z)) K cn x ∧ (∀ q : Nat, q ≠ r → q ≠ ra → x q = h q)) ⟨hR2.arr, fun q q0 q1 => if_neg q1⟩ (fun h1 hX => ?_)
      obtain ⟨hR2, hfr⟩ := hX
      refine r_aload_n B dX2_add_29 rfl rfl ?_
      refine r_dup B dX2_add_30 rfl ?_
      refine r_get (C := RX2) (T := TX2) (N := 2) (ci := 2) B dX2_add_31 in_X2_add_X2 rfl 1 (by decide) w_X2_add_f17 rfl hR2.1 rfl ?_
      refine r_iconst B dX2_add_34 ?_
      refine r_iadd B dX2_add_35 ?_
      refine r_put (C := RX2) (T := TX2) (N := 2) (ci := 2) B dX2_add_36 in_X2_add_X2 tyX2 tyX2_ok nmX2 rfl 1 (by decide) w_X2_add_f17 rfl rfl (ty := .int) (by decide +kernel) rfl rfl hR2.1 (by show 1 < 2; decide) ?_
      refine k_next (P := fun x => RW g r ra (upQ fq cn (some z)) (upK K cn z) (cn + 1) x ∧ (∀ q : Nat, q ≠ r → q ≠ ra → x q = h q)) ⟨hR2.cnt hcn (if_pos rfl), fun q q0 q1 => (if_neg q0).trans (hfr q q0 q1)⟩ (fun h1 hX => ?_)
      exact r_vret B hr hlk dX2_add_39 (Nat.le_of_ble_eq_true rfl) (Nat.le_of_ble_eq_true rfl) ⟨rfl, hX⟩
