abbrev rmX5_add : Room := { frames := 3, cells := 0, slots := 0, locals := 66 }
theorem in_X5_add_X5 : ∀ w ∈ wsX50, w ∈ wsX5_add := by decide +kernel
theorem w_X5_add_f10 : Cond.fieldLink RX5 10 "DeltaNights$Link" "row" "LDeltaNights$ChunkRow;" ∈ wsX5_add := by decide +kernel
theorem w_X5_add_f16 : Cond.fieldLink RX5 16 "DeltaNights$Link" "holds" "LDeltaNights$ChunkRow;" ∈ wsX5_add := by decide +kernel
set_option maxHeartbeats 4000000 in
set_option maxRecDepth 100000 in
theorem ct_X5_add (l : Launch) (g : GG) (sz0 : Nat) {hB h : AH} {LE : Nat → Option Nat} {RK1 : Nat → Int → Nat} {RN : Nat → Int} {HK1 : Nat → Int → Nat} {HN : Nat → Int} {La : Int → Nat} {len : Int} {rr rra rh rha : Nat} {fq1 fq2 : Int → Option Nat} (z : Nat) {vs : List Value} (hlen : 0 < len) (hl1 : h (La 0) = some (oE 5 [va_rf (LE (La 0)), .ref rr, .ref rh])) (hl2 : RW g rr rra fq1 (RK1 (La 0)) (RN (La 0)) h) (hl3 : RW g rh rha fq2 (HK1 (La 0)) (HN (La 0)) h) (hT : LE (La 0) = ptr La len (0 + 1) ∧ ∀ i : Int, 1 ≤ i → i < len → LE (La i) = ptr La len (i + 1) ∧ LKA g LE RK1 RN HK1 HN (La i) hB) (hfr : ∀ b : Nat, hB b ≠ none → h b = hB b) (hnone : hB (La 0) = none ∧ hB rr = none ∧ hB rra = none) (hd : rh ≠ rr ∧ rha ≠ rra) (hz : h z = some (oE 1 vs)) (hcn : RN (La 0) < 48 ∧ HN (La 0) < 48)  : CT l yX5_add wsX5_add rmX5_add g sz0 [.ref (La 0), .ref z] h (fun v h' => v = none ∧ h' (La 0) = some (oE 5 [va_rf (LE (La 0)), .ref rr, .ref rh]) ∧ RW g rr rra (upQ fq1 (RN (La 0)) (some z)) (upK (RK1 (La 0)) (RN (La 0)) z) (RN (La 0) + 1) h' ∧ (chHas HK1 HN La len z → RW g rh rha fq2 (HK1 (La 0)) (HN (La 0)) h') ∧ (¬ chHas HK1 HN La len z → RW g rh rha (upQ fq2 (HN (La 0)) (some z)) (upK (HK1 (La 0)) (HN (La 0)) z) (HN (La 0) + 1) h') ∧ (∀ b : Nat, b ≠ rr → b ≠ rra → b ≠ rh → b ≠ rha → h' b = h b)) := by
  refine CT.of (by decide +kernel) rfl [some (.ref (La 0)), some (.ref z)] rfl (Nat.le_of_ble_eq_true rfl) ?_
  intro p e s m args below meth c B hr hlk hnm
  have d5 : (La 0) ≠ rr := oci_ne hl1 hl2.1 (by decide)
  have d6 : (La 0) ≠ rra := qoe_ne hl1 hl2.2.1
  have d7 : (La 0) ≠ rh := oci_ne hl1 hl3.1 (by decide)
  have d8 : (La 0) ≠ rha := qoe_ne hl1 hl3.2.1
  refine r_aload_n B dX5_add_0 rfl rfl ?_
  refine r_get (C := RX5) (T := TX5) (N := 3) (ci := 5) B dX5_add_1 in_X5_add_X5 rfl 1 (by decide) w_X5_add_f10 rfl hl1 rfl ?_
  refine r_aload_n B dX5_add_4 rfl rfl ?_
  refine r_callV (n := 1) B dX5_add_5 (ct_X2_add l g sz0 hl2 _ hz hcn.1) gX5_add_X2_add rfl (by decide +kernel) ⟨Nat.le_of_ble_eq_true rfl, Nat.le_of_ble_eq_true rfl⟩ hl2.1 rfl rfl rfl (Nat.le_of_ble_eq_true rfl) (Nat.le_of_ble_eq_true rfl) (Nat.le_of_ble_eq_true rfl) (fun v h1 hp => ?_)
  obtain ⟨hv, hR1, hfr1⟩ := hp
  subst v
  dsimp only [Option.toList, List.cons_append, List.nil_append]
  have hl1b := (hfr1 (La 0) d5 d6).trans hl1
  have hl3b := hl3.mv (hfr1 rh hd.1 (fun y => qoe_ne hl3.1 hl2.2.1 y)) (hfr1 rha (fun y => qoe_ne hl2.1 hl3.2.1 y.symm) hd.2)
  have hCH : CHN g LE (fun x => if x = (La 0) then upK (RK1 (La 0)) (RN (La 0)) z else RK1 x) (fun x => if x = (La 0) then RN (La 0) + 1 else RN x) HK1 HN La len h1 := fun i i0 i1 => by
    by_cases y : i = 0
    · subst y
      refine ⟨hT.1, rr, rra, rh, rha, upQ fq1 (RN (La 0)) (some z), fq2, hl1b, ?_, hl3b⟩
      show RW g rr rra _ (if (La 0) = (La 0) then upK (RK1 (La 0)) (RN (La 0)) z else RK1 (La 0)) (if (La 0) = (La 0) then RN (La 0) + 1 else RN (La 0)) h1
      rw [if_pos rfl, if_pos rfl]
      exact hR1
    · have ht := hT.2 i (by omega) i1
      have hne9 : La i ≠ (La 0) := fun w => by
        obtain ⟨_, _, _, _, _, _, p1, _, _⟩ := ht.2
        rw [w, hnone.1] at p1
        cases p1
      exact ⟨ht.1, ht.2.mv (fun b hb => (hfr1 b (fun w => hb (by rw [w]; exact hnone.2.1)) (fun w => hb (by rw [w]; exact hnone.2.2))).trans (hfr b hb)) (if_neg hne9) (if_neg hne9)⟩
  refine r_aload_n B dX5_add_8 rfl rfl ?_
  refine r_aload_n B dX5_add_9 rfl rfl ?_
  refine r_callV (n := 1) B dX5_add_10 (ct_X5_chainHolds l g sz0 hCH _ hlen) gX5_add_X5_chainHolds rfl (by decide +kernel) ⟨Nat.le_of_ble_eq_true rfl, Nat.le_of_ble_eq_true rfl⟩ hl1b rfl rfl rfl (Nat.le_of_ble_eq_true rfl) (Nat.le_of_ble_eq_true rfl) (Nat.le_of_ble_eq_true rfl) (fun v h' hp => ?_)
  obtain ⟨hv, hh⟩ := hp
  subst v
  subst h'
  dsimp only [Option.toList, List.cons_append, List.nil_append]
  refine r_if_ne B dX5_add_13 (tgt := 24) (by decide) (bI_rng _) (fun c13 => ?_) (fun c13 => ?_)
  · replace c13 := bI_n0.mp c13
    exact r_vret B hr hlk dX5_add_24 (Nat.le_of_ble_eq_true rfl) (Nat.le_of_ble_eq_true rfl) ⟨rfl, hl1b, hR1, fun _ => hl3b, fun y => absurd c13 y, fun b b0 b1 _ _ => hfr1 b b0 b1⟩
  · replace c13 := bI_0.mp c13
    have d9 : z ≠ rr := oci_ne hz hl2.1 (by decide)
    have d10 : z ≠ rra := qoe_ne hz hl2.2.1
    have hz1 := (hfr1 z d9 d10).trans hz
    refine r_aload_n B dX5_add_16 rfl rfl ?_
    refine r_get (C := RX5) (T := TX5) (N := 3) (ci := 5) B dX5_add_17 in_X5_add_X5 rfl 2 (by decide) w_X5_add_f16 rfl hl1b rfl ?_
    refine r_aload_n B dX5_add_20 rfl rfl ?_
    refine r_callV (n := 1) B dX5_add_21 (ct_X2_add l g sz0 hl3b _ hz1 hcn.2) gX5_add_X2_add rfl (by decide +kernel) ⟨Nat.le_of_ble_eq_true rfl, Nat.le_of_ble_eq_true rfl⟩ hl3b.1 rfl rfl rfl (Nat.le_of_ble_eq_true rfl) (Nat.le_of_ble_eq_true rfl) (Nat.le_of_ble_eq_true rfl) (fun v h2 hp => ?_)
    obtain ⟨hv, hR2, hfr2⟩ := hp
    subst v
    dsimp only [Option.toList, List.cons_append, List.nil_append]
    exact r_vret B hr hlk dX5_add_24 (Nat.le_of_ble_eq_true rfl) (Nat.le_of_ble_eq_true rfl) ⟨rfl, (hfr2 (La 0) d7 d8).trans hl1b, hR1.mv (hfr2 rr hd.1.symm (fun y => qoe_ne hl2.1 hl3.2.1 y)) (hfr2 rra (fun y => qoe_ne hl3.1 hl2.2.1 y.symm) hd.2.symm), fun y => absurd y c13, fun _ => hR2, fun b b0 b1 b2 b3 => (hfr2 b b2 b3).trans (hfr1 b b0 b1)⟩
