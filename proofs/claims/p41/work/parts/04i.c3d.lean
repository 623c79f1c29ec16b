abbrev rmX7_cutUp : Room := { frames := 3, cells := 0, slots := 0, locals := 69 }
theorem in_X7_cutUp_X0 : ∀ w ∈ wsX00, w ∈ wsX7_cutUp := by decide +kernel
theorem w_X7_cutUp_f27 : Cond.fieldLink RX7 27 "DeltaNights$ByteFile" "parts" "I" ∈ wsX7_cutUp := by decide +kernel
theorem w_X7_cutUp_f30 : Cond.fieldLink RX7 30 "DeltaNights$ByteFile" "size" "I" ∈ wsX7_cutUp := by decide +kernel
set_option maxHeartbeats 4000000 in
set_option maxRecDepth 100000 in
theorem ct_X7_cutUp (l : Launch) (g : GG) (sz0 : Nat) {h h0 : AH} {f ac ae : Nat} {G Eg : Int → Int} {sz pt : Int} (hF : FL g f ac ae G Eg sz pt h0 h) {mk : Nat} {bt ls ms : Int} (hG : ∀ j : Int, 0 ≤ G j ∧ G j ≤ 255) (hm : h mk = some (oE 7 [.int (iI bt), .int (iI ls), .int (iI ms)])) (hms : 1 ≤ ms ∧ ms ≤ 24 ∧ 0 ≤ ls ∧ ls < 100)  : CT l yX7_cutUp wsX7_cutUp rmX7_cutUp g sz0 [.ref mk, .ref f] h (fun v h' => v = none ∧ FL g f ac ae G (putRow Eg 0 (cutR G sz bt ls ms).2.1 (cutR G sz bt ls ms).2.2) sz (cutR G sz bt ls ms).2.1 h0 h') := by
  refine CT.of (by decide +kernel) rfl [some (.ref mk), some (.ref f), none, none] rfl (Nat.le_of_ble_eq_true rfl) ?_
  intro p e s m args below meth c B hr hlk hnm
  have hs9 := hF.s
  have n1 : mk ≠ f := fun z => by
    have h1 := hF.1
    rw [← z, hm] at h1
    exact absurd (Option.some.inj h1) (by intro y; cases y)
  have n2 : mk ≠ ac := ioe_ne hm hF.2.1
  have n3 : mk ≠ ae := ioe_ne hm hF.2.2.1
  have hm0 := (hF.2.2.2.2.2.2 mk n1 n2 n3).symm.trans hm
  refine r_aload_n B dX7_cutUp_0 rfl rfl ?_
  refine r_iconst B dX7_cutUp_1 ?_
  refine r_put (C := RX0) (T := TX0) (N := 4) (ci := 0) B dX7_cutUp_2 in_X7_cutUp_X0 tyX0 tyX0_ok nmX0 rfl 3 (by decide) w_X7_cutUp_f27 rfl rfl (ty := .int) (by decide +kernel) rfl rfl hF.1 (by show 3 < 4; decide) ?_
  refine k_next (P := FL g f ac ae G Eg sz 0 h0) (hF.par (by omega)) (fun h hF => ?_)
  refine r_iconst B dX7_cutUp_5 ?_
  refine r_istore_n B dX7_cutUp_6 rfl (by decide) (lcat_v rfl rfl) ?_
  refine r_iconst B dX7_cutUp_7 ?_
  refine r_istore_n B dX7_cutUp_8 rfl (by decide) (lcat_v rfl rfl) ?_
  have loop9 : ∀ (nn : Nat) (q : Int) (u : Int) (h : AH), FL g f ac ae G (putRow Eg 0 (cutSt G sz bt ls ms (q).toNat).2.1 (cutSt G sz bt ls ms (q).toNat).2.2) sz (cutSt G sz bt ls ms (q).toNat).2.1 h0 h → (0 ≤ q ∧ q ≤ sz) → (u = (cutSt G sz bt ls ms (q).toNat).1) → (sz - q).toNat < nn → WA p l e rmX7_cutUp s m args below meth c g sz0 4 (MQ below (QQ g sz0 (fun v h' => v = none ∧ FL g f ac ae G (putRow Eg 0 (cutR G sz bt ls ms).2.1 (cutR G sz bt ls ms).2.2) sz (cutR G sz bt ls ms).2.1 h0 h')) args s rmX7_cutUp.cells rmX7_cutUp.slots (A0 sz0)) h 0 0 [some (.ref mk), some (.ref f), some (.int (iI (u))), some (.int (iI (q)))] 9 [] := by
    intro nn
    induction nn with
    | zero => intro q u h hF i1 i2 hn; exact absurd hn (Nat.not_lt_zero _)
    | succ nn ih =>
      intro q u h hF i1 i2 hn
      refine r_iload_n B dX7_cutUp_9 rfl ?_
      refine r_aload_n B dX7_cutUp_10 rfl rfl ?_
      refine r_get (C := RX0) (T := TX0) (N := 4) (ci := 0) B dX7_cutUp_11 in_X7_cutUp_X0 rfl 2 (by decide) w_X7_cutUp_f30 rfl hF.1 rfl ?_
      refine r_icmp_ge B dX7_cutUp_14 (tgt := 46) (by decide) (by omega) (by omega) (fun c14 => ?_) (fun c14 => ?_)
      · exact r_vret B hr hlk dX7_cutUp_46 (Nat.le_of_ble_eq_true rfl) (Nat.le_of_ble_eq_true rfl) ⟨rfl, by rw [show q = sz by omega] at hF; exact hF⟩
      · have hm := (hF.2.2.2.2.2.2 mk n1 n2 n3).trans hm0
        have hci := cut_inv G sz bt ls ms q.toNat
        have hcm := cut_ms G sz bt ls ms hms.1 q.toNat
        rw [show ((q.toNat : Nat) : Int) = q by omega] at hcm
        refine r_aload_n B dX7_cutUp_17 rfl rfl ?_
        refine r_aload_n B dX7_cutUp_18 rfl rfl ?_
        refine r_iload_n B dX7_cutUp_19 rfl ?_
        refine r_iload_n B dX7_cutUp_20 rfl ?_
        refine r_iconst B dX7_cutUp_21 ?_
        refine r_iadd B dX7_cutUp_22 ?_
        refine r_iload_n B dX7_cutUp_23 rfl ?_
        refine r_isub B dX7_cutUp_24 ?_
        refine r_callV (n := 3) B dX7_cutUp_25 (ct_X7_endsBehind l g sz0 hF _ _ u (by omega) (by omega) (by omega) hG hm (by omega)) gX7_cutUp_X7_endsBehind rfl (by decide +kernel) ⟨Nat.le_of_ble_eq_true rfl, Nat.le_of_ble_eq_true rfl⟩ hm rfl rfl rfl (Nat.le_of_ble_eq_true rfl) (Nat.le_of_ble_eq_true rfl) (Nat.le_of_ble_eq_true rfl) (fun v h' hp => ?_)
        obtain ⟨hv, hh⟩ := hp
        subst v
        subst h'
        dsimp only [Option.toList, List.cons_append, List.nil_append]
        refine r_if_eq B dX7_cutUp_28 (tgt := 40) (by decide) (bI_rng _) (fun c28 => ?_) (fun c28 => ?_)
        · replace c28 := bI_0.mp c28
          refine r_iinc B dX7_cutUp_40 rfl (by decide) (lcat_v rfl rfl) ?_
          refine r_goto B dX7_cutUp_43 (tgt := 9) (by decide) ?_
          rw [i2] at c28
          exact r_lv (lvLe_s rfl (lvLe_s rfl (lvLe_s rfl (lvLe_s rfl lvLe_nil)))) (ih (q + 1) u h (by rw [cutSt_f i1.1 c28]; exact hF) (by omega) (by rw [cutSt_f i1.1 c28]; exact i2) (by omega))
        · replace c28 := bI_n0.mp c28
          refine r_iload_n B dX7_cutUp_31 rfl ?_
          refine r_iconst B dX7_cutUp_32 ?_
          refine r_iadd B dX7_cutUp_33 ?_
          refine r_istore_n B dX7_cutUp_34 rfl (by decide) (lcat_v rfl rfl) ?_
          refine r_aload_n B dX7_cutUp_35 rfl rfl ?_
          refine r_iload_n B dX7_cutUp_36 rfl ?_
          refine r_callV (n := 1) B dX7_cutUp_37 (ct_X0_endPart l g sz0 hF _ (by omega) (by omega)) gX7_cutUp_X0_endPart rfl (by decide +kernel) ⟨Nat.le_of_ble_eq_true rfl, Nat.le_of_ble_eq_true rfl⟩ hF.1 rfl rfl rfl (Nat.le_of_ble_eq_true rfl) (Nat.le_of_ble_eq_true rfl) (Nat.le_of_ble_eq_true rfl) (fun v h hp => ?_)
          obtain ⟨hv, hF⟩ := hp
          subst v
          dsimp only [Option.toList, List.cons_append, List.nil_append]
          refine r_iinc B dX7_cutUp_40 rfl (by decide) (lcat_v rfl rfl) ?_
          refine r_goto B dX7_cutUp_43 (tgt := 9) (by decide) ?_
          rw [i2] at c28
          exact r_lv (lvLe_s rfl (lvLe_s rfl (lvLe_s rfl (lvLe_s rfl lvLe_nil)))) (ih (q + 1) (q + 1) h (by rw [cutSt_t i1.1 c28]; rw [putRow_s0 _ _ _ hci.2.1.1] at hF; exact hF) (by omega) (by rw [cutSt_t i1.1 c28]) (by omega))
  have e0 : (cutSt G sz bt ls ms (0 : Int).toNat) = (0, 0, fun _ => 0) := rfl
  exact r_lv (lvLe_s rfl (lvLe_s rfl (lvLe_s rfl (lvLe_s rfl lvLe_nil)))) (loop9 _ 0 0 h (by rw [e0, putRow_0]; exact hF) (by omega) rfl (Nat.lt_succ_self _))
