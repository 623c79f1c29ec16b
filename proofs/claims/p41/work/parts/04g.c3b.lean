abbrev rmX7_markAt : Room := { frames := 1, cells := 0, slots := 0, locals := 21 }
theorem w_X7_markAt_c19 : Cond.constant RX7 19 (iI 65535) ∈ wsX7_markAt := by decide +kernel
theorem w_X7_markAt_c20 : Cond.constant RX7 20 (iI 40503) ∈ wsX7_markAt := by decide +kernel
set_option maxHeartbeats 4000000 in
set_option maxRecDepth 100000 in
theorem ct_X7_markAt (l : Launch) (g : GG) (sz0 : Nat) {h h0 : AH} {f ac ae : Nat} {G Eg : Int → Int} {sz pt : Int} (hF : FL g f ac ae G Eg sz pt h0 h) {mk : Nat} {bt ls ms : Int} (x : Int) (hx : 0 ≤ x ∧ x < 48) (hG : ∀ j : Int, 0 ≤ G j ∧ G j ≤ 255)  : CT l yX7_markAt wsX7_markAt rmX7_markAt g sz0 [.ref mk, .ref f, .int (iI (x))] h (fun v h' => v = some (.int (mkv G x)) ∧ h' = h) := by
  refine CT.of (by decide +kernel) rfl [some (.ref mk), some (.ref f), some (.int (iI (x))), none, none] rfl (Nat.le_of_ble_eq_true rfl) ?_
  intro p e s m args below meth c B hr hlk hnm
  refine r_iconst B dX7_markAt_0 ?_
  refine r_istore_n B dX7_markAt_1 rfl (by decide) (lcat_v rfl rfl) ?_
  refine r_iconst B dX7_markAt_2 ?_
  refine r_istore B dX7_markAt_3 (by decide) (lcat_v rfl rfl) ?_
  have loop5 : ∀ (nn : Nat) (q : Int) (u : Int32), (-1 ≤ q ∧ q ≤ 3) → (u = mkn G (mkl x) (x - q - mkl x).toNat) → (q + 1).toNat < nn → WA p l e rmX7_markAt s m args below meth c g sz0 5 (MQ below (QQ g sz0 (fun v h' => v = some (.int (mkv G x)) ∧ h' = h)) args s rmX7_markAt.cells rmX7_markAt.slots (A0 sz0)) h 0 0 [some (.ref mk), some (.ref f), some (.int (iI (x))), some (.int u), some (.int (iI (q)))] 5 [] := by
    intro nn
    induction nn with
    | zero => intro q u i1 i2 hn; exact absurd hn (Nat.not_lt_zero _)
    | succ nn ih =>
      intro q u i1 i2 hn
      refine r_iload B dX7_markAt_5 rfl ?_
      refine r_if_lt B dX7_markAt_7 (tgt := 51) (by decide) (by omega) (fun c7 => ?_) (fun c7 => ?_)
      · refine r_iload_n B dX7_markAt_51 rfl ?_
        exact r_iret B hr hlk dX7_markAt_52 (Nat.le_of_ble_eq_true rfl) (Nat.le_of_ble_eq_true rfl) ⟨by rw [i2, show q = -1 by omega, show x - -1 - mkl x = x + 1 - mkl x by omega]; rfl, rfl⟩
      · refine r_iload B dX7_markAt_10 rfl ?_
        refine r_iload_n B dX7_markAt_12 rfl ?_
        refine r_icmp_gt B dX7_markAt_13 (tgt := 45) (by decide) (by omega) (by omega) (fun c13 => ?_) (fun c13 => ?_)
        · refine r_iinc B dX7_markAt_45 rfl (by decide) (lcat_v rfl rfl) ?_
          refine r_goto B dX7_markAt_48 (tgt := 5) (by decide) ?_
          exact r_lv (lvLe_s rfl (lvLe_s rfl (lvLe_s rfl (lvLe_s rfl (lvLe_s rfl lvLe_nil))))) (ih (q - 1) _ (by omega) (by rw [mkn_stop (by omega) i1.2 hx.1]; exact i2) (by omega))
        · refine r_iload_n B dX7_markAt_16 rfl ?_
          refine r_iconst B dX7_markAt_17 ?_
          refine r_ishl B dX7_markAt_18 ?_
          refine r_iload_n B dX7_markAt_19 rfl ?_
          refine r_bipush B dX7_markAt_20 (by decide) ?_
          refine r_iushr B dX7_markAt_22 rfl ?_
          refine r_ior B dX7_markAt_23 ?_
          refine r_ldc B dX7_markAt_24 (v := 65535) w_X7_markAt_c19 ?_
          refine r_iand B dX7_markAt_26 ?_
          refine r_istore_n B dX7_markAt_27 rfl (by decide) (lcat_v rfl rfl) ?_
          refine r_iload_n B dX7_markAt_28 rfl ?_
          refine r_ldc B dX7_markAt_29 (v := 40503) w_X7_markAt_c20 ?_
          refine r_aload_n B dX7_markAt_31 rfl rfl ?_
          refine r_iload_n B dX7_markAt_32 rfl ?_
          refine r_iload B dX7_markAt_33 rfl ?_
          refine r_isub B dX7_markAt_35 ?_
          refine r_callV (n := 1) B dX7_markAt_36 (ct_X0_byteAt l g sz0 hF _ (by omega)) gX7_markAt_X0_byteAt rfl (by decide +kernel) ⟨Nat.le_of_ble_eq_true rfl, Nat.le_of_ble_eq_true rfl⟩ hF.1 rfl rfl rfl (Nat.le_of_ble_eq_true rfl) (Nat.le_of_ble_eq_true rfl) (Nat.le_of_ble_eq_true rfl) (fun v h' hp => ?_)
          obtain ⟨hv, hh⟩ := hp
          subst v
          subst h'
          dsimp only [Option.toList, List.cons_append, List.nil_append]
          rw [byF_in (by omega)]
          refine r_imul B dX7_markAt_39 ?_
          refine r_ldc B dX7_markAt_40 (v := 65535) w_X7_markAt_c19 ?_
          refine r_iand B dX7_markAt_42 ?_
          refine r_ixor B dX7_markAt_43 ?_
          refine r_istore_n B dX7_markAt_44 rfl (by decide) (lcat_v rfl rfl) ?_
          refine r_iinc B dX7_markAt_45 rfl (by decide) (lcat_v rfl rfl) ?_
          refine r_goto B dX7_markAt_48 (tgt := 5) (by decide) ?_
          have hml := mkl_le (i := x - q) hx.1 (by omega) (by omega)
          have hk := mkn_k hG (mkl x) (x - q - mkl x).toNat
          exact r_lv (lvLe_s rfl (lvLe_s rfl (lvLe_s rfl (lvLe_s rfl (lvLe_s rfl lvLe_nil))))) (ih (q - 1) _ (by omega) (by rw [i2, show x - (q - 1) - mkl x = x - q + 1 - mkl x by omega, mkn_succ _ _ hml]; exact cstep_eq hk (hG _)) (by omega))
  exact r_lv (lvLe_s rfl (lvLe_s rfl (lvLe_s rfl (lvLe_s rfl (lvLe_s rfl lvLe_nil))))) (loop5 _ 3 _ (by omega) (by rw [show (x - 3 - mkl x).toNat = 0 by unfold mkl; split <;> omega]; rfl) (Nat.lt_succ_self _))
