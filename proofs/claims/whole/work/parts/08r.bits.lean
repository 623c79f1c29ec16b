abbrev rmX9_bitsOf : Room := { frames := 0, cells := 0, slots := 0, locals := 0 }
set_option maxHeartbeats 4000000 in
set_option maxRecDepth 100000 in
theorem ct_X9_bitsOf (l : Launch) (g : GG) (sz0 : Nat) {h : AH} (v : UInt32) (hv : v = 0 ∨ ∃ (c0 : Nat) (q0 : Int), Jvm.FP.Core.val32 v = .fin false c0 q0 ∧ (2 ^ 23 ≤ c0 ∧ c0 < 2 ^ 24) ∧ -60 ≤ q0 ∧ q0 ≤ -1)  : CT l yX9_bitsOf wsX9_bitsOf rmX9_bitsOf g sz0 [.float v] h (fun v9 h' => v9 = some (.int (iI (i32z v.toInt32))) ∧ h' = h) := by
  refine CT.of (by decide +kernel) rfl [some (.float v), none, none, none] rfl (Nat.le_of_ble_eq_true rfl) ?_
  intro p e s m args below meth c B hr hlk hnm
  refine r_fload_n B dX9_bitsOf_0 rfl ?_
  refine r_fconst0 B dX9_bitsOf_1 ?_
  refine r_fcmp B dX9_bitsOf_2 ?_
  refine r_if_gt B dX9_bitsOf_3 (tgt := 8) (by decide) (i32z_rng _) (fun c3 => ?_) (fun c3 => ?_)
  · rcases hv with z | ⟨c0, q0, hv, hc, hq⟩
    · subst z; exact absurd c3 (by decide +kernel)
    refine r_fload_n B dX9_bitsOf_8 rfl ?_
    refine r_fstore_n B dX9_bitsOf_9 rfl (by decide) (lcat_v rfl rfl) ?_
    refine r_bipush B dX9_bitsOf_10 (by decide) ?_
    refine r_istore_n B dX9_bitsOf_12 rfl (by decide) (lcat_v rfl rfl) ?_
    refine r_iconst B dX9_bitsOf_13 ?_
    refine r_istore_n B dX9_bitsOf_14 rfl (by decide) (lcat_v rfl rfl) ?_
    have loop15 : ∀ (nn : Nat) (k : Int) (u : Int) (w : UInt32), (0 ≤ k) → (Jvm.FP.Core.val32 w = .fin false c0 (q0 - k)) → (k = 0 ∨ -23 ≤ q0 - k) → (u = 127 + k) → (128 - k).toNat < nn → WA p l e rmX9_bitsOf s m args below meth c g sz0 4 (MQ below (QQ g sz0 (fun v9 h' => v9 = some (.int (iI (i32z v.toInt32))) ∧ h' = h)) args s rmX9_bitsOf.cells rmX9_bitsOf.slots (A0 sz0)) h 0 0 [some (.float v), some (.float w), some (.int (iI (u))), some (.int (iI (k)))] 15 [] := by
      intro nn
      induction nn with
      | zero => intro k u w i1 i2 i3 i4 hn; exact absurd hn (Nat.not_lt_zero _)
      | succ nn ih =>
        intro k u w i1 i2 i3 i4 hn
        refine r_iload_n B dX9_bitsOf_15 rfl ?_
        refine r_sipush B dX9_bitsOf_16 (by decide) ?_
        refine r_icmp_ge B dX9_bitsOf_19 (tgt := 41) (by decide) (by omega) (by omega) (fun c19 => ?_) (fun c19 => ?_)
        · exact absurd c19 (by omega)
        · refine r_fload_n B dX9_bitsOf_22 rfl ?_
          refine r_fconst2 B dX9_bitsOf_23 ?_
          refine r_fcmp B dX9_bitsOf_24 ?_
          refine r_if_lt B dX9_bitsOf_25 (tgt := 41) (by decide) (i32z_rng _) (fun c25 => ?_) (fun c25 => ?_)
          · replace c25 := (lt2 i2 hc (by omega)).mp c25
            refine r_iconst B dX9_bitsOf_41 ?_
            refine r_istore_n B dX9_bitsOf_42 rfl (by decide) (lcat_v rfl rfl) ?_
            have loop43 : ∀ (nn : Nat) (j : Int) (u2 : Int) (w2 : UInt32), (0 ≤ j) → (Jvm.FP.Core.val32 w2 = .fin false c0 (q0 - k + j)) → (j = 0 ∨ q0 - k + j ≤ -23) → (u2 = 127 + k - j) → (128 - j).toNat < nn → WA p l e rmX9_bitsOf s m args below meth c g sz0 4 (MQ below (QQ g sz0 (fun v9 h' => v9 = some (.int (iI (i32z v.toInt32))) ∧ h' = h)) args s rmX9_bitsOf.cells rmX9_bitsOf.slots (A0 sz0)) h 0 0 [some (.float v), some (.float w2), some (.int (iI (u2))), some (.int (iI (j)))] 43 [] := by
              intro nn
              induction nn with
              | zero => intro j u2 w2 j1 j2 j3 j4 hn; exact absurd hn (Nat.not_lt_zero _)
              | succ nn ih2 =>
                intro j u2 w2 j1 j2 j3 j4 hn
                refine r_iload_n B dX9_bitsOf_43 rfl ?_
                refine r_sipush B dX9_bitsOf_44 (by decide) ?_
                refine r_icmp_ge B dX9_bitsOf_47 (tgt := 69) (by decide) (by omega) (by omega) (fun c47 => ?_) (fun c47 => ?_)
                · exact absurd c47 (by omega)
                · refine r_fload_n B dX9_bitsOf_50 rfl ?_
                  refine r_fconst1 B dX9_bitsOf_51 ?_
                  refine r_fcmp B dX9_bitsOf_52 ?_
                  refine r_if_ge B dX9_bitsOf_53 (tgt := 69) (by decide) (i32z_rng _) (fun c53 => ?_) (fun c53 => ?_)
                  · replace c53 := (ge1 j2 hc (by omega)).mp c53
                    have hw23 : Jvm.FP.Core.val32 w2 = .fin false c0 (-23) := by rw [j2]; congr 1; omega
                    have hmf := (mant hw23 hc).1
                    refine r_iload_n B dX9_bitsOf_69 rfl ?_
                    refine r_bipush B dX9_bitsOf_70 (by decide) ?_
                    refine r_ishl B dX9_bitsOf_72 ?_
                    refine r_fload_n B dX9_bitsOf_73 rfl ?_
                    refine r_fconst1 B dX9_bitsOf_74 ?_
                    refine r_fsub B dX9_bitsOf_75 (vf_of hmf.notNaN) ?_
                    refine r_ldcfw B dX9_bitsOf_76 (by decide +kernel : Cond.constantFloat RX9 297 1258291200 ∈ wsX9_bitsOf) ?_
                    refine r_fmul B dX9_bitsOf_79 (vf_of (Jvm.FP.Core.fmul_out hmf ⟨_, _, _, v_fM⟩)) ?_
                    refine r_f2i B dX9_bitsOf_80 ?_
                    refine r_iaddr B dX9_bitsOf_81 ?_
                    exact r_iret B hr hlk dX9_bitsOf_82 (Nat.le_of_ble_eq_true rfl) (Nat.le_of_ble_eq_true rfl) ⟨by rw [bits_fin hv hc hq hw23 (by omega)], rfl⟩
                  · replace c53 : ¬ -23 ≤ q0 - k + j := fun z => c53 ((ge1 j2 hc (by omega)).mpr z)
                    refine r_fload_n B dX9_bitsOf_56 rfl ?_
                    refine r_fconst2 B dX9_bitsOf_57 ?_
                    refine r_fmul B dX9_bitsOf_58 (vfn (dbl_step j2 hc (by omega))) ?_
                    refine r_fstore_n B dX9_bitsOf_59 rfl (by decide) (lcat_v rfl rfl) ?_
                    refine r_iinc B dX9_bitsOf_60 rfl (by decide) (lcat_v rfl rfl) ?_
                    refine r_iinc B dX9_bitsOf_63 rfl (by decide) (lcat_v rfl rfl) ?_
                    refine r_goto B dX9_bitsOf_66 (tgt := 43) (by decide) ?_
                    exact r_lv (lvLe_s rfl (lvLe_s rfl (lvLe_s rfl (lvLe_s rfl lvLe_nil)))) (ih2 (j + 1) (u2 + -1) _ (by omega) (by rw [show q0 - k + (j + 1) = q0 - k + j + 1 by omega]; exact dbl_step j2 hc (by omega)) (Or.inr (by omega)) (by omega) (by omega))
            exact r_lv (lvLe_s rfl (lvLe_s rfl (lvLe_s rfl (lvLe_s rfl lvLe_nil)))) (loop43 _ 0 u w (by omega) (by rw [Int.add_zero]; exact i2) (Or.inl rfl) (by omega) (Nat.lt_succ_self _))
          · replace c25 : ¬ q0 - k < -22 := fun z => c25 ((lt2 i2 hc (by omega)).mpr z)
            refine r_fload_n B dX9_bitsOf_28 rfl ?_
            refine r_fconst2 B dX9_bitsOf_29 ?_
            refine r_fdiv B dX9_bitsOf_30 (vfn (half_step i2 hc (by omega))) ?_
            refine r_fstore_n B dX9_bitsOf_31 rfl (by decide) (lcat_v rfl rfl) ?_
            refine r_iinc B dX9_bitsOf_32 rfl (by decide) (lcat_v rfl rfl) ?_
            refine r_iinc B dX9_bitsOf_35 rfl (by decide) (lcat_v rfl rfl) ?_
            refine r_goto B dX9_bitsOf_38 (tgt := 15) (by decide) ?_
            exact r_lv (lvLe_s rfl (lvLe_s rfl (lvLe_s rfl (lvLe_s rfl lvLe_nil)))) (ih (k + 1) (u + 1) _ (by omega) (by rw [show q0 - (k + 1) = q0 - k - 1 by omega]; exact half_step i2 hc (by omega)) (Or.inr (by omega)) (by omega) (by omega))
    exact r_lv (lvLe_s rfl (lvLe_s rfl (lvLe_s rfl (lvLe_s rfl lvLe_nil)))) (loop15 _ 0 127 v (by omega) (by rw [Int.sub_zero]; exact hv) (Or.inl rfl) rfl (Nat.lt_succ_self _))
  · replace hv : v = 0 := by
      rcases hv with z | ⟨c0, q0, hv, hc, hq⟩
      · exact z
      · exact absurd (gt0 hv (by omega)) c3
    subst hv
    refine r_iconst B dX9_bitsOf_6 ?_
    exact r_iret B hr hlk dX9_bitsOf_7 (Nat.le_of_ble_eq_true rfl) (Nat.le_of_ble_eq_true rfl) ⟨(by decide +kernel), rfl⟩
