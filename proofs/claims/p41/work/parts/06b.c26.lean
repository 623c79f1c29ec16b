abbrev rmX0_become : Room := { frames := 1, cells := 0, slots := 0, locals := 40 }
theorem in_X0_become_X2 : ∀ w ∈ wsX20, w ∈ wsX0_become := by decide +kernel
theorem w_X0_become_f33 : Cond.fieldLink RX0 33 "DeltaNights$ChunkRow" "count" "I" ∈ wsX0_become := by decide +kernel
theorem in_X0_become_X0 : ∀ w ∈ wsX00, w ∈ wsX0_become := by decide +kernel
theorem w_X0_become_f18 : Cond.fieldLink RX0 18 "DeltaNights$ByteFile" "size" "I" ∈ wsX0_become := by decide +kernel
theorem w_X0_become_f9 : Cond.fieldLink RX0 9 "DeltaNights$ByteFile" "cells" "[I" ∈ wsX0_become := by decide +kernel
set_option maxHeartbeats 4000000 in
set_option maxRecDepth 100000 in
theorem ct_X0_become (l : Launch) (g : GG) (sz0 : Nat) {hZ : AH} {f ac ae : Nat} {G Eg : Int → Int} {sz pt : Int} (hF0 : FL g f ac ae G Eg sz pt hZ hZ) {r ra : Nat} {fq : Int → Option Nat} {K : Int → Nat} {cn : Int} (hR20 : RW g r ra fq K cn hZ) {CA : Nat → Nat} {PV : Nat → Option Nat} {CF : Nat → Int → Int} {CN : Nat → Int} (hK0 : RK g CA PV CF CN K cn hZ) {D : Int → Int} (hD : lieP CF CN K cn D) (hT : sumZ (fun j => CN (K j)) cn.toNat ≤ 48) (hne : ∀ j : Int, 0 ≤ j → j < cn → CA (K j) ≠ ac ∧ CA (K j) ≠ ae) (hDr : ∀ i, -2147483648 ≤ D i ∧ D i < 2147483648)  : CT l yX0_become wsX0_become rmX0_become g sz0 [.ref f, .ref r] hZ (fun v h' => v = some (.int (iI (sumZ (fun q => bI (sz ≤ q ∨ ¬ G q = D q)) (sumZ (fun j => CN (K j)) cn.toNat).toNat + mxZ (sz - sumZ (fun j => CN (K j)) cn.toNat) 0))) ∧ FL g f ac ae (ovF G D (sumZ (fun j => CN (K j)) cn.toNat)) Eg (sumZ (fun j => CN (K j)) cn.toNat) pt hZ h') := by
  refine CT.of (by decide +kernel) rfl [some (.ref f), some (.ref r), none, none, none, none, none, none] rfl (Nat.le_of_ble_eq_true rfl) ?_
  intro p e s m args below meth c B hr hlk hnm
  have hs9 := hF0.s
  have hn9 := hR20.2.2.1
  have hF := hF0
  have hnn : ∀ k : Int, 0 ≤ k → k < ((cn.toNat : Nat) : Int) → 0 ≤ (fun j => CN (K j)) k := fun k k0 k1 => (hK0 k k0 (by omega)).2.2.1.1
  have hT0 := sumZ_nn hnn
  refine r_iconst B dX0_become_0 ?_
  refine r_istore_n B dX0_become_1 rfl (by decide) (lcat_v rfl rfl) ?_
  refine r_iconst B dX0_become_2 ?_
  refine r_istore_n B dX0_become_3 rfl (by decide) (lcat_v rfl rfl) ?_
  refine r_iconst B dX0_become_4 ?_
  refine r_istore B dX0_become_5 (by decide) (lcat_v rfl rfl) ?_
  have loop7 : ∀ (nn : Nat) (q : Int) (u : Int) (w : Int) (h : AH), FL g f ac ae (ovF G D u) Eg sz pt hZ h → (0 ≤ q ∧ q ≤ cn) → (u = sumZ (fun j => CN (K j)) q.toNat) → (w = sumZ (fun q => bI (sz ≤ q ∨ ¬ G q = D q)) u.toNat) → (0 ≤ u ∧ u ≤ 48 ∧ 0 ≤ w ∧ w ≤ u) → (cn - q).toNat < nn → WA p l e rmX0_become s m args below meth c g sz0 8 (MQ below (QQ g sz0 (fun v h' => v = some (.int (iI (sumZ (fun q => bI (sz ≤ q ∨ ¬ G q = D q)) (sumZ (fun j => CN (K j)) cn.toNat).toNat + mxZ (sz - sumZ (fun j => CN (K j)) cn.toNat) 0))) ∧ FL g f ac ae (ovF G D (sumZ (fun j => CN (K j)) cn.toNat)) Eg (sumZ (fun j => CN (K j)) cn.toNat) pt hZ h')) args s rmX0_become.cells rmX0_become.slots (A0 sz0)) h 0 0 [some (.ref f), some (.ref r), some (.int (iI (w))), some (.int (iI (u))), some (.int (iI (q))), none, none, none] 7 [] := by
    intro nn
    induction nn with
    | zero => intro q u w h hF i1 i2 i3 i4 hn; exact absurd hn (Nat.not_lt_zero _)
    | succ nn ih =>
      intro q u w h hF i1 i2 i3 i4 hn
      refine r_iload B dX0_become_7 rfl ?_
      refine r_aload_n B dX0_become_9 rfl rfl ?_
      have hR2 := hF.mvR hF0 hR20
      refine r_get (C := RX2) (T := TX2) (N := 2) (ci := 2) B dX0_become_10 in_X0_become_X2 rfl 1 (by decide) w_X0_become_f33 rfl hR2.1 rfl ?_
      refine r_icmp_ge B dX0_become_13 (tgt := 105) (by decide) (by omega) (by omega) (fun c13 => ?_) (fun c13 => ?_)
      · have hq9 : q = cn := by omega
        subst hq9
        subst i2
        refine r_iload_n B dX0_become_105 rfl ?_
        refine r_aload_n B dX0_become_106 rfl rfl ?_
        refine r_get (C := RX0) (T := TX0) (N := 4) (ci := 0) B dX0_become_107 in_X0_become_X0 rfl 2 (by decide) w_X0_become_f18 rfl hF.1 rfl ?_
        refine r_iload_n B dX0_become_110 rfl ?_
        refine r_isub B dX0_become_111 ?_
        refine r_iconst B dX0_become_112 ?_
        refine r_mmax B dX0_become_113 (by decide +kernel) (by decide +kernel) (by decide +kernel) (by decide +kernel) (by omega) (by omega) (Nat.le_of_ble_eq_true rfl) (Nat.le_of_ble_eq_true rfl) (Nat.le_of_ble_eq_true rfl) (Nat.le_of_ble_eq_true rfl) ?_
        refine r_iadd B dX0_become_116 ?_
        refine r_istore_n B dX0_become_117 rfl (by decide) (lcat_v rfl rfl) ?_
        refine r_aload_n B dX0_become_118 rfl rfl ?_
        refine r_iload_n B dX0_become_119 rfl ?_
        refine r_put (C := RX0) (T := TX0) (N := 4) (ci := 0) B dX0_become_120 in_X0_become_X0 tyX0 tyX0_ok nmX0 rfl 2 (by decide) w_X0_become_f18 rfl rfl (ty := .int) (by decide +kernel) rfl rfl hF.1 (by show 2 < 4; decide) ?_
        refine k_next (P := FL g f ac ae (ovF G D (sumZ (fun j => CN (K j)) q.toNat)) Eg (sumZ (fun j => CN (K j)) q.toNat) pt hZ) (hF.siz (by omega)) (fun h hF => ?_)
        refine r_iload_n B dX0_become_123 rfl ?_
        exact r_iret B hr hlk dX0_become_124 (Nat.le_of_ble_eq_true rfl) (Nat.le_of_ble_eq_true rfl) ⟨by rw [i3], hF⟩
      · have hck := hF.mvC hF0 (hK0 q i1.1 (by omega)) (hne q i1.1 (by omega)).1 (hne q i1.1 (by omega)).2
        have hc9 := hck.2.2.1
        have hm9 := sumZ_mono (f := (fun j => CN (K j))) (m := (q + 1).toNat) (n := cn.toNat) (by omega) hnn
        rw [sumZ_s _ i1.1] at hm9
        replace hm9 : sumZ (fun j => CN (K j)) q.toNat + CN (K q) ≤ sumZ (fun j => CN (K j)) cn.toNat := hm9
        refine r_aload_n B dX0_become_16 rfl rfl ?_
        refine r_iload B dX0_become_17 rfl ?_
        refine r_callV (n := 1) B dX0_become_19 (ct_X2_chunkAt l g sz0 hR2 _ (by omega)) gX0_become_X2_chunkAt rfl (by decide +kernel) ⟨Nat.le_of_ble_eq_true rfl, Nat.le_of_ble_eq_true rfl⟩ hR2.1 rfl rfl rfl (Nat.le_of_ble_eq_true rfl) (Nat.le_of_ble_eq_true rfl) (Nat.le_of_ble_eq_true rfl) (fun v h' hp => ?_)
        obtain ⟨hv, hh⟩ := hp
        subst v
        subst h'
        dsimp only [Option.toList, List.cons_append, List.nil_append]
        refine r_astore B dX0_become_22 rfl (by decide) (lcat_v rfl rfl) ?_
        refine r_iconst B dX0_become_24 ?_
        refine r_istore B dX0_become_25 (by decide) (lcat_v rfl rfl) ?_
        have loop27 : ∀ (nn : Nat) (k : Int) (u : Int) (w : Int) (h : AH), FL g f ac ae (ovF G D u) Eg sz pt hZ h → (0 ≤ k ∧ k ≤ CN (K q)) → (u = sumZ (fun j => CN (K j)) q.toNat + k) → (w = sumZ (fun q => bI (sz ≤ q ∨ ¬ G q = D q)) u.toNat) → (0 ≤ u ∧ u ≤ 48 ∧ 0 ≤ w ∧ w ≤ u) → (CN (K q) - k).toNat < nn → WA p l e rmX0_become s m args below meth c g sz0 8 (MQ below (QQ g sz0 (fun v h' => v = some (.int (iI (sumZ (fun q => bI (sz ≤ q ∨ ¬ G q = D q)) (sumZ (fun j => CN (K j)) cn.toNat).toNat + mxZ (sz - sumZ (fun j => CN (K j)) cn.toNat) 0))) ∧ FL g f ac ae (ovF G D (sumZ (fun j => CN (K j)) cn.toNat)) Eg (sumZ (fun j => CN (K j)) cn.toNat) pt hZ h')) args s rmX0_become.cells rmX0_become.slots (A0 sz0)) h 0 0 [some (.ref f), some (.ref r), some (.int (iI (w))), some (.int (iI (u))), some (.int (iI (q))), some (.ref (K q)), some (.int (iI (k))), none] 27 [] := by
          intro nn
          induction nn with
          | zero => intro k u w h hF j1 j2 j4 j3 hn; exact absurd hn (Nat.not_lt_zero _)
          | succ nn ih2 =>
            intro k u w h hF j1 j2 j4 j3 hn
            refine r_aload B dX0_become_27 rfl rfl ?_
            have hck := hF.mvC hF0 (hK0 q i1.1 (by omega)) (hne q i1.1 (by omega)).1 (hne q i1.1 (by omega)).2
            refine r_ifnull_r B dX0_become_29 ?_
            refine r_iload B dX0_become_32 rfl ?_
            refine r_aload B dX0_become_34 rfl rfl ?_
            refine r_callV (n := 0) B dX0_become_36 (ct_X1_size l g sz0 hck) gX0_become_X1_size rfl (by decide +kernel) ⟨Nat.le_of_ble_eq_true rfl, Nat.le_of_ble_eq_true rfl⟩ hck.1 rfl rfl rfl (Nat.le_of_ble_eq_true rfl) (Nat.le_of_ble_eq_true rfl) (Nat.le_of_ble_eq_true rfl) (fun v h' hp => ?_)
            obtain ⟨hv, hh⟩ := hp
            subst v
            subst h'
            dsimp only [Option.toList, List.cons_append, List.nil_append]
            refine r_icmp_ge B dX0_become_39 (tgt := 99) (by decide) (by omega) (by omega) (fun c39 => ?_) (fun c39 => ?_)
            · refine r_iinc B dX0_become_99 rfl (by decide) (lcat_v rfl rfl) ?_
              refine r_goto B dX0_become_102 (tgt := 7) (by decide) ?_
              have hu9 : u = sumZ (fun j => CN (K j)) (q + 1).toNat := by
                rw [sumZ_s _ i1.1]
                show u = sumZ (fun j => CN (K j)) q.toNat + CN (K q)
                omega
              exact r_lv (lvLe_s rfl (lvLe_s rfl (lvLe_s rfl (lvLe_s rfl (lvLe_s rfl (lvLe_n (lvLe_n (lvLe_n lvLe_nil)))))))) (ih (q + 1) _ _ h hF (by omega) hu9 j4 (by omega) (by omega))
            · refine r_iload_n B dX0_become_42 rfl ?_
              refine r_aload_n B dX0_become_43 rfl rfl ?_
              refine r_get (C := RX0) (T := TX0) (N := 4) (ci := 0) B dX0_become_44 in_X0_become_X0 rfl 0 (by decide) w_X0_become_f9 rfl hF.1 rfl ?_
              refine r_alen_i B dX0_become_47 hF.2.1 ?_
              refine r_icmp_ge B dX0_become_48 (tgt := 99) (by decide) (by omega) (by omega) (fun c48 => ?_) (fun c48 => ?_)
              · exfalso; omega
              · refine r_aload B dX0_become_51 rfl rfl ?_
                refine r_iload B dX0_become_53 rfl ?_
                refine r_callV (n := 1) B dX0_become_55 (ct_X1_byteAt l g sz0 hck _ (by omega)) gX0_become_X1_byteAt rfl (by decide +kernel) ⟨Nat.le_of_ble_eq_true rfl, Nat.le_of_ble_eq_true rfl⟩ hck.1 rfl rfl rfl (Nat.le_of_ble_eq_true rfl) (Nat.le_of_ble_eq_true rfl) (Nat.le_of_ble_eq_true rfl) (fun v h' hp => ?_)
                obtain ⟨hv, hh⟩ := hp
                subst v
                subst h'
                dsimp only [Option.toList, List.cons_append, List.nil_append]
                have hby : CF (K q) k = D u := by rw [j2]; exact hD q i1.1 (by omega) k j1.1 (by omega)
                rw [hby]
                have hD9 := hDr u
                refine r_istore B dX0_become_58 (by decide) (lcat_v rfl rfl) ?_
                have join82 : ∀ (w2 : Int), (w2 = sumZ (fun q => bI (sz ≤ q ∨ ¬ G q = D q)) (u + 1).toNat) → (0 ≤ w2 ∧ w2 ≤ u + 1) → WA p l e rmX0_become s m args below meth c g sz0 8 (MQ below (QQ g sz0 (fun v h' => v = some (.int (iI (sumZ (fun q => bI (sz ≤ q ∨ ¬ G q = D q)) (sumZ (fun j => CN (K j)) cn.toNat).toNat + mxZ (sz - sumZ (fun j => CN (K j)) cn.toNat) 0))) ∧ FL g f ac ae (ovF G D (sumZ (fun j => CN (K j)) cn.toNat)) Eg (sumZ (fun j => CN (K j)) cn.toNat) pt hZ h')) args s rmX0_become.cells rmX0_become.slots (A0 sz0)) h 0 0 [some (.ref f), some (.ref r), some (.int (iI (w2))), some (.int (iI (u))), some (.int (iI (q))), some (.ref (K q)), some (.int (iI (k))), some (.int (iI (D u)))] 82 [] := by
                  intro w2 hw9 hw8
                  refine r_aload_n B dX0_become_82 rfl rfl ?_
                  refine r_get (C := RX0) (T := TX0) (N := 4) (ci := 0) B dX0_become_83 in_X0_become_X0 rfl 0 (by decide) w_X0_become_f9 rfl hF.1 rfl ?_
                  refine r_iload_n B dX0_become_86 rfl ?_
                  refine r_iload B dX0_become_87 rfl ?_
                  refine r_iast B dX0_become_89 hF.2.1 (by decide) (by omega) (by omega) ?_
                  refine k_next (P := FL g f ac ae (upZ (ovF G D u) u (D u)) Eg sz pt hZ) (hF.cel (by omega)) (fun h hF => ?_)
                  refine r_iinc B dX0_become_90 rfl (by decide) (lcat_v rfl rfl) ?_
                  refine r_iinc B dX0_become_93 rfl (by decide) (lcat_v rfl rfl) ?_
                  refine r_goto B dX0_become_96 (tgt := 27) (by decide) ?_
                  exact r_lv (lvLe_s rfl (lvLe_s rfl (lvLe_s rfl (lvLe_s rfl (lvLe_s rfl (lvLe_s rfl (lvLe_s rfl (lvLe_n lvLe_nil)))))))) (ih2 (k + 1) (u + 1) _ h (by rw [← ovF_s G D j3.1]; exact hF) (by omega) (by omega) hw9 (by omega) (by omega))
                refine r_iload_n B dX0_become_60 rfl ?_
                refine r_aload_n B dX0_become_61 rfl rfl ?_
                refine r_get (C := RX0) (T := TX0) (N := 4) (ci := 0) B dX0_become_62 in_X0_become_X0 rfl 2 (by decide) w_X0_become_f18 rfl hF.1 rfl ?_
                refine r_icmp_ge B dX0_become_65 (tgt := 79) (by decide) (by omega) (by omega) (fun c65 => ?_) (fun c65 => ?_)
                · refine r_iinc B dX0_become_79 rfl (by decide) (lcat_v rfl rfl) ?_
                  exact r_lv (lvLe_s rfl (lvLe_s rfl (lvLe_s rfl (lvLe_s rfl (lvLe_s rfl (lvLe_s rfl (lvLe_s rfl (lvLe_s rfl lvLe_nil)))))))) (join82 _ (by rw [sumZ_s _ j3.1, bI_t (show sz ≤ u ∨ ¬ G u = D u from Or.inl c65), j4]) (by omega))
                · refine r_aload_n B dX0_become_68 rfl rfl ?_
                  refine r_get (C := RX0) (T := TX0) (N := 4) (ci := 0) B dX0_become_69 in_X0_become_X0 rfl 0 (by decide) w_X0_become_f9 rfl hF.1 rfl ?_
                  refine r_iload_n B dX0_become_72 rfl ?_
                  refine r_iald B dX0_become_73 hF.2.1 (by decide) (by omega) (by omega) ?_
                  refine r_iload B dX0_become_74 rfl ?_
                  refine r_icmp_eq B dX0_become_76 (tgt := 82) (by decide) (hF.r _) (by omega) (fun c76 => ?_) (fun c76 => ?_)
                  · exact r_lv (lvLe_s rfl (lvLe_s rfl (lvLe_s rfl (lvLe_s rfl (lvLe_s rfl (lvLe_s rfl (lvLe_s rfl (lvLe_s rfl lvLe_nil)))))))) (join82 _ (by rw [sumZ_s _ j3.1, bI_f (show ¬ (sz ≤ u ∨ ¬ G u = D u) from fun y => by rw [ovF_hi (by omega)] at c76; omega), j4]; omega) (by omega))
                  · refine r_iinc B dX0_become_79 rfl (by decide) (lcat_v rfl rfl) ?_
                    exact r_lv (lvLe_s rfl (lvLe_s rfl (lvLe_s rfl (lvLe_s rfl (lvLe_s rfl (lvLe_s rfl (lvLe_s rfl (lvLe_s rfl lvLe_nil)))))))) (join82 _ (by rw [sumZ_s _ j3.1, bI_t (show sz ≤ u ∨ ¬ G u = D u from Or.inr (by rw [ovF_hi (by omega)] at c76; exact c76)), j4]) (by omega))
        exact r_lv (lvLe_s rfl (lvLe_s rfl (lvLe_s rfl (lvLe_s rfl (lvLe_s rfl (lvLe_s rfl (lvLe_s rfl (lvLe_n lvLe_nil)))))))) (loop27 _ 0 _ _ h hF (by omega) (by omega) i3 (by omega) (Nat.lt_succ_self _))
  exact r_lv (lvLe_s rfl (lvLe_s rfl (lvLe_s rfl (lvLe_s rfl (lvLe_s rfl (lvLe_n (lvLe_n (lvLe_n lvLe_nil)))))))) (loop7 _ 0 0 0 hZ (by rw [ovF_0]; exact hF) (by omega) rfl rfl (by omega) (Nat.lt_succ_self _))
