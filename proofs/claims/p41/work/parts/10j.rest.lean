set_option maxHeartbeats 8000000 in
set_option maxRecDepth 100000 in
theorem law_rest {p : Program} {l : Launch} {e : Env} {s : State} {m : MethodId} {args : Array Value} {below : List Frame} {meth : Method} {c : Code} {Q : State → Prop} {g : GG} {sz0 : Nat} {A : Nat → Nat} {Z : Nat → Prop} {od ob oc op oo bs : Nat} {h : AH} {mnights mbits mleast mmost mroom mreserve mmount mspeed : Int} {mdata msize mends mmany mkind mchain mholds mbid mbound mcheap mpromised mcoin mpaid mowed : Int → Int} {D : Nat → Int64} {Fb Fc Fp Fo : Int → Int} {cells slots : Nat} {tn tu y de cl : Int} {xv : Int32} (hl0 : l.stackTraces = false) (B : FX p s m args c cL_law RL wsL_law 29 g sz0) (hL : LY A Z od ob oc op oo) (hT : ST g A Z h mdata msize mends mmany mkind mchain mholds mnights mbits mleast mmost mroom mreserve mmount mspeed mbid mbound mcheap mpromised mcoin mpaid mowed h) (hG : RGm mnights mbits mleast mmost mroom mreserve mmount mspeed msize mbid mbound mcheap mpromised mcoin mpaid mowed) (hAR : AR g od ob oc op oo D Fb Fc Fp Fo h) (hD : DGI D mdata msize mkind mnights) (hFE : FE Fb Fc Fp Fo mbid mcoin mpaid mowed) (hn16 : mnights ≤ 16) (y0 : 0 ≤ y ∧ y ≤ 268435455) (d0 : 0 ≤ de ∧ de ≤ 15) (c0 : 0 ≤ cl ∧ cl ≤ 3) (hc1 : cells + 1000 ≤ 683647) (hc2 : slots + 14000 ≤ 7050684) (kont : ∀ (h' : AH) (ng ls ms mo sp rm rs : Int), JL g A Z od ob oc op oo ng ls ms mo sp rm rs h' → WA p l e room_1 s m args below meth c g sz0 29 Q h' (cells + 600) (slots + 12000) [some (.ref bs), some (.ref (A 0)), some (.ref od), some (.ref ob), some (.ref oc), some (.ref op), some (.ref oo), some (.int (iI ls)), some (.int (iI ms)), some (.int (iI mo)), some (.int (iI sp)), some (.int (iI rm)), some (.int (iI rs)), some (.int (iI 1)), some (.int (iI tu)), some (.int (iI tn)), none, some (.int (iI y)), none, some (.int (iI cl)), none, none, none, none, none, none, none, none, none] 1445 []) : WA p l e room_1 s m args below meth c g sz0 29 Q h cells slots [some (.ref bs), some (.ref (A 0)), some (.ref od), some (.ref ob), some (.ref oc), some (.ref op), some (.ref oo), some (.int (iI mleast)), some (.int (iI mmost)), some (.int (iI mmount)), some (.int (iI mspeed)), some (.int (iI mroom)), some (.int (iI mreserve)), some (.int (iI 1)), some (.int (iI tu)), some (.int (iI tn)), some (.int xv), some (.int (iI y)), some (.int (iI de)), some (.int (iI cl)), some (.int (iI (msize (240 + cl)))), some (.int (iI mnights)), none, none, none, none, none, none, none] 971 [] := by
  obtain ⟨fs0, hro⟩ := hT.ro
  have hmz := hG.2.2.2.2.2 (240 + cl) (by omega) (by omega)
  have hNr := hG.1
  have hMK := hG.2.1
  have hNM := hG.2.2.1
  have hSP := hG.2.2.2.1
  refine r_iload B dL_law_971 rfl ?_
  refine r_bipush B dL_law_973 (by decide) ?_
  refine r_icmp_ne B dL_law_975 (tgt := 1099) (by decide) (by omega) (by omega) (fun c975 => ?_) (fun c975 => ?_)
  · exact law_night hl0 B hL hT hG hAR hD hFE hn16 y0 d0 c0 hc1 hc2 kont
  · refine r_iload B dL_law_978 rfl ?_
    refine r_if_le B dL_law_980 (tgt := 1099) (by decide) (by omega) (fun c980 => ?_) (fun c980 => ?_)
    · exact law_night hl0 B hL hT hG hAR hD hFE hn16 y0 d0 c0 hc1 hc2 kont
    · refine r_iload B dL_law_983 rfl ?_
      refine r_bipush B dL_law_985 (by decide) ?_
      refine r_iand B dL_law_987 ?_
      refine r_anz (by omega) (fun z987 e987 z987a z987b => ?_)
      refine r_if_ne B dL_law_988 (tgt := 1099) (by decide) (by omega) (fun c988 => ?_) (fun c988 => ?_)
      · exact law_night hl0 B hL hT hG hAR hD hFE hn16 y0 d0 c0 hc1 hc2 kont
      · refine r_iload B dL_law_991 rfl ?_
        refine r_iconst B dL_law_993 ?_
        refine r_ishr B dL_law_994 ?_
        refine r_shz 4 (by decide +kernel) (by omega) (fun z994 e994 z994a z994b => ?_)
        refine r_iload B dL_law_995 rfl ?_
        refine r_irem B dL_law_997 (iI_nz (by omega)) ?_
        refine r_rmz (by omega) (by omega) (fun z997 e997 z997a z997b => ?_)
        refine r_istore B dL_law_998 (by decide) (lcat_v rfl rfl) ?_
        refine r_aload_n B dL_law_1000 rfl rfl ?_
        refine r_iload B dL_law_1001 rfl ?_
        refine r_iload B dL_law_1003 rfl ?_
        refine r_callVX (n := 2) B dL_law_1005 (ct_X9_got l g sz0 hL.1 hT hG (cl) (z997) hl0 (by omega) (by omega)) gL_law_X9_got rfl (by decide +kernel) ⟨Nat.le_of_ble_eq_true rfl, Nat.le_of_ble_eq_true rfl⟩ hro rfl rfl rfl (Nat.le_of_ble_eq_true rfl) (by show cells + 2 ≤ 683647; omega) (by show slots + 12 ≤ 7050684; omega) (fun E h' hp => False.elim ?_) (fun v h hp => ?_)
        · obtain ⟨hp, -⟩ := hp
          rcases hp with ⟨-, e9⟩ | ⟨-, e9⟩
          · unfold tNi at e9; (repeat' (split at e9)) <;> omega
          · unfold tNi at e9; (repeat' (split at e9)) <;> omega
        obtain ⟨ht0, hv, hST⟩ := hp
        subst v
        have hAR := hAR.fr hL hST.fr
        have hT := hST.base
        obtain ⟨fs0, hro⟩ := hT.ro
        dsimp only [Option.toList, List.cons_append, List.nil_append]
        have hsn := hG.2.2.2.2.2 (60 * cl + z997) (by omega) (by omega)
        have hkr : 0 ≤ mkind (60 * cl + z997) ∧ mkind (60 * cl + z997) ≤ 2 := by
          by_cases w : mkind (60 * cl + z997) = 0
          · omega
          · have := (hT.day hNr c0 ⟨z997a, z997b⟩ w).1
            omega
        refine r_istore B dL_law_1008 (by decide) (lcat_v rfl rfl) ?_
        refine r_aload_n B dL_law_1010 rfl rfl ?_
        refine r_iconst B dL_law_1011 ?_
        refine r_iload B dL_law_1012 rfl ?_
        refine r_iload B dL_law_1014 rfl ?_
        refine r_callSW (n := 4) B dL_law_1016 (ct_L_on_5 l g sz0 hL.1 hT hG (cl) (z997) hl0 (by omega) (by omega) c0 ⟨z997a, z997b⟩) gL_law_L_on rfl (by decide +kernel) ⟨Nat.le_of_ble_eq_true rfl, Nat.le_of_ble_eq_true rfl⟩ rfl rfl (Nat.le_of_ble_eq_true rfl) (by show cells + 2 + 4 ≤ 683647; omega) (by show slots + 12 + 24 ≤ 7050684; omega) (fun v h2 hp => ?_)
        obtain ⟨td, dd9, ss9, hv, hST, htd⟩ : ∃ (td : Int) (dd9 ss9 : Int → Int), v = some (.int (iI td)) ∧ ST g A Z h dd9 ss9 mends mmany mkind mchain mholds mnights mbits mleast mmost mroom mreserve mmount mspeed mbid mbound mcheap mpromised mcoin mpaid mowed h2 ∧ ((mkind (60 * cl + z997) = 0 ∧ td = -13 ∧ dd9 = mdata ∧ ss9 = msize) ∨ (¬ mkind (60 * cl + z997) = 0 ∧ (0 ≤ td ∧ td ≤ 48) ∧ dd9 = cpyF mdata (48 * (240 + cl)) (48 * (60 * cl + z997)) (msize (60 * cl + z997)) ∧ ss9 = upZ msize (240 + cl) (msize (60 * cl + z997)))) := by
          rcases hp with ⟨a1, a2, a3⟩ | ⟨a1, a2, a3⟩
          · exact ⟨_, _, _, a2, a3, Or.inl ⟨a1, rfl, rfl, rfl⟩⟩
          · exact ⟨_, _, _, a2, a3, Or.inr ⟨a1, sum_bI 48, rfl, rfl⟩⟩
        subst v
        have hAR := hAR.fr hL hST.fr
        have hT := hST.base
        obtain ⟨fs0, hro⟩ := hT.ro
        have hD0 := hD
        have hD : DGI D dd9 ss9 mkind mnights := by
          rcases htd with ⟨-, -, e1, e2⟩ | ⟨-, -, e1, e2⟩
          · rw [e1, e2]; exact hD0
          · rw [e1, e2]
            exact hD0.file hG.2.2.2.2.2 (by omega) (fun i i0 i1 => by unfold cpyF; rw [if_neg (by omega)]) (fun r r0 r1 => upZ_ne _ _ (by omega))
        have hG : RGm mnights mbits mleast mmost mroom mreserve mmount mspeed ss9 mbid mbound mcheap mpromised mcoin mpaid mowed := by
          rcases htd with ⟨-, -, e1, e2⟩ | ⟨-, -, e1, e2⟩
          · rw [e2]; exact hG
          · rw [e2]; exact hG.size (x := cl) hsn
        dsimp only [Option.toList, List.cons_append, List.nil_append]
        refine r_istore B dL_law_1019 (by decide) (lcat_v rfl rfl) ?_
        refine r_iload B dL_law_1021 rfl ?_
        refine r_if_ne B dL_law_1023 (tgt := 1052) (by decide) (by omega) (fun c1023 => ?_) (fun c1023 => ?_)
        · obtain ⟨k1, k2, k3, k4⟩ := htd.elim (fun w => absurd w.1 (show ¬ mkind (60 * cl + z997) = 0 by omega)) (fun w => w)
          have he1 : ss9 (240 + cl) = msize (60 * cl + z997) := by rw [k4, upZ_at]
          have he2 : ss9 (60 * cl + z997) = msize (60 * cl + z997) := by rw [k4, upZ_ne _ _ (by omega)]
          have hdg : dig (rowF dd9 (240 + cl)) (ss9 (240 + cl)).toNat = D (16 * cl + z997).toNat := by
            rw [he1, k3, hD0 cl z997 c0 ⟨z997a, z997b⟩ k1]
            exact dig_congr (fun q q0 q1 => by unfold rowF cpyF; rw [if_pos (by omega)]; congr 1; omega)
          have hss : ∀ j : Int, 0 ≤ j → j < 48 → ¬ (((j < ss9 (240 + cl)) ↔ ¬ (j < ss9 (60 * cl + z997))) ∨ (j < ss9 (60 * cl + z997) ∧ ¬ dd9 (48 * (240 + cl) + j) = dd9 (48 * (60 * cl + z997) + j))) := fun j j0 j1 w => by
            rw [he1, he2] at w
            rcases w with w | w
            · by_cases z : j < msize (60 * cl + z997)
              · exact (w.mp z) z
              · exact z (w.mpr z)
            · refine w.2 ?_
              rw [k3]
              unfold cpyF
              rw [if_pos (by omega), if_neg (by omega)]
              congr 1
              omega
          refine r_iload B dL_law_1052 rfl ?_
          refine r_if_lt B dL_law_1054 (tgt := 1093) (by decide) (by omega) (fun c1054 => ?_) (fun c1054 => ?_)
          · exfalso; omega
          · refine r_aload_n B dL_law_1057 rfl rfl ?_
            refine r_iload B dL_law_1058 rfl ?_
            refine r_callVX (n := 1) B dL_law_1060 (ct_X9_digest l g sz0 hL.1 hT hG (cl) hl0 (by omega)) gL_law_X9_digest rfl (by decide +kernel) ⟨Nat.le_of_ble_eq_true rfl, Nat.le_of_ble_eq_true rfl⟩ hro rfl rfl rfl (Nat.le_of_ble_eq_true rfl) (by show cells + 2 + 4 + 1 ≤ 683647; omega) (by show slots + 12 + 24 + 6 ≤ 7050684; omega) (fun E h' hp => False.elim ?_) (fun v h hp => ?_)
            · obtain ⟨hp, -⟩ := hp
              have e9 := hp.2
              unfold tCl at e9; (repeat' (split at e9)) <;> omega
            obtain ⟨ht0, hv, hST⟩ := hp
            subst v
            have hAR := hAR.fr hL hST.fr
            have hT := hST.base
            obtain ⟨fs0, hro⟩ := hT.ro
            dsimp only [Option.toList, List.cons_append, List.nil_append]
            refine r_aload_n B dL_law_1063 rfl rfl ?_
            refine r_bipush B dL_law_1064 (by decide) ?_
            refine r_iload B dL_law_1066 rfl ?_
            refine r_imul B dL_law_1068 ?_
            refine r_iload B dL_law_1069 rfl ?_
            refine r_iadd B dL_law_1071 ?_
            refine r_lald B dL_law_1072 hAR.1 (by decide) (by omega) (by show 16 * cl + z997 < 64; omega) ?_
            refine r_lcmp B dL_law_1073 ?_
            refine r_ifr_ne B dL_law_1074 (tgt := 1093) (by decide) (fun c1074 => ?_) (fun c1074 => ?_)
            · exact absurd (lcmp_same hdg) c1074
            · refine r_aload_n B dL_law_1077 rfl rfl ?_
              refine r_iconst B dL_law_1078 ?_
              refine r_iload B dL_law_1079 rfl ?_
              refine r_iload B dL_law_1081 rfl ?_
              refine r_callSW (n := 4) B dL_law_1083 (ct_L_on_5 l g sz0 hL.1 hT hG (cl) (z997) hl0 (by omega) (by omega) c0 ⟨z997a, z997b⟩) gL_law_L_on rfl (by decide +kernel) ⟨Nat.le_of_ble_eq_true rfl, Nat.le_of_ble_eq_true rfl⟩ rfl rfl (Nat.le_of_ble_eq_true rfl) (by show cells + 2 + 4 + 1 + 4 ≤ 683647; omega) (by show slots + 12 + 24 + 6 + 24 ≤ 7050684; omega) (fun v h3 hp => ?_)
              obtain ⟨dd8, ss8, hv, hST, e1, e2⟩ : ∃ (dd8 ss8 : Int → Int), v = some (.int (iI 0)) ∧ ST g A Z h dd8 ss8 mends mmany mkind mchain mholds mnights mbits mleast mmost mroom mreserve mmount mspeed mbid mbound mcheap mpromised mcoin mpaid mowed h3 ∧ dd8 = cpyF dd9 (48 * (240 + cl)) (48 * (60 * cl + z997)) (ss9 (60 * cl + z997)) ∧ ss8 = upZ ss9 (240 + cl) (ss9 (60 * cl + z997)) := by
                rcases hp with ⟨a1, a2, a3⟩ | ⟨a1, a2, a3⟩
                · exact absurd a1 k1
                · rw [sumZ_00 (fun j j0 j1 => bI_f (hss j j0 (by omega)))] at a2
                  exact ⟨_, _, a2, a3, rfl, rfl⟩
              subst v
              have hAR := hAR.fr hL hST.fr
              have hT := hST.base
              obtain ⟨fs0, hro⟩ := hT.ro
              have hD : DGI D dd8 ss8 mkind mnights := by
                rw [e1, e2]
                exact hD.file hG.2.2.2.2.2 (by omega) (fun i i0 i1 => by unfold cpyF; rw [if_neg (by omega)]) (fun r r0 r1 => upZ_ne _ _ (by omega))
              have hG : RGm mnights mbits mleast mmost mroom mreserve mmount mspeed ss8 mbid mbound mcheap mpromised mcoin mpaid mowed := by
                rw [e2]
                exact hG.size (x := cl) (hG.2.2.2.2.2 (60 * cl + z997) (by omega) (by omega))
              dsimp only [Option.toList, List.cons_append, List.nil_append]
              refine r_if_ne B dL_law_1086 (tgt := 1093) (by decide) (by omega) (fun c1086 => ?_) (fun c1086 => ?_)
              · exact absurd c1086 (by decide)
              · refine r_iconst B dL_law_1089 ?_
                refine r_goto B dL_law_1090 (tgt := 1094) (by decide) ?_
                refine r_istore B dL_law_1094 (by decide) (lcat_v rfl rfl) ?_
                refine r_goto B dL_law_1096 (tgt := 1445) (by decide) ?_
                refine r_widen (k := cells + 600) (n := slots + 12000) (by show cells + 2 + 4 + 1 + 4 ≤ cells + 600; omega) (by show slots + 12 + 24 + 6 + 24 ≤ slots + 12000; omega) ?_
                exact r_lv (lvLe_s rfl (lvLe_s rfl (lvLe_s rfl (lvLe_s rfl (lvLe_s rfl (lvLe_s rfl (lvLe_s rfl (lvLe_s rfl (lvLe_s rfl (lvLe_s rfl (lvLe_s rfl (lvLe_s rfl (lvLe_s rfl (lvLe_s rfl (lvLe_s rfl (lvLe_s rfl (lvLe_n (lvLe_s rfl (lvLe_n (lvLe_s rfl (lvLe_n (lvLe_n (lvLe_n (lvLe_n (lvLe_n (lvLe_n (lvLe_n (lvLe_n (lvLe_n lvLe_nil))))))))))))))))))))))))))))) (kont _ _ _ _ _ _ _ _ ⟨_, _, _, _, _, _, _, _, _, _, _, _, _, _, _, _, _, _, _, _, hT, hG, hAR, hD, hFE, by omega⟩)
        · obtain ⟨k1, k2, k3, k4⟩ := htd.elim (fun w => w) (fun w => absurd (show mkind (60 * cl + z997) = 0 by omega) w.1)
          have hs9 := hG.2.2.2.2.2 (240 + cl) (by omega) (by omega)
          refine r_iload B dL_law_1026 rfl ?_
          refine r_bipush B dL_law_1028 (by decide) ?_
          refine r_icmp_ne B dL_law_1030 (tgt := 1048) (by decide) (by omega) (by omega) (fun c1030 => ?_) (fun c1030 => ?_)
          · exfalso; omega
          · refine r_aload_n B dL_law_1033 rfl rfl ?_
            refine r_iload B dL_law_1034 rfl ?_
            refine r_callVX (n := 1) B dL_law_1036 (ct_X9_length l g sz0 hL.1 hT hG (cl) hl0 (by omega)) gL_law_X9_length rfl (by decide +kernel) ⟨Nat.le_of_ble_eq_true rfl, Nat.le_of_ble_eq_true rfl⟩ hro rfl rfl rfl (Nat.le_of_ble_eq_true rfl) (by show cells + 2 + 4 + 1 ≤ 683647; omega) (by show slots + 12 + 24 + 6 ≤ 7050684; omega) (fun E h' hp => False.elim ?_) (fun v h hp => ?_)
            · obtain ⟨hp, -⟩ := hp
              have e9 := hp.2
              unfold tCl at e9; (repeat' (split at e9)) <;> omega
            obtain ⟨ht0, hv, hST⟩ := hp
            subst v
            have hAR := hAR.fr hL hST.fr
            have hT := hST.base
            obtain ⟨fs0, hro⟩ := hT.ro
            dsimp only [Option.toList, List.cons_append, List.nil_append]
            refine r_iload B dL_law_1039 rfl ?_
            refine r_icmp_ne B dL_law_1041 (tgt := 1048) (by decide) (by omega) (by omega) (fun c1041 => ?_) (fun c1041 => ?_)
            · exact absurd (by rw [k4]) c1041
            · refine r_iconst B dL_law_1044 ?_
              refine r_goto B dL_law_1045 (tgt := 1094) (by decide) ?_
              refine r_istore B dL_law_1094 (by decide) (lcat_v rfl rfl) ?_
              refine r_goto B dL_law_1096 (tgt := 1445) (by decide) ?_
              refine r_widen (k := cells + 600) (n := slots + 12000) (by show cells + 2 + 4 + 1 ≤ cells + 600; omega) (by show slots + 12 + 24 + 6 ≤ slots + 12000; omega) ?_
              exact r_lv (lvLe_s rfl (lvLe_s rfl (lvLe_s rfl (lvLe_s rfl (lvLe_s rfl (lvLe_s rfl (lvLe_s rfl (lvLe_s rfl (lvLe_s rfl (lvLe_s rfl (lvLe_s rfl (lvLe_s rfl (lvLe_s rfl (lvLe_s rfl (lvLe_s rfl (lvLe_s rfl (lvLe_n (lvLe_s rfl (lvLe_n (lvLe_s rfl (lvLe_n (lvLe_n (lvLe_n (lvLe_n (lvLe_n (lvLe_n (lvLe_n (lvLe_n (lvLe_n lvLe_nil))))))))))))))))))))))))))))) (kont _ _ _ _ _ _ _ _ ⟨_, _, _, _, _, _, _, _, _, _, _, _, _, _, _, _, _, _, _, _, hT, hG, hAR, hD, hFE, by omega⟩)
