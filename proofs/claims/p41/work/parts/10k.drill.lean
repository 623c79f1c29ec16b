set_option maxHeartbeats 8000000 in
set_option maxRecDepth 100000 in
theorem law_drill {p : Program} {l : Launch} {e : Env} {s : State} {m : MethodId} {args : Array Value} {below : List Frame} {meth : Method} {c : Code} {Q : State → Prop} {g : GG} {sz0 : Nat} {A : Nat → Nat} {Z : Nat → Prop} {od ob oc op oo bs : Nat} {h : AH} {mnights mbits mleast mmost mroom mreserve mmount mspeed : Int} {mdata msize mends mmany mkind mchain mholds mbid mbound mcheap mpromised mcoin mpaid mowed : Int → Int} {D : Nat → Int64} {Fb Fc Fp Fo : Int → Int} {cells slots : Nat} {tn tu y de cl : Int} {xv : Int32} (hl0 : l.stackTraces = false) (B : FX p s m args c cL_law RL wsL_law 29 g sz0) (hL : LY A Z od ob oc op oo) (hT : ST g A Z h mdata msize mends mmany mkind mchain mholds mnights mbits mleast mmost mroom mreserve mmount mspeed mbid mbound mcheap mpromised mcoin mpaid mowed h) (hG : RGm mnights mbits mleast mmost mroom mreserve mmount mspeed msize mbid mbound mcheap mpromised mcoin mpaid mowed) (hAR : AR g od ob oc op oo D Fb Fc Fp Fo h) (hD : DGI D mdata msize mkind mnights) (hFE : FE Fb Fc Fp Fo mbid mcoin mpaid mowed) (hn16 : mnights ≤ 16) (y0 : 0 ≤ y ∧ y ≤ 268435455) (d0 : 0 ≤ de ∧ de ≤ 15) (c0 : 0 ≤ cl ∧ cl ≤ 3) (hc1 : cells + 1000 ≤ 683647) (hc2 : slots + 14000 ≤ 7050684) (kont : ∀ (h' : AH) (ng ls ms mo sp rm rs : Int), JL g A Z od ob oc op oo ng ls ms mo sp rm rs h' → WA p l e room_1 s m args below meth c g sz0 29 Q h' (cells + 600) (slots + 12000) [some (.ref bs), some (.ref (A 0)), some (.ref od), some (.ref ob), some (.ref oc), some (.ref op), some (.ref oo), some (.int (iI ls)), some (.int (iI ms)), some (.int (iI mo)), some (.int (iI sp)), some (.int (iI rm)), some (.int (iI rs)), some (.int (iI 1)), some (.int (iI tu)), some (.int (iI tn)), none, some (.int (iI y)), none, some (.int (iI cl)), none, none, none, none, none, none, none, none, none] 1445 []) : WA p l e room_1 s m args below meth c g sz0 29 Q h cells slots [some (.ref bs), some (.ref (A 0)), some (.ref od), some (.ref ob), some (.ref oc), some (.ref op), some (.ref oo), some (.int (iI mleast)), some (.int (iI mmost)), some (.int (iI mmount)), some (.int (iI mspeed)), some (.int (iI mroom)), some (.int (iI mreserve)), some (.int (iI 1)), some (.int (iI tu)), some (.int (iI tn)), some (.int xv), some (.int (iI y)), some (.int (iI de)), some (.int (iI cl)), some (.int (iI (msize (240 + cl)))), some (.int (iI mnights)), none, none, none, none, none, none, none] 867 [] := by
  obtain ⟨fs0, hro⟩ := hT.ro
  have hmz := hG.2.2.2.2.2 (240 + cl) (by omega) (by omega)
  have hNr := hG.1
  have hMK := hG.2.1
  have hNM := hG.2.2.1
  have hSP := hG.2.2.2.1
  refine r_iload B dL_law_867 rfl ?_
  refine r_bipush B dL_law_869 (by decide) ?_
  refine r_icmp_ne B dL_law_871 (tgt := 971) (by decide) (by omega) (by omega) (fun c871 => ?_) (fun c871 => ?_)
  · exact law_rest hl0 B hL hT hG hAR hD hFE hn16 y0 d0 c0 hc1 hc2 kont
  · refine r_aload_n B dL_law_874 rfl rfl ?_
    refine r_bipush B dL_law_875 (by decide) ?_
    refine r_iload B dL_law_877 rfl ?_
    refine r_iconst B dL_law_879 ?_
    have hcn := hG.2.2.2.2.1 cl c0.1 c0.2
    have r9 := dfN_rng (colF mkind cl) mnights.toNat
    have hF9 := (hFE cl c0.1 c0.2).2.1
    have hFo := (hFE cl c0.1 c0.2).2.2.2
    have hpay : ¬ (ltN (colF mkind cl) mnights.toNat) = -1 → ∃ u : Int, (0 ≤ u ∧ u ≤ 10001) ∧ amtF (FP.fsub (mnF (mmount * (mntM mdata mends mmany mkind mchain mholds mnights cl (ltN (colF mkind cl) mnights.toNat))) (baseB (rowF mdata (60 * cl + (ltN (colF mkind cl) mnights.toNat))) (rowF mends (60 * cl + (ltN (colF mkind cl) mnights.toNat))) (mmany (60 * cl + (ltN (colF mkind cl) mnights.toNat)))) mspeed) (FP.i2f (iI (mpromised cl)))) (mcoin cl) = u * mcoin cl := fun w => by
      have q9 := ltN_rng (colF mkind cl) mnights.toNat
      have hk := ltN_at (colF mkind cl) mnights.toNat w
      obtain ⟨d1, d2, d3, d4, d5⟩ := hT.day hNr c0 (j := (ltN (colF mkind cl) mnights.toNat)) (by omega) hk
      have hbl := base_le (G := rowF mdata (60 * cl + (ltN (colF mkind cl) mnights.toNat))) d2.1.1 d2.2 d3
      have hz := hG.2.2.2.2.2 (60 * cl + (ltN (colF mkind cl) mnights.toNat)) (by omega) (by omega)
      exact drill_pay ⟨Int.mul_nonneg hSP.1.1 (by omega), Int.le_trans (Int.mul_le_mul hSP.1.2 (show (mntM mdata mends mmany mkind mchain mholds mnights cl (ltN (colF mkind cl) mnights.toNat)) ≤ 30 by omega) (by omega) (by decide)) (by decide)⟩ (by omega) (by omega) hcn.2.2.2.1 hcn.2.2.2.2.1
    refine r_callSW (n := 4) B dL_law_880 (ct_L_on_6 l g sz0 hL.1 hT hG (cl) (0) hl0 (by omega) (by omega) c0) gL_law_L_on rfl (by decide +kernel) ⟨Nat.le_of_ble_eq_true rfl, Nat.le_of_ble_eq_true rfl⟩ rfl rfl (Nat.le_of_ble_eq_true rfl) (by show cells + 2 ≤ 683647; omega) (by show slots + 12 ≤ 7050684; omega) (fun v h2 hp => ?_)
    obtain ⟨td, w9, hv, hST, htd⟩ : ∃ (td : Int) (w9 : Int → Int), v = some (.int (iI td)) ∧ ST g A Z h mdata msize mends mmany mkind mchain mholds mnights mbits mleast mmost mroom mreserve mmount mspeed mbid mbound mcheap mpromised mcoin mpaid w9 h2 ∧ ((td = -13 ∧ dfN (colF mkind cl) mnights.toNat = -1 ∧ w9 = mowed) ∨ ((0 ≤ td ∧ td ≤ 1000100) ∧ (∃ u : Int, td = u * mcoin cl) ∧ w9 = upZ mowed cl (i32z (iI (mowed cl + td))))) := by
      rcases hp with ⟨a1, a2, a3⟩ | ⟨a1, a2, a3⟩
      · exact ⟨_, _, a2, a3, Or.inl ⟨rfl, dfN_neg.mpr a1, rfl⟩⟩
      · obtain ⟨u, hu, eu⟩ := hpay a1
        refine ⟨_, _, a2, a3, Or.inr ⟨?_, ⟨u, eu⟩, rfl⟩⟩
        rw [eu]
        exact ⟨Int.mul_nonneg hu.1 hcn.2.2.2.2.1.1, Int.le_trans (Int.mul_le_mul hu.2 hcn.2.2.2.2.1.2 hcn.2.2.2.2.1.1 (by decide)) (by decide)⟩
    subst v
    have hAR := hAR.fr hL hST.fr
    have hT := hST.base
    obtain ⟨fs0, hro⟩ := hT.ro
    have htc : (td = -13 ∧ dfN (colF mkind cl) mnights.toNat = -1) ∨ (0 ≤ td ∧ td ≤ 1000100) := htd.elim (fun w => Or.inl ⟨w.1, w.2.1⟩) (fun w => Or.inr w.1)
    have htz : ¬ td = -13 → mcoin cl = 0 → td = 0 := fun w1 w2 => by
      rcases htd with ⟨a1, -, -⟩ | ⟨-, ⟨u, hu⟩, -⟩
      · exact absurd a1 w1
      · rw [hu, w2, Int.mul_zero]
    have htm : ¬ td = -13 → td % mcoin cl = 0 := fun w1 => by
      rcases htd with ⟨a1, -, -⟩ | ⟨-, ⟨u, hu⟩, -⟩
      · exact absurd a1 w1
      · rw [hu]; exact Int.mul_emod_left _ _
    have hw1 : td = -13 → w9 = mowed := fun w1 => by
      rcases htd with ⟨-, -, a1⟩ | ⟨a1, -, -⟩
      · exact a1
      · omega
    have hw2 : ¬ td = -13 → w9 = upZ mowed cl (i32z (iI (mowed cl + td))) := fun w1 => by
      rcases htd with ⟨a1, -, -⟩ | ⟨-, -, a1⟩
      · exact absurd a1 w1
      · exact a1
    have hG : RGm mnights mbits mleast mmost mroom mreserve mmount mspeed msize mbid mbound mcheap mpromised mcoin mpaid w9 := hG.cl (x := cl) (fun y9 w0 w1 => ⟨Or.inl rfl, Or.inl rfl, Or.inl rfl, Or.inl rfl, Or.inl rfl, by
      by_cases w : td = -13
      · rw [hw1 w]; exact Or.inl rfl
      · rw [hw2 w]
        unfold upZ
        split
        · exact Or.inr (i32z_rng _)
        · exact Or.inl rfl⟩)
    dsimp only [Option.toList, List.cons_append, List.nil_append]
    refine r_istore B dL_law_883 (by decide) (lcat_v rfl rfl) ?_
    refine r_iload B dL_law_885 rfl ?_
    refine r_bipush B dL_law_887 (by decide) ?_
    have join947 : ∀  (h : AH), (ST g A Z h mdata msize mends mmany mkind mchain mholds mnights mbits mleast mmost mroom mreserve mmount mspeed mbid mbound mcheap mpromised mcoin mpaid w9 h ∧ AR g od ob oc op oo D Fb Fc Fp Fo h) → WA p l e room_1 s m args below meth c g sz0 29 Q h (cells + 3) (slots + 18) [some (.ref bs), some (.ref (A 0)), some (.ref od), some (.ref ob), some (.ref oc), some (.ref op), some (.ref oo), some (.int (iI mleast)), some (.int (iI mmost)), some (.int (iI mmount)), some (.int (iI mspeed)), some (.int (iI mroom)), some (.int (iI mreserve)), some (.int (iI 1)), some (.int (iI tu)), some (.int (iI tn)), some (.int xv), some (.int (iI y)), some (.int (iI de)), some (.int (iI cl)), some (.int (iI (msize (240 + cl)))), some (.int (iI mnights)), some (.int (iI td)), none, none, none, none, none, none] 947 [.int (iI 1)] := by
      intro  h hTA 
      refine r_istore B dL_law_947 (by decide) (lcat_v rfl rfl) ?_
      obtain ⟨hT, hAR⟩ := hTA
      refine r_aload B dL_law_949 rfl rfl ?_
      refine r_iload B dL_law_951 rfl ?_
      refine r_dup2 B dL_law_953 rfl rfl ?_
      refine r_iald B dL_law_954 hAR.2.2.2.2 (by decide) (by omega) (by show cl < 4; omega) ?_
      refine r_iload B dL_law_955 rfl ?_
      refine r_if_ge B dL_law_957 (tgt := 964) (by decide) (by omega) (fun c957 => ?_) (fun c957 => ?_)
      · refine r_iload B dL_law_964 rfl ?_
        refine r_iadd B dL_law_966 ?_
        refine r_top (y := iI (i32z (iI (Fo cl + td)))) (iI_i32z _).symm ?_
        refine r_iast B dL_law_967 hAR.2.2.2.2 (by decide) (by omega) (by show cl < 4; omega) ?_
        have hT := hT.wr hL (o := oo) (ev := iE g 4 (upZ Fo cl (i32z (iI (Fo cl + td))))) (Or.inr (Or.inr (Or.inr (Or.inr rfl))))
        have hAR := hAR.wo hL (F' := upZ Fo cl (i32z (iI (Fo cl + td))))
        have hFE : FE Fb Fc Fp (upZ Fo cl (i32z (iI (Fo cl + td)))) mbid mcoin mpaid w9 := fun y9 w0 w1 => ⟨(hFE y9 w0 w1).1, (hFE y9 w0 w1).2.1, (hFE y9 w0 w1).2.2.1, by
          rw [hw2 (by omega)]
          unfold upZ
          split
          · rw [hFo]
          · exact (hFE y9 w0 w1).2.2.2⟩
        refine r_goto B dL_law_968 (tgt := 1445) (by decide) ?_
        refine r_widen (k := cells + 600) (n := slots + 12000) (by show (cells + 3) ≤ cells + 600; omega) (by show (slots + 18) ≤ slots + 12000; omega) ?_
        exact r_lv (lvLe_s rfl (lvLe_s rfl (lvLe_s rfl (lvLe_s rfl (lvLe_s rfl (lvLe_s rfl (lvLe_s rfl (lvLe_s rfl (lvLe_s rfl (lvLe_s rfl (lvLe_s rfl (lvLe_s rfl (lvLe_s rfl (lvLe_s rfl (lvLe_s rfl (lvLe_s rfl (lvLe_n (lvLe_s rfl (lvLe_n (lvLe_s rfl (lvLe_n (lvLe_n (lvLe_n (lvLe_n (lvLe_n (lvLe_n (lvLe_n (lvLe_n (lvLe_n lvLe_nil))))))))))))))))))))))))))))) (kont _ _ _ _ _ _ _ _ ⟨_, _, _, _, _, _, _, _, _, _, _, _, _, _, _, _, _, _, _, _, hT, hG, hAR, hD, hFE, by omega⟩)
      · refine r_iconst B dL_law_960 ?_
        refine r_goto B dL_law_961 (tgt := 966) (by decide) ?_
        refine r_iadd B dL_law_966 ?_
        refine r_top (y := iI (i32z (iI (Fo cl + 0)))) (iI_i32z _).symm ?_
        refine r_iast B dL_law_967 hAR.2.2.2.2 (by decide) (by omega) (by show cl < 4; omega) ?_
        have hT := hT.wr hL (o := oo) (ev := iE g 4 (upZ Fo cl (i32z (iI (Fo cl + 0))))) (Or.inr (Or.inr (Or.inr (Or.inr rfl))))
        have hAR := hAR.wo hL (F' := upZ Fo cl (i32z (iI (Fo cl + 0))))
        have hFE : FE Fb Fc Fp (upZ Fo cl (i32z (iI (Fo cl + 0)))) mbid mcoin mpaid w9 := fun y9 w0 w1 => ⟨(hFE y9 w0 w1).1, (hFE y9 w0 w1).2.1, (hFE y9 w0 w1).2.2.1, by
          rw [hw1 (by omega)]
          unfold upZ
          split
          · rename_i w
            rw [w, hFo, Int.add_zero]
            exact iI_toInt hcn.2.2.2.2.2.2
          · exact (hFE y9 w0 w1).2.2.2⟩
        refine r_goto B dL_law_968 (tgt := 1445) (by decide) ?_
        refine r_widen (k := cells + 600) (n := slots + 12000) (by show (cells + 3) ≤ cells + 600; omega) (by show (slots + 18) ≤ slots + 12000; omega) ?_
        exact r_lv (lvLe_s rfl (lvLe_s rfl (lvLe_s rfl (lvLe_s rfl (lvLe_s rfl (lvLe_s rfl (lvLe_s rfl (lvLe_s rfl (lvLe_s rfl (lvLe_s rfl (lvLe_s rfl (lvLe_s rfl (lvLe_s rfl (lvLe_s rfl (lvLe_s rfl (lvLe_s rfl (lvLe_n (lvLe_s rfl (lvLe_n (lvLe_s rfl (lvLe_n (lvLe_n (lvLe_n (lvLe_n (lvLe_n (lvLe_n (lvLe_n (lvLe_n (lvLe_n lvLe_nil))))))))))))))))))))))))))))) (kont _ _ _ _ _ _ _ _ ⟨_, _, _, _, _, _, _, _, _, _, _, _, _, _, _, _, _, _, _, _, hT, hG, hAR, hD, hFE, by omega⟩)
    refine r_icmp_ne B dL_law_889 (tgt := 910) (by decide) (by omega) (by omega) (fun c889 => ?_) (fun c889 => ?_)
    · refine r_iload B dL_law_910 rfl ?_
      refine r_if_lt B dL_law_912 (tgt := 946) (by decide) (by omega) (fun c912 => ?_) (fun c912 => ?_)
      · exfalso; omega
      · refine r_aload B dL_law_915 rfl rfl ?_
        refine r_iload B dL_law_917 rfl ?_
        refine r_iald B dL_law_919 hAR.2.2.1 (by decide) (by omega) (by show cl < 4; omega) ?_
        refine r_if_ne B dL_law_920 (tgt := 931) (by decide) (by omega) (fun c920 => ?_) (fun c920 => ?_)
        · refine r_iload B dL_law_931 rfl ?_
          refine r_aload B dL_law_933 rfl rfl ?_
          refine r_iload B dL_law_935 rfl ?_
          refine r_iald B dL_law_937 hAR.2.2.1 (by decide) (by omega) (by show cl < 4; omega) ?_
          refine r_irem B dL_law_938 (iI_nz (by omega)) ?_
          refine r_rmz (by omega) (by omega) (fun z938 e938 z938a z938b => ?_)
          refine r_if_ne B dL_law_939 (tgt := 946) (by decide) (by omega) (fun c939 => ?_) (fun c939 => ?_)
          · exact absurd (by rw [e938, hF9]; exact htm c889) c939
          · refine r_iconst B dL_law_942 ?_
            refine r_goto B dL_law_943 (tgt := 947) (by decide) ?_
            refine r_widen (k := cells + 3) (n := slots + 18) (by show cells + 2 ≤ cells + 3; omega) (by show slots + 12 ≤ slots + 18; omega) ?_
            exact r_lv (lvLe_s rfl (lvLe_s rfl (lvLe_s rfl (lvLe_s rfl (lvLe_s rfl (lvLe_s rfl (lvLe_s rfl (lvLe_s rfl (lvLe_s rfl (lvLe_s rfl (lvLe_s rfl (lvLe_s rfl (lvLe_s rfl (lvLe_s rfl (lvLe_s rfl (lvLe_s rfl (lvLe_s rfl (lvLe_s rfl (lvLe_s rfl (lvLe_s rfl (lvLe_s rfl (lvLe_s rfl (lvLe_s rfl (lvLe_n (lvLe_n (lvLe_n (lvLe_n (lvLe_n (lvLe_n lvLe_nil))))))))))))))))))))))))))))) (join947 _ ⟨hT, hAR⟩)
        · refine r_iload B dL_law_923 rfl ?_
          refine r_if_ne B dL_law_925 (tgt := 946) (by decide) (by omega) (fun c925 => ?_) (fun c925 => ?_)
          · exact absurd (htz c889 (by omega)) c925
          · refine r_goto B dL_law_928 (tgt := 942) (by decide) ?_
            refine r_iconst B dL_law_942 ?_
            refine r_goto B dL_law_943 (tgt := 947) (by decide) ?_
            refine r_widen (k := cells + 3) (n := slots + 18) (by show cells + 2 ≤ cells + 3; omega) (by show slots + 12 ≤ slots + 18; omega) ?_
            exact r_lv (lvLe_s rfl (lvLe_s rfl (lvLe_s rfl (lvLe_s rfl (lvLe_s rfl (lvLe_s rfl (lvLe_s rfl (lvLe_s rfl (lvLe_s rfl (lvLe_s rfl (lvLe_s rfl (lvLe_s rfl (lvLe_s rfl (lvLe_s rfl (lvLe_s rfl (lvLe_s rfl (lvLe_s rfl (lvLe_s rfl (lvLe_s rfl (lvLe_s rfl (lvLe_s rfl (lvLe_s rfl (lvLe_s rfl (lvLe_n (lvLe_n (lvLe_n (lvLe_n (lvLe_n (lvLe_n lvLe_nil))))))))))))))))))))))))))))) (join947 _ ⟨hT, hAR⟩)
    · refine r_aload_n B dL_law_892 rfl rfl ?_
      refine r_iload B dL_law_893 rfl ?_
      refine r_callVX (n := 1) B dL_law_895 (ct_X9_chain l g sz0 hL.1 hT hG (cl) hl0 (by omega)) gL_law_X9_chain rfl (by decide +kernel) ⟨Nat.le_of_ble_eq_true rfl, Nat.le_of_ble_eq_true rfl⟩ hro rfl rfl rfl (Nat.le_of_ble_eq_true rfl) (by show cells + 2 + 1 ≤ 683647; omega) (by show slots + 12 + 6 ≤ 7050684; omega) (fun E h' hp => False.elim ?_) (fun v h hp => ?_)
      · obtain ⟨hp, -⟩ := hp
        have e9 := hp.2
        unfold tCl at e9; (repeat' (split at e9)) <;> omega
      obtain ⟨ht0, hv, hST⟩ := hp
      subst v
      have hAR := hAR.fr hL hST.fr
      have hT := hST.base
      obtain ⟨fs0, hro⟩ := hT.ro
      dsimp only [Option.toList, List.cons_append, List.nil_append]
      refine r_iconst B dL_law_898 ?_
      refine r_icmp_ne B dL_law_899 (tgt := 906) (by decide) (by omega) (by omega) (fun c899 => ?_) (fun c899 => ?_)
      · exfalso; omega
      · refine r_iconst B dL_law_902 ?_
        refine r_goto B dL_law_903 (tgt := 947) (by decide) ?_
        refine r_widen (k := cells + 3) (n := slots + 18) (by show cells + 2 + 1 ≤ cells + 3; omega) (by show slots + 12 + 6 ≤ slots + 18; omega) ?_
        exact r_lv (lvLe_s rfl (lvLe_s rfl (lvLe_s rfl (lvLe_s rfl (lvLe_s rfl (lvLe_s rfl (lvLe_s rfl (lvLe_s rfl (lvLe_s rfl (lvLe_s rfl (lvLe_s rfl (lvLe_s rfl (lvLe_s rfl (lvLe_s rfl (lvLe_s rfl (lvLe_s rfl (lvLe_s rfl (lvLe_s rfl (lvLe_s rfl (lvLe_s rfl (lvLe_s rfl (lvLe_s rfl (lvLe_s rfl (lvLe_n (lvLe_n (lvLe_n (lvLe_n (lvLe_n (lvLe_n lvLe_nil))))))))))))))))))))))))))))) (join947 _ ⟨hT, hAR⟩)
