set_option maxHeartbeats 8000000 in
set_option maxRecDepth 100000 in
theorem law_tail {p : Program} {l : Launch} {e : Env} {s : State} {m : MethodId} {args : Array Value} {below : List Frame} {meth : Method} {c : Code} {Q : State → Prop} {g : GG} {sz0 : Nat} {A : Nat → Nat} {Z : Nat → Prop} {od ob oc op oo bs : Nat} {h : AH} {mnights mbits mleast mmost mroom mreserve mmount mspeed : Int} {mdata msize mends mmany mkind mchain mholds mbid mbound mcheap mpromised mcoin mpaid mowed : Int → Int} {D : Nat → Int64} {Fb Fc Fp Fo : Int → Int} {cells slots : Nat} {tn tu y de cl : Int} {xv : Int32} (hl0 : l.stackTraces = false) (B : FX p s m args c cL_law RL wsL_law 29 g sz0) (hL : LY A Z od ob oc op oo) (hT : ST g A Z h mdata msize mends mmany mkind mchain mholds mnights mbits mleast mmost mroom mreserve mmount mspeed mbid mbound mcheap mpromised mcoin mpaid mowed h) (hG : RGm mnights mbits mleast mmost mroom mreserve mmount mspeed msize mbid mbound mcheap mpromised mcoin mpaid mowed) (hAR : AR g od ob oc op oo D Fb Fc Fp Fo h) (hD : DGI D mdata msize mkind mnights) (hFE : FE Fb Fc Fp Fo mbid mcoin mpaid mowed) (hn16 : mnights ≤ 16) (y0 : 0 ≤ y ∧ y ≤ 268435455) (c0 : 0 ≤ cl ∧ cl ≤ 3) (t0 : 0 ≤ tn ∧ tn < 200) (hc1 : cells + 400 ≤ 683647) (hc2 : slots + 2000 ≤ 7050684) (kont2 : ∀ (h' : AH) (ng ls ms mo sp rm rs : Int), JL g A Z od ob oc op oo ng ls ms mo sp rm rs h' → WA p l e room_1 s m args below meth c g sz0 29 Q h' (cells + 400) (slots + 2000) [some (.ref bs), some (.ref (A 0)), some (.ref od), some (.ref ob), some (.ref oc), some (.ref op), some (.ref oo), some (.int (iI ls)), some (.int (iI ms)), some (.int (iI mo)), some (.int (iI sp)), some (.int (iI rm)), some (.int (iI rs)), some (.int (iI 1)), some (.int (iI tu)), some (.int (iI (tn + 1))), none, none, none, none, none, none, none, none, none, none, none, none, none] 116 []) : WA p l e room_1 s m args below meth c g sz0 29 Q h cells slots [some (.ref bs), some (.ref (A 0)), some (.ref od), some (.ref ob), some (.ref oc), some (.ref op), some (.ref oo), some (.int (iI mleast)), some (.int (iI mmost)), some (.int (iI mmount)), some (.int (iI mspeed)), some (.int (iI mroom)), some (.int (iI mreserve)), some (.int (iI 1)), some (.int (iI tu)), some (.int (iI tn)), none, some (.int (iI y)), none, some (.int (iI cl)), none, none, none, none, none, none, none, none, none] 1445 [] := by
  obtain ⟨fs0, hro⟩ := hT.ro
  have hmz := hG.2.2.2.2.2 (240 + cl) (by omega) (by omega)
  have hNr := hG.1
  have hMK := hG.2.1
  have hNM := hG.2.2.1
  have hSP := hG.2.2.2.1
  refine r_aload_n B dL_law_1445 rfl rfl ?_
  refine r_callV (n := 0) B dL_law_1446 (ct_X9_nights l g sz0 hL.1 hT hG) gL_law_X9_nights rfl (by decide +kernel) ⟨Nat.le_of_ble_eq_true rfl, Nat.le_of_ble_eq_true rfl⟩ hro rfl rfl rfl (Nat.le_of_ble_eq_true rfl) (by show cells + 0 ≤ 683647; omega) (by show slots + 0 ≤ 7050684; omega) (fun v h hp => ?_)
  obtain ⟨hv, hST⟩ := hp
  subst v
  have hAR := hAR.fr hL hST.fr
  have hT := hST.base
  obtain ⟨fs0, hro⟩ := hT.ro
  dsimp only [Option.toList, List.cons_append, List.nil_append]
  refine r_istore B dL_law_1449 (by decide) (lcat_n rfl) ?_
  refine r_iload B dL_law_1451 rfl ?_
  refine r_if_eq B dL_law_1453 (tgt := 1554) (by decide) (by omega) (fun c1453 => ?_) (fun c1453 => ?_)
  · exact absurd c1453 (by decide)
  · refine r_iload B dL_law_1456 rfl ?_
    refine r_iconst B dL_law_1458 ?_
    refine r_irem B dL_law_1459 (by decide) ?_
    refine r_rmz (by omega) (by omega) (fun z1459 e1459 z1459a z1459b => ?_)
    have join1476 : ∀  (h : AH), (ST g A Z h mdata msize mends mmany mkind mchain mholds mnights mbits mleast mmost mroom mreserve mmount mspeed mbid mbound mcheap mpromised mcoin mpaid mowed h ∧ AR g od ob oc op oo D Fb Fc Fp Fo h) → WA p l e room_1 s m args below meth c g sz0 29 Q h (cells + 220) (slots + 1300) [some (.ref bs), some (.ref (A 0)), some (.ref od), some (.ref ob), some (.ref oc), some (.ref op), some (.ref oo), some (.int (iI mleast)), some (.int (iI mmost)), some (.int (iI mmount)), some (.int (iI mspeed)), some (.int (iI mroom)), some (.int (iI mreserve)), some (.int (iI 1)), some (.int (iI tu)), some (.int (iI tn)), none, some (.int (iI y)), none, some (.int (iI cl)), none, some (.int (iI mnights)), none, none, none, none, none, none, none] 1476 [] := by
      intro  h hTA 
      refine r_aload_n B dL_law_1476 rfl rfl ?_
      obtain ⟨hT, hAR⟩ := hTA
      obtain ⟨fs0, hro⟩ := hT.ro
      have hcn := hG.2.2.2.2.1 cl c0.1 c0.2
      have hor : -2147483648 ≤ mowed cl ∧ mowed cl < 2147483648 := hcn.2.2.2.2.2.2
      have hpr := hcn.2.2.2.2.2.1
      have hfe := hFE cl c0.1 c0.2
      refine r_iload B dL_law_1477 rfl ?_
      refine r_callVX (n := 1) B dL_law_1479 (ct_X9_paid l g sz0 hL.1 hT hG (cl) hl0 (by omega)) gL_law_X9_paid rfl (by decide +kernel) ⟨Nat.le_of_ble_eq_true rfl, Nat.le_of_ble_eq_true rfl⟩ hro rfl rfl rfl (Nat.le_of_ble_eq_true rfl) (by show (cells + 220) + 1 ≤ 683647; omega) (by show (slots + 1300) + 6 ≤ 7050684; omega) (fun E h' hp => False.elim ?_) (fun v h hp => ?_)
      · obtain ⟨hp, -⟩ := hp
        have e9 := hp.2
        unfold tCl at e9; (repeat' (split at e9)) <;> omega
      obtain ⟨ht0, hv, hST⟩ := hp
      subst v
      have hAR := hAR.fr hL hST.fr
      have hT := hST.base
      obtain ⟨fs0, hro⟩ := hT.ro
      dsimp only [Option.toList, List.cons_append, List.nil_append]
      refine r_aload B dL_law_1482 rfl rfl ?_
      refine r_iload B dL_law_1484 rfl ?_
      refine r_iald B dL_law_1486 hAR.2.2.2.1 (by decide) (by omega) (by show cl < 4; omega) ?_
      refine r_icmp_ne B dL_law_1487 (tgt := 1554) (by decide) (by omega) (by omega) (fun c1487 => ?_) (fun c1487 => ?_)
      · exact absurd hfe.2.2.1.symm c1487
      · refine r_aload_n B dL_law_1490 rfl rfl ?_
        refine r_iload B dL_law_1491 rfl ?_
        refine r_callVX (n := 1) B dL_law_1493 (ct_X9_owed l g sz0 hL.1 hT hG (cl) hl0 (by omega)) gL_law_X9_owed rfl (by decide +kernel) ⟨Nat.le_of_ble_eq_true rfl, Nat.le_of_ble_eq_true rfl⟩ hro rfl rfl rfl (Nat.le_of_ble_eq_true rfl) (by show (cells + 220) + 1 + 1 ≤ 683647; omega) (by show (slots + 1300) + 6 + 6 ≤ 7050684; omega) (fun E h' hp => False.elim ?_) (fun v h hp => ?_)
        · obtain ⟨hp, -⟩ := hp
          have e9 := hp.2
          unfold tCl at e9; (repeat' (split at e9)) <;> omega
        obtain ⟨ht0, hv, hST⟩ := hp
        subst v
        have hAR := hAR.fr hL hST.fr
        have hT := hST.base
        obtain ⟨fs0, hro⟩ := hT.ro
        dsimp only [Option.toList, List.cons_append, List.nil_append]
        refine r_aload B dL_law_1496 rfl rfl ?_
        refine r_iload B dL_law_1498 rfl ?_
        refine r_iald B dL_law_1500 hAR.2.2.2.2 (by decide) (by omega) (by show cl < 4; omega) ?_
        refine r_icmp_ne B dL_law_1501 (tgt := 1554) (by decide) (by omega) (by omega) (fun c1501 => ?_) (fun c1501 => ?_)
        · exact absurd hfe.2.2.2.symm c1501
        · refine r_aload_n B dL_law_1504 rfl rfl ?_
          refine r_callV (n := 0) B dL_law_1505 (ct_X9_purse l g sz0 hL.1 hT hG) gL_law_X9_purse rfl (by decide +kernel) ⟨Nat.le_of_ble_eq_true rfl, Nat.le_of_ble_eq_true rfl⟩ hro rfl rfl rfl (Nat.le_of_ble_eq_true rfl) (by show (cells + 220) + 1 + 1 + 0 ≤ 683647; omega) (by show (slots + 1300) + 6 + 6 + 0 ≤ 7050684; omega) (fun v h hp => ?_)
          obtain ⟨hv, hST⟩ := hp
          subst v
          have hAR := hAR.fr hL hST.fr
          have hT := hST.base
          obtain ⟨fs0, hro⟩ := hT.ro
          dsimp only [Option.toList, List.cons_append, List.nil_append]
          refine r_aload B dL_law_1508 rfl rfl ?_
          refine r_iconst B dL_law_1510 ?_
          refine r_iald B dL_law_1511 hAR.2.2.2.1 (by decide) (by decide) (by decide) ?_
          refine r_aload B dL_law_1512 rfl rfl ?_
          refine r_iconst B dL_law_1514 ?_
          refine r_iald B dL_law_1515 hAR.2.2.2.1 (by decide) (by decide) (by decide) ?_
          refine r_iadd B dL_law_1516 ?_
          refine r_aload B dL_law_1517 rfl rfl ?_
          refine r_iconst B dL_law_1519 ?_
          refine r_iald B dL_law_1520 hAR.2.2.2.1 (by decide) (by decide) (by decide) ?_
          refine r_iadd B dL_law_1521 ?_
          refine r_aload B dL_law_1522 rfl rfl ?_
          refine r_iconst B dL_law_1524 ?_
          refine r_iald B dL_law_1525 hAR.2.2.2.1 (by decide) (by decide) (by decide) ?_
          refine r_iadd B dL_law_1526 ?_
          refine r_aload B dL_law_1527 rfl rfl ?_
          refine r_iconst B dL_law_1529 ?_
          refine r_iald B dL_law_1530 hAR.2.2.2.2 (by decide) (by decide) (by decide) ?_
          refine r_isub B dL_law_1531 ?_
          refine r_aload B dL_law_1532 rfl rfl ?_
          refine r_iconst B dL_law_1534 ?_
          refine r_iald B dL_law_1535 hAR.2.2.2.2 (by decide) (by decide) (by decide) ?_
          refine r_isub B dL_law_1536 ?_
          refine r_aload B dL_law_1537 rfl rfl ?_
          refine r_iconst B dL_law_1539 ?_
          refine r_iald B dL_law_1540 hAR.2.2.2.2 (by decide) (by decide) (by decide) ?_
          refine r_isub B dL_law_1541 ?_
          refine r_aload B dL_law_1542 rfl rfl ?_
          refine r_iconst B dL_law_1544 ?_
          refine r_iald B dL_law_1545 hAR.2.2.2.2 (by decide) (by decide) (by decide) ?_
          refine r_isub B dL_law_1546 ?_
          have hpu : iI (sumZ (fun k => mpaid k - mowed k) 4) = iI (Fp 0 + Fp 1 + Fp 2 + Fp 3 - Fo 0 - Fo 1 - Fo 2 - Fo 3) := congrArg iI (by
            have q0 := (hFE 0 (by omega) (by omega)).2.2
            have q1 := (hFE 1 (by omega) (by omega)).2.2
            have q2 := (hFE 2 (by omega) (by omega)).2.2
            have q3 := (hFE 3 (by omega) (by omega)).2.2
            show 0 + (mpaid 0 - mowed 0) + (mpaid 1 - mowed 1) + (mpaid 2 - mowed 2) + (mpaid 3 - mowed 3) = _
            omega)
          refine r_icmp_neS B dL_law_1547 (tgt := 1554) (by decide) hpu ?_
          refine r_iconst B dL_law_1550 ?_
          refine r_goto B dL_law_1551 (tgt := 1555) (by decide) ?_
          refine r_istore B dL_law_1555 (by decide) (lcat_v rfl rfl) ?_
          refine r_iload B dL_law_1557 rfl ?_
          refine r_if_eq B dL_law_1559 (tgt := 1599) (by decide) (by omega) (fun c1559 => ?_) (fun c1559 => ?_)
          · exact absurd c1559 (by decide)
          · refine r_iload B dL_law_1562 rfl ?_
            have join1595 : ∀  (h : AH), (ST g A Z h mdata msize mends mmany mkind mchain mholds mnights mbits mleast mmost mroom mreserve mmount mspeed mbid mbound mcheap mpromised mcoin mpaid mowed h ∧ AR g od ob oc op oo D Fb Fc Fp Fo h) → WA p l e room_1 s m args below meth c g sz0 29 Q h (cells + 220 + 2 + 60) (slots + 1300 + 12 + 360) [some (.ref bs), some (.ref (A 0)), some (.ref od), some (.ref ob), some (.ref oc), some (.ref op), some (.ref oo), some (.int (iI mleast)), some (.int (iI mmost)), some (.int (iI mmount)), some (.int (iI mspeed)), some (.int (iI mroom)), some (.int (iI mreserve)), some (.int (iI 1)), some (.int (iI tu)), some (.int (iI tn)), none, some (.int (iI y)), none, some (.int (iI cl)), none, some (.int (iI mnights)), none, none, none, none, none, none, none] 1595 [] := by
              intro  h hTA 
              refine r_iconst B dL_law_1595 ?_
              obtain ⟨hT, hAR⟩ := hTA
              refine r_goto B dL_law_1596 (tgt := 1600) (by decide) ?_
              refine r_istore B dL_law_1600 (by decide) (lcat_v rfl rfl) ?_
              refine r_iinc B dL_law_1602 rfl (by decide) (lcat_v rfl rfl) ?_
              refine r_goto B dL_law_1605 (tgt := 116) (by decide) ?_
              refine r_widen (k := cells + 400) (n := slots + 2000) (by show (cells + 220 + 2 + 60) ≤ cells + 400; omega) (by show (slots + 1300 + 12 + 360) ≤ slots + 2000; omega) ?_
              exact r_lv (lvLe_s rfl (lvLe_s rfl (lvLe_s rfl (lvLe_s rfl (lvLe_s rfl (lvLe_s rfl (lvLe_s rfl (lvLe_s rfl (lvLe_s rfl (lvLe_s rfl (lvLe_s rfl (lvLe_s rfl (lvLe_s rfl (lvLe_s rfl (lvLe_s rfl (lvLe_s rfl (lvLe_n (lvLe_n (lvLe_n (lvLe_n (lvLe_n (lvLe_n (lvLe_n (lvLe_n (lvLe_n (lvLe_n (lvLe_n (lvLe_n (lvLe_n lvLe_nil))))))))))))))))))))))))))))) (kont2 _ _ _ _ _ _ _ _ ⟨_, _, _, _, _, _, _, _, _, _, _, _, _, _, _, _, _, _, _, _, hT, hG, hAR, hD, hFE, by omega⟩)
            refine r_if_eq B dL_law_1564 (tgt := 1595) (by decide) (by omega) (fun c1564 => ?_) (fun c1564 => ?_)
            · refine r_widen (k := (cells + 220 + 2 + 60)) (n := (slots + 1300 + 12 + 360)) (by show (cells + 220) + 1 + 1 + 0 ≤ (cells + 220 + 2 + 60); omega) (by show (slots + 1300) + 6 + 6 + 0 ≤ (slots + 1300 + 12 + 360); omega) ?_
              exact r_lv (lvLe_s rfl (lvLe_s rfl (lvLe_s rfl (lvLe_s rfl (lvLe_s rfl (lvLe_s rfl (lvLe_s rfl (lvLe_s rfl (lvLe_s rfl (lvLe_s rfl (lvLe_s rfl (lvLe_s rfl (lvLe_s rfl (lvLe_s rfl (lvLe_s rfl (lvLe_s rfl (lvLe_n (lvLe_s rfl (lvLe_n (lvLe_s rfl (lvLe_n (lvLe_s rfl (lvLe_n (lvLe_n (lvLe_n (lvLe_n (lvLe_n (lvLe_n (lvLe_n lvLe_nil))))))))))))))))))))))))))))) (join1595 _ ⟨hT, hAR⟩)
            · refine r_iload B dL_law_1567 rfl ?_
              refine r_iconst B dL_law_1569 ?_
              refine r_irem B dL_law_1570 (by decide) ?_
              refine r_rmz (by omega) (by omega) (fun z1570 e1570 z1570a z1570b => ?_)
              refine r_if_eq B dL_law_1571 (tgt := 1595) (by decide) (by omega) (fun c1571 => ?_) (fun c1571 => ?_)
              · refine r_widen (k := (cells + 220 + 2 + 60)) (n := (slots + 1300 + 12 + 360)) (by show (cells + 220) + 1 + 1 + 0 ≤ (cells + 220 + 2 + 60); omega) (by show (slots + 1300) + 6 + 6 + 0 ≤ (slots + 1300 + 12 + 360); omega) ?_
                exact r_lv (lvLe_s rfl (lvLe_s rfl (lvLe_s rfl (lvLe_s rfl (lvLe_s rfl (lvLe_s rfl (lvLe_s rfl (lvLe_s rfl (lvLe_s rfl (lvLe_s rfl (lvLe_s rfl (lvLe_s rfl (lvLe_s rfl (lvLe_s rfl (lvLe_s rfl (lvLe_s rfl (lvLe_n (lvLe_s rfl (lvLe_n (lvLe_s rfl (lvLe_n (lvLe_s rfl (lvLe_n (lvLe_n (lvLe_n (lvLe_n (lvLe_n (lvLe_n (lvLe_n lvLe_nil))))))))))))))))))))))))))))) (join1595 _ ⟨hT, hAR⟩)
              · refine r_aload_n B dL_law_1574 rfl rfl ?_
                refine r_iload B dL_law_1575 rfl ?_
                refine r_iload B dL_law_1577 rfl ?_
                refine r_iconst B dL_law_1579 ?_
                refine r_ishr B dL_law_1580 ?_
                refine r_shz 5 (by decide +kernel) (by omega) (fun z1580 e1580 z1580a z1580b => ?_)
                refine r_iload B dL_law_1581 rfl ?_
                refine r_irem B dL_law_1583 (iI_nz (by omega)) ?_
                refine r_rmz (by omega) (by omega) (fun z1583 e1583 z1583a z1583b => ?_)
                refine r_aload_n B dL_law_1584 rfl rfl ?_
                refine r_iload B dL_law_1585 rfl ?_
                refine r_iload B dL_law_1587 rfl ?_
                refine r_callS (n := 6) B dL_law_1589 (ct_L_isDay l g sz0 hL.1 hT hG cl z1583 c0 ⟨z1583a, z1583b⟩ hn16 hAR.1 (fun i hi => (hL.2.2.1 i hi).1) hD hl0) gL_law_L_isDay rfl (by decide +kernel) ⟨Nat.le_of_ble_eq_true rfl, Nat.le_of_ble_eq_true rfl⟩ rfl rfl (Nat.le_of_ble_eq_true rfl) (by show (cells + 220) + 1 + 1 + 0 + 60 ≤ 683647; omega) (by show (slots + 1300) + 6 + 6 + 0 + 360 ≤ 7050684; omega) (fun v h hp => ?_)
                obtain ⟨hv, hST⟩ := hp
                subst v
                have hAR := hAR.fr hL hST.fr
                have hT := hST.base
                obtain ⟨fs0, hro⟩ := hT.ro
                dsimp only [Option.toList, List.cons_append, List.nil_append]
                refine r_if_eq B dL_law_1592 (tgt := 1599) (by decide) (by omega) (fun c1592 => ?_) (fun c1592 => ?_)
                · exact absurd c1592 (by decide)
                · refine r_widen (k := (cells + 220 + 2 + 60)) (n := (slots + 1300 + 12 + 360)) (by show (cells + 220) + 1 + 1 + 0 + 60 ≤ (cells + 220 + 2 + 60); omega) (by show (slots + 1300) + 6 + 6 + 0 + 360 ≤ (slots + 1300 + 12 + 360); omega) ?_
                  exact r_lv (lvLe_s rfl (lvLe_s rfl (lvLe_s rfl (lvLe_s rfl (lvLe_s rfl (lvLe_s rfl (lvLe_s rfl (lvLe_s rfl (lvLe_s rfl (lvLe_s rfl (lvLe_s rfl (lvLe_s rfl (lvLe_s rfl (lvLe_s rfl (lvLe_s rfl (lvLe_s rfl (lvLe_n (lvLe_s rfl (lvLe_n (lvLe_s rfl (lvLe_n (lvLe_s rfl (lvLe_n (lvLe_n (lvLe_n (lvLe_n (lvLe_n (lvLe_n (lvLe_n lvLe_nil))))))))))))))))))))))))))))) (join1595 _ ⟨hT, hAR⟩)
    refine r_if_gt B dL_law_1460 (tgt := 1476) (by decide) (by omega) (fun c1460 => ?_) (fun c1460 => ?_)
    · refine r_widen (k := (cells + 220)) (n := (slots + 1300)) (by show cells + 0 ≤ (cells + 220); omega) (by show slots + 0 ≤ (slots + 1300); omega) ?_
      exact r_lv (lvLe_s rfl (lvLe_s rfl (lvLe_s rfl (lvLe_s rfl (lvLe_s rfl (lvLe_s rfl (lvLe_s rfl (lvLe_s rfl (lvLe_s rfl (lvLe_s rfl (lvLe_s rfl (lvLe_s rfl (lvLe_s rfl (lvLe_s rfl (lvLe_s rfl (lvLe_s rfl (lvLe_n (lvLe_s rfl (lvLe_n (lvLe_s rfl (lvLe_n (lvLe_s rfl (lvLe_n (lvLe_n (lvLe_n (lvLe_n (lvLe_n (lvLe_n (lvLe_n lvLe_nil))))))))))))))))))))))))))))) (join1476 _ ⟨hT, hAR⟩)
    · refine r_aload_n B dL_law_1463 rfl rfl ?_
      refine r_iload B dL_law_1464 rfl ?_
      refine r_iload B dL_law_1466 rfl ?_
      refine r_iload B dL_law_1468 rfl ?_
      refine r_callS (n := 4) B dL_law_1470 (ct_L_isFile l g sz0 hL.1 hT hG cl c0 hl0) gL_law_L_isFile rfl (by decide +kernel) ⟨Nat.le_of_ble_eq_true rfl, Nat.le_of_ble_eq_true rfl⟩ rfl rfl (Nat.le_of_ble_eq_true rfl) (by show cells + 0 + 220 ≤ 683647; omega) (by show slots + 0 + 1300 ≤ 7050684; omega) (fun v h hp => ?_)
      obtain ⟨hv, hST⟩ := hp
      subst v
      have hAR := hAR.fr hL hST.fr
      have hT := hST.base
      obtain ⟨fs0, hro⟩ := hT.ro
      dsimp only [Option.toList, List.cons_append, List.nil_append]
      refine r_if_eq B dL_law_1473 (tgt := 1554) (by decide) (by omega) (fun c1473 => ?_) (fun c1473 => ?_)
      · exact absurd c1473 (by decide)
      · refine r_widen (k := (cells + 220)) (n := (slots + 1300)) (by show cells + 0 + 220 ≤ (cells + 220); omega) (by show slots + 0 + 1300 ≤ (slots + 1300); omega) ?_
        exact r_lv (lvLe_s rfl (lvLe_s rfl (lvLe_s rfl (lvLe_s rfl (lvLe_s rfl (lvLe_s rfl (lvLe_s rfl (lvLe_s rfl (lvLe_s rfl (lvLe_s rfl (lvLe_s rfl (lvLe_s rfl (lvLe_s rfl (lvLe_s rfl (lvLe_s rfl (lvLe_s rfl (lvLe_n (lvLe_s rfl (lvLe_n (lvLe_s rfl (lvLe_n (lvLe_s rfl (lvLe_n (lvLe_n (lvLe_n (lvLe_n (lvLe_n (lvLe_n (lvLe_n lvLe_nil))))))))))))))))))))))))))))) (join1476 _ ⟨hT, hAR⟩)
theorem w_L_law_c101 : Cond.constant RL 101 (iI 268435455) ∈ wsL_law := by decide +kernel
theorem w_L_law_c99 : Cond.constant RL 99 (iI 2990017) ∈ wsL_law := by decide +kernel
theorem w_L_law_c100 : Cond.constant RL 100 (iI 100019) ∈ wsL_law := by decide +kernel
set_option maxHeartbeats 8000000 in
set_option maxRecDepth 100000 in
theorem law_turn {p : Program} {l : Launch} {e : Env} {s : State} {m : MethodId} {args : Array Value} {below : List Frame} {meth : Method} {c : Code} {Q : State → Prop} {g : GG} {sz0 : Nat} {A : Nat → Nat} {Z : Nat → Prop} {od ob oc op oo bs : Nat} {h : AH} {mnights mbits mleast mmost mroom mreserve mmount mspeed : Int} {mdata msize mends mmany mkind mchain mholds mbid mbound mcheap mpromised mcoin mpaid mowed : Int → Int} {D : Nat → Int64} {Fb Fc Fp Fo : Int → Int} {cells slots : Nat} {tn tu : Int} {nX : Nat} {xs : Nat → Int32} (hl0 : l.stackTraces = false) (B : FX p s m args c cL_law RL wsL_law 29 g sz0) (hX : va_X bs nX xs s s.heap) (hbl : bs < s.heap.size) (hbA : ¬ A0 sz0 bs) (hL5 : nX ≤ 260) (hL : LY A Z od ob oc op oo) (hT : ST g A Z h mdata msize mends mmany mkind mchain mholds mnights mbits mleast mmost mroom mreserve mmount mspeed mbid mbound mcheap mpromised mcoin mpaid mowed h) (hG : RGm mnights mbits mleast mmost mroom mreserve mmount mspeed msize mbid mbound mcheap mpromised mcoin mpaid mowed) (hAR : AR g od ob oc op oo D Fb Fc Fp Fo h) (hD : DGI D mdata msize mkind mnights) (hFE : FE Fb Fc Fp Fo mbid mcoin mpaid mowed) (hn16 : mnights ≤ 16) (t0 : 0 ≤ tn ∧ tn < 200) (hc1 : cells + 1010 ≤ 683647) (hc2 : slots + 14100 ≤ 7050684) (kont3 : ∀ (h' : AH) (ng ls ms mo sp rm rs : Int), JL g A Z od ob oc op oo ng ls ms mo sp rm rs h' → WA p l e room_1 s m args below meth c g sz0 29 Q h' (cells + 1010) (slots + 14100) [some (.ref bs), some (.ref (A 0)), some (.ref od), some (.ref ob), some (.ref oc), some (.ref op), some (.ref oo), some (.int (iI ls)), some (.int (iI ms)), some (.int (iI mo)), some (.int (iI sp)), some (.int (iI rm)), some (.int (iI rs)), some (.int (iI 1)), some (.int (iI tu)), some (.int (iI (tn + 1))), none, none, none, none, none, none, none, none, none, none, none, none, none] 116 []) : WA p l e room_1 s m args below meth c g sz0 29 Q h cells slots [some (.ref bs), some (.ref (A 0)), some (.ref od), some (.ref ob), some (.ref oc), some (.ref op), some (.ref oo), some (.int (iI mleast)), some (.int (iI mmost)), some (.int (iI mmount)), some (.int (iI mspeed)), some (.int (iI mroom)), some (.int (iI mreserve)), some (.int (iI 1)), some (.int (iI tu)), some (.int (iI tn)), none, none, none, none, none, none, none, none, none, none, none, none, none] 123 [] := by
  obtain ⟨fs0, hro⟩ := hT.ro
  have hNr := hG.1
  have hMK := hG.2.1
  have hNM := hG.2.2.1
  have hSP := hG.2.2.2.1
  refine r_iload B dL_law_123 rfl ?_
  refine r_if_eq B dL_law_125 (tgt := 1608) (by decide) (by omega) (fun c125 => ?_) (fun c125 => ?_)
  · exact absurd c125 (by decide)
  · refine r_iload B dL_law_128 rfl ?_
    refine r_aload_n B dL_law_130 rfl rfl ?_
    refine r_slen B hX hbl hbA dL_law_131 ?_
    have join160 : ∀ (xv : Int32), WA p l e room_1 s m args below meth c g sz0 29 Q h cells slots [some (.ref bs), some (.ref (A 0)), some (.ref od), some (.ref ob), some (.ref oc), some (.ref op), some (.ref oo), some (.int (iI mleast)), some (.int (iI mmost)), some (.int (iI mmount)), some (.int (iI mspeed)), some (.int (iI mroom)), some (.int (iI mreserve)), some (.int (iI 1)), some (.int (iI tu)), some (.int (iI tn)), none, none, none, none, none, none, none, none, none, none, none, none, none] 160 [.int xv] := by
      intro xv 
      refine r_istore B dL_law_160 (by decide) (lcat_v rfl rfl) ?_
      refine r_iload B dL_law_162 rfl ?_
      refine r_iconst B dL_law_164 ?_
      refine r_ishr B dL_law_165 ?_
      refine r_ldc B dL_law_166 (v := 268435455) w_L_law_c101 ?_
      refine r_iand B dL_law_168 ?_
      refine r_anz (by omega) (fun z168 e168 z168a z168b => ?_)
      refine r_istore B dL_law_169 (by decide) (lcat_v rfl rfl) ?_
      refine r_iload B dL_law_171 rfl ?_
      refine r_bipush B dL_law_173 (by decide) ?_
      have join187 : ∀ (de : Int), (0 ≤ de ∧ de ≤ 15) → WA p l e room_1 s m args below meth c g sz0 29 Q h cells slots [some (.ref bs), some (.ref (A 0)), some (.ref od), some (.ref ob), some (.ref oc), some (.ref op), some (.ref oo), some (.int (iI mleast)), some (.int (iI mmost)), some (.int (iI mmount)), some (.int (iI mspeed)), some (.int (iI mroom)), some (.int (iI mreserve)), some (.int (iI 1)), some (.int (iI tu)), some (.int (iI tn)), some (.int xv), some (.int (iI z168)), none, none, none, none, none, none, none, none, none, none, none] 187 [.int (iI de)] := by
        intro de d0
        refine r_istore B dL_law_187 (by decide) (lcat_v rfl rfl) ?_
        refine r_iload B dL_law_189 rfl ?_
        refine r_bipush B dL_law_191 (by decide) ?_
        have join207 : ∀ (cl : Int), (0 ≤ cl ∧ cl ≤ 3) → WA p l e room_1 s m args below meth c g sz0 29 Q h cells slots [some (.ref bs), some (.ref (A 0)), some (.ref od), some (.ref ob), some (.ref oc), some (.ref op), some (.ref oo), some (.int (iI mleast)), some (.int (iI mmost)), some (.int (iI mmount)), some (.int (iI mspeed)), some (.int (iI mroom)), some (.int (iI mreserve)), some (.int (iI 1)), some (.int (iI tu)), some (.int (iI tn)), some (.int xv), some (.int (iI z168)), some (.int (iI de)), none, none, none, none, none, none, none, none, none, none] 207 [.int (iI cl)] := by
          intro cl c0
          refine r_istore B dL_law_207 (by decide) (lcat_v rfl rfl) ?_
          refine r_aload_n B dL_law_209 rfl rfl ?_
          refine r_iload B dL_law_210 rfl ?_
          refine r_callVX (n := 1) B dL_law_212 (ct_X9_length l g sz0 hL.1 hT hG (cl) hl0 (by omega)) gL_law_X9_length rfl (by decide +kernel) ⟨Nat.le_of_ble_eq_true rfl, Nat.le_of_ble_eq_true rfl⟩ hro rfl rfl rfl (Nat.le_of_ble_eq_true rfl) (by show cells + 1 ≤ 683647; omega) (by show slots + 6 ≤ 7050684; omega) (fun E h' hp => False.elim ?_) (fun v h hp => ?_)
          · obtain ⟨hp, -⟩ := hp
            have e9 := hp.2
            unfold tCl at e9; (repeat' (split at e9)) <;> omega
          obtain ⟨ht0, hv, hST⟩ := hp
          subst v
          have hAR := hAR.fr hL hST.fr
          have hT := hST.base
          obtain ⟨fs0, hro⟩ := hT.ro
          dsimp only [Option.toList, List.cons_append, List.nil_append]
          refine r_istore B dL_law_215 (by decide) (lcat_v rfl rfl) ?_
          refine r_aload_n B dL_law_217 rfl rfl ?_
          refine r_callV (n := 0) B dL_law_218 (ct_X9_nights l g sz0 hL.1 hT hG) gL_law_X9_nights rfl (by decide +kernel) ⟨Nat.le_of_ble_eq_true rfl, Nat.le_of_ble_eq_true rfl⟩ hro rfl rfl rfl (Nat.le_of_ble_eq_true rfl) (by show cells + 1 + 0 ≤ 683647; omega) (by show slots + 6 + 0 ≤ 7050684; omega) (fun v h hp => ?_)
          obtain ⟨hv, hST⟩ := hp
          subst v
          have hAR := hAR.fr hL hST.fr
          have hT := hST.base
          obtain ⟨fs0, hro⟩ := hT.ro
          dsimp only [Option.toList, List.cons_append, List.nil_append]
          refine r_istore B dL_law_221 (by decide) (lcat_v rfl rfl) ?_
          refine law_put hl0 B hL hT hG hAR hD hFE hn16 ⟨z168a, z168b⟩ d0 c0 (by show cells + 1 + 0 + 1000 ≤ 683647; omega) (by show slots + 6 + 0 + 14000 ≤ 7050684; omega) (fun h' ng ls ms mo sp rm rs hJ => ?_)
          obtain ⟨k0, k1, k2, k3, k4, k5, k6, k7, k8, k9, k10, k11, k12, k13, k14, k15, k16, k17, k18, k19, hT, hG, hAR, hD, hFE, hn16⟩ := hJ
          refine law_tail (xv := xv) (de := de) hl0 B hL hT hG hAR hD hFE hn16 ⟨z168a, z168b⟩ c0 t0 (by show cells + 1 + 0 + 600 + 400 ≤ 683647; omega) (by show slots + 6 + 0 + 12000 + 2000 ≤ 7050684; omega) (fun h' ng ls ms mo sp rm rs hJ => ?_)
          refine r_widen (k := cells + 1010) (n := slots + 14100) (by show cells + 1 + 0 + 600 + 400 ≤ cells + 1010; omega) (by show slots + 6 + 0 + 12000 + 2000 ≤ slots + 14100; omega) ?_
          exact kont3 _ _ _ _ _ _ _ _ hJ
        refine r_icmp_ge B dL_law_193 (tgt := 203) (by decide) (by omega) (by omega) (fun c193 => ?_) (fun c193 => ?_)
        · refine r_iload B dL_law_203 rfl ?_
          refine r_iconst B dL_law_205 ?_
          refine r_irem B dL_law_206 (by decide) ?_
          refine r_rmz (by omega) (by omega) (fun z206 e206 z206a z206b => ?_)
          exact r_lv (lvLe_s rfl (lvLe_s rfl (lvLe_s rfl (lvLe_s rfl (lvLe_s rfl (lvLe_s rfl (lvLe_s rfl (lvLe_s rfl (lvLe_s rfl (lvLe_s rfl (lvLe_s rfl (lvLe_s rfl (lvLe_s rfl (lvLe_s rfl (lvLe_s rfl (lvLe_s rfl (lvLe_s rfl (lvLe_s rfl (lvLe_s rfl (lvLe_n (lvLe_n (lvLe_n (lvLe_n (lvLe_n (lvLe_n (lvLe_n (lvLe_n (lvLe_n (lvLe_n lvLe_nil))))))))))))))))))))))))))))) (join207 _ (by omega))
        · refine r_iload B dL_law_196 rfl ?_
          refine r_iconst B dL_law_198 ?_
          refine r_irem B dL_law_199 (by decide) ?_
          refine r_rmz (by omega) (by omega) (fun z199 e199 z199a z199b => ?_)
          refine r_goto B dL_law_200 (tgt := 207) (by decide) ?_
          exact r_lv (lvLe_s rfl (lvLe_s rfl (lvLe_s rfl (lvLe_s rfl (lvLe_s rfl (lvLe_s rfl (lvLe_s rfl (lvLe_s rfl (lvLe_s rfl (lvLe_s rfl (lvLe_s rfl (lvLe_s rfl (lvLe_s rfl (lvLe_s rfl (lvLe_s rfl (lvLe_s rfl (lvLe_s rfl (lvLe_s rfl (lvLe_s rfl (lvLe_n (lvLe_n (lvLe_n (lvLe_n (lvLe_n (lvLe_n (lvLe_n (lvLe_n (lvLe_n (lvLe_n lvLe_nil))))))))))))))))))))))))))))) (join207 _ (by omega))
      refine r_icmp_ge B dL_law_175 (tgt := 182) (by decide) (by omega) (by omega) (fun c175 => ?_) (fun c175 => ?_)
      · refine r_iload B dL_law_182 rfl ?_
        refine r_bipush B dL_law_184 (by decide) ?_
        refine r_iand B dL_law_186 ?_
        refine r_anz (by omega) (fun z186 e186 z186a z186b => ?_)
        exact r_lv (lvLe_s rfl (lvLe_s rfl (lvLe_s rfl (lvLe_s rfl (lvLe_s rfl (lvLe_s rfl (lvLe_s rfl (lvLe_s rfl (lvLe_s rfl (lvLe_s rfl (lvLe_s rfl (lvLe_s rfl (lvLe_s rfl (lvLe_s rfl (lvLe_s rfl (lvLe_s rfl (lvLe_s rfl (lvLe_s rfl (lvLe_n (lvLe_n (lvLe_n (lvLe_n (lvLe_n (lvLe_n (lvLe_n (lvLe_n (lvLe_n (lvLe_n (lvLe_n lvLe_nil))))))))))))))))))))))))))))) (join187 _ (by omega))
      · refine r_iconst B dL_law_178 ?_
        refine r_goto B dL_law_179 (tgt := 187) (by decide) ?_
        exact r_lv (lvLe_s rfl (lvLe_s rfl (lvLe_s rfl (lvLe_s rfl (lvLe_s rfl (lvLe_s rfl (lvLe_s rfl (lvLe_s rfl (lvLe_s rfl (lvLe_s rfl (lvLe_s rfl (lvLe_s rfl (lvLe_s rfl (lvLe_s rfl (lvLe_s rfl (lvLe_s rfl (lvLe_s rfl (lvLe_s rfl (lvLe_n (lvLe_n (lvLe_n (lvLe_n (lvLe_n (lvLe_n (lvLe_n (lvLe_n (lvLe_n (lvLe_n (lvLe_n lvLe_nil))))))))))))))))))))))))))))) (join187 _ (by omega))
    refine r_icmp_ge B dL_law_132 (tgt := 142) (by decide) (by omega) (by omega) (fun c132 => ?_) (fun c132 => ?_)
    · refine r_ldc B dL_law_142 (v := 2990017) w_L_law_c99 ?_
      refine r_iload B dL_law_144 rfl ?_
      refine r_imul B dL_law_146 ?_
      refine r_iload B dL_law_147 rfl ?_
      refine r_imul B dL_law_149 ?_
      refine r_ldc B dL_law_150 (v := 100019) w_L_law_c100 ?_
      refine r_iload B dL_law_152 rfl ?_
      refine r_imul B dL_law_154 ?_
      refine r_iadd B dL_law_155 ?_
      refine r_sipush B dL_law_156 (by decide) ?_
      refine r_iadd B dL_law_159 ?_
      exact r_lv (lvLe_s rfl (lvLe_s rfl (lvLe_s rfl (lvLe_s rfl (lvLe_s rfl (lvLe_s rfl (lvLe_s rfl (lvLe_s rfl (lvLe_s rfl (lvLe_s rfl (lvLe_s rfl (lvLe_s rfl (lvLe_s rfl (lvLe_s rfl (lvLe_s rfl (lvLe_s rfl (lvLe_n (lvLe_n (lvLe_n (lvLe_n (lvLe_n (lvLe_n (lvLe_n (lvLe_n (lvLe_n (lvLe_n (lvLe_n (lvLe_n (lvLe_n lvLe_nil))))))))))))))))))))))))))))) (join160 _)
    · refine r_aload_n B dL_law_135 rfl rfl ?_
      refine r_iload B dL_law_136 rfl ?_
      refine r_sld B hX hbl hbA (by omega) dL_law_138 (by omega) (by omega) ?_
      refine r_goto B dL_law_139 (tgt := 160) (by decide) ?_
      exact r_lv (lvLe_s rfl (lvLe_s rfl (lvLe_s rfl (lvLe_s rfl (lvLe_s rfl (lvLe_s rfl (lvLe_s rfl (lvLe_s rfl (lvLe_s rfl (lvLe_s rfl (lvLe_s rfl (lvLe_s rfl (lvLe_s rfl (lvLe_s rfl (lvLe_s rfl (lvLe_s rfl (lvLe_n (lvLe_n (lvLe_n (lvLe_n (lvLe_n (lvLe_n (lvLe_n (lvLe_n (lvLe_n (lvLe_n (lvLe_n (lvLe_n (lvLe_n lvLe_nil))))))))))))))))))))))))))))) (join160 _)
