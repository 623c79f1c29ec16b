set_option maxHeartbeats 8000000 in
set_option maxRecDepth 100000 in
theorem law_nightset {p : Program} {l : Launch} {e : Env} {s : State} {m : MethodId} {args : Array Value} {below : List Frame} {meth : Method} {c : Code} {Q : State → Prop} {g : GG} {sz0 : Nat} {A : Nat → Nat} {Z : Nat → Prop} {od ob oc op oo bs : Nat} {h : AH} {mnights mbits mleast mmost mroom mreserve mmount mspeed : Int} {mdata msize mends mmany mkind mchain mholds mbid mbound mcheap mpromised mcoin mpaid mowed : Int → Int} {D : Nat → Int64} {Fb Fc Fp Fo : Int → Int} {cells slots : Nat} {tn tu y de cl : Int} {xv : Int32} (hl0 : l.stackTraces = false) (B : FX p s m args c cL_law RL wsL_law 29 g sz0) (hL : LY A Z od ob oc op oo) (hT : ST g A Z h mdata msize mends mmany mkind mchain mholds mnights mbits mleast mmost mroom mreserve mmount mspeed mbid mbound mcheap mpromised mcoin mpaid mowed h) (hG : RGm mnights mbits mleast mmost mroom mreserve mmount mspeed msize mbid mbound mcheap mpromised mcoin mpaid mowed) (hAR : AR g od ob oc op oo D Fb Fc Fp Fo h) (hD : DGI D mdata msize mkind mnights) (hFE : FE Fb Fc Fp Fo mbid mcoin mpaid mowed) (hn16 : mnights ≤ 16) (y0 : 0 ≤ y ∧ y ≤ 268435455) (d0 : 0 ≤ de ∧ de ≤ 15) (c0 : 0 ≤ cl ∧ cl ≤ 3) (hc1 : cells + 1000 ≤ 683647) (hc2 : slots + 14000 ≤ 7050684) (kont : ∀ (h' : AH) (ng ls ms mo sp rm rs : Int), JL g A Z od ob oc op oo ng ls ms mo sp rm rs h' → WA p l e room_1 s m args below meth c g sz0 29 Q h' (cells + 600) (slots + 12000) [some (.ref bs), some (.ref (A 0)), some (.ref od), some (.ref ob), some (.ref oc), some (.ref op), some (.ref oo), some (.int (iI ls)), some (.int (iI ms)), some (.int (iI mo)), some (.int (iI sp)), some (.int (iI rm)), some (.int (iI rs)), some (.int (iI 1)), some (.int (iI tu)), some (.int (iI tn)), none, some (.int (iI y)), none, some (.int (iI cl)), none, none, none, none, none, none, none, none, none] 1445 []) : WA p l e room_1 s m args below meth c g sz0 29 Q h cells slots [some (.ref bs), some (.ref (A 0)), some (.ref od), some (.ref ob), some (.ref oc), some (.ref op), some (.ref oo), some (.int (iI mleast)), some (.int (iI mmost)), some (.int (iI mmount)), some (.int (iI mspeed)), some (.int (iI mroom)), some (.int (iI mreserve)), some (.int (iI 1)), some (.int (iI tu)), some (.int (iI tn)), some (.int xv), some (.int (iI y)), some (.int (iI de)), some (.int (iI cl)), some (.int (iI (msize (240 + cl)))), some (.int (iI mnights)), none, none, none, none, none, none, none] 654 [] := by
  obtain ⟨fs0, hro⟩ := hT.ro
  have hmz := hG.2.2.2.2.2 (240 + cl) (by omega) (by omega)
  have hNr := hG.1
  have hMK := hG.2.1
  have hNM := hG.2.2.1
  have hSP := hG.2.2.2.1
  refine r_iload B dL_law_654 rfl ?_
  refine r_bipush B dL_law_656 (by decide) ?_
  refine r_icmp_ne B dL_law_658 (tgt := 713) (by decide) (by omega) (by omega) (fun c658 => ?_) (fun c658 => ?_)
  · exact law_bid hl0 B hL hT hG hAR hD hFE hn16 y0 d0 c0 hc1 hc2 kont
  · refine r_iload B dL_law_661 rfl ?_
    refine r_iconst B dL_law_663 ?_
    refine r_iand B dL_law_664 ?_
    refine r_anz (by omega) (fun z664 e664 z664a z664b => ?_)
    refine r_if_ne B dL_law_665 (tgt := 713) (by decide) (by omega) (fun c665 => ?_) (fun c665 => ?_)
    · exact law_bid hl0 B hL hT hG hAR hD hFE hn16 y0 d0 c0 hc1 hc2 kont
    · refine r_iload B dL_law_668 rfl ?_
      refine r_iconst B dL_law_670 ?_
      refine r_ishr B dL_law_671 ?_
      refine r_shz 3 (by decide +kernel) (by omega) (fun z671 e671 z671a z671b => ?_)
      refine r_iconst B dL_law_672 ?_
      refine r_iand B dL_law_673 ?_
      refine r_anz (by omega) (fun z673 e673 z673a z673b => ?_)
      have join690 : ∀ (rr : Int), (0 ≤ rr ∧ rr ≤ 400) → WA p l e room_1 s m args below meth c g sz0 29 Q h cells slots [some (.ref bs), some (.ref (A 0)), some (.ref od), some (.ref ob), some (.ref oc), some (.ref op), some (.ref oo), some (.int (iI mleast)), some (.int (iI mmost)), some (.int (iI mmount)), some (.int (iI mspeed)), some (.int (iI mroom)), some (.int (iI mreserve)), some (.int (iI 1)), some (.int (iI tu)), some (.int (iI tn)), some (.int xv), some (.int (iI y)), some (.int (iI de)), some (.int (iI cl)), some (.int (iI (msize (240 + cl)))), some (.int (iI mnights)), none, none, none, none, none, none, none] 690 [.int (iI rr)] := by
        intro rr r0
        refine r_istore B dL_law_690 (by decide) (lcat_v rfl rfl) ?_
        refine r_iload B dL_law_692 rfl ?_
        refine r_bipush B dL_law_694 (by decide) ?_
        refine r_ishr B dL_law_696 ?_
        refine r_shz 10 (by decide +kernel) (by omega) (fun z696 e696 z696a z696b => ?_)
        refine r_bipush B dL_law_697 (by decide) ?_
        refine r_irem B dL_law_699 (by decide) ?_
        refine r_rmz (by omega) (by omega) (fun z699 e699 z699a z699b => ?_)
        refine r_istore B dL_law_700 (by decide) (lcat_v rfl rfl) ?_
        refine r_aload_n B dL_law_702 rfl rfl ?_
        refine r_iload B dL_law_703 rfl ?_
        refine r_iload B dL_law_705 rfl ?_
        refine r_callVX (n := 2) B dL_law_707 (ct_X9_setNight l g sz0 hL.1 hT hG (rr) (z699) hl0 (by omega) (by omega)) gL_law_X9_setNight rfl (by decide +kernel) ⟨Nat.le_of_ble_eq_true rfl, Nat.le_of_ble_eq_true rfl⟩ hro rfl rfl rfl (Nat.le_of_ble_eq_true rfl) (by show cells + 2 ≤ 683647; omega) (by show slots + 12 ≤ 7050684; omega) (fun E h' hp => False.elim ?_) (fun v h hp => ?_)
        · obtain ⟨hp, -⟩ := hp
          have e9 := hp.2
          exact absurd (e9.symm.trans (tB_t (by omega))) (by decide)
        obtain ⟨ht0, hv, hST⟩ := hp
        subst v
        have hAR := hAR.fr hL hST.fr
        have hT := hST.base
        obtain ⟨fs0, hro⟩ := hT.ro
        dsimp only [Option.toList, List.cons_append, List.nil_append]
        have hG : RGm mnights mbits mleast mmost rr z699 mmount mspeed msize mbid mbound mcheap mpromised mcoin mpaid mowed := ⟨hG.1, hG.2.1, ⟨by omega, by omega, by omega⟩, hG.2.2.2⟩
        refine r_goto B dL_law_710 (tgt := 1445) (by decide) ?_
        refine r_widen (k := cells + 600) (n := slots + 12000) (by show cells + 2 ≤ cells + 600; omega) (by show slots + 12 ≤ slots + 12000; omega) ?_
        exact r_lv (lvLe_s rfl (lvLe_s rfl (lvLe_s rfl (lvLe_s rfl (lvLe_s rfl (lvLe_s rfl (lvLe_s rfl (lvLe_s rfl (lvLe_s rfl (lvLe_s rfl (lvLe_s rfl (lvLe_s rfl (lvLe_s rfl (lvLe_s rfl (lvLe_s rfl (lvLe_s rfl (lvLe_n (lvLe_s rfl (lvLe_n (lvLe_s rfl (lvLe_n (lvLe_n (lvLe_n (lvLe_n (lvLe_n (lvLe_n (lvLe_n (lvLe_n (lvLe_n lvLe_nil))))))))))))))))))))))))))))) (kont _ _ _ _ _ _ _ _ ⟨_, _, _, _, _, _, _, _, _, _, _, _, _, _, _, _, _, _, _, _, hT, hG, hAR, hD, hFE, by omega⟩)
      refine r_if_ne B dL_law_674 (tgt := 687) (by decide) (by omega) (fun c674 => ?_) (fun c674 => ?_)
      · refine r_sipush B dL_law_687 (by decide) ?_
        exact r_lv (lvLe_s rfl (lvLe_s rfl (lvLe_s rfl (lvLe_s rfl (lvLe_s rfl (lvLe_s rfl (lvLe_s rfl (lvLe_s rfl (lvLe_s rfl (lvLe_s rfl (lvLe_s rfl (lvLe_s rfl (lvLe_s rfl (lvLe_s rfl (lvLe_s rfl (lvLe_s rfl (lvLe_s rfl (lvLe_s rfl (lvLe_s rfl (lvLe_s rfl (lvLe_s rfl (lvLe_s rfl (lvLe_n (lvLe_n (lvLe_n (lvLe_n (lvLe_n (lvLe_n (lvLe_n lvLe_nil))))))))))))))))))))))))))))) (join690 _ (by omega))
      · refine r_iload B dL_law_677 rfl ?_
        refine r_iconst B dL_law_679 ?_
        refine r_ishr B dL_law_680 ?_
        refine r_shz 4 (by decide +kernel) (by omega) (fun z680 e680 z680a z680b => ?_)
        refine r_bipush B dL_law_681 (by decide) ?_
        refine r_irem B dL_law_683 (by decide) ?_
        refine r_rmz (by omega) (by omega) (fun z683 e683 z683a z683b => ?_)
        refine r_goto B dL_law_684 (tgt := 690) (by decide) ?_
        exact r_lv (lvLe_s rfl (lvLe_s rfl (lvLe_s rfl (lvLe_s rfl (lvLe_s rfl (lvLe_s rfl (lvLe_s rfl (lvLe_s rfl (lvLe_s rfl (lvLe_s rfl (lvLe_s rfl (lvLe_s rfl (lvLe_s rfl (lvLe_s rfl (lvLe_s rfl (lvLe_s rfl (lvLe_s rfl (lvLe_s rfl (lvLe_s rfl (lvLe_s rfl (lvLe_s rfl (lvLe_s rfl (lvLe_n (lvLe_n (lvLe_n (lvLe_n (lvLe_n (lvLe_n (lvLe_n lvLe_nil))))))))))))))))))))))))))))) (join690 _ (by omega))
set_option maxHeartbeats 8000000 in
set_option maxRecDepth 100000 in
theorem law_marks {p : Program} {l : Launch} {e : Env} {s : State} {m : MethodId} {args : Array Value} {below : List Frame} {meth : Method} {c : Code} {Q : State → Prop} {g : GG} {sz0 : Nat} {A : Nat → Nat} {Z : Nat → Prop} {od ob oc op oo bs : Nat} {h : AH} {mnights mbits mleast mmost mroom mreserve mmount mspeed : Int} {mdata msize mends mmany mkind mchain mholds mbid mbound mcheap mpromised mcoin mpaid mowed : Int → Int} {D : Nat → Int64} {Fb Fc Fp Fo : Int → Int} {cells slots : Nat} {tn tu y de cl : Int} {xv : Int32} (hl0 : l.stackTraces = false) (B : FX p s m args c cL_law RL wsL_law 29 g sz0) (hL : LY A Z od ob oc op oo) (hT : ST g A Z h mdata msize mends mmany mkind mchain mholds mnights mbits mleast mmost mroom mreserve mmount mspeed mbid mbound mcheap mpromised mcoin mpaid mowed h) (hG : RGm mnights mbits mleast mmost mroom mreserve mmount mspeed msize mbid mbound mcheap mpromised mcoin mpaid mowed) (hAR : AR g od ob oc op oo D Fb Fc Fp Fo h) (hD : DGI D mdata msize mkind mnights) (hFE : FE Fb Fc Fp Fo mbid mcoin mpaid mowed) (hn16 : mnights ≤ 16) (y0 : 0 ≤ y ∧ y ≤ 268435455) (d0 : 0 ≤ de ∧ de ≤ 15) (c0 : 0 ≤ cl ∧ cl ≤ 3) (hc1 : cells + 1000 ≤ 683647) (hc2 : slots + 14000 ≤ 7050684) (kont : ∀ (h' : AH) (ng ls ms mo sp rm rs : Int), JL g A Z od ob oc op oo ng ls ms mo sp rm rs h' → WA p l e room_1 s m args below meth c g sz0 29 Q h' (cells + 600) (slots + 12000) [some (.ref bs), some (.ref (A 0)), some (.ref od), some (.ref ob), some (.ref oc), some (.ref op), some (.ref oo), some (.int (iI ls)), some (.int (iI ms)), some (.int (iI mo)), some (.int (iI sp)), some (.int (iI rm)), some (.int (iI rs)), some (.int (iI 1)), some (.int (iI tu)), some (.int (iI tn)), none, some (.int (iI y)), none, some (.int (iI cl)), none, none, none, none, none, none, none, none, none] 1445 []) : WA p l e room_1 s m args below meth c g sz0 29 Q h cells slots [some (.ref bs), some (.ref (A 0)), some (.ref od), some (.ref ob), some (.ref oc), some (.ref op), some (.ref oo), some (.int (iI mleast)), some (.int (iI mmost)), some (.int (iI mmount)), some (.int (iI mspeed)), some (.int (iI mroom)), some (.int (iI mreserve)), some (.int (iI 1)), some (.int (iI tu)), some (.int (iI tn)), some (.int xv), some (.int (iI y)), some (.int (iI de)), some (.int (iI cl)), some (.int (iI (msize (240 + cl)))), some (.int (iI mnights)), none, none, none, none, none, none, none] 598 [] := by
  obtain ⟨fs0, hro⟩ := hT.ro
  have hmz := hG.2.2.2.2.2 (240 + cl) (by omega) (by omega)
  have hNr := hG.1
  have hMK := hG.2.1
  have hNM := hG.2.2.1
  have hSP := hG.2.2.2.1
  refine r_iload B dL_law_598 rfl ?_
  refine r_bipush B dL_law_600 (by decide) ?_
  refine r_icmp_ne B dL_law_602 (tgt := 654) (by decide) (by omega) (by omega) (fun c602 => ?_) (fun c602 => ?_)
  · exact law_nightset hl0 B hL hT hG hAR hD hFE hn16 y0 d0 c0 hc1 hc2 kont
  · refine r_iload B dL_law_605 rfl ?_
    refine r_bipush B dL_law_607 (by decide) ?_
    refine r_iand B dL_law_609 ?_
    refine r_anz (by omega) (fun z609 e609 z609a z609b => ?_)
    refine r_if_ne B dL_law_610 (tgt := 654) (by decide) (by omega) (fun c610 => ?_) (fun c610 => ?_)
    · exact law_nightset hl0 B hL hT hG hAR hD hFE hn16 y0 d0 c0 hc1 hc2 kont
    · refine r_iconst B dL_law_613 ?_
      refine r_iload B dL_law_614 rfl ?_
      refine r_bipush B dL_law_616 (by decide) ?_
      refine r_ishr B dL_law_618 ?_
      refine r_shz 6 (by decide +kernel) (by omega) (fun z618 e618 z618a z618b => ?_)
      refine r_iconst B dL_law_619 ?_
      refine r_irem B dL_law_620 (by decide) ?_
      refine r_rmz (by omega) (by omega) (fun z620 e620 z620a z620b => ?_)
      refine r_iadd B dL_law_621 ?_
      refine r_istore B dL_law_622 (by decide) (lcat_v rfl rfl) ?_
      refine r_iload B dL_law_624 rfl ?_
      refine r_iload B dL_law_626 rfl ?_
      refine r_bipush B dL_law_628 (by decide) ?_
      refine r_ishr B dL_law_630 ?_
      refine r_shz 9 (by decide +kernel) (by omega) (fun z630 e630 z630a z630b => ?_)
      refine r_bipush B dL_law_631 (by decide) ?_
      refine r_irem B dL_law_633 (by decide) ?_
      refine r_rmz (by omega) (by omega) (fun z633 e633 z633a z633b => ?_)
      refine r_iadd B dL_law_634 ?_
      refine r_istore B dL_law_635 (by decide) (lcat_v rfl rfl) ?_
      refine r_aload_n B dL_law_637 rfl rfl ?_
      refine r_iload B dL_law_638 rfl ?_
      refine r_iconst B dL_law_640 ?_
      refine r_ishr B dL_law_641 ?_
      refine r_shz 4 (by decide +kernel) (by omega) (fun z641 e641 z641a z641b => ?_)
      refine r_iconst B dL_law_642 ?_
      refine r_iand B dL_law_643 ?_
      refine r_anz (by omega) (fun z643 e643 z643a z643b => ?_)
      refine r_iload B dL_law_644 rfl ?_
      refine r_iload B dL_law_646 rfl ?_
      refine r_callVX (n := 3) B dL_law_648 (ct_X9_setMarks l g sz0 hL.1 hT hG (z643) (1 + z620) (1 + z620 + z633) hl0 (by omega) (by omega) (by omega)) gL_law_X9_setMarks rfl (by decide +kernel) ⟨Nat.le_of_ble_eq_true rfl, Nat.le_of_ble_eq_true rfl⟩ hro rfl rfl rfl (Nat.le_of_ble_eq_true rfl) (by show cells + 3 ≤ 683647; omega) (by show slots + 18 ≤ 7050684; omega) (fun E h' hp => False.elim ?_) (fun v h hp => ?_)
      · obtain ⟨hp, -⟩ := hp
        have e9 := hp.2
        exact absurd (e9.symm.trans (tB_t (by omega))) (by decide)
      obtain ⟨ht0, hv, hST⟩ := hp
      subst v
      have hAR := hAR.fr hL hST.fr
      have hT := hST.base
      obtain ⟨fs0, hro⟩ := hT.ro
      dsimp only [Option.toList, List.cons_append, List.nil_append]
      have hG : RGm mnights z643 (1 + z620) (1 + z620 + z633) mroom mreserve mmount mspeed msize mbid mbound mcheap mpromised mcoin mpaid mowed := ⟨hG.1, ⟨by omega, by omega, by omega, by omega⟩, hG.2.2⟩
      refine r_goto B dL_law_651 (tgt := 1445) (by decide) ?_
      refine r_widen (k := cells + 600) (n := slots + 12000) (by show cells + 3 ≤ cells + 600; omega) (by show slots + 18 ≤ slots + 12000; omega) ?_
      exact r_lv (lvLe_s rfl (lvLe_s rfl (lvLe_s rfl (lvLe_s rfl (lvLe_s rfl (lvLe_s rfl (lvLe_s rfl (lvLe_s rfl (lvLe_s rfl (lvLe_s rfl (lvLe_s rfl (lvLe_s rfl (lvLe_s rfl (lvLe_s rfl (lvLe_s rfl (lvLe_s rfl (lvLe_n (lvLe_s rfl (lvLe_n (lvLe_s rfl (lvLe_n (lvLe_n (lvLe_n (lvLe_n (lvLe_n (lvLe_n (lvLe_n (lvLe_n (lvLe_n lvLe_nil))))))))))))))))))))))))))))) (kont _ _ _ _ _ _ _ _ ⟨_, _, _, _, _, _, _, _, _, _, _, _, _, _, _, _, _, _, _, _, hT, hG, hAR, hD, hFE, by omega⟩)
set_option maxHeartbeats 8000000 in
set_option maxRecDepth 100000 in
theorem law_copy {p : Program} {l : Launch} {e : Env} {s : State} {m : MethodId} {args : Array Value} {below : List Frame} {meth : Method} {c : Code} {Q : State → Prop} {g : GG} {sz0 : Nat} {A : Nat → Nat} {Z : Nat → Prop} {od ob oc op oo bs : Nat} {h : AH} {mnights mbits mleast mmost mroom mreserve mmount mspeed : Int} {mdata msize mends mmany mkind mchain mholds mbid mbound mcheap mpromised mcoin mpaid mowed : Int → Int} {D : Nat → Int64} {Fb Fc Fp Fo : Int → Int} {cells slots : Nat} {tn tu y de cl : Int} {xv : Int32} (hl0 : l.stackTraces = false) (B : FX p s m args c cL_law RL wsL_law 29 g sz0) (hL : LY A Z od ob oc op oo) (hT : ST g A Z h mdata msize mends mmany mkind mchain mholds mnights mbits mleast mmost mroom mreserve mmount mspeed mbid mbound mcheap mpromised mcoin mpaid mowed h) (hG : RGm mnights mbits mleast mmost mroom mreserve mmount mspeed msize mbid mbound mcheap mpromised mcoin mpaid mowed) (hAR : AR g od ob oc op oo D Fb Fc Fp Fo h) (hD : DGI D mdata msize mkind mnights) (hFE : FE Fb Fc Fp Fo mbid mcoin mpaid mowed) (hn16 : mnights ≤ 16) (y0 : 0 ≤ y ∧ y ≤ 268435455) (d0 : 0 ≤ de ∧ de ≤ 15) (c0 : 0 ≤ cl ∧ cl ≤ 3) (hc1 : cells + 1000 ≤ 683647) (hc2 : slots + 14000 ≤ 7050684) (kont : ∀ (h' : AH) (ng ls ms mo sp rm rs : Int), JL g A Z od ob oc op oo ng ls ms mo sp rm rs h' → WA p l e room_1 s m args below meth c g sz0 29 Q h' (cells + 600) (slots + 12000) [some (.ref bs), some (.ref (A 0)), some (.ref od), some (.ref ob), some (.ref oc), some (.ref op), some (.ref oo), some (.int (iI ls)), some (.int (iI ms)), some (.int (iI mo)), some (.int (iI sp)), some (.int (iI rm)), some (.int (iI rs)), some (.int (iI 1)), some (.int (iI tu)), some (.int (iI tn)), none, some (.int (iI y)), none, some (.int (iI cl)), none, none, none, none, none, none, none, none, none] 1445 []) : WA p l e room_1 s m args below meth c g sz0 29 Q h cells slots [some (.ref bs), some (.ref (A 0)), some (.ref od), some (.ref ob), some (.ref oc), some (.ref op), some (.ref oo), some (.int (iI mleast)), some (.int (iI mmost)), some (.int (iI mmount)), some (.int (iI mspeed)), some (.int (iI mroom)), some (.int (iI mreserve)), some (.int (iI 1)), some (.int (iI tu)), some (.int (iI tn)), some (.int xv), some (.int (iI y)), some (.int (iI de)), some (.int (iI cl)), some (.int (iI (msize (240 + cl)))), some (.int (iI mnights)), none, none, none, none, none, none, none] 474 [] := by
  obtain ⟨fs0, hro⟩ := hT.ro
  have hmz := hG.2.2.2.2.2 (240 + cl) (by omega) (by omega)
  have hNr := hG.1
  have hMK := hG.2.1
  have hNM := hG.2.2.1
  have hSP := hG.2.2.2.1
  refine r_iload B dL_law_474 rfl ?_
  refine r_iconst B dL_law_476 ?_
  refine r_icmp_ne B dL_law_477 (tgt := 598) (by decide) (by omega) (by omega) (fun c477 => ?_) (fun c477 => ?_)
  · exact law_marks hl0 B hL hT hG hAR hD hFE hn16 y0 d0 c0 hc1 hc2 kont
  · refine r_iload B dL_law_480 rfl ?_
    refine r_iconst B dL_law_482 ?_
    refine r_ishr B dL_law_483 ?_
    refine r_shz 2 (by decide +kernel) (by omega) (fun z483 e483 z483a z483b => ?_)
    refine r_iconst B dL_law_484 ?_
    refine r_iand B dL_law_485 ?_
    refine r_anz (by omega) (fun z485 e485 z485a z485b => ?_)
    refine r_istore B dL_law_486 (by decide) (lcat_v rfl rfl) ?_
    refine r_iload B dL_law_488 rfl ?_
    refine r_iconst B dL_law_490 ?_
    refine r_ishr B dL_law_491 ?_
    refine r_shz 4 (by decide +kernel) (by omega) (fun z491 e491 z491a z491b => ?_)
    refine r_iload B dL_law_492 rfl ?_
    refine r_iconst B dL_law_494 ?_
    refine r_iadd B dL_law_495 ?_
    refine r_irem B dL_law_496 (iI_nz (by omega)) ?_
    refine r_rmz (by omega) (by omega) (fun z496 e496 z496a z496b => ?_)
    refine r_istore B dL_law_497 (by decide) (lcat_v rfl rfl) ?_
    refine r_iload B dL_law_499 rfl ?_
    refine r_bipush B dL_law_501 (by decide) ?_
    refine r_ishr B dL_law_503 ?_
    refine r_shz 8 (by decide +kernel) (by omega) (fun z503 e503 z503a z503b => ?_)
    refine r_iload B dL_law_504 rfl ?_
    refine r_iload B dL_law_506 rfl ?_
    refine r_isub B dL_law_508 ?_
    refine r_iconst B dL_law_509 ?_
    refine r_iadd B dL_law_510 ?_
    refine r_irem B dL_law_511 (iI_nz (by omega)) ?_
    refine r_rmz (by omega) (by omega) (fun z511 e511 z511a z511b => ?_)
    refine r_istore B dL_law_512 (by decide) (lcat_v rfl rfl) ?_
    refine r_aload_n B dL_law_514 rfl rfl ?_
    refine r_iload B dL_law_515 rfl ?_
    have hmt := hG.2.2.2.2.2 (240 + z485) (by omega) (by omega)
    refine r_callVX (n := 1) B dL_law_517 (ct_X9_length l g sz0 hL.1 hT hG (z485) hl0 (by omega)) gL_law_X9_length rfl (by decide +kernel) ⟨Nat.le_of_ble_eq_true rfl, Nat.le_of_ble_eq_true rfl⟩ hro rfl rfl rfl (Nat.le_of_ble_eq_true rfl) (by show cells + 1 ≤ 683647; omega) (by show slots + 6 ≤ 7050684; omega) (fun E h' hp => False.elim ?_) (fun v h hp => ?_)
    · obtain ⟨hp, -⟩ := hp
      have e9 := hp.2
      unfold tCl at e9; (repeat' (split at e9)) <;> omega
    obtain ⟨ht0, hv, hST⟩ := hp
    subst v
    have hAR := hAR.fr hL hST.fr
    have hT := hST.base
    obtain ⟨fs0, hro⟩ := hT.ro
    dsimp only [Option.toList, List.cons_append, List.nil_append]
    refine r_istore B dL_law_520 (by decide) (lcat_v rfl rfl) ?_
    refine r_iload B dL_law_522 rfl ?_
    refine r_iload B dL_law_524 rfl ?_
    refine r_iadd B dL_law_526 ?_
    refine r_bipush B dL_law_527 (by decide) ?_
    have join542 : ∀ (so : Int), (0 ≤ so ∧ so ≤ z511 ∧ msize (240 + z485) + so ≤ 48) → WA p l e room_1 s m args below meth c g sz0 29 Q h (cells + 1) (slots + 6) [some (.ref bs), some (.ref (A 0)), some (.ref od), some (.ref ob), some (.ref oc), some (.ref op), some (.ref oo), some (.int (iI mleast)), some (.int (iI mmost)), some (.int (iI mmount)), some (.int (iI mspeed)), some (.int (iI mroom)), some (.int (iI mreserve)), some (.int (iI 1)), some (.int (iI tu)), some (.int (iI tn)), some (.int xv), some (.int (iI y)), some (.int (iI de)), some (.int (iI cl)), some (.int (iI (msize (240 + cl)))), some (.int (iI mnights)), some (.int (iI z485)), some (.int (iI z496)), none, some (.int (iI (msize (240 + z485)))), none, none, none] 542 [.int (iI so)] := by
      intro so s0
      refine r_istore B dL_law_542 (by decide) (lcat_v rfl rfl) ?_
      have hdat0 := hT.dat
      have hcm : ¬ cl = z485 ∨ msize (240 + cl) = msize (240 + z485) := by
        by_cases w : cl = z485
        · exact Or.inr (by rw [w])
        · exact Or.inl w
      refine r_aload_n B dL_law_544 rfl rfl ?_
      refine r_iload B dL_law_545 rfl ?_
      refine r_iload B dL_law_547 rfl ?_
      refine r_iload B dL_law_549 rfl ?_
      refine r_iload B dL_law_551 rfl ?_
      refine r_callVX (n := 4) B dL_law_553 (ct_X9_copy l g sz0 hL.1 hT hG (cl) (z496) (so) (z485) hl0 (by omega) (by omega) (by omega) (by omega)) gL_law_X9_copy rfl (by decide +kernel) ⟨Nat.le_of_ble_eq_true rfl, Nat.le_of_ble_eq_true rfl⟩ hro rfl rfl rfl (Nat.le_of_ble_eq_true rfl) (by show (cells + 1) + 4 ≤ 683647; omega) (by show (slots + 6) + 24 ≤ 7050684; omega) (fun E h' hp => False.elim ?_) (fun v h hp => ?_)
      · obtain ⟨hp, -⟩ := hp
        rcases hp with ⟨-, e9⟩ | ⟨-, e9⟩ | ⟨-, e9⟩
        · unfold tCopy at e9; (repeat' (split at e9)) <;> omega
        · unfold tCopy at e9; (repeat' (split at e9)) <;> omega
        · unfold tCopy at e9; (repeat' (split at e9)) <;> omega
      obtain ⟨ht0, hv, hST⟩ := hp
      subst v
      have hAR := hAR.fr hL hST.fr
      have hT := hST.base
      obtain ⟨fs0, hro⟩ := hT.ro
      dsimp only [Option.toList, List.cons_append, List.nil_append]
      have hD := hD.file hG.2.2.2.2.2 (by omega) (d' := cpyF mdata (48 * (240 + z485) + msize (240 + z485)) (48 * (240 + cl) + z496) so) (s' := upZ msize (240 + z485) (msize (240 + z485) + so)) (fun i i0 i1 => by unfold cpyF; rw [if_neg (by omega)]) (fun r r0 r1 => upZ_ne _ _ (by omega))
      have hG := hG.size (x := z485) (v := msize (240 + z485) + so) (by omega)
      have hup : msize (240 + cl) ≤ upZ msize (240 + z485) (msize (240 + z485) + so) (240 + cl) := by
        unfold upZ
        split
        · omega
        · omega
      refine r_iload B dL_law_556 rfl ?_
      refine r_iload B dL_law_558 rfl ?_
      refine r_iadd B dL_law_560 ?_
      refine r_icmp_ne B dL_law_561 (tgt := 592) (by decide) (by omega) (by omega) (fun c561 => ?_) (fun c561 => ?_)
      · exact absurd rfl c561
      · refine r_iload B dL_law_564 rfl ?_
        refine r_if_eq B dL_law_566 (tgt := 588) (by decide) (by omega) (fun c566 => ?_) (fun c566 => ?_)
        · refine r_iconst B dL_law_588 ?_
          refine r_goto B dL_law_589 (tgt := 593) (by decide) ?_
          refine r_istore B dL_law_593 (by decide) (lcat_v rfl rfl) ?_
          refine r_goto B dL_law_595 (tgt := 1445) (by decide) ?_
          refine r_widen (k := cells + 600) (n := slots + 12000) (by show (cells + 1) + 4 ≤ cells + 600; omega) (by show (slots + 6) + 24 ≤ slots + 12000; omega) ?_
          exact r_lv (lvLe_s rfl (lvLe_s rfl (lvLe_s rfl (lvLe_s rfl (lvLe_s rfl (lvLe_s rfl (lvLe_s rfl (lvLe_s rfl (lvLe_s rfl (lvLe_s rfl (lvLe_s rfl (lvLe_s rfl (lvLe_s rfl (lvLe_s rfl (lvLe_s rfl (lvLe_s rfl (lvLe_n (lvLe_s rfl (lvLe_n (lvLe_s rfl (lvLe_n (lvLe_n (lvLe_n (lvLe_n (lvLe_n (lvLe_n (lvLe_n (lvLe_n (lvLe_n lvLe_nil))))))))))))))))))))))))))))) (kont _ _ _ _ _ _ _ _ ⟨_, _, _, _, _, _, _, _, _, _, _, _, _, _, _, _, _, _, _, _, hT, hG, hAR, hD, hFE, by omega⟩)
        · refine r_aload_n B dL_law_569 rfl rfl ?_
          refine r_iload B dL_law_570 rfl ?_
          refine r_iload B dL_law_572 rfl ?_
          refine r_callVX (n := 2) B dL_law_574 (ct_X9_at l g sz0 hL.1 hT hG (z485) (msize (240 + z485)) hl0 (by omega) (by omega)) gL_law_X9_at rfl (by decide +kernel) ⟨Nat.le_of_ble_eq_true rfl, Nat.le_of_ble_eq_true rfl⟩ hro rfl rfl rfl (Nat.le_of_ble_eq_true rfl) (by show (cells + 1) + 4 + 2 ≤ 683647; omega) (by show (slots + 6) + 24 + 12 ≤ 7050684; omega) (fun E h' hp => False.elim ?_) (fun v h hp => ?_)
          · rw [upZ_at] at hp
            obtain ⟨hp, -⟩ := hp
            rcases hp with ⟨-, e9⟩ | ⟨-, e9⟩
            · unfold tAt at e9; (repeat' (split at e9)) <;> omega
            · unfold tAt at e9; (repeat' (split at e9)) <;> omega
          obtain ⟨ht0, hv, hST⟩ := hp
          subst v
          have hAR := hAR.fr hL hST.fr
          have hT := hST.base
          obtain ⟨fs0, hro⟩ := hT.ro
          dsimp only [Option.toList, List.cons_append, List.nil_append]
          refine r_topz (show cpyF mdata (48 * (240 + z485) + msize (240 + z485)) (48 * (240 + cl) + z496) so (48 * (240 + z485) + msize (240 + z485)) = mdata (48 * (240 + cl) + z496) by unfold cpyF; rw [if_pos (by omega)]; congr 1; omega) ?_
          refine r_aload_n B dL_law_577 rfl rfl ?_
          refine r_iload B dL_law_578 rfl ?_
          refine r_iload B dL_law_580 rfl ?_
          refine r_callVX (n := 2) B dL_law_582 (ct_X9_at l g sz0 hL.1 hT hG (cl) (z496) hl0 (by omega) (by omega)) gL_law_X9_at rfl (by decide +kernel) ⟨Nat.le_of_ble_eq_true rfl, Nat.le_of_ble_eq_true rfl⟩ hro rfl rfl rfl (Nat.le_of_ble_eq_true rfl) (by show (cells + 1) + 4 + 2 + 2 ≤ 683647; omega) (by show (slots + 6) + 24 + 12 + 12 ≤ 7050684; omega) (fun E h' hp => False.elim ?_) (fun v h hp => ?_)
          · obtain ⟨hp, -⟩ := hp
            rcases hp with ⟨-, e9⟩ | ⟨-, e9⟩
            · unfold tAt at e9; (repeat' (split at e9)) <;> omega
            · unfold tAt at e9; (repeat' (split at e9)) <;> omega
          obtain ⟨ht0, hv, hST⟩ := hp
          subst v
          have hAR := hAR.fr hL hST.fr
          have hT := hST.base
          obtain ⟨fs0, hro⟩ := hT.ro
          dsimp only [Option.toList, List.cons_append, List.nil_append]
          refine r_topz (show cpyF mdata (48 * (240 + z485) + msize (240 + z485)) (48 * (240 + cl) + z496) so (48 * (240 + cl) + z496) = mdata (48 * (240 + cl) + z496) by unfold cpyF; rw [if_neg (by omega)]) ?_
          refine r_icmp_ne B dL_law_585 (tgt := 592) (by decide) (by have := hdat0 (48 * (240 + cl) + z496) (by omega) (by omega); omega) (by have := hdat0 (48 * (240 + cl) + z496) (by omega) (by omega); omega) (fun c585 => ?_) (fun c585 => ?_)
          · exact absurd rfl c585
          · refine r_iconst B dL_law_588 ?_
            refine r_goto B dL_law_589 (tgt := 593) (by decide) ?_
            refine r_istore B dL_law_593 (by decide) (lcat_v rfl rfl) ?_
            refine r_goto B dL_law_595 (tgt := 1445) (by decide) ?_
            refine r_widen (k := cells + 600) (n := slots + 12000) (by show (cells + 1) + 4 + 2 + 2 ≤ cells + 600; omega) (by show (slots + 6) + 24 + 12 + 12 ≤ slots + 12000; omega) ?_
            exact r_lv (lvLe_s rfl (lvLe_s rfl (lvLe_s rfl (lvLe_s rfl (lvLe_s rfl (lvLe_s rfl (lvLe_s rfl (lvLe_s rfl (lvLe_s rfl (lvLe_s rfl (lvLe_s rfl (lvLe_s rfl (lvLe_s rfl (lvLe_s rfl (lvLe_s rfl (lvLe_s rfl (lvLe_n (lvLe_s rfl (lvLe_n (lvLe_s rfl (lvLe_n (lvLe_n (lvLe_n (lvLe_n (lvLe_n (lvLe_n (lvLe_n (lvLe_n (lvLe_n lvLe_nil))))))))))))))))))))))))))))) (kont _ _ _ _ _ _ _ _ ⟨_, _, _, _, _, _, _, _, _, _, _, _, _, _, _, _, _, _, _, _, hT, hG, hAR, hD, hFE, by omega⟩)
    refine r_icmp_le B dL_law_529 (tgt := 540) (by decide) (by omega) (by omega) (fun c529 => ?_) (fun c529 => ?_)
    · refine r_iload B dL_law_540 rfl ?_
      exact r_lv (lvLe_s rfl (lvLe_s rfl (lvLe_s rfl (lvLe_s rfl (lvLe_s rfl (lvLe_s rfl (lvLe_s rfl (lvLe_s rfl (lvLe_s rfl (lvLe_s rfl (lvLe_s rfl (lvLe_s rfl (lvLe_s rfl (lvLe_s rfl (lvLe_s rfl (lvLe_s rfl (lvLe_s rfl (lvLe_s rfl (lvLe_s rfl (lvLe_s rfl (lvLe_s rfl (lvLe_s rfl (lvLe_s rfl (lvLe_s rfl (lvLe_n (lvLe_s rfl (lvLe_n (lvLe_n (lvLe_n lvLe_nil))))))))))))))))))))))))))))) (join542 _ (by omega))
    · refine r_bipush B dL_law_532 (by decide) ?_
      refine r_iload B dL_law_534 rfl ?_
      refine r_isub B dL_law_536 ?_
      refine r_goto B dL_law_537 (tgt := 542) (by decide) ?_
      exact r_lv (lvLe_s rfl (lvLe_s rfl (lvLe_s rfl (lvLe_s rfl (lvLe_s rfl (lvLe_s rfl (lvLe_s rfl (lvLe_s rfl (lvLe_s rfl (lvLe_s rfl (lvLe_s rfl (lvLe_s rfl (lvLe_s rfl (lvLe_s rfl (lvLe_s rfl (lvLe_s rfl (lvLe_s rfl (lvLe_s rfl (lvLe_s rfl (lvLe_s rfl (lvLe_s rfl (lvLe_s rfl (lvLe_s rfl (lvLe_s rfl (lvLe_n (lvLe_s rfl (lvLe_n (lvLe_n (lvLe_n lvLe_nil))))))))))))))))))))))))))))) (join542 _ (by omega))
