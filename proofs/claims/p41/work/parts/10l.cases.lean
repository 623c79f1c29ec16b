set_option maxHeartbeats 8000000 in
set_option maxRecDepth 100000 in
theorem law_speed {p : Program} {l : Launch} {e : Env} {s : State} {m : MethodId} {args : Array Value} {below : List Frame} {meth : Method} {c : Code} {Q : State → Prop} {g : GG} {sz0 : Nat} {A : Nat → Nat} {Z : Nat → Prop} {od ob oc op oo bs : Nat} {h : AH} {mnights mbits mleast mmost mroom mreserve mmount mspeed : Int} {mdata msize mends mmany mkind mchain mholds mbid mbound mcheap mpromised mcoin mpaid mowed : Int → Int} {D : Nat → Int64} {Fb Fc Fp Fo : Int → Int} {cells slots : Nat} {tn tu y de cl : Int} {xv : Int32} (hl0 : l.stackTraces = false) (B : FX p s m args c cL_law RL wsL_law 29 g sz0) (hL : LY A Z od ob oc op oo) (hT : ST g A Z h mdata msize mends mmany mkind mchain mholds mnights mbits mleast mmost mroom mreserve mmount mspeed mbid mbound mcheap mpromised mcoin mpaid mowed h) (hG : RGm mnights mbits mleast mmost mroom mreserve mmount mspeed msize mbid mbound mcheap mpromised mcoin mpaid mowed) (hAR : AR g od ob oc op oo D Fb Fc Fp Fo h) (hD : DGI D mdata msize mkind mnights) (hFE : FE Fb Fc Fp Fo mbid mcoin mpaid mowed) (hn16 : mnights ≤ 16) (y0 : 0 ≤ y ∧ y ≤ 268435455) (d0 : 0 ≤ de ∧ de ≤ 15) (c0 : 0 ≤ cl ∧ cl ≤ 3) (hc1 : cells + 1000 ≤ 683647) (hc2 : slots + 14000 ≤ 7050684) (kont : ∀ (h' : AH) (ng ls ms mo sp rm rs : Int), JL g A Z od ob oc op oo ng ls ms mo sp rm rs h' → WA p l e room_1 s m args below meth c g sz0 29 Q h' (cells + 600) (slots + 12000) [some (.ref bs), some (.ref (A 0)), some (.ref od), some (.ref ob), some (.ref oc), some (.ref op), some (.ref oo), some (.int (iI ls)), some (.int (iI ms)), some (.int (iI mo)), some (.int (iI sp)), some (.int (iI rm)), some (.int (iI rs)), some (.int (iI 1)), some (.int (iI tu)), some (.int (iI tn)), none, some (.int (iI y)), none, some (.int (iI cl)), none, none, none, none, none, none, none, none, none] 1445 []) : WA p l e room_1 s m args below meth c g sz0 29 Q h cells slots [some (.ref bs), some (.ref (A 0)), some (.ref od), some (.ref ob), some (.ref oc), some (.ref op), some (.ref oo), some (.int (iI mleast)), some (.int (iI mmost)), some (.int (iI mmount)), some (.int (iI mspeed)), some (.int (iI mroom)), some (.int (iI mreserve)), some (.int (iI 1)), some (.int (iI tu)), some (.int (iI tn)), some (.int xv), some (.int (iI y)), some (.int (iI de)), some (.int (iI cl)), some (.int (iI (msize (240 + cl)))), some (.int (iI mnights)), none, none, none, none, none, none, none] 790 [] := by
  obtain ⟨fs0, hro⟩ := hT.ro
  have hmz := hG.2.2.2.2.2 (240 + cl) (by omega) (by omega)
  have hNr := hG.1
  have hMK := hG.2.1
  have hNM := hG.2.2.1
  have hSP := hG.2.2.2.1
  refine r_iload B dL_law_790 rfl ?_
  refine r_bipush B dL_law_792 (by decide) ?_
  refine r_icmp_ne B dL_law_794 (tgt := 867) (by decide) (by omega) (by omega) (fun c794 => ?_) (fun c794 => ?_)
  · exact law_drill hl0 B hL hT hG hAR hD hFE hn16 y0 d0 c0 hc1 hc2 kont
  · refine r_iload B dL_law_797 rfl ?_
    refine r_iconst B dL_law_799 ?_
    refine r_iand B dL_law_800 ?_
    refine r_anz (by omega) (fun z800 e800 z800a z800b => ?_)
    refine r_if_ne B dL_law_801 (tgt := 867) (by decide) (by omega) (fun c801 => ?_) (fun c801 => ?_)
    · exact law_drill hl0 B hL hT hG hAR hD hFE hn16 y0 d0 c0 hc1 hc2 kont
    · refine r_iload B dL_law_804 rfl ?_
      refine r_iconst B dL_law_806 ?_
      refine r_ishr B dL_law_807 ?_
      refine r_shz 3 (by decide +kernel) (by omega) (fun z807 e807 z807a z807b => ?_)
      refine r_bipush B dL_law_808 (by decide) ?_
      refine r_irem B dL_law_810 (by decide) ?_
      refine r_rmz (by omega) (by omega) (fun z810 e810 z810a z810b => ?_)
      refine r_istore B dL_law_811 (by decide) (lcat_v rfl rfl) ?_
      refine r_iconst B dL_law_813 ?_
      refine r_iload B dL_law_814 rfl ?_
      refine r_bipush B dL_law_816 (by decide) ?_
      refine r_ishr B dL_law_818 ?_
      refine r_shz 8 (by decide +kernel) (by omega) (fun z818 e818 z818a z818b => ?_)
      refine r_bipush B dL_law_819 (by decide) ?_
      refine r_irem B dL_law_821 (by decide) ?_
      refine r_rmz (by omega) (by omega) (fun z821 e821 z821a z821b => ?_)
      refine r_iadd B dL_law_822 ?_
      refine r_istore B dL_law_823 (by decide) (lcat_v rfl rfl) ?_
      refine r_aload_n B dL_law_825 rfl rfl ?_
      refine r_iload B dL_law_826 rfl ?_
      refine r_iload B dL_law_828 rfl ?_
      refine r_callVX (n := 2) B dL_law_830 (ct_X9_setSpeed l g sz0 hL.1 hT hG (z810) (1 + z821) hl0 (by omega) (by omega)) gL_law_X9_setSpeed rfl (by decide +kernel) ⟨Nat.le_of_ble_eq_true rfl, Nat.le_of_ble_eq_true rfl⟩ hro rfl rfl rfl (Nat.le_of_ble_eq_true rfl) (by show cells + 2 ≤ 683647; omega) (by show slots + 12 ≤ 7050684; omega) (fun E h' hp => False.elim ?_) (fun v h hp => ?_)
      · obtain ⟨hp, -⟩ := hp
        have e9 := hp.2
        exact absurd (e9.symm.trans (tB_t (by omega))) (by decide)
      obtain ⟨ht0, hv, hST⟩ := hp
      subst v
      have hAR := hAR.fr hL hST.fr
      have hT := hST.base
      obtain ⟨fs0, hro⟩ := hT.ro
      dsimp only [Option.toList, List.cons_append, List.nil_append]
      have hG : RGm mnights mbits mleast mmost mroom mreserve z810 (1 + z821) msize mbid mbound mcheap mpromised mcoin mpaid mowed := ⟨hG.1, hG.2.1, hG.2.2.1, ⟨by omega, by omega, by omega⟩, hG.2.2.2.2⟩
      refine r_aload B dL_law_833 rfl rfl ?_
      refine r_iload B dL_law_835 rfl ?_
      refine r_iload B dL_law_837 rfl ?_
      refine r_bipush B dL_law_839 (by decide) ?_
      refine r_ishr B dL_law_841 ?_
      refine r_shz 11 (by decide +kernel) (by omega) (fun z841 e841 z841a z841b => ?_)
      refine r_bipush B dL_law_842 (by decide) ?_
      refine r_irem B dL_law_844 (by decide) ?_
      refine r_rmz (by omega) (by omega) (fun z844 e844 z844a z844b => ?_)
      refine r_iast B dL_law_845 hAR.2.2.1 (by decide) (by omega) (by show cl < 4; omega) ?_
      have hT := hT.wr hL (o := oc) (ev := iE g 4 (upZ Fc cl z844)) (Or.inr (Or.inr (Or.inl rfl)))
      have hAR := hAR.wc hL (F' := upZ Fc cl z844)
      obtain ⟨fs0, hro⟩ := hT.ro
      refine r_aload_n B dL_law_846 rfl rfl ?_
      refine r_iload B dL_law_847 rfl ?_
      refine r_iload B dL_law_849 rfl ?_
      refine r_iconst B dL_law_851 ?_
      refine r_ishr B dL_law_852 ?_
      refine r_shz 4 (by decide +kernel) (by omega) (fun z852 e852 z852a z852b => ?_)
      refine r_bipush B dL_law_853 (by decide) ?_
      refine r_irem B dL_law_855 (by decide) ?_
      refine r_rmz (by omega) (by omega) (fun z855 e855 z855a z855b => ?_)
      refine r_aload B dL_law_856 rfl rfl ?_
      refine r_iload B dL_law_858 rfl ?_
      refine r_iald B dL_law_860 hAR.2.2.1 (by decide) (by omega) (by show cl < 4; omega) ?_
      refine r_topz (upZ_at _ _ _) ?_
      refine r_callVX (n := 3) B dL_law_861 (ct_X9_promise l g sz0 hL.1 hT hG (cl) (z855) (z844) hl0 (by omega) (by omega) (by omega)) gL_law_X9_promise rfl (by decide +kernel) ⟨Nat.le_of_ble_eq_true rfl, Nat.le_of_ble_eq_true rfl⟩ hro rfl rfl rfl (Nat.le_of_ble_eq_true rfl) (by show cells + 2 + 3 ≤ 683647; omega) (by show slots + 12 + 18 ≤ 7050684; omega) (fun E h' hp => False.elim ?_) (fun v h hp => ?_)
      · obtain ⟨hp, -⟩ := hp
        have e9 := hp.2
        exact absurd (e9.symm.trans (tB_t (by omega))) (by decide)
      obtain ⟨ht0, hv, hST⟩ := hp
      subst v
      have hAR := hAR.fr hL hST.fr
      have hT := hST.base
      obtain ⟨fs0, hro⟩ := hT.ro
      dsimp only [Option.toList, List.cons_append, List.nil_append]
      have hG : RGm mnights mbits mleast mmost mroom mreserve z810 (1 + z821) msize mbid mbound mcheap (upZ mpromised cl z855) (upZ mcoin cl z844) mpaid mowed := hG.cl (x := cl) (fun y9 w0 w1 => ⟨Or.inl rfl, Or.inl rfl, Or.inl rfl, upZ_or (by omega), upZ_or (by omega), Or.inl rfl⟩)
      have hFE : FE Fb (upZ Fc cl z844) Fp Fo mbid (upZ mcoin cl z844) mpaid mowed := fun y9 w0 w1 => ⟨(hFE y9 w0 w1).1, by unfold upZ; split; rfl; exact (hFE y9 w0 w1).2.1, (hFE y9 w0 w1).2.2⟩
      refine r_goto B dL_law_864 (tgt := 1445) (by decide) ?_
      refine r_widen (k := cells + 600) (n := slots + 12000) (by show cells + 2 + 3 ≤ cells + 600; omega) (by show slots + 12 + 18 ≤ slots + 12000; omega) ?_
      exact r_lv (lvLe_s rfl (lvLe_s rfl (lvLe_s rfl (lvLe_s rfl (lvLe_s rfl (lvLe_s rfl (lvLe_s rfl (lvLe_s rfl (lvLe_s rfl (lvLe_s rfl (lvLe_s rfl (lvLe_s rfl (lvLe_s rfl (lvLe_s rfl (lvLe_s rfl (lvLe_s rfl (lvLe_n (lvLe_s rfl (lvLe_n (lvLe_s rfl (lvLe_n (lvLe_n (lvLe_n (lvLe_n (lvLe_n (lvLe_n (lvLe_n (lvLe_n (lvLe_n lvLe_nil))))))))))))))))))))))))))))) (kont _ _ _ _ _ _ _ _ ⟨_, _, _, _, _, _, _, _, _, _, _, _, _, _, _, _, _, _, _, _, hT, hG, hAR, hD, hFE, by omega⟩)
set_option maxHeartbeats 8000000 in
set_option maxRecDepth 100000 in
theorem law_chain {p : Program} {l : Launch} {e : Env} {s : State} {m : MethodId} {args : Array Value} {below : List Frame} {meth : Method} {c : Code} {Q : State → Prop} {g : GG} {sz0 : Nat} {A : Nat → Nat} {Z : Nat → Prop} {od ob oc op oo bs : Nat} {h : AH} {mnights mbits mleast mmost mroom mreserve mmount mspeed : Int} {mdata msize mends mmany mkind mchain mholds mbid mbound mcheap mpromised mcoin mpaid mowed : Int → Int} {D : Nat → Int64} {Fb Fc Fp Fo : Int → Int} {cells slots : Nat} {tn tu y de cl : Int} {xv : Int32} (hl0 : l.stackTraces = false) (B : FX p s m args c cL_law RL wsL_law 29 g sz0) (hL : LY A Z od ob oc op oo) (hT : ST g A Z h mdata msize mends mmany mkind mchain mholds mnights mbits mleast mmost mroom mreserve mmount mspeed mbid mbound mcheap mpromised mcoin mpaid mowed h) (hG : RGm mnights mbits mleast mmost mroom mreserve mmount mspeed msize mbid mbound mcheap mpromised mcoin mpaid mowed) (hAR : AR g od ob oc op oo D Fb Fc Fp Fo h) (hD : DGI D mdata msize mkind mnights) (hFE : FE Fb Fc Fp Fo mbid mcoin mpaid mowed) (hn16 : mnights ≤ 16) (y0 : 0 ≤ y ∧ y ≤ 268435455) (d0 : 0 ≤ de ∧ de ≤ 15) (c0 : 0 ≤ cl ∧ cl ≤ 3) (hc1 : cells + 1000 ≤ 683647) (hc2 : slots + 14000 ≤ 7050684) (kont : ∀ (h' : AH) (ng ls ms mo sp rm rs : Int), JL g A Z od ob oc op oo ng ls ms mo sp rm rs h' → WA p l e room_1 s m args below meth c g sz0 29 Q h' (cells + 600) (slots + 12000) [some (.ref bs), some (.ref (A 0)), some (.ref od), some (.ref ob), some (.ref oc), some (.ref op), some (.ref oo), some (.int (iI ls)), some (.int (iI ms)), some (.int (iI mo)), some (.int (iI sp)), some (.int (iI rm)), some (.int (iI rs)), some (.int (iI 1)), some (.int (iI tu)), some (.int (iI tn)), none, some (.int (iI y)), none, some (.int (iI cl)), none, none, none, none, none, none, none, none, none] 1445 []) : WA p l e room_1 s m args below meth c g sz0 29 Q h cells slots [some (.ref bs), some (.ref (A 0)), some (.ref od), some (.ref ob), some (.ref oc), some (.ref op), some (.ref oo), some (.int (iI mleast)), some (.int (iI mmost)), some (.int (iI mmount)), some (.int (iI mspeed)), some (.int (iI mroom)), some (.int (iI mreserve)), some (.int (iI 1)), some (.int (iI tu)), some (.int (iI tn)), some (.int xv), some (.int (iI y)), some (.int (iI de)), some (.int (iI cl)), some (.int (iI (msize (240 + cl)))), some (.int (iI mnights)), none, none, none, none, none, none, none] 760 [] := by
  obtain ⟨fs0, hro⟩ := hT.ro
  have hmz := hG.2.2.2.2.2 (240 + cl) (by omega) (by omega)
  have hNr := hG.1
  have hMK := hG.2.1
  have hNM := hG.2.2.1
  have hSP := hG.2.2.2.1
  refine r_iload B dL_law_760 rfl ?_
  refine r_bipush B dL_law_762 (by decide) ?_
  refine r_icmp_ne B dL_law_764 (tgt := 790) (by decide) (by omega) (by omega) (fun c764 => ?_) (fun c764 => ?_)
  · exact law_speed hl0 B hL hT hG hAR hD hFE hn16 y0 d0 c0 hc1 hc2 kont
  · refine r_aload_n B dL_law_767 rfl rfl ?_
    refine r_iload B dL_law_768 rfl ?_
    refine r_iload B dL_law_770 rfl ?_
    refine r_iconst B dL_law_772 ?_
    refine r_ishr B dL_law_773 ?_
    refine r_shz 3 (by decide +kernel) (by omega) (fun z773 e773 z773a z773b => ?_)
    refine r_iconst B dL_law_774 ?_
    refine r_irem B dL_law_775 (by decide) ?_
    refine r_rmz (by omega) (by omega) (fun z775 e775 z775a z775b => ?_)
    refine r_iload B dL_law_776 rfl ?_
    refine r_bipush B dL_law_778 (by decide) ?_
    refine r_ishr B dL_law_780 ?_
    refine r_shz 6 (by decide +kernel) (by omega) (fun z780 e780 z780a z780b => ?_)
    refine r_bipush B dL_law_781 (by decide) ?_
    refine r_irem B dL_law_783 (by decide) ?_
    refine r_rmz (by omega) (by omega) (fun z783 e783 z783a z783b => ?_)
    refine r_callVX (n := 3) B dL_law_784 (ct_X9_setChain l g sz0 hL.1 hT hG (cl) (z775) (z783) hl0 (by omega) (by omega) (by omega)) gL_law_X9_setChain rfl (by decide +kernel) ⟨Nat.le_of_ble_eq_true rfl, Nat.le_of_ble_eq_true rfl⟩ hro rfl rfl rfl (Nat.le_of_ble_eq_true rfl) (by show cells + 3 ≤ 683647; omega) (by show slots + 18 ≤ 7050684; omega) (fun E h' hp => False.elim ?_) (fun v h hp => ?_)
    · obtain ⟨hp, -⟩ := hp
      have e9 := hp.2
      exact absurd (e9.symm.trans (tB_t (by omega))) (by decide)
    obtain ⟨ht0, hv, hST⟩ := hp
    subst v
    have hAR := hAR.fr hL hST.fr
    have hT := hST.base
    obtain ⟨fs0, hro⟩ := hT.ro
    dsimp only [Option.toList, List.cons_append, List.nil_append]
    have hG : RGm mnights mbits mleast mmost mroom mreserve mmount mspeed msize mbid (upZ mbound cl z775) (upZ mcheap cl z783) mpromised mcoin mpaid mowed := hG.cl (x := cl) (fun y9 w0 w1 => ⟨Or.inl rfl, upZ_or (by omega), upZ_or (by omega), Or.inl rfl, Or.inl rfl, Or.inl rfl⟩)
    refine r_goto B dL_law_787 (tgt := 1445) (by decide) ?_
    refine r_widen (k := cells + 600) (n := slots + 12000) (by show cells + 3 ≤ cells + 600; omega) (by show slots + 18 ≤ slots + 12000; omega) ?_
    exact r_lv (lvLe_s rfl (lvLe_s rfl (lvLe_s rfl (lvLe_s rfl (lvLe_s rfl (lvLe_s rfl (lvLe_s rfl (lvLe_s rfl (lvLe_s rfl (lvLe_s rfl (lvLe_s rfl (lvLe_s rfl (lvLe_s rfl (lvLe_s rfl (lvLe_s rfl (lvLe_s rfl (lvLe_n (lvLe_s rfl (lvLe_n (lvLe_s rfl (lvLe_n (lvLe_n (lvLe_n (lvLe_n (lvLe_n (lvLe_n (lvLe_n (lvLe_n (lvLe_n lvLe_nil))))))))))))))))))))))))))))) (kont _ _ _ _ _ _ _ _ ⟨_, _, _, _, _, _, _, _, _, _, _, _, _, _, _, _, _, _, _, _, hT, hG, hAR, hD, hFE, by omega⟩)
set_option maxHeartbeats 8000000 in
set_option maxRecDepth 100000 in
theorem law_bid {p : Program} {l : Launch} {e : Env} {s : State} {m : MethodId} {args : Array Value} {below : List Frame} {meth : Method} {c : Code} {Q : State → Prop} {g : GG} {sz0 : Nat} {A : Nat → Nat} {Z : Nat → Prop} {od ob oc op oo bs : Nat} {h : AH} {mnights mbits mleast mmost mroom mreserve mmount mspeed : Int} {mdata msize mends mmany mkind mchain mholds mbid mbound mcheap mpromised mcoin mpaid mowed : Int → Int} {D : Nat → Int64} {Fb Fc Fp Fo : Int → Int} {cells slots : Nat} {tn tu y de cl : Int} {xv : Int32} (hl0 : l.stackTraces = false) (B : FX p s m args c cL_law RL wsL_law 29 g sz0) (hL : LY A Z od ob oc op oo) (hT : ST g A Z h mdata msize mends mmany mkind mchain mholds mnights mbits mleast mmost mroom mreserve mmount mspeed mbid mbound mcheap mpromised mcoin mpaid mowed h) (hG : RGm mnights mbits mleast mmost mroom mreserve mmount mspeed msize mbid mbound mcheap mpromised mcoin mpaid mowed) (hAR : AR g od ob oc op oo D Fb Fc Fp Fo h) (hD : DGI D mdata msize mkind mnights) (hFE : FE Fb Fc Fp Fo mbid mcoin mpaid mowed) (hn16 : mnights ≤ 16) (y0 : 0 ≤ y ∧ y ≤ 268435455) (d0 : 0 ≤ de ∧ de ≤ 15) (c0 : 0 ≤ cl ∧ cl ≤ 3) (hc1 : cells + 1000 ≤ 683647) (hc2 : slots + 14000 ≤ 7050684) (kont : ∀ (h' : AH) (ng ls ms mo sp rm rs : Int), JL g A Z od ob oc op oo ng ls ms mo sp rm rs h' → WA p l e room_1 s m args below meth c g sz0 29 Q h' (cells + 600) (slots + 12000) [some (.ref bs), some (.ref (A 0)), some (.ref od), some (.ref ob), some (.ref oc), some (.ref op), some (.ref oo), some (.int (iI ls)), some (.int (iI ms)), some (.int (iI mo)), some (.int (iI sp)), some (.int (iI rm)), some (.int (iI rs)), some (.int (iI 1)), some (.int (iI tu)), some (.int (iI tn)), none, some (.int (iI y)), none, some (.int (iI cl)), none, none, none, none, none, none, none, none, none] 1445 []) : WA p l e room_1 s m args below meth c g sz0 29 Q h cells slots [some (.ref bs), some (.ref (A 0)), some (.ref od), some (.ref ob), some (.ref oc), some (.ref op), some (.ref oo), some (.int (iI mleast)), some (.int (iI mmost)), some (.int (iI mmount)), some (.int (iI mspeed)), some (.int (iI mroom)), some (.int (iI mreserve)), some (.int (iI 1)), some (.int (iI tu)), some (.int (iI tn)), some (.int xv), some (.int (iI y)), some (.int (iI de)), some (.int (iI cl)), some (.int (iI (msize (240 + cl)))), some (.int (iI mnights)), none, none, none, none, none, none, none] 713 [] := by
  obtain ⟨fs0, hro⟩ := hT.ro
  have hmz := hG.2.2.2.2.2 (240 + cl) (by omega) (by omega)
  have hNr := hG.1
  have hMK := hG.2.1
  have hNM := hG.2.2.1
  have hSP := hG.2.2.2.1
  refine r_iload B dL_law_713 rfl ?_
  refine r_bipush B dL_law_715 (by decide) ?_
  refine r_icmp_ge B dL_law_717 (tgt := 760) (by decide) (by omega) (by omega) (fun c717 => ?_) (fun c717 => ?_)
  · exact law_chain hl0 B hL hT hG hAR hD hFE hn16 y0 d0 c0 hc1 hc2 kont
  · refine r_iload B dL_law_720 rfl ?_
    refine r_iconst B dL_law_722 ?_
    refine r_ishr B dL_law_723 ?_
    refine r_shz 3 (by decide +kernel) (by omega) (fun z723 e723 z723a z723b => ?_)
    refine r_bipush B dL_law_724 (by decide) ?_
    refine r_irem B dL_law_726 (by decide) ?_
    refine r_rmz (by omega) (by omega) (fun z726 e726 z726a z726b => ?_)
    refine r_istore B dL_law_727 (by decide) (lcat_v rfl rfl) ?_
    refine r_aload_n B dL_law_729 rfl rfl ?_
    refine r_iload B dL_law_730 rfl ?_
    refine r_iload B dL_law_732 rfl ?_
    refine r_callVX (n := 2) B dL_law_734 (ct_X9_bid l g sz0 hL.1 hT hG (cl) (z726) hl0 (by omega) (by omega)) gL_law_X9_bid rfl (by decide +kernel) ⟨Nat.le_of_ble_eq_true rfl, Nat.le_of_ble_eq_true rfl⟩ hro rfl rfl rfl (Nat.le_of_ble_eq_true rfl) (by show cells + 2 ≤ 683647; omega) (by show slots + 12 ≤ 7050684; omega) (fun E h' hp => False.elim ?_) (fun v h hp => ?_)
    · obtain ⟨hp, -⟩ := hp
      have e9 := hp.2
      exact absurd (e9.symm.trans (tB_t (by omega))) (by decide)
    obtain ⟨ht0, hv, hST⟩ := hp
    subst v
    have hAR := hAR.fr hL hST.fr
    have hT := hST.base
    obtain ⟨fs0, hro⟩ := hT.ro
    dsimp only [Option.toList, List.cons_append, List.nil_append]
    have hbr := (hG.2.2.2.2.1 cl c0.1 c0.2).1
    have hF9 := (hFE cl c0.1 c0.2).1
    have hG : RGm mnights mbits mleast mmost mroom mreserve mmount mspeed msize (upZ mbid cl z726) mbound mcheap mpromised mcoin mpaid mowed := hG.cl (x := cl) (fun y9 w0 w1 => ⟨upZ_or (by omega), Or.inl rfl, Or.inl rfl, Or.inl rfl, Or.inl rfl, Or.inl rfl⟩)
    refine r_aload_n B dL_law_737 rfl rfl ?_
    refine r_iload B dL_law_738 rfl ?_
    refine r_iald B dL_law_740 hAR.2.1 (by decide) (by omega) (by show cl < 4; omega) ?_
    refine r_icmp_ne B dL_law_741 (tgt := 748) (by decide) (by omega) (by omega) (fun c741 => ?_) (fun c741 => ?_)
    · exact absurd hF9.symm c741
    · refine r_iconst B dL_law_744 ?_
      refine r_goto B dL_law_745 (tgt := 749) (by decide) ?_
      refine r_istore B dL_law_749 (by decide) (lcat_v rfl rfl) ?_
      refine r_aload_n B dL_law_751 rfl rfl ?_
      refine r_iload B dL_law_752 rfl ?_
      refine r_iload B dL_law_754 rfl ?_
      refine r_iast B dL_law_756 hAR.2.1 (by decide) (by omega) (by show cl < 4; omega) ?_
      have hT := hT.wr hL (o := ob) (ev := iE g 4 (upZ Fb cl z726)) (Or.inr (Or.inl rfl))
      have hAR := hAR.wb hL (F' := upZ Fb cl z726)
      have hFE : FE (upZ Fb cl z726) Fc Fp Fo (upZ mbid cl z726) mcoin mpaid mowed := fun y9 w0 w1 => ⟨by unfold upZ; split; rfl; exact (hFE y9 w0 w1).1, (hFE y9 w0 w1).2⟩
      refine r_goto B dL_law_757 (tgt := 1445) (by decide) ?_
      refine r_widen (k := cells + 600) (n := slots + 12000) (by show cells + 2 ≤ cells + 600; omega) (by show slots + 12 ≤ slots + 12000; omega) ?_
      exact r_lv (lvLe_s rfl (lvLe_s rfl (lvLe_s rfl (lvLe_s rfl (lvLe_s rfl (lvLe_s rfl (lvLe_s rfl (lvLe_s rfl (lvLe_s rfl (lvLe_s rfl (lvLe_s rfl (lvLe_s rfl (lvLe_s rfl (lvLe_s rfl (lvLe_s rfl (lvLe_s rfl (lvLe_n (lvLe_s rfl (lvLe_n (lvLe_s rfl (lvLe_n (lvLe_n (lvLe_n (lvLe_n (lvLe_n (lvLe_n (lvLe_n (lvLe_n (lvLe_n lvLe_nil))))))))))))))))))))))))))))) (kont _ _ _ _ _ _ _ _ ⟨_, _, _, _, _, _, _, _, _, _, _, _, _, _, _, _, _, _, _, _, hT, hG, hAR, hD, hFE, by omega⟩)
