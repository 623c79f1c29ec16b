set_option maxHeartbeats 8000000 in
set_option maxRecDepth 100000 in
theorem law_cut {p : Program} {l : Launch} {e : Env} {s : State} {m : MethodId} {args : Array Value} {below : List Frame} {meth : Method} {c : Code} {Q : State → Prop} {g : GG} {sz0 : Nat} {A : Nat → Nat} {Z : Nat → Prop} {od ob oc op oo bs : Nat} {h : AH} {mnights mbits mleast mmost mroom mreserve mmount mspeed : Int} {mdata msize mends mmany mkind mchain mholds mbid mbound mcheap mpromised mcoin mpaid mowed : Int → Int} {D : Nat → Int64} {Fb Fc Fp Fo : Int → Int} {cells slots : Nat} {tn tu y de cl : Int} {xv : Int32} (hl0 : l.stackTraces = false) (B : FX p s m args c cL_law RL wsL_law 29 g sz0) (hL : LY A Z od ob oc op oo) (hT : ST g A Z h mdata msize mends mmany mkind mchain mholds mnights mbits mleast mmost mroom mreserve mmount mspeed mbid mbound mcheap mpromised mcoin mpaid mowed h) (hG : RGm mnights mbits mleast mmost mroom mreserve mmount mspeed msize mbid mbound mcheap mpromised mcoin mpaid mowed) (hAR : AR g od ob oc op oo D Fb Fc Fp Fo h) (hD : DGI D mdata msize mkind mnights) (hFE : FE Fb Fc Fp Fo mbid mcoin mpaid mowed) (hn16 : mnights ≤ 16) (y0 : 0 ≤ y ∧ y ≤ 268435455) (d0 : 0 ≤ de ∧ de ≤ 15) (c0 : 0 ≤ cl ∧ cl ≤ 3) (hc1 : cells + 1000 ≤ 683647) (hc2 : slots + 14000 ≤ 7050684) (kont : ∀ (h' : AH) (ng ls ms mo sp rm rs : Int), JL g A Z od ob oc op oo ng ls ms mo sp rm rs h' → WA p l e room_1 s m args below meth c g sz0 29 Q h' (cells + 600) (slots + 12000) [some (.ref bs), some (.ref (A 0)), some (.ref od), some (.ref ob), some (.ref oc), some (.ref op), some (.ref oo), some (.int (iI ls)), some (.int (iI ms)), some (.int (iI mo)), some (.int (iI sp)), some (.int (iI rm)), some (.int (iI rs)), some (.int (iI 1)), some (.int (iI tu)), some (.int (iI tn)), none, some (.int (iI y)), none, some (.int (iI cl)), none, none, none, none, none, none, none, none, none] 1445 []) : WA p l e room_1 s m args below meth c g sz0 29 Q h cells slots [some (.ref bs), some (.ref (A 0)), some (.ref od), some (.ref ob), some (.ref oc), some (.ref op), some (.ref oo), some (.int (iI mleast)), some (.int (iI mmost)), some (.int (iI mmount)), some (.int (iI mspeed)), some (.int (iI mroom)), some (.int (iI mreserve)), some (.int (iI 1)), some (.int (iI tu)), some (.int (iI tn)), some (.int xv), some (.int (iI y)), some (.int (iI de)), some (.int (iI cl)), some (.int (iI (msize (240 + cl)))), some (.int (iI mnights)), none, none, none, none, none, none, none] 411 [] := by
  obtain ⟨fs0, hro⟩ := hT.ro
  have hmz := hG.2.2.2.2.2 (240 + cl) (by omega) (by omega)
  have hNr := hG.1
  have hMK := hG.2.1
  have hNM := hG.2.2.1
  have hSP := hG.2.2.2.1
  refine r_iload B dL_law_411 rfl ?_
  refine r_iconst B dL_law_413 ?_
  refine r_icmp_ne B dL_law_414 (tgt := 474) (by decide) (by omega) (by omega) (fun c414 => ?_) (fun c414 => ?_)
  · exact law_copy hl0 B hL hT hG hAR hD hFE hn16 y0 d0 c0 hc1 hc2 kont
  · refine r_iload B dL_law_417 rfl ?_
    refine r_iconst B dL_law_419 ?_
    refine r_ishr B dL_law_420 ?_
    refine r_shz 2 (by decide +kernel) (by omega) (fun z420 e420 z420a z420b => ?_)
    refine r_iload B dL_law_421 rfl ?_
    refine r_iconst B dL_law_423 ?_
    refine r_iadd B dL_law_424 ?_
    refine r_irem B dL_law_425 (iI_nz (by omega)) ?_
    refine r_rmz (by omega) (by omega) (fun z425 e425 z425a z425b => ?_)
    refine r_istore B dL_law_426 (by decide) (lcat_v rfl rfl) ?_
    refine r_iload B dL_law_428 rfl ?_
    refine r_bipush B dL_law_430 (by decide) ?_
    refine r_ishr B dL_law_432 ?_
    refine r_shz 8 (by decide +kernel) (by omega) (fun z432 e432 z432a z432b => ?_)
    refine r_iload B dL_law_433 rfl ?_
    refine r_iload B dL_law_435 rfl ?_
    refine r_isub B dL_law_437 ?_
    refine r_iconst B dL_law_438 ?_
    refine r_iadd B dL_law_439 ?_
    refine r_irem B dL_law_440 (iI_nz (by omega)) ?_
    refine r_rmz (by omega) (by omega) (fun z440 e440 z440a z440b => ?_)
    refine r_bipush B dL_law_441 (by decide) ?_
    refine r_irem B dL_law_443 (by decide) ?_
    refine r_rmz (by omega) (by omega) (fun z443 e443 z443a z443b => ?_)
    refine r_istore B dL_law_444 (by decide) (lcat_v rfl rfl) ?_
    refine r_aload_n B dL_law_446 rfl rfl ?_
    refine r_iload B dL_law_447 rfl ?_
    refine r_iload B dL_law_449 rfl ?_
    refine r_iload B dL_law_451 rfl ?_
    refine r_callVX (n := 3) B dL_law_453 (ct_X9_cut l g sz0 hL.1 hT hG (cl) (z425) (z443) hl0 (by omega) (by omega) (by omega)) gL_law_X9_cut rfl (by decide +kernel) ⟨Nat.le_of_ble_eq_true rfl, Nat.le_of_ble_eq_true rfl⟩ hro rfl rfl rfl (Nat.le_of_ble_eq_true rfl) (by show cells + 2 ≤ 683647; omega) (by show slots + 12 ≤ 7050684; omega) (fun E h' hp => False.elim ?_) (fun v h hp => ?_)
    · obtain ⟨hp, -⟩ := hp
      rcases hp with ⟨-, e9⟩ | ⟨-, e9⟩
      · unfold tCut at e9; (repeat' (split at e9)) <;> omega
      · unfold tCut at e9; (repeat' (split at e9)) <;> omega
    obtain ⟨ht0, hv, hST⟩ := hp
    subst v
    have hAR := hAR.fr hL hST.fr
    have hT := hST.base
    obtain ⟨fs0, hro⟩ := hT.ro
    dsimp only [Option.toList, List.cons_append, List.nil_append]
    have hD := hD.file hG.2.2.2.2.2 (by omega) (d' := cutF mdata (48 * (240 + cl)) z425 z443 (msize (240 + cl) - z443)) (s' := upZ msize (240 + cl) (msize (240 + cl) - z443)) (fun i i0 i1 => by unfold cutF; rw [if_neg (by omega)]) (fun r r0 r1 => upZ_ne _ _ (by omega))
    have hG := hG.size (x := cl) (v := msize (240 + cl) - z443) (by omega)
    refine r_iload B dL_law_456 rfl ?_
    refine r_iload B dL_law_458 rfl ?_
    refine r_isub B dL_law_460 ?_
    refine r_icmp_ne B dL_law_461 (tgt := 468) (by decide) (by omega) (by omega) (fun c461 => ?_) (fun c461 => ?_)
    · exact absurd rfl c461
    · refine r_iconst B dL_law_464 ?_
      refine r_goto B dL_law_465 (tgt := 469) (by decide) ?_
      refine r_istore B dL_law_469 (by decide) (lcat_v rfl rfl) ?_
      refine r_goto B dL_law_471 (tgt := 1445) (by decide) ?_
      refine r_widen (k := cells + 600) (n := slots + 12000) (by show cells + 2 ≤ cells + 600; omega) (by show slots + 12 ≤ slots + 12000; omega) ?_
      exact r_lv (lvLe_s rfl (lvLe_s rfl (lvLe_s rfl (lvLe_s rfl (lvLe_s rfl (lvLe_s rfl (lvLe_s rfl (lvLe_s rfl (lvLe_s rfl (lvLe_s rfl (lvLe_s rfl (lvLe_s rfl (lvLe_s rfl (lvLe_s rfl (lvLe_s rfl (lvLe_s rfl (lvLe_n (lvLe_s rfl (lvLe_n (lvLe_s rfl (lvLe_n (lvLe_n (lvLe_n (lvLe_n (lvLe_n (lvLe_n (lvLe_n (lvLe_n (lvLe_n lvLe_nil))))))))))))))))))))))))))))) (kont _ _ _ _ _ _ _ _ ⟨_, _, _, _, _, _, _, _, _, _, _, _, _, _, _, _, _, _, _, _, hT, hG, hAR, hD, hFE, by omega⟩)
set_option maxHeartbeats 8000000 in
set_option maxRecDepth 100000 in
theorem law_set {p : Program} {l : Launch} {e : Env} {s : State} {m : MethodId} {args : Array Value} {below : List Frame} {meth : Method} {c : Code} {Q : State → Prop} {g : GG} {sz0 : Nat} {A : Nat → Nat} {Z : Nat → Prop} {od ob oc op oo bs : Nat} {h : AH} {mnights mbits mleast mmost mroom mreserve mmount mspeed : Int} {mdata msize mends mmany mkind mchain mholds mbid mbound mcheap mpromised mcoin mpaid mowed : Int → Int} {D : Nat → Int64} {Fb Fc Fp Fo : Int → Int} {cells slots : Nat} {tn tu y de cl : Int} {xv : Int32} (hl0 : l.stackTraces = false) (B : FX p s m args c cL_law RL wsL_law 29 g sz0) (hL : LY A Z od ob oc op oo) (hT : ST g A Z h mdata msize mends mmany mkind mchain mholds mnights mbits mleast mmost mroom mreserve mmount mspeed mbid mbound mcheap mpromised mcoin mpaid mowed h) (hG : RGm mnights mbits mleast mmost mroom mreserve mmount mspeed msize mbid mbound mcheap mpromised mcoin mpaid mowed) (hAR : AR g od ob oc op oo D Fb Fc Fp Fo h) (hD : DGI D mdata msize mkind mnights) (hFE : FE Fb Fc Fp Fo mbid mcoin mpaid mowed) (hn16 : mnights ≤ 16) (y0 : 0 ≤ y ∧ y ≤ 268435455) (d0 : 0 ≤ de ∧ de ≤ 15) (c0 : 0 ≤ cl ∧ cl ≤ 3) (hc1 : cells + 1000 ≤ 683647) (hc2 : slots + 14000 ≤ 7050684) (kont : ∀ (h' : AH) (ng ls ms mo sp rm rs : Int), JL g A Z od ob oc op oo ng ls ms mo sp rm rs h' → WA p l e room_1 s m args below meth c g sz0 29 Q h' (cells + 600) (slots + 12000) [some (.ref bs), some (.ref (A 0)), some (.ref od), some (.ref ob), some (.ref oc), some (.ref op), some (.ref oo), some (.int (iI ls)), some (.int (iI ms)), some (.int (iI mo)), some (.int (iI sp)), some (.int (iI rm)), some (.int (iI rs)), some (.int (iI 1)), some (.int (iI tu)), some (.int (iI tn)), none, some (.int (iI y)), none, some (.int (iI cl)), none, none, none, none, none, none, none, none, none] 1445 []) : WA p l e room_1 s m args below meth c g sz0 29 Q h cells slots [some (.ref bs), some (.ref (A 0)), some (.ref od), some (.ref ob), some (.ref oc), some (.ref op), some (.ref oo), some (.int (iI mleast)), some (.int (iI mmost)), some (.int (iI mmount)), some (.int (iI mspeed)), some (.int (iI mroom)), some (.int (iI mreserve)), some (.int (iI 1)), some (.int (iI tu)), some (.int (iI tn)), some (.int xv), some (.int (iI y)), some (.int (iI de)), some (.int (iI cl)), some (.int (iI (msize (240 + cl)))), some (.int (iI mnights)), none, none, none, none, none, none, none] 318 [] := by
  obtain ⟨fs0, hro⟩ := hT.ro
  have hmz := hG.2.2.2.2.2 (240 + cl) (by omega) (by omega)
  have hNr := hG.1
  have hMK := hG.2.1
  have hNM := hG.2.2.1
  have hSP := hG.2.2.2.1
  refine r_iload B dL_law_318 rfl ?_
  refine r_iconst B dL_law_320 ?_
  refine r_icmp_ge B dL_law_321 (tgt := 411) (by decide) (by omega) (by omega) (fun c321 => ?_) (fun c321 => ?_)
  · exact law_cut hl0 B hL hT hG hAR hD hFE hn16 y0 d0 c0 hc1 hc2 kont
  · refine r_iload B dL_law_324 rfl ?_
    refine r_if_le B dL_law_326 (tgt := 411) (by decide) (by omega) (fun c326 => ?_) (fun c326 => ?_)
    · exact law_cut hl0 B hL hT hG hAR hD hFE hn16 y0 d0 c0 hc1 hc2 kont
    · refine r_iload B dL_law_329 rfl ?_
      refine r_iconst B dL_law_331 ?_
      refine r_ishr B dL_law_332 ?_
      refine r_shz 2 (by decide +kernel) (by omega) (fun z332 e332 z332a z332b => ?_)
      refine r_iload B dL_law_333 rfl ?_
      refine r_irem B dL_law_335 (iI_nz (by omega)) ?_
      refine r_rmz (by omega) (by omega) (fun z335 e335 z335a z335b => ?_)
      refine r_istore B dL_law_336 (by decide) (lcat_v rfl rfl) ?_
      refine r_aload_n B dL_law_338 rfl rfl ?_
      refine r_iload B dL_law_339 rfl ?_
      refine r_iload B dL_law_341 rfl ?_
      refine r_callVX (n := 2) B dL_law_343 (ct_X9_at l g sz0 hL.1 hT hG (cl) (z335) hl0 (by omega) (by omega)) gL_law_X9_at rfl (by decide +kernel) ⟨Nat.le_of_ble_eq_true rfl, Nat.le_of_ble_eq_true rfl⟩ hro rfl rfl rfl (Nat.le_of_ble_eq_true rfl) (by show cells + 2 ≤ 683647; omega) (by show slots + 12 ≤ 7050684; omega) (fun E h' hp => False.elim ?_) (fun v h hp => ?_)
      · obtain ⟨hp, -⟩ := hp
        rcases hp with ⟨-, e9⟩ | ⟨-, e9⟩
        · unfold tAt at e9; (repeat' (split at e9)) <;> omega
        · unfold tAt at e9; (repeat' (split at e9)) <;> omega
      obtain ⟨ht0, hv, hST⟩ := hp
      subst v
      have hAR := hAR.fr hL hST.fr
      have hT := hST.base
      obtain ⟨fs0, hro⟩ := hT.ro
      dsimp only [Option.toList, List.cons_append, List.nil_append]
      have hdat := hT.dat (48 * (240 + cl) + z335) (by omega) (by omega)
      refine r_istore B dL_law_346 (by decide) (lcat_v rfl rfl) ?_
      refine r_aload_n B dL_law_348 rfl rfl ?_
      refine r_iload B dL_law_349 rfl ?_
      refine r_iload B dL_law_351 rfl ?_
      refine r_iload B dL_law_353 rfl ?_
      refine r_bipush B dL_law_355 (by decide) ?_
      refine r_ishr B dL_law_357 ?_
      refine r_shz 9 (by decide +kernel) (by omega) (fun z357 e357 z357a z357b => ?_)
      refine r_sipush B dL_law_358 (by decide) ?_
      refine r_iand B dL_law_361 ?_
      refine r_anz (by omega) (fun z361 e361 z361a z361b => ?_)
      refine r_callVX (n := 3) B dL_law_362 (ct_X9_set l g sz0 hL.1 hT hG (cl) (z335) (z361) hl0 (by omega) (by omega) (by omega)) gL_law_X9_set rfl (by decide +kernel) ⟨Nat.le_of_ble_eq_true rfl, Nat.le_of_ble_eq_true rfl⟩ hro rfl rfl rfl (Nat.le_of_ble_eq_true rfl) (by show cells + 2 + 3 ≤ 683647; omega) (by show slots + 12 + 18 ≤ 7050684; omega) (fun E h' hp => False.elim ?_) (fun v h hp => ?_)
      · obtain ⟨hp, -⟩ := hp
        rcases hp with ⟨-, e9⟩ | ⟨-, e9⟩
        · unfold tSet at e9; (repeat' (split at e9)) <;> omega
        · unfold tSet at e9; (repeat' (split at e9)) <;> omega
      obtain ⟨ht0, hv, hST⟩ := hp
      subst v
      have hAR := hAR.fr hL hST.fr
      have hT := hST.base
      obtain ⟨fs0, hro⟩ := hT.ro
      dsimp only [Option.toList, List.cons_append, List.nil_append]
      have hD := hD.file hG.2.2.2.2.2 (by omega) (d' := upZ mdata (48 * (240 + cl) + z335) z361) (s' := msize) (fun i i0 i1 => upZ_ne _ _ (by omega)) (fun r r0 r1 => rfl)
      refine r_iload B dL_law_365 rfl ?_
      refine r_icmp_ne B dL_law_367 (tgt := 405) (by decide) (by omega) (by omega) (fun c367 => ?_) (fun c367 => ?_)
      · exact absurd rfl c367
      · refine r_aload_n B dL_law_370 rfl rfl ?_
        refine r_iload B dL_law_371 rfl ?_
        refine r_iload B dL_law_373 rfl ?_
        refine r_callVX (n := 2) B dL_law_375 (ct_X9_at l g sz0 hL.1 hT hG (cl) (z335) hl0 (by omega) (by omega)) gL_law_X9_at rfl (by decide +kernel) ⟨Nat.le_of_ble_eq_true rfl, Nat.le_of_ble_eq_true rfl⟩ hro rfl rfl rfl (Nat.le_of_ble_eq_true rfl) (by show cells + 2 + 3 + 2 ≤ 683647; omega) (by show slots + 12 + 18 + 12 ≤ 7050684; omega) (fun E h' hp => False.elim ?_) (fun v h hp => ?_)
        · obtain ⟨hp, -⟩ := hp
          rcases hp with ⟨-, e9⟩ | ⟨-, e9⟩
          · unfold tAt at e9; (repeat' (split at e9)) <;> omega
          · unfold tAt at e9; (repeat' (split at e9)) <;> omega
        obtain ⟨ht0, hv, hST⟩ := hp
        subst v
        have hAR := hAR.fr hL hST.fr
        have hT := hST.base
        obtain ⟨fs0, hro⟩ := hT.ro
        dsimp only [Option.toList, List.cons_append, List.nil_append]
        refine r_topz (upZ_at _ _ _) ?_
        refine r_iload B dL_law_378 rfl ?_
        refine r_bipush B dL_law_380 (by decide) ?_
        refine r_ishr B dL_law_382 ?_
        refine r_shz 9 (by decide +kernel) (by omega) (fun z382 e382 z382a z382b => ?_)
        refine r_sipush B dL_law_383 (by decide) ?_
        refine r_iand B dL_law_386 ?_
        refine r_anz (by omega) (fun z386 e386 z386a z386b => ?_)
        refine r_icmp_ne B dL_law_387 (tgt := 405) (by decide) (by omega) (by omega) (fun c387 => ?_) (fun c387 => ?_)
        · have q1 : z357 = z382 := (iI_eq (by omega) (by omega)).mp (e357.symm.trans e382)
          rw [← q1] at e386
          exact absurd ((iI_eq (by omega) (by omega)).mp (e361.symm.trans e386)) c387
        · refine r_aload_n B dL_law_390 rfl rfl ?_
          refine r_iload B dL_law_391 rfl ?_
          refine r_callVX (n := 1) B dL_law_393 (ct_X9_length l g sz0 hL.1 hT hG (cl) hl0 (by omega)) gL_law_X9_length rfl (by decide +kernel) ⟨Nat.le_of_ble_eq_true rfl, Nat.le_of_ble_eq_true rfl⟩ hro rfl rfl rfl (Nat.le_of_ble_eq_true rfl) (by show cells + 2 + 3 + 2 + 1 ≤ 683647; omega) (by show slots + 12 + 18 + 12 + 6 ≤ 7050684; omega) (fun E h' hp => False.elim ?_) (fun v h hp => ?_)
          · obtain ⟨hp, -⟩ := hp
            have e9 := hp.2
            unfold tCl at e9; (repeat' (split at e9)) <;> omega
          obtain ⟨ht0, hv, hST⟩ := hp
          subst v
          have hAR := hAR.fr hL hST.fr
          have hT := hST.base
          obtain ⟨fs0, hro⟩ := hT.ro
          dsimp only [Option.toList, List.cons_append, List.nil_append]
          refine r_iload B dL_law_396 rfl ?_
          refine r_icmp_ne B dL_law_398 (tgt := 405) (by decide) (by omega) (by omega) (fun c398 => ?_) (fun c398 => ?_)
          · exact absurd rfl c398
          · refine r_iconst B dL_law_401 ?_
            refine r_goto B dL_law_402 (tgt := 406) (by decide) ?_
            refine r_istore B dL_law_406 (by decide) (lcat_v rfl rfl) ?_
            refine r_goto B dL_law_408 (tgt := 1445) (by decide) ?_
            refine r_widen (k := cells + 600) (n := slots + 12000) (by show cells + 2 + 3 + 2 + 1 ≤ cells + 600; omega) (by show slots + 12 + 18 + 12 + 6 ≤ slots + 12000; omega) ?_
            exact r_lv (lvLe_s rfl (lvLe_s rfl (lvLe_s rfl (lvLe_s rfl (lvLe_s rfl (lvLe_s rfl (lvLe_s rfl (lvLe_s rfl (lvLe_s rfl (lvLe_s rfl (lvLe_s rfl (lvLe_s rfl (lvLe_s rfl (lvLe_s rfl (lvLe_s rfl (lvLe_s rfl (lvLe_n (lvLe_s rfl (lvLe_n (lvLe_s rfl (lvLe_n (lvLe_n (lvLe_n (lvLe_n (lvLe_n (lvLe_n (lvLe_n (lvLe_n (lvLe_n lvLe_nil))))))))))))))))))))))))))))) (kont _ _ _ _ _ _ _ _ ⟨_, _, _, _, _, _, _, _, _, _, _, _, _, _, _, _, _, _, _, _, hT, hG, hAR, hD, hFE, by omega⟩)
set_option maxHeartbeats 8000000 in
set_option maxRecDepth 100000 in
theorem law_put {p : Program} {l : Launch} {e : Env} {s : State} {m : MethodId} {args : Array Value} {below : List Frame} {meth : Method} {c : Code} {Q : State → Prop} {g : GG} {sz0 : Nat} {A : Nat → Nat} {Z : Nat → Prop} {od ob oc op oo bs : Nat} {h : AH} {mnights mbits mleast mmost mroom mreserve mmount mspeed : Int} {mdata msize mends mmany mkind mchain mholds mbid mbound mcheap mpromised mcoin mpaid mowed : Int → Int} {D : Nat → Int64} {Fb Fc Fp Fo : Int → Int} {cells slots : Nat} {tn tu y de cl : Int} {xv : Int32} (hl0 : l.stackTraces = false) (B : FX p s m args c cL_law RL wsL_law 29 g sz0) (hL : LY A Z od ob oc op oo) (hT : ST g A Z h mdata msize mends mmany mkind mchain mholds mnights mbits mleast mmost mroom mreserve mmount mspeed mbid mbound mcheap mpromised mcoin mpaid mowed h) (hG : RGm mnights mbits mleast mmost mroom mreserve mmount mspeed msize mbid mbound mcheap mpromised mcoin mpaid mowed) (hAR : AR g od ob oc op oo D Fb Fc Fp Fo h) (hD : DGI D mdata msize mkind mnights) (hFE : FE Fb Fc Fp Fo mbid mcoin mpaid mowed) (hn16 : mnights ≤ 16) (y0 : 0 ≤ y ∧ y ≤ 268435455) (d0 : 0 ≤ de ∧ de ≤ 15) (c0 : 0 ≤ cl ∧ cl ≤ 3) (hc1 : cells + 1000 ≤ 683647) (hc2 : slots + 14000 ≤ 7050684) (kont : ∀ (h' : AH) (ng ls ms mo sp rm rs : Int), JL g A Z od ob oc op oo ng ls ms mo sp rm rs h' → WA p l e room_1 s m args below meth c g sz0 29 Q h' (cells + 600) (slots + 12000) [some (.ref bs), some (.ref (A 0)), some (.ref od), some (.ref ob), some (.ref oc), some (.ref op), some (.ref oo), some (.int (iI ls)), some (.int (iI ms)), some (.int (iI mo)), some (.int (iI sp)), some (.int (iI rm)), some (.int (iI rs)), some (.int (iI 1)), some (.int (iI tu)), some (.int (iI tn)), none, some (.int (iI y)), none, some (.int (iI cl)), none, none, none, none, none, none, none, none, none] 1445 []) : WA p l e room_1 s m args below meth c g sz0 29 Q h cells slots [some (.ref bs), some (.ref (A 0)), some (.ref od), some (.ref ob), some (.ref oc), some (.ref op), some (.ref oo), some (.int (iI mleast)), some (.int (iI mmost)), some (.int (iI mmount)), some (.int (iI mspeed)), some (.int (iI mroom)), some (.int (iI mreserve)), some (.int (iI 1)), some (.int (iI tu)), some (.int (iI tn)), some (.int xv), some (.int (iI y)), some (.int (iI de)), some (.int (iI cl)), some (.int (iI (msize (240 + cl)))), some (.int (iI mnights)), none, none, none, none, none, none, none] 223 [] := by
  obtain ⟨fs0, hro⟩ := hT.ro
  have hmz := hG.2.2.2.2.2 (240 + cl) (by omega) (by omega)
  have hNr := hG.1
  have hMK := hG.2.1
  have hNM := hG.2.2.1
  have hSP := hG.2.2.2.1
  refine r_iload B dL_law_223 rfl ?_
  refine r_iconst B dL_law_225 ?_
  refine r_icmp_ge B dL_law_226 (tgt := 318) (by decide) (by omega) (by omega) (fun c226 => ?_) (fun c226 => ?_)
  · exact law_set hl0 B hL hT hG hAR hD hFE hn16 y0 d0 c0 hc1 hc2 kont
  · refine r_iload B dL_law_229 rfl ?_
    refine r_bipush B dL_law_231 (by decide) ?_
    refine r_icmp_ge B dL_law_233 (tgt := 318) (by decide) (by omega) (by omega) (fun c233 => ?_) (fun c233 => ?_)
    · exact law_set hl0 B hL hT hG hAR hD hFE hn16 y0 d0 c0 hc1 hc2 kont
    · refine r_iload B dL_law_236 rfl ?_
      refine r_iconst B dL_law_238 ?_
      refine r_ishr B dL_law_239 ?_
      refine r_shz 2 (by decide +kernel) (by omega) (fun z239 e239 z239a z239b => ?_)
      refine r_iload B dL_law_240 rfl ?_
      refine r_iconst B dL_law_242 ?_
      refine r_iadd B dL_law_243 ?_
      refine r_irem B dL_law_244 (iI_nz (by omega)) ?_
      refine r_rmz (by omega) (by omega) (fun z244 e244 z244a z244b => ?_)
      refine r_istore B dL_law_245 (by decide) (lcat_v rfl rfl) ?_
      refine r_iload B dL_law_247 rfl ?_
      refine r_bipush B dL_law_249 (by decide) ?_
      refine r_ishr B dL_law_251 ?_
      refine r_shz 7 (by decide +kernel) (by omega) (fun z251 e251 z251a z251b => ?_)
      refine r_iconst B dL_law_252 ?_
      refine r_iand B dL_law_253 ?_
      refine r_anz (by omega) (fun z253 e253 z253a z253b => ?_)
      have join276 : ∀ (va : Int), (0 ≤ va ∧ va ≤ 255) → WA p l e room_1 s m args below meth c g sz0 29 Q h cells slots [some (.ref bs), some (.ref (A 0)), some (.ref od), some (.ref ob), some (.ref oc), some (.ref op), some (.ref oo), some (.int (iI mleast)), some (.int (iI mmost)), some (.int (iI mmount)), some (.int (iI mspeed)), some (.int (iI mroom)), some (.int (iI mreserve)), some (.int (iI 1)), some (.int (iI tu)), some (.int (iI tn)), some (.int xv), some (.int (iI y)), some (.int (iI de)), some (.int (iI cl)), some (.int (iI (msize (240 + cl)))), some (.int (iI mnights)), some (.int (iI z244)), none, none, none, none, none, none] 276 [.int (iI va)] := by
        intro va v0
        refine r_istore B dL_law_276 (by decide) (lcat_v rfl rfl) ?_
        refine r_aload_n B dL_law_278 rfl rfl ?_
        refine r_iload B dL_law_279 rfl ?_
        refine r_iload B dL_law_281 rfl ?_
        refine r_iload B dL_law_283 rfl ?_
        refine r_callVX (n := 3) B dL_law_285 (ct_X9_put l g sz0 hL.1 hT hG (cl) (z244) (va) hl0 (by omega) (by omega) (by omega)) gL_law_X9_put rfl (by decide +kernel) ⟨Nat.le_of_ble_eq_true rfl, Nat.le_of_ble_eq_true rfl⟩ hro rfl rfl rfl (Nat.le_of_ble_eq_true rfl) (by show cells + 4 ≤ 683647; omega) (by show slots + 24 ≤ 7050684; omega) (fun E h' hp => False.elim ?_) (fun v h hp => ?_)
        · obtain ⟨hp, -⟩ := hp
          rcases hp with ⟨-, e9⟩ | ⟨-, e9⟩ | ⟨-, e9⟩
          · unfold tPut at e9; (repeat' (split at e9)) <;> omega
          · unfold tPut at e9; (repeat' (split at e9)) <;> omega
          · unfold tPut at e9; (repeat' (split at e9)) <;> omega
        obtain ⟨ht0, hv, hST⟩ := hp
        subst v
        have hAR := hAR.fr hL hST.fr
        have hT := hST.base
        obtain ⟨fs0, hro⟩ := hT.ro
        dsimp only [Option.toList, List.cons_append, List.nil_append]
        have hD := hD.file hG.2.2.2.2.2 (by omega) (d' := insF mdata (48 * (240 + cl)) (msize (240 + cl)) z244 va) (s' := upZ msize (240 + cl) (msize (240 + cl) + 1)) (fun i i0 i1 => by unfold insF; rw [if_neg (by omega), if_neg (by omega)]) (fun r r0 r1 => upZ_ne _ _ (by omega))
        have hG := hG.size (x := cl) (v := msize (240 + cl) + 1) (by omega)
        refine r_iload B dL_law_288 rfl ?_
        refine r_iconst B dL_law_290 ?_
        refine r_iadd B dL_law_291 ?_
        refine r_icmp_ne B dL_law_292 (tgt := 312) (by decide) (by omega) (by omega) (fun c292 => ?_) (fun c292 => ?_)
        · exact absurd rfl c292
        · refine r_aload_n B dL_law_295 rfl rfl ?_
          refine r_iload B dL_law_296 rfl ?_
          refine r_iload B dL_law_298 rfl ?_
          refine r_callVX (n := 2) B dL_law_300 (ct_X9_at l g sz0 hL.1 hT hG (cl) (z244) hl0 (by omega) (by omega)) gL_law_X9_at rfl (by decide +kernel) ⟨Nat.le_of_ble_eq_true rfl, Nat.le_of_ble_eq_true rfl⟩ hro rfl rfl rfl (Nat.le_of_ble_eq_true rfl) (by show cells + 4 + 2 ≤ 683647; omega) (by show slots + 24 + 12 ≤ 7050684; omega) (fun E h' hp => False.elim ?_) (fun v h hp => ?_)
          · rw [upZ_at] at hp
            obtain ⟨hp, -⟩ := hp
            rcases hp with ⟨-, e9⟩ | ⟨-, e9⟩
            · unfold tAt at e9; (repeat' (split at e9)) <;> omega
            · unfold tAt at e9; (repeat' (split at e9)) <;> omega
          obtain ⟨ht0, hv, hST⟩ := hp
          subst v
          have hAR := hAR.fr hL hST.fr
          have hT := hST.base
          obtain ⟨fs0, hro⟩ := hT.ro
          dsimp only [Option.toList, List.cons_append, List.nil_append]
          refine r_topz (show insF mdata (48 * (240 + cl)) (msize (240 + cl)) z244 va (48 * (240 + cl) + z244) = va from if_pos rfl) ?_
          refine r_iload B dL_law_303 rfl ?_
          refine r_icmp_ne B dL_law_305 (tgt := 312) (by decide) (by omega) (by omega) (fun c305 => ?_) (fun c305 => ?_)
          · exact absurd rfl c305
          · refine r_iconst B dL_law_308 ?_
            refine r_goto B dL_law_309 (tgt := 313) (by decide) ?_
            refine r_istore B dL_law_313 (by decide) (lcat_v rfl rfl) ?_
            refine r_goto B dL_law_315 (tgt := 1445) (by decide) ?_
            refine r_widen (k := cells + 600) (n := slots + 12000) (by show cells + 4 + 2 ≤ cells + 600; omega) (by show slots + 24 + 12 ≤ slots + 12000; omega) ?_
            exact r_lv (lvLe_s rfl (lvLe_s rfl (lvLe_s rfl (lvLe_s rfl (lvLe_s rfl (lvLe_s rfl (lvLe_s rfl (lvLe_s rfl (lvLe_s rfl (lvLe_s rfl (lvLe_s rfl (lvLe_s rfl (lvLe_s rfl (lvLe_s rfl (lvLe_s rfl (lvLe_s rfl (lvLe_n (lvLe_s rfl (lvLe_n (lvLe_s rfl (lvLe_n (lvLe_n (lvLe_n (lvLe_n (lvLe_n (lvLe_n (lvLe_n (lvLe_n (lvLe_n lvLe_nil))))))))))))))))))))))))))))) (kont _ _ _ _ _ _ _ _ ⟨_, _, _, _, _, _, _, _, _, _, _, _, _, _, _, _, _, _, _, _, hT, hG, hAR, hD, hFE, by omega⟩)
      refine r_if_le B dL_law_254 (tgt := 267) (by decide) (by omega) (fun c254 => ?_) (fun c254 => ?_)
      · refine r_iload B dL_law_267 rfl ?_
        refine r_bipush B dL_law_269 (by decide) ?_
        refine r_ishr B dL_law_271 ?_
        refine r_shz 9 (by decide +kernel) (by omega) (fun z271 e271 z271a z271b => ?_)
        refine r_sipush B dL_law_272 (by decide) ?_
        refine r_iand B dL_law_275 ?_
        refine r_anz (by omega) (fun z275 e275 z275a z275b => ?_)
        exact r_lv (lvLe_s rfl (lvLe_s rfl (lvLe_s rfl (lvLe_s rfl (lvLe_s rfl (lvLe_s rfl (lvLe_s rfl (lvLe_s rfl (lvLe_s rfl (lvLe_s rfl (lvLe_s rfl (lvLe_s rfl (lvLe_s rfl (lvLe_s rfl (lvLe_s rfl (lvLe_s rfl (lvLe_s rfl (lvLe_s rfl (lvLe_s rfl (lvLe_s rfl (lvLe_s rfl (lvLe_s rfl (lvLe_s rfl (lvLe_n (lvLe_n (lvLe_n (lvLe_n (lvLe_n (lvLe_n lvLe_nil))))))))))))))))))))))))))))) (join276 _ (by omega))
      · refine r_iload B dL_law_257 rfl ?_
        refine r_bipush B dL_law_259 (by decide) ?_
        refine r_ishr B dL_law_261 ?_
        refine r_shz 9 (by decide +kernel) (by omega) (fun z261 e261 z261a z261b => ?_)
        refine r_iconst B dL_law_262 ?_
        refine r_iand B dL_law_263 ?_
        refine r_anz (by omega) (fun z263 e263 z263a z263b => ?_)
        refine r_goto B dL_law_264 (tgt := 276) (by decide) ?_
        exact r_lv (lvLe_s rfl (lvLe_s rfl (lvLe_s rfl (lvLe_s rfl (lvLe_s rfl (lvLe_s rfl (lvLe_s rfl (lvLe_s rfl (lvLe_s rfl (lvLe_s rfl (lvLe_s rfl (lvLe_s rfl (lvLe_s rfl (lvLe_s rfl (lvLe_s rfl (lvLe_s rfl (lvLe_s rfl (lvLe_s rfl (lvLe_s rfl (lvLe_s rfl (lvLe_s rfl (lvLe_s rfl (lvLe_s rfl (lvLe_n (lvLe_n (lvLe_n (lvLe_n (lvLe_n (lvLe_n lvLe_nil))))))))))))))))))))))))))))) (join276 _ (by omega))
