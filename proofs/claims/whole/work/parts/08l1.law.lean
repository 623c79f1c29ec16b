set_option maxHeartbeats 4000000 in
set_option maxRecDepth 100000 in
theorem law_c1 {p : Program} {l : Launch} {e : Env} {s : State} {m : MethodId} {args : Array Value} {below : List Frame} {meth : Method} {c : Code} {Q : State → Prop} {g : GG} {sz0 : Nat} {A ad : Nat → Nat} {Z : Nat → Prop} {o1 o2 bs L : Nat} {xs : Nat → Int32} {h : AH} {T0 i : Int} {cells slots : Nat} (hl0 : l.stackTraces = false) (B : FX p s m args c cL_law RL wsL_law 9 g sz0) (hL : LA A ad o1 o2 Z) (hX : va_X bs L xs s s.heap) (hbl : bs < s.heap.size) (hbA : ¬ A0 sz0 bs) (hLs : L < 2147483000) (hJ : LK g A Z ad o1 o2 T0 h) (i0 : 0 ≤ i) (i5 : i + 5 ≤ (L : Int)) (hc1 : cells + 421 ≤ 601024) (hc2 : slots + 10406 ≤ 7293034) (kont : ∀ (h' : AH) (T' : Int), LK g A Z ad o1 o2 T' h' → WA p l e room_1 s m args below meth c g sz0 9 Q h' (cells + 421) (slots + 10406) [some (.ref bs), some (.ref (A 0)), some (.ref (ad 0)), some (.ref o1), some (.ref o2), some (.int (iI i)), none, none, none] 2502 []) : WA p l e room_1 s m args below meth c g sz0 9 Q h cells slots [some (.ref bs), some (.ref (A 0)), some (.ref (ad 0)), some (.ref o1), some (.ref o2), some (.int (iI i)), none, none, none] 292 [] := by
  obtain ⟨mnights, mbits, mleast, mmost, mroom, mreserve, mmount, mspeed, mdata, msize, mends, mmany, mkind, mchain, mholds, mbid, mbound, mcheap, mpromised, mcoin, mpaid, mowed, mturn, misAsking, mwant, mcost, misServed, mitsRow, mitsChunk, hM, hT, hG, ⟨F, hO⟩, F2, hO2⟩ := hJ
  obtain ⟨fs0, hro⟩ := hT.ro
  obtain ⟨x, ex, qx⟩ : ∃ z : Int, vaZ xs (i + 1) = z ∧ (-2147483648 ≤ z ∧ z < 2147483648) := ⟨_, rfl, vaZ_rng _ _⟩
  obtain ⟨k, ek, qk⟩ : ∃ z : Int, vaZ xs (i + 2) = z ∧ (-2147483648 ≤ z ∧ z < 2147483648) := ⟨_, rfl, vaZ_rng _ _⟩
  obtain ⟨b, eb, qb⟩ : ∃ z : Int, vaZ xs (i + 3) = z ∧ (-2147483648 ≤ z ∧ z < 2147483648) := ⟨_, rfl, vaZ_rng _ _⟩
  refine r_aload_n B dL_law_292 rfl rfl ?_
  refine r_aload_n B dL_law_293 rfl rfl ?_
  refine r_iload B dL_law_294 rfl ?_
  refine r_iconst B dL_law_296 ?_
  refine r_iadd B dL_law_297 ?_
  refine r_sld B hX hbl hbA (by omega) dL_law_298 (by omega) (by omega) ?_
  refine r_topz ex ?_
  refine r_aload_n B dL_law_299 rfl rfl ?_
  refine r_iload B dL_law_300 rfl ?_
  refine r_iconst B dL_law_302 ?_
  refine r_iadd B dL_law_303 ?_
  refine r_sld B hX hbl hbA (by omega) dL_law_304 (by omega) (by omega) ?_
  refine r_topz ek ?_
  refine r_aload_n B dL_law_305 rfl rfl ?_
  refine r_iload B dL_law_306 rfl ?_
  refine r_iconst B dL_law_308 ?_
  refine r_iadd B dL_law_309 ?_
  refine r_sld B hX hbl hbA (by omega) dL_law_310 (by omega) (by omega) ?_
  refine r_topz eb ?_
  refine r_aload_n B dL_law_311 rfl rfl ?_
  refine r_callSW (n := 5) B dL_law_312 (ct_L_set l g sz0 hL.1 hT hG x k b hl0 qx qk qb hO hL.oZ.1 hL.oA.1) gL_law_L_set rfl (by decide +kernel) ⟨Nat.le_of_ble_eq_true rfl, Nat.le_of_ble_eq_true rfl⟩ rfl rfl (Nat.le_of_ble_eq_true rfl) (by show cells + 3 ≤ 601024; omega) (by show slots + 18 ≤ 7293034; omega) (fun v h1 hp => ?_)
  obtain ⟨hv1, hf1, F1, hO1, hgood, hbad⟩ := hp
  subst v
  have hM := hL.mw (Or.inl rfl) hM hf1
  have hO2 := (hf1 o2 (sm_ne hO2) hL.oA.2 (fun z => hL.2.2.2.1 z.symm)).trans hO2
  dsimp only [Option.toList, List.cons_append, List.nil_append]
  refine r_istore B dL_law_315 (by decide) (lcat_v rfl rfl) ?_
  refine r_aload_n B dL_law_317 rfl rfl ?_
  refine r_aload_n B dL_law_318 rfl rfl ?_
  refine r_iload B dL_law_319 rfl ?_
  refine r_iconst B dL_law_321 ?_
  refine r_iadd B dL_law_322 ?_
  refine r_sld B hX hbl hbA (by omega) dL_law_323 (by omega) (by omega) ?_
  refine r_topz ex ?_
  refine r_aload_n B dL_law_324 rfl rfl ?_
  refine r_iload B dL_law_325 rfl ?_
  refine r_iconst B dL_law_327 ?_
  refine r_iadd B dL_law_328 ?_
  refine r_sld B hX hbl hbA (by omega) dL_law_329 (by omega) (by omega) ?_
  refine r_topz ek ?_
  refine r_aload_n B dL_law_330 rfl rfl ?_
  refine r_iload B dL_law_331 rfl ?_
  refine r_iconst B dL_law_333 ?_
  refine r_iadd B dL_law_334 ?_
  refine r_sld B hX hbl hbA (by omega) dL_law_335 (by omega) (by omega) ?_
  refine r_topz eb ?_
  refine r_callV (n := 3) B dL_law_336 (ct_X10_set l g sz0 ad hL.2.1 hM x k b qx qk qb (fun z hz => hG.2.2.2.2.2 (240 + z) (by omega) (by omega))) gL_law_X10_set rfl (by decide +kernel) ⟨Nat.le_of_ble_eq_true rfl, Nat.le_of_ble_eq_true rfl⟩ hM.obj rfl rfl rfl (Nat.le_of_ble_eq_true rfl) (by show cells + 3 + 0 ≤ 601024; omega) (by show slots + 18 + 0 ≤ 7293034; omega) (fun v h2 hp => ?_)
  obtain ⟨r, hv2, hb2, hg2⟩ := hp
  subst v
  have hJ2 : LK g A Z ad o1 o2 (tSet x k b (msize (240 + x))) h2 ∧ (tSet x k b (msize (240 + x)) = 0 → F1 0 = (iI r).toInt64) ∧ h2 o1 = h1 o1 ∧ h2 o2 = h1 o2 := by
    by_cases ht : tSet x k b (msize (240 + x)) = 0
    · exact ⟨LK.mk hL ht (hg2 ht).2 (hgood ht).2 (hG) hO1 hO2, fun _ => (by first | (rw [(hgood ht).1, (hg2 ht).1]; done) | (rw [(hgood ht).1, (hg2 ht).1]; rfl)), hL.of (hg2 ht).2⟩
    · exact ⟨LK.mk hL rfl (hb2 ht).2 (hbad ht) hG hO1 hO2, fun y9 => absurd y9 ht, hL.of (hb2 ht).2⟩
  obtain ⟨hJ2, hr, hf2, hf3⟩ := hJ2
  have hJ3 := hJ2
  obtain ⟨mnights, mbits, mleast, mmost, mroom, mreserve, mmount, mspeed, mdata, msize, mends, mmany, mkind, mchain, mholds, mbid, mbound, mcheap, mpromised, mcoin, mpaid, mowed, mturn, misAsking, mwant, mcost, misServed, mitsRow, mitsChunk, hM, hT9, hG9, hF9, hF8⟩ := hJ2
  have hO3 := hf2.trans hO1
  have hO4 := hf3.trans hO2
  dsimp only [Option.toList, List.cons_append, List.nil_append]
  refine r_istore B dL_law_339 (by decide) (lcat_v rfl rfl) ?_
  refine r_aload_n B dL_law_341 rfl rfl ?_
  refine r_callV (n := 0) B dL_law_342 (ct_X10_thrown l g sz0 ad hL.2.1 hM) gL_law_X10_thrown rfl (by decide +kernel) ⟨Nat.le_of_ble_eq_true rfl, Nat.le_of_ble_eq_true rfl⟩ hM.obj rfl rfl rfl (Nat.le_of_ble_eq_true rfl) (by show cells + 3 + 0 + 0 ≤ 601024; omega) (by show slots + 18 + 0 + 0 ≤ 7293034; omega) (fun v h' hp => ?_)
  obtain ⟨hv3, hh3⟩ := hp
  subst v
  subst h'
  dsimp only [Option.toList, List.cons_append, List.nil_append]
  refine r_iload B dL_law_345 rfl ?_
  refine r_icmp_eqS B dL_law_347 (tgt := 352) (by decide) rfl ?_
  refine r_iload B dL_law_352 rfl ?_
  refine r_if_ne B dL_law_354 (tgt := 369) (by decide) hM.i_thrown (fun c354 => ?_) (fun c354 => ?_)
  · refine r_goto B dL_law_369 (tgt := 2502) (by decide) ?_
    refine r_widen (k := cells + 421) (n := slots + 10406) (by show cells + 3 + 0 + 0 ≤ _; omega) (by show slots + 18 + 0 + 0 ≤ _; omega) ?_
    exact r_lv (lvLe_s rfl (lvLe_s rfl (lvLe_s rfl (lvLe_s rfl (lvLe_s rfl (lvLe_s rfl (lvLe_n (lvLe_n (lvLe_n lvLe_nil))))))))) (kont _ _ hJ3)
  · refine r_aload_n B dL_law_357 rfl rfl ?_
    refine r_iconst B dL_law_358 ?_
    refine r_lald B dL_law_359 hO3 (by decide) (by omega) (by omega) ?_
    refine r_iload B dL_law_360 rfl ?_
    refine r_i2l B dL_law_362 ?_
    refine r_lcmp B dL_law_363 ?_
    refine r_if_eqS B dL_law_364 (tgt := 369) (by decide) (lgc_self (hr c354)) ?_
    refine r_goto B dL_law_369 (tgt := 2502) (by decide) ?_
    refine r_widen (k := cells + 421) (n := slots + 10406) (by show cells + 3 + 0 + 0 ≤ _; omega) (by show slots + 18 + 0 + 0 ≤ _; omega) ?_
    exact r_lv (lvLe_s rfl (lvLe_s rfl (lvLe_s rfl (lvLe_s rfl (lvLe_s rfl (lvLe_s rfl (lvLe_n (lvLe_n (lvLe_n lvLe_nil))))))))) (kont _ _ hJ3)
set_option maxHeartbeats 4000000 in
set_option maxRecDepth 100000 in
theorem law_c5 {p : Program} {l : Launch} {e : Env} {s : State} {m : MethodId} {args : Array Value} {below : List Frame} {meth : Method} {c : Code} {Q : State → Prop} {g : GG} {sz0 : Nat} {A ad : Nat → Nat} {Z : Nat → Prop} {o1 o2 bs L : Nat} {xs : Nat → Int32} {h : AH} {T0 i : Int} {cells slots : Nat} (hl0 : l.stackTraces = false) (B : FX p s m args c cL_law RL wsL_law 9 g sz0) (hL : LA A ad o1 o2 Z) (hX : va_X bs L xs s s.heap) (hbl : bs < s.heap.size) (hbA : ¬ A0 sz0 bs) (hLs : L < 2147483000) (hJ : LK g A Z ad o1 o2 T0 h) (i0 : 0 ≤ i) (i5 : i + 5 ≤ (L : Int)) (hc1 : cells + 421 ≤ 601024) (hc2 : slots + 10406 ≤ 7293034) (kont : ∀ (h' : AH) (T' : Int), LK g A Z ad o1 o2 T' h' → WA p l e room_1 s m args below meth c g sz0 9 Q h' (cells + 421) (slots + 10406) [some (.ref bs), some (.ref (A 0)), some (.ref (ad 0)), some (.ref o1), some (.ref o2), some (.int (iI i)), none, none, none] 2502 []) : WA p l e room_1 s m args below meth c g sz0 9 Q h cells slots [some (.ref bs), some (.ref (A 0)), some (.ref (ad 0)), some (.ref o1), some (.ref o2), some (.int (iI i)), none, none, none] 600 [] := by
  obtain ⟨mnights, mbits, mleast, mmost, mroom, mreserve, mmount, mspeed, mdata, msize, mends, mmany, mkind, mchain, mholds, mbid, mbound, mcheap, mpromised, mcoin, mpaid, mowed, mturn, misAsking, mwant, mcost, misServed, mitsRow, mitsChunk, hM, hT, hG, ⟨F, hO⟩, F2, hO2⟩ := hJ
  obtain ⟨fs0, hro⟩ := hT.ro
  obtain ⟨x, ex, qx⟩ : ∃ z : Int, vaZ xs (i + 1) = z ∧ (-2147483648 ≤ z ∧ z < 2147483648) := ⟨_, rfl, vaZ_rng _ _⟩
  obtain ⟨k, ek, qk⟩ : ∃ z : Int, vaZ xs (i + 2) = z ∧ (-2147483648 ≤ z ∧ z < 2147483648) := ⟨_, rfl, vaZ_rng _ _⟩
  refine r_aload_n B dL_law_600 rfl rfl ?_
  refine r_aload_n B dL_law_601 rfl rfl ?_
  refine r_iload B dL_law_602 rfl ?_
  refine r_iconst B dL_law_604 ?_
  refine r_iadd B dL_law_605 ?_
  refine r_sld B hX hbl hbA (by omega) dL_law_606 (by omega) (by omega) ?_
  refine r_topz ex ?_
  refine r_aload_n B dL_law_607 rfl rfl ?_
  refine r_iload B dL_law_608 rfl ?_
  refine r_iconst B dL_law_610 ?_
  refine r_iadd B dL_law_611 ?_
  refine r_sld B hX hbl hbA (by omega) dL_law_612 (by omega) (by omega) ?_
  refine r_topz ek ?_
  refine r_aload_n B dL_law_613 rfl rfl ?_
  refine r_callSW (n := 4) B dL_law_614 (ct_L_at l g sz0 hL.1 hT hG x k hl0 qx qk hO hL.oZ.1 hL.oA.1) gL_law_L_at rfl (by decide +kernel) ⟨Nat.le_of_ble_eq_true rfl, Nat.le_of_ble_eq_true rfl⟩ rfl rfl (Nat.le_of_ble_eq_true rfl) (by show cells + 2 ≤ 601024; omega) (by show slots + 12 ≤ 7293034; omega) (fun v h1 hp => ?_)
  obtain ⟨hv1, hf1, F1, hO1, hgood, hbad⟩ := hp
  subst v
  have hM := hL.mw (Or.inl rfl) hM hf1
  have hO2 := (hf1 o2 (sm_ne hO2) hL.oA.2 (fun z => hL.2.2.2.1 z.symm)).trans hO2
  dsimp only [Option.toList, List.cons_append, List.nil_append]
  refine r_istore B dL_law_617 (by decide) (lcat_v rfl rfl) ?_
  refine r_aload_n B dL_law_619 rfl rfl ?_
  refine r_aload_n B dL_law_620 rfl rfl ?_
  refine r_iload B dL_law_621 rfl ?_
  refine r_iconst B dL_law_623 ?_
  refine r_iadd B dL_law_624 ?_
  refine r_sld B hX hbl hbA (by omega) dL_law_625 (by omega) (by omega) ?_
  refine r_topz ex ?_
  refine r_aload_n B dL_law_626 rfl rfl ?_
  refine r_iload B dL_law_627 rfl ?_
  refine r_iconst B dL_law_629 ?_
  refine r_iadd B dL_law_630 ?_
  refine r_sld B hX hbl hbA (by omega) dL_law_631 (by omega) (by omega) ?_
  refine r_topz ek ?_
  refine r_callV (n := 2) B dL_law_632 (ct_X10_at l g sz0 ad hL.2.1 hM x k qx qk (fun z hz => hG.2.2.2.2.2 (240 + z) (by omega) (by omega))) gL_law_X10_at rfl (by decide +kernel) ⟨Nat.le_of_ble_eq_true rfl, Nat.le_of_ble_eq_true rfl⟩ hM.obj rfl rfl rfl (Nat.le_of_ble_eq_true rfl) (by show cells + 2 + 0 ≤ 601024; omega) (by show slots + 12 + 0 ≤ 7293034; omega) (fun v h2 hp => ?_)
  obtain ⟨r, hv2, hb2, hg2⟩ := hp
  subst v
  have hJ2 : LK g A Z ad o1 o2 (tAt x k (msize (240 + x))) h2 ∧ (tAt x k (msize (240 + x)) = 0 → F1 0 = (iI r).toInt64) ∧ h2 o1 = h1 o1 ∧ h2 o2 = h1 o2 := by
    by_cases ht : tAt x k (msize (240 + x)) = 0
    · exact ⟨LK.mk hL ht (hg2 ht).2 (hgood ht).2 (hG) hO1 hO2, fun _ => (by first | (rw [(hgood ht).1, (hg2 ht).1]; done) | (rw [(hgood ht).1, (hg2 ht).1]; rfl)), hL.of (hg2 ht).2⟩
    · exact ⟨LK.mk hL rfl (hb2 ht).2 (hbad ht) hG hO1 hO2, fun y9 => absurd y9 ht, hL.of (hb2 ht).2⟩
  obtain ⟨hJ2, hr, hf2, hf3⟩ := hJ2
  have hJ3 := hJ2
  obtain ⟨mnights, mbits, mleast, mmost, mroom, mreserve, mmount, mspeed, mdata, msize, mends, mmany, mkind, mchain, mholds, mbid, mbound, mcheap, mpromised, mcoin, mpaid, mowed, mturn, misAsking, mwant, mcost, misServed, mitsRow, mitsChunk, hM, hT9, hG9, hF9, hF8⟩ := hJ2
  have hO3 := hf2.trans hO1
  have hO4 := hf3.trans hO2
  dsimp only [Option.toList, List.cons_append, List.nil_append]
  refine r_istore B dL_law_635 (by decide) (lcat_v rfl rfl) ?_
  refine r_aload_n B dL_law_637 rfl rfl ?_
  refine r_callV (n := 0) B dL_law_638 (ct_X10_thrown l g sz0 ad hL.2.1 hM) gL_law_X10_thrown rfl (by decide +kernel) ⟨Nat.le_of_ble_eq_true rfl, Nat.le_of_ble_eq_true rfl⟩ hM.obj rfl rfl rfl (Nat.le_of_ble_eq_true rfl) (by show cells + 2 + 0 + 0 ≤ 601024; omega) (by show slots + 12 + 0 + 0 ≤ 7293034; omega) (fun v h' hp => ?_)
  obtain ⟨hv3, hh3⟩ := hp
  subst v
  subst h'
  dsimp only [Option.toList, List.cons_append, List.nil_append]
  refine r_iload B dL_law_641 rfl ?_
  refine r_icmp_eqS B dL_law_643 (tgt := 648) (by decide) rfl ?_
  refine r_iload B dL_law_648 rfl ?_
  refine r_if_ne B dL_law_650 (tgt := 665) (by decide) hM.i_thrown (fun c650 => ?_) (fun c650 => ?_)
  · refine r_goto B dL_law_665 (tgt := 2502) (by decide) ?_
    refine r_widen (k := cells + 421) (n := slots + 10406) (by show cells + 2 + 0 + 0 ≤ _; omega) (by show slots + 12 + 0 + 0 ≤ _; omega) ?_
    exact r_lv (lvLe_s rfl (lvLe_s rfl (lvLe_s rfl (lvLe_s rfl (lvLe_s rfl (lvLe_s rfl (lvLe_n (lvLe_n (lvLe_n lvLe_nil))))))))) (kont _ _ hJ3)
  · refine r_aload_n B dL_law_653 rfl rfl ?_
    refine r_iconst B dL_law_654 ?_
    refine r_lald B dL_law_655 hO3 (by decide) (by omega) (by omega) ?_
    refine r_iload B dL_law_656 rfl ?_
    refine r_i2l B dL_law_658 ?_
    refine r_lcmp B dL_law_659 ?_
    refine r_if_eqS B dL_law_660 (tgt := 665) (by decide) (lgc_self (hr c650)) ?_
    refine r_goto B dL_law_665 (tgt := 2502) (by decide) ?_
    refine r_widen (k := cells + 421) (n := slots + 10406) (by show cells + 2 + 0 + 0 ≤ _; omega) (by show slots + 12 + 0 + 0 ≤ _; omega) ?_
    exact r_lv (lvLe_s rfl (lvLe_s rfl (lvLe_s rfl (lvLe_s rfl (lvLe_s rfl (lvLe_s rfl (lvLe_n (lvLe_n (lvLe_n lvLe_nil))))))))) (kont _ _ hJ3)
set_option maxHeartbeats 4000000 in
set_option maxRecDepth 100000 in
theorem law_c9 {p : Program} {l : Launch} {e : Env} {s : State} {m : MethodId} {args : Array Value} {below : List Frame} {meth : Method} {c : Code} {Q : State → Prop} {g : GG} {sz0 : Nat} {A ad : Nat → Nat} {Z : Nat → Prop} {o1 o2 bs L : Nat} {xs : Nat → Int32} {h : AH} {T0 i : Int} {cells slots : Nat} (hl0 : l.stackTraces = false) (B : FX p s m args c cL_law RL wsL_law 9 g sz0) (hL : LA A ad o1 o2 Z) (hX : va_X bs L xs s s.heap) (hbl : bs < s.heap.size) (hbA : ¬ A0 sz0 bs) (hLs : L < 2147483000) (hJ : LK g A Z ad o1 o2 T0 h) (i0 : 0 ≤ i) (i5 : i + 5 ≤ (L : Int)) (hc1 : cells + 421 ≤ 601024) (hc2 : slots + 10406 ≤ 7293034) (kont : ∀ (h' : AH) (T' : Int), LK g A Z ad o1 o2 T' h' → WA p l e room_1 s m args below meth c g sz0 9 Q h' (cells + 421) (slots + 10406) [some (.ref bs), some (.ref (A 0)), some (.ref (ad 0)), some (.ref o1), some (.ref o2), some (.int (iI i)), none, none, none] 2502 []) : WA p l e room_1 s m args below meth c g sz0 9 Q h cells slots [some (.ref bs), some (.ref (A 0)), some (.ref (ad 0)), some (.ref o1), some (.ref o2), some (.int (iI i)), none, none, none] 851 [] := by
  obtain ⟨mnights, mbits, mleast, mmost, mroom, mreserve, mmount, mspeed, mdata, msize, mends, mmany, mkind, mchain, mholds, mbid, mbound, mcheap, mpromised, mcoin, mpaid, mowed, mturn, misAsking, mwant, mcost, misServed, mitsRow, mitsChunk, hM, hT, hG, ⟨F, hO⟩, F2, hO2⟩ := hJ
  obtain ⟨fs0, hro⟩ := hT.ro
  obtain ⟨x, ex, qx⟩ : ∃ z : Int, vaZ xs (i + 1) = z ∧ (-2147483648 ≤ z ∧ z < 2147483648) := ⟨_, rfl, vaZ_rng _ _⟩
  refine r_aload_n B dL_law_851 rfl rfl ?_
  refine r_aload_n B dL_law_852 rfl rfl ?_
  refine r_iload B dL_law_853 rfl ?_
  refine r_iconst B dL_law_855 ?_
  refine r_iadd B dL_law_856 ?_
  refine r_sld B hX hbl hbA (by omega) dL_law_857 (by omega) (by omega) ?_
  refine r_topz ex ?_
  refine r_aload_n B dL_law_858 rfl rfl ?_
  refine r_callSW (n := 3) B dL_law_859 (ct_L_chunks l g sz0 hL.1 hT hG x hl0 qx hO hL.oZ.1 hL.oA.1) gL_law_L_chunks rfl (by decide +kernel) ⟨Nat.le_of_ble_eq_true rfl, Nat.le_of_ble_eq_true rfl⟩ rfl rfl (Nat.le_of_ble_eq_true rfl) (by show cells + 1 ≤ 601024; omega) (by show slots + 6 ≤ 7293034; omega) (fun v h1 hp => ?_)
  obtain ⟨hv1, hf1, F1, hO1, hgood, hbad⟩ := hp
  subst v
  have hM := hL.mw (Or.inl rfl) hM hf1
  have hO2 := (hf1 o2 (sm_ne hO2) hL.oA.2 (fun z => hL.2.2.2.1 z.symm)).trans hO2
  dsimp only [Option.toList, List.cons_append, List.nil_append]
  refine r_istore B dL_law_862 (by decide) (lcat_v rfl rfl) ?_
  refine r_aload_n B dL_law_864 rfl rfl ?_
  refine r_aload_n B dL_law_865 rfl rfl ?_
  refine r_iload B dL_law_866 rfl ?_
  refine r_iconst B dL_law_868 ?_
  refine r_iadd B dL_law_869 ?_
  refine r_sld B hX hbl hbA (by omega) dL_law_870 (by omega) (by omega) ?_
  refine r_topz ex ?_
  refine r_callV (n := 1) B dL_law_871 (ct_X10_chunks l g sz0 ad hL.2.1 hM x qx (fun z hz => hG.2.2.2.2.2 (240 + z) (by omega) (by omega))) gL_law_X10_chunks rfl (by decide +kernel) ⟨Nat.le_of_ble_eq_true rfl, Nat.le_of_ble_eq_true rfl⟩ hM.obj rfl rfl rfl (Nat.le_of_ble_eq_true rfl) (by show cells + 1 + 0 ≤ 601024; omega) (by show slots + 6 + 0 ≤ 7293034; omega) (fun v h2 hp => ?_)
  obtain ⟨r, hv2, hb2, hg2⟩ := hp
  subst v
  have hJ2 : LK g A Z ad o1 o2 (tCl x) h2 ∧ (tCl x = 0 → F1 0 = (iI r).toInt64) ∧ h2 o1 = h1 o1 ∧ h2 o2 = h1 o2 := by
    by_cases ht : tCl x = 0
    · have hn48 : (cutR (rowF mdata (240 + x)) (msize (240 + x)) mbits mleast mmost).2.1 ≤ 48 := by
        have hs9 := hG.2.2.2.2.2 (240 + x) (by unfold tCl at ht; (repeat' (split at ht)) <;> omega) (by unfold tCl at ht; (repeat' (split at ht)) <;> omega)
        have h9 := cutR_ok (rowF mdata (240 + x)) (b := mbits) (ls := mleast) (ms := mmost) hs9.1 hs9.2
        omega
      exact ⟨LK.mk hL ht (hg2 ht).2 (ST.lke hG.1 (hgood ht).2 (lk_put mends mmany _ (by unfold tCl at ht; (repeat' (split at ht)) <;> omega) hn48)) (hG) hO1 hO2, fun _ => (by first | (rw [(hgood ht).1, (hg2 ht).1]; done) | (rw [(hgood ht).1, (hg2 ht).1]; rfl)), hL.of (hg2 ht).2⟩
    · exact ⟨LK.mk hL rfl (hb2 ht).2 (hbad ht) hG hO1 hO2, fun y9 => absurd y9 ht, hL.of (hb2 ht).2⟩
  obtain ⟨hJ2, hr, hf2, hf3⟩ := hJ2
  have hJ3 := hJ2
  obtain ⟨mnights, mbits, mleast, mmost, mroom, mreserve, mmount, mspeed, mdata, msize, mends, mmany, mkind, mchain, mholds, mbid, mbound, mcheap, mpromised, mcoin, mpaid, mowed, mturn, misAsking, mwant, mcost, misServed, mitsRow, mitsChunk, hM, hT9, hG9, hF9, hF8⟩ := hJ2
  have hO3 := hf2.trans hO1
  have hO4 := hf3.trans hO2
  dsimp only [Option.toList, List.cons_append, List.nil_append]
  refine r_istore B dL_law_874 (by decide) (lcat_v rfl rfl) ?_
  refine r_aload_n B dL_law_876 rfl rfl ?_
  refine r_callV (n := 0) B dL_law_877 (ct_X10_thrown l g sz0 ad hL.2.1 hM) gL_law_X10_thrown rfl (by decide +kernel) ⟨Nat.le_of_ble_eq_true rfl, Nat.le_of_ble_eq_true rfl⟩ hM.obj rfl rfl rfl (Nat.le_of_ble_eq_true rfl) (by show cells + 1 + 0 + 0 ≤ 601024; omega) (by show slots + 6 + 0 + 0 ≤ 7293034; omega) (fun v h' hp => ?_)
  obtain ⟨hv3, hh3⟩ := hp
  subst v
  subst h'
  dsimp only [Option.toList, List.cons_append, List.nil_append]
  refine r_iload B dL_law_880 rfl ?_
  refine r_icmp_eqS B dL_law_882 (tgt := 887) (by decide) rfl ?_
  refine r_iload B dL_law_887 rfl ?_
  refine r_if_ne B dL_law_889 (tgt := 904) (by decide) hM.i_thrown (fun c889 => ?_) (fun c889 => ?_)
  · refine r_goto B dL_law_904 (tgt := 2502) (by decide) ?_
    refine r_widen (k := cells + 421) (n := slots + 10406) (by show cells + 1 + 0 + 0 ≤ _; omega) (by show slots + 6 + 0 + 0 ≤ _; omega) ?_
    exact r_lv (lvLe_s rfl (lvLe_s rfl (lvLe_s rfl (lvLe_s rfl (lvLe_s rfl (lvLe_s rfl (lvLe_n (lvLe_n (lvLe_n lvLe_nil))))))))) (kont _ _ hJ3)
  · refine r_aload_n B dL_law_892 rfl rfl ?_
    refine r_iconst B dL_law_893 ?_
    refine r_lald B dL_law_894 hO3 (by decide) (by omega) (by omega) ?_
    refine r_iload B dL_law_895 rfl ?_
    refine r_i2l B dL_law_897 ?_
    refine r_lcmp B dL_law_898 ?_
    refine r_if_eqS B dL_law_899 (tgt := 904) (by decide) (lgc_self (hr c889)) ?_
    refine r_goto B dL_law_904 (tgt := 2502) (by decide) ?_
    refine r_widen (k := cells + 421) (n := slots + 10406) (by show cells + 1 + 0 + 0 ≤ _; omega) (by show slots + 6 + 0 + 0 ≤ _; omega) ?_
    exact r_lv (lvLe_s rfl (lvLe_s rfl (lvLe_s rfl (lvLe_s rfl (lvLe_s rfl (lvLe_s rfl (lvLe_n (lvLe_n (lvLe_n lvLe_nil))))))))) (kont _ _ hJ3)
set_option maxHeartbeats 4000000 in
set_option maxRecDepth 100000 in
theorem law_c13 {p : Program} {l : Launch} {e : Env} {s : State} {m : MethodId} {args : Array Value} {below : List Frame} {meth : Method} {c : Code} {Q : State → Prop} {g : GG} {sz0 : Nat} {A ad : Nat → Nat} {Z : Nat → Prop} {o1 o2 bs L : Nat} {xs : Nat → Int32} {h : AH} {T0 i : Int} {cells slots : Nat} (hl0 : l.stackTraces = false) (B : FX p s m args c cL_law RL wsL_law 9 g sz0) (hL : LA A ad o1 o2 Z) (hX : va_X bs L xs s s.heap) (hbl : bs < s.heap.size) (hbA : ¬ A0 sz0 bs) (hLs : L < 2147483000) (hJ : LK g A Z ad o1 o2 T0 h) (i0 : 0 ≤ i) (i5 : i + 5 ≤ (L : Int)) (hc1 : cells + 421 ≤ 601024) (hc2 : slots + 10406 ≤ 7293034) (kont : ∀ (h' : AH) (T' : Int), LK g A Z ad o1 o2 T' h' → WA p l e room_1 s m args below meth c g sz0 9 Q h' (cells + 421) (slots + 10406) [some (.ref bs), some (.ref (A 0)), some (.ref (ad 0)), some (.ref o1), some (.ref o2), some (.int (iI i)), none, none, none] 2502 []) : WA p l e room_1 s m args below meth c g sz0 9 Q h cells slots [some (.ref bs), some (.ref (A 0)), some (.ref (ad 0)), some (.ref o1), some (.ref o2), some (.int (iI i)), none, none, none] 1036 [] := by
  obtain ⟨mnights, mbits, mleast, mmost, mroom, mreserve, mmount, mspeed, mdata, msize, mends, mmany, mkind, mchain, mholds, mbid, mbound, mcheap, mpromised, mcoin, mpaid, mowed, mturn, misAsking, mwant, mcost, misServed, mitsRow, mitsChunk, hM, hT, hG, ⟨F, hO⟩, F2, hO2⟩ := hJ
  obtain ⟨fs0, hro⟩ := hT.ro
  obtain ⟨x, ex, qx⟩ : ∃ z : Int, vaZ xs (i + 1) = z ∧ (-2147483648 ≤ z ∧ z < 2147483648) := ⟨_, rfl, vaZ_rng _ _⟩
  obtain ⟨y, ey, qy⟩ : ∃ z : Int, vaZ xs (i + 2) = z ∧ (-2147483648 ≤ z ∧ z < 2147483648) := ⟨_, rfl, vaZ_rng _ _⟩
  refine r_aload_n B dL_law_1036 rfl rfl ?_
  refine r_aload_n B dL_law_1037 rfl rfl ?_
  refine r_iload B dL_law_1038 rfl ?_
  refine r_iconst B dL_law_1040 ?_
  refine r_iadd B dL_law_1041 ?_
  refine r_sld B hX hbl hbA (by omega) dL_law_1042 (by omega) (by omega) ?_
  refine r_topz ex ?_
  refine r_aload_n B dL_law_1043 rfl rfl ?_
  refine r_iload B dL_law_1044 rfl ?_
  refine r_iconst B dL_law_1046 ?_
  refine r_iadd B dL_law_1047 ?_
  refine r_sld B hX hbl hbA (by omega) dL_law_1048 (by omega) (by omega) ?_
  refine r_topz ey ?_
  refine r_aload_n B dL_law_1049 rfl rfl ?_
  refine r_callSW (n := 4) B dL_law_1050 (ct_L_bid l g sz0 hL.1 hT hG x y hl0 qx qy hO hL.oZ.1 hL.oA.1) gL_law_L_bid rfl (by decide +kernel) ⟨Nat.le_of_ble_eq_true rfl, Nat.le_of_ble_eq_true rfl⟩ rfl rfl (Nat.le_of_ble_eq_true rfl) (by show cells + 2 ≤ 601024; omega) (by show slots + 12 ≤ 7293034; omega) (fun v h1 hp => ?_)
  obtain ⟨hv1, hf1, F1, hO1, hgood, hbad⟩ := hp
  subst v
  have hM := hL.mw (Or.inl rfl) hM hf1
  have hO2 := (hf1 o2 (sm_ne hO2) hL.oA.2 (fun z => hL.2.2.2.1 z.symm)).trans hO2
  dsimp only [Option.toList, List.cons_append, List.nil_append]
  refine r_istore B dL_law_1053 (by decide) (lcat_v rfl rfl) ?_
  refine r_aload_n B dL_law_1055 rfl rfl ?_
  refine r_aload_n B dL_law_1056 rfl rfl ?_
  refine r_iload B dL_law_1057 rfl ?_
  refine r_iconst B dL_law_1059 ?_
  refine r_iadd B dL_law_1060 ?_
  refine r_sld B hX hbl hbA (by omega) dL_law_1061 (by omega) (by omega) ?_
  refine r_topz ex ?_
  refine r_aload_n B dL_law_1062 rfl rfl ?_
  refine r_iload B dL_law_1063 rfl ?_
  refine r_iconst B dL_law_1065 ?_
  refine r_iadd B dL_law_1066 ?_
  refine r_sld B hX hbl hbA (by omega) dL_law_1067 (by omega) (by omega) ?_
  refine r_topz ey ?_
  refine r_callV (n := 2) B dL_law_1068 (ct_X10_bid l g sz0 ad hL.2.1 hM x y qx qy) gL_law_X10_bid rfl (by decide +kernel) ⟨Nat.le_of_ble_eq_true rfl, Nat.le_of_ble_eq_true rfl⟩ hM.obj rfl rfl rfl (Nat.le_of_ble_eq_true rfl) (by show cells + 2 + 0 ≤ 601024; omega) (by show slots + 12 + 0 ≤ 7293034; omega) (fun v h2 hp => ?_)
  obtain ⟨r, hv2, hb2, hg2⟩ := hp
  subst v
  have hJ2 : LK g A Z ad o1 o2 (tB ((0 ≤ x ∧ x ≤ 3) ∧ (0 ≤ y ∧ y ≤ 100))) h2 ∧ (tB ((0 ≤ x ∧ x ≤ 3) ∧ (0 ≤ y ∧ y ≤ 100)) = 0 → F1 0 = (iI r).toInt64) ∧ h2 o1 = h1 o1 ∧ h2 o2 = h1 o2 := by
    by_cases ht : tB ((0 ≤ x ∧ x ≤ 3) ∧ (0 ≤ y ∧ y ≤ 100)) = 0
    · exact ⟨LK.mk hL ht (hg2 ht).2 (hgood ht).2 (hG.cl (x := x) (fun y9 _ _ => ⟨upZ_or (tB_0.mp ht).2, Or.inl rfl, Or.inl rfl, Or.inl rfl, Or.inl rfl, Or.inl rfl⟩)) hO1 hO2, fun _ => (by first | (rw [(hgood ht).1, (hg2 ht).1]; done) | (rw [(hgood ht).1, (hg2 ht).1]; rfl)), hL.of (hg2 ht).2⟩
    · exact ⟨LK.mk hL rfl (hb2 ht).2 (hbad ht) hG hO1 hO2, fun y9 => absurd y9 ht, hL.of (hb2 ht).2⟩
  obtain ⟨hJ2, hr, hf2, hf3⟩ := hJ2
  have hJ3 := hJ2
  obtain ⟨mnights, mbits, mleast, mmost, mroom, mreserve, mmount, mspeed, mdata, msize, mends, mmany, mkind, mchain, mholds, mbid, mbound, mcheap, mpromised, mcoin, mpaid, mowed, mturn, misAsking, mwant, mcost, misServed, mitsRow, mitsChunk, hM, hT9, hG9, hF9, hF8⟩ := hJ2
  have hO3 := hf2.trans hO1
  have hO4 := hf3.trans hO2
  dsimp only [Option.toList, List.cons_append, List.nil_append]
  refine r_istore B dL_law_1071 (by decide) (lcat_v rfl rfl) ?_
  refine r_aload_n B dL_law_1073 rfl rfl ?_
  refine r_callV (n := 0) B dL_law_1074 (ct_X10_thrown l g sz0 ad hL.2.1 hM) gL_law_X10_thrown rfl (by decide +kernel) ⟨Nat.le_of_ble_eq_true rfl, Nat.le_of_ble_eq_true rfl⟩ hM.obj rfl rfl rfl (Nat.le_of_ble_eq_true rfl) (by show cells + 2 + 0 + 0 ≤ 601024; omega) (by show slots + 12 + 0 + 0 ≤ 7293034; omega) (fun v h' hp => ?_)
  obtain ⟨hv3, hh3⟩ := hp
  subst v
  subst h'
  dsimp only [Option.toList, List.cons_append, List.nil_append]
  refine r_iload B dL_law_1077 rfl ?_
  refine r_icmp_eqS B dL_law_1079 (tgt := 1084) (by decide) rfl ?_
  refine r_iload B dL_law_1084 rfl ?_
  refine r_if_ne B dL_law_1086 (tgt := 1101) (by decide) hM.i_thrown (fun c1086 => ?_) (fun c1086 => ?_)
  · refine r_goto B dL_law_1101 (tgt := 2502) (by decide) ?_
    refine r_widen (k := cells + 421) (n := slots + 10406) (by show cells + 2 + 0 + 0 ≤ _; omega) (by show slots + 12 + 0 + 0 ≤ _; omega) ?_
    exact r_lv (lvLe_s rfl (lvLe_s rfl (lvLe_s rfl (lvLe_s rfl (lvLe_s rfl (lvLe_s rfl (lvLe_n (lvLe_n (lvLe_n lvLe_nil))))))))) (kont _ _ hJ3)
  · refine r_aload_n B dL_law_1089 rfl rfl ?_
    refine r_iconst B dL_law_1090 ?_
    refine r_lald B dL_law_1091 hO3 (by decide) (by omega) (by omega) ?_
    refine r_iload B dL_law_1092 rfl ?_
    refine r_i2l B dL_law_1094 ?_
    refine r_lcmp B dL_law_1095 ?_
    refine r_if_eqS B dL_law_1096 (tgt := 1101) (by decide) (lgc_self (hr c1086)) ?_
    refine r_goto B dL_law_1101 (tgt := 2502) (by decide) ?_
    refine r_widen (k := cells + 421) (n := slots + 10406) (by show cells + 2 + 0 + 0 ≤ _; omega) (by show slots + 12 + 0 + 0 ≤ _; omega) ?_
    exact r_lv (lvLe_s rfl (lvLe_s rfl (lvLe_s rfl (lvLe_s rfl (lvLe_s rfl (lvLe_s rfl (lvLe_n (lvLe_n (lvLe_n lvLe_nil))))))))) (kont _ _ hJ3)
set_option maxHeartbeats 4000000 in
set_option maxRecDepth 100000 in
theorem law_c17 {p : Program} {l : Launch} {e : Env} {s : State} {m : MethodId} {args : Array Value} {below : List Frame} {meth : Method} {c : Code} {Q : State → Prop} {g : GG} {sz0 : Nat} {A ad : Nat → Nat} {Z : Nat → Prop} {o1 o2 bs L : Nat} {xs : Nat → Int32} {h : AH} {T0 i : Int} {cells slots : Nat} (hl0 : l.stackTraces = false) (B : FX p s m args c cL_law RL wsL_law 9 g sz0) (hL : LA A ad o1 o2 Z) (hX : va_X bs L xs s s.heap) (hbl : bs < s.heap.size) (hbA : ¬ A0 sz0 bs) (hLs : L < 2147483000) (hJ : LK g A Z ad o1 o2 T0 h) (i0 : 0 ≤ i) (i5 : i + 5 ≤ (L : Int)) (hc1 : cells + 421 ≤ 601024) (hc2 : slots + 10406 ≤ 7293034) (kont : ∀ (h' : AH) (T' : Int), LK g A Z ad o1 o2 T' h' → WA p l e room_1 s m args below meth c g sz0 9 Q h' (cells + 421) (slots + 10406) [some (.ref bs), some (.ref (A 0)), some (.ref (ad 0)), some (.ref o1), some (.ref o2), some (.int (iI i)), none, none, none] 2502 []) : WA p l e room_1 s m args below meth c g sz0 9 Q h cells slots [some (.ref bs), some (.ref (A 0)), some (.ref (ad 0)), some (.ref o1), some (.ref o2), some (.int (iI i)), none, none, none] 1276 [] := by
  obtain ⟨mnights, mbits, mleast, mmost, mroom, mreserve, mmount, mspeed, mdata, msize, mends, mmany, mkind, mchain, mholds, mbid, mbound, mcheap, mpromised, mcoin, mpaid, mowed, mturn, misAsking, mwant, mcost, misServed, mitsRow, mitsChunk, hM, hT, hG, ⟨F, hO⟩, F2, hO2⟩ := hJ
  obtain ⟨fs0, hro⟩ := hT.ro
  obtain ⟨x, ex, qx⟩ : ∃ z : Int, vaZ xs (i + 1) = z ∧ (-2147483648 ≤ z ∧ z < 2147483648) := ⟨_, rfl, vaZ_rng _ _⟩
  refine r_aload_n B dL_law_1276 rfl rfl ?_
  refine r_aload_n B dL_law_1277 rfl rfl ?_
  refine r_iload B dL_law_1278 rfl ?_
  refine r_iconst B dL_law_1280 ?_
  refine r_iadd B dL_law_1281 ?_
  refine r_sld B hX hbl hbA (by omega) dL_law_1282 (by omega) (by omega) ?_
  refine r_topz ex ?_
  refine r_aload_n B dL_law_1283 rfl rfl ?_
  refine r_callSW (n := 3) B dL_law_1284 (ct_L_would l g sz0 hL.1 hT hG x hl0 qx hO hL.oZ.1 hL.oA.1) gL_law_L_would rfl (by decide +kernel) ⟨Nat.le_of_ble_eq_true rfl, Nat.le_of_ble_eq_true rfl⟩ rfl rfl (Nat.le_of_ble_eq_true rfl) (by show cells + 1 ≤ 601024; omega) (by show slots + 6 ≤ 7293034; omega) (fun v h1 hp => ?_)
  obtain ⟨hv1, hf1, F1, hO1, hgood, hbad⟩ := hp
  subst v
  have hM := hL.mw (Or.inl rfl) hM hf1
  have hO2 := (hf1 o2 (sm_ne hO2) hL.oA.2 (fun z => hL.2.2.2.1 z.symm)).trans hO2
  dsimp only [Option.toList, List.cons_append, List.nil_append]
  refine r_istore B dL_law_1287 (by decide) (lcat_v rfl rfl) ?_
  refine r_aload_n B dL_law_1289 rfl rfl ?_
  refine r_aload_n B dL_law_1290 rfl rfl ?_
  refine r_iload B dL_law_1291 rfl ?_
  refine r_iconst B dL_law_1293 ?_
  refine r_iadd B dL_law_1294 ?_
  refine r_sld B hX hbl hbA (by omega) dL_law_1295 (by omega) (by omega) ?_
  refine r_topz ex ?_
  refine r_callV (n := 1) B dL_law_1296 (ct_X10_would l g sz0 ad hL.2.1 hM x qx hG.1 hT.lko (fun z hz => hG.2.2.2.2.2 (240 + z) (by omega) (by omega)) hG.2.2.1.1) gL_law_X10_would rfl (by decide +kernel) ⟨Nat.le_of_ble_eq_true rfl, Nat.le_of_ble_eq_true rfl⟩ hM.obj rfl rfl rfl (Nat.le_of_ble_eq_true rfl) (by show cells + 1 + 0 ≤ 601024; omega) (by show slots + 6 + 0 ≤ 7293034; omega) (fun v h2 hp => ?_)
  obtain ⟨r, hv2, hb2, hg2⟩ := hp
  subst v
  have hJ2 : LK g A Z ad o1 o2 (tCl x) h2 ∧ (tCl x = 0 → F1 0 = (iI r).toInt64) ∧ h2 o1 = h1 o1 ∧ h2 o2 = h1 o2 := by
    by_cases ht : tCl x = 0
    · obtain ⟨hrv, tt, AS, WT, CS, SV, e1, m1, hE, hM2⟩ := hg2 ht
      exact ⟨LK.mk hL ht hM2 (ST.lke hG.1 (hgood ht).2 hE) hG hO1 hO2, fun _ => (by rw [(hgood ht).1, hrv]; rfl), hL.of hM2⟩
    · exact ⟨LK.mk hL rfl (hb2 ht).2 (hbad ht) hG hO1 hO2, fun y9 => absurd y9 ht, hL.of (hb2 ht).2⟩
  obtain ⟨hJ2, hr, hf2, hf3⟩ := hJ2
  have hJ3 := hJ2
  obtain ⟨mnights, mbits, mleast, mmost, mroom, mreserve, mmount, mspeed, mdata, msize, mends, mmany, mkind, mchain, mholds, mbid, mbound, mcheap, mpromised, mcoin, mpaid, mowed, mturn, misAsking, mwant, mcost, misServed, mitsRow, mitsChunk, hM, hT9, hG9, hF9, hF8⟩ := hJ2
  have hO3 := hf2.trans hO1
  have hO4 := hf3.trans hO2
  dsimp only [Option.toList, List.cons_append, List.nil_append]
  refine r_istore B dL_law_1299 (by decide) (lcat_v rfl rfl) ?_
  refine r_aload_n B dL_law_1301 rfl rfl ?_
  refine r_callV (n := 0) B dL_law_1302 (ct_X10_thrown l g sz0 ad hL.2.1 hM) gL_law_X10_thrown rfl (by decide +kernel) ⟨Nat.le_of_ble_eq_true rfl, Nat.le_of_ble_eq_true rfl⟩ hM.obj rfl rfl rfl (Nat.le_of_ble_eq_true rfl) (by show cells + 1 + 0 + 0 ≤ 601024; omega) (by show slots + 6 + 0 + 0 ≤ 7293034; omega) (fun v h' hp => ?_)
  obtain ⟨hv3, hh3⟩ := hp
  subst v
  subst h'
  dsimp only [Option.toList, List.cons_append, List.nil_append]
  refine r_iload B dL_law_1305 rfl ?_
  refine r_icmp_eqS B dL_law_1307 (tgt := 1312) (by decide) rfl ?_
  refine r_iload B dL_law_1312 rfl ?_
  refine r_if_ne B dL_law_1314 (tgt := 1329) (by decide) hM.i_thrown (fun c1314 => ?_) (fun c1314 => ?_)
  · refine r_goto B dL_law_1329 (tgt := 2502) (by decide) ?_
    refine r_widen (k := cells + 421) (n := slots + 10406) (by show cells + 1 + 0 + 0 ≤ _; omega) (by show slots + 6 + 0 + 0 ≤ _; omega) ?_
    exact r_lv (lvLe_s rfl (lvLe_s rfl (lvLe_s rfl (lvLe_s rfl (lvLe_s rfl (lvLe_s rfl (lvLe_n (lvLe_n (lvLe_n lvLe_nil))))))))) (kont _ _ hJ3)
  · refine r_aload_n B dL_law_1317 rfl rfl ?_
    refine r_iconst B dL_law_1318 ?_
    refine r_lald B dL_law_1319 hO3 (by decide) (by omega) (by omega) ?_
    refine r_iload B dL_law_1320 rfl ?_
    refine r_i2l B dL_law_1322 ?_
    refine r_lcmp B dL_law_1323 ?_
    refine r_if_eqS B dL_law_1324 (tgt := 1329) (by decide) (lgc_self (hr c1314)) ?_
    refine r_goto B dL_law_1329 (tgt := 2502) (by decide) ?_
    refine r_widen (k := cells + 421) (n := slots + 10406) (by show cells + 1 + 0 + 0 ≤ _; omega) (by show slots + 6 + 0 + 0 ≤ _; omega) ?_
    exact r_lv (lvLe_s rfl (lvLe_s rfl (lvLe_s rfl (lvLe_s rfl (lvLe_s rfl (lvLe_s rfl (lvLe_n (lvLe_n (lvLe_n lvLe_nil))))))))) (kont _ _ hJ3)
set_option maxHeartbeats 4000000 in
set_option maxRecDepth 100000 in
theorem law_c21 {p : Program} {l : Launch} {e : Env} {s : State} {m : MethodId} {args : Array Value} {below : List Frame} {meth : Method} {c : Code} {Q : State → Prop} {g : GG} {sz0 : Nat} {A ad : Nat → Nat} {Z : Nat → Prop} {o1 o2 bs L : Nat} {xs : Nat → Int32} {h : AH} {T0 i : Int} {cells slots : Nat} (hl0 : l.stackTraces = false) (B : FX p s m args c cL_law RL wsL_law 9 g sz0) (hL : LA A ad o1 o2 Z) (hX : va_X bs L xs s s.heap) (hbl : bs < s.heap.size) (hbA : ¬ A0 sz0 bs) (hLs : L < 2147483000) (hJ : LK g A Z ad o1 o2 T0 h) (i0 : 0 ≤ i) (i5 : i + 5 ≤ (L : Int)) (hc1 : cells + 421 ≤ 601024) (hc2 : slots + 10406 ≤ 7293034) (kont : ∀ (h' : AH) (T' : Int), LK g A Z ad o1 o2 T' h' → WA p l e room_1 s m args below meth c g sz0 9 Q h' (cells + 421) (slots + 10406) [some (.ref bs), some (.ref (A 0)), some (.ref (ad 0)), some (.ref o1), some (.ref o2), some (.int (iI i)), none, none, none] 2502 []) : WA p l e room_1 s m args below meth c g sz0 9 Q h cells slots [some (.ref bs), some (.ref (A 0)), some (.ref (ad 0)), some (.ref o1), some (.ref o2), some (.int (iI i)), none, none, none] 1457 [] := by
  obtain ⟨mnights, mbits, mleast, mmost, mroom, mreserve, mmount, mspeed, mdata, msize, mends, mmany, mkind, mchain, mholds, mbid, mbound, mcheap, mpromised, mcoin, mpaid, mowed, mturn, misAsking, mwant, mcost, misServed, mitsRow, mitsChunk, hM, hT, hG, ⟨F, hO⟩, F2, hO2⟩ := hJ
  obtain ⟨fs0, hro⟩ := hT.ro
  obtain ⟨x, ex, qx⟩ : ∃ z : Int, vaZ xs (i + 1) = z ∧ (-2147483648 ≤ z ∧ z < 2147483648) := ⟨_, rfl, vaZ_rng _ _⟩
  obtain ⟨k, ek, qk⟩ : ∃ z : Int, vaZ xs (i + 2) = z ∧ (-2147483648 ≤ z ∧ z < 2147483648) := ⟨_, rfl, vaZ_rng _ _⟩
  refine r_aload_n B dL_law_1457 rfl rfl ?_
  refine r_aload_n B dL_law_1458 rfl rfl ?_
  refine r_iload B dL_law_1459 rfl ?_
  refine r_iconst B dL_law_1461 ?_
  refine r_iadd B dL_law_1462 ?_
  refine r_sld B hX hbl hbA (by omega) dL_law_1463 (by omega) (by omega) ?_
  refine r_topz ex ?_
  refine r_aload_n B dL_law_1464 rfl rfl ?_
  refine r_iload B dL_law_1465 rfl ?_
  refine r_iconst B dL_law_1467 ?_
  refine r_iadd B dL_law_1468 ?_
  refine r_sld B hX hbl hbA (by omega) dL_law_1469 (by omega) (by omega) ?_
  refine r_topz ek ?_
  refine r_aload_n B dL_law_1470 rfl rfl ?_
  refine r_callSW (n := 4) B dL_law_1471 (ct_L_dayOf l g sz0 hL.1 hT hG x k hl0 qx qk hO hL.oZ.1 hL.oA.1) gL_law_L_dayOf rfl (by decide +kernel) ⟨Nat.le_of_ble_eq_true rfl, Nat.le_of_ble_eq_true rfl⟩ rfl rfl (Nat.le_of_ble_eq_true rfl) (by show cells + 2 ≤ 601024; omega) (by show slots + 12 ≤ 7293034; omega) (fun v h1 hp => ?_)
  obtain ⟨hv1, hf1, F1, hO1, hgood, hbad⟩ := hp
  subst v
  have hM := hL.mw (Or.inl rfl) hM hf1
  have hO2 := (hf1 o2 (sm_ne hO2) hL.oA.2 (fun z => hL.2.2.2.1 z.symm)).trans hO2
  dsimp only [Option.toList, List.cons_append, List.nil_append]
  refine r_istore B dL_law_1474 (by decide) (lcat_v rfl rfl) ?_
  refine r_aload_n B dL_law_1476 rfl rfl ?_
  refine r_aload_n B dL_law_1477 rfl rfl ?_
  refine r_iload B dL_law_1478 rfl ?_
  refine r_iconst B dL_law_1480 ?_
  refine r_iadd B dL_law_1481 ?_
  refine r_sld B hX hbl hbA (by omega) dL_law_1482 (by omega) (by omega) ?_
  refine r_topz ex ?_
  refine r_aload_n B dL_law_1483 rfl rfl ?_
  refine r_iload B dL_law_1484 rfl ?_
  refine r_iconst B dL_law_1486 ?_
  refine r_iadd B dL_law_1487 ?_
  refine r_sld B hX hbl hbA (by omega) dL_law_1488 (by omega) (by omega) ?_
  refine r_topz ek ?_
  refine r_callV (n := 2) B dL_law_1489 (ct_X10_dayOf l g sz0 ad hL.2.1 hM x k qx qk hG.1) gL_law_X10_dayOf rfl (by decide +kernel) ⟨Nat.le_of_ble_eq_true rfl, Nat.le_of_ble_eq_true rfl⟩ hM.obj rfl rfl rfl (Nat.le_of_ble_eq_true rfl) (by show cells + 2 + 0 ≤ 601024; omega) (by show slots + 12 + 0 ≤ 7293034; omega) (fun v h2 hp => ?_)
  obtain ⟨r, hv2, hb2, hg2⟩ := hp
  subst v
  have hJ2 : LK g A Z ad o1 o2 (tNi x k mnights) h2 ∧ (tNi x k mnights = 0 → F1 0 = (iI r).toInt64) ∧ h2 o1 = h1 o1 ∧ h2 o2 = h1 o2 := by
    by_cases ht : tNi x k mnights = 0
    · exact ⟨LK.mk hL ht (hg2 ht).2 (hgood ht).2 (hG) hO1 hO2, fun _ => (by first | (rw [(hgood ht).1, (hg2 ht).1]; done) | (rw [(hgood ht).1, (hg2 ht).1]; rfl)), hL.of (hg2 ht).2⟩
    · exact ⟨LK.mk hL rfl (hb2 ht).2 (hbad ht) hG hO1 hO2, fun y9 => absurd y9 ht, hL.of (hb2 ht).2⟩
  obtain ⟨hJ2, hr, hf2, hf3⟩ := hJ2
  have hJ3 := hJ2
  obtain ⟨mnights, mbits, mleast, mmost, mroom, mreserve, mmount, mspeed, mdata, msize, mends, mmany, mkind, mchain, mholds, mbid, mbound, mcheap, mpromised, mcoin, mpaid, mowed, mturn, misAsking, mwant, mcost, misServed, mitsRow, mitsChunk, hM, hT9, hG9, hF9, hF8⟩ := hJ2
  have hO3 := hf2.trans hO1
  have hO4 := hf3.trans hO2
  dsimp only [Option.toList, List.cons_append, List.nil_append]
  refine r_istore B dL_law_1492 (by decide) (lcat_v rfl rfl) ?_
  refine r_aload_n B dL_law_1494 rfl rfl ?_
  refine r_callV (n := 0) B dL_law_1495 (ct_X10_thrown l g sz0 ad hL.2.1 hM) gL_law_X10_thrown rfl (by decide +kernel) ⟨Nat.le_of_ble_eq_true rfl, Nat.le_of_ble_eq_true rfl⟩ hM.obj rfl rfl rfl (Nat.le_of_ble_eq_true rfl) (by show cells + 2 + 0 + 0 ≤ 601024; omega) (by show slots + 12 + 0 + 0 ≤ 7293034; omega) (fun v h' hp => ?_)
  obtain ⟨hv3, hh3⟩ := hp
  subst v
  subst h'
  dsimp only [Option.toList, List.cons_append, List.nil_append]
  refine r_iload B dL_law_1498 rfl ?_
  refine r_icmp_eqS B dL_law_1500 (tgt := 1505) (by decide) rfl ?_
  refine r_iload B dL_law_1505 rfl ?_
  refine r_if_ne B dL_law_1507 (tgt := 1522) (by decide) hM.i_thrown (fun c1507 => ?_) (fun c1507 => ?_)
  · refine r_goto B dL_law_1522 (tgt := 2502) (by decide) ?_
    refine r_widen (k := cells + 421) (n := slots + 10406) (by show cells + 2 + 0 + 0 ≤ _; omega) (by show slots + 12 + 0 + 0 ≤ _; omega) ?_
    exact r_lv (lvLe_s rfl (lvLe_s rfl (lvLe_s rfl (lvLe_s rfl (lvLe_s rfl (lvLe_s rfl (lvLe_n (lvLe_n (lvLe_n lvLe_nil))))))))) (kont _ _ hJ3)
  · refine r_aload_n B dL_law_1510 rfl rfl ?_
    refine r_iconst B dL_law_1511 ?_
    refine r_lald B dL_law_1512 hO3 (by decide) (by omega) (by omega) ?_
    refine r_iload B dL_law_1513 rfl ?_
    refine r_i2l B dL_law_1515 ?_
    refine r_lcmp B dL_law_1516 ?_
    refine r_if_eqS B dL_law_1517 (tgt := 1522) (by decide) (lgc_self (hr c1507)) ?_
    refine r_goto B dL_law_1522 (tgt := 2502) (by decide) ?_
    refine r_widen (k := cells + 421) (n := slots + 10406) (by show cells + 2 + 0 + 0 ≤ _; omega) (by show slots + 12 + 0 + 0 ≤ _; omega) ?_
    exact r_lv (lvLe_s rfl (lvLe_s rfl (lvLe_s rfl (lvLe_s rfl (lvLe_s rfl (lvLe_s rfl (lvLe_n (lvLe_n (lvLe_n lvLe_nil))))))))) (kont _ _ hJ3)
set_option maxHeartbeats 4000000 in
set_option maxRecDepth 100000 in
theorem law_c25 {p : Program} {l : Launch} {e : Env} {s : State} {m : MethodId} {args : Array Value} {below : List Frame} {meth : Method} {c : Code} {Q : State → Prop} {g : GG} {sz0 : Nat} {A ad : Nat → Nat} {Z : Nat → Prop} {o1 o2 bs L : Nat} {xs : Nat → Int32} {h : AH} {T0 i : Int} {cells slots : Nat} (hl0 : l.stackTraces = false) (B : FX p s m args c cL_law RL wsL_law 9 g sz0) (hL : LA A ad o1 o2 Z) (hX : va_X bs L xs s s.heap) (hbl : bs < s.heap.size) (hbA : ¬ A0 sz0 bs) (hLs : L < 2147483000) (hJ : LK g A Z ad o1 o2 T0 h) (i0 : 0 ≤ i) (i5 : i + 5 ≤ (L : Int)) (hc1 : cells + 421 ≤ 601024) (hc2 : slots + 10406 ≤ 7293034) (kont : ∀ (h' : AH) (T' : Int), LK g A Z ad o1 o2 T' h' → WA p l e room_1 s m args below meth c g sz0 9 Q h' (cells + 421) (slots + 10406) [some (.ref bs), some (.ref (A 0)), some (.ref (ad 0)), some (.ref o1), some (.ref o2), some (.int (iI i)), none, none, none] 2502 []) : WA p l e room_1 s m args below meth c g sz0 9 Q h cells slots [some (.ref bs), some (.ref (A 0)), some (.ref (ad 0)), some (.ref o1), some (.ref o2), some (.int (iI i)), none, none, none] 1717 [] := by
  obtain ⟨mnights, mbits, mleast, mmost, mroom, mreserve, mmount, mspeed, mdata, msize, mends, mmany, mkind, mchain, mholds, mbid, mbound, mcheap, mpromised, mcoin, mpaid, mowed, mturn, misAsking, mwant, mcost, misServed, mitsRow, mitsChunk, hM, hT, hG, ⟨F, hO⟩, F2, hO2⟩ := hJ
  obtain ⟨fs0, hro⟩ := hT.ro
  obtain ⟨x, ex, qx⟩ : ∃ z : Int, vaZ xs (i + 1) = z ∧ (-2147483648 ≤ z ∧ z < 2147483648) := ⟨_, rfl, vaZ_rng _ _⟩
  obtain ⟨k, ek, qk⟩ : ∃ z : Int, vaZ xs (i + 2) = z ∧ (-2147483648 ≤ z ∧ z < 2147483648) := ⟨_, rfl, vaZ_rng _ _⟩
  refine r_aload_n B dL_law_1717 rfl rfl ?_
  refine r_aload_n B dL_law_1718 rfl rfl ?_
  refine r_iload B dL_law_1719 rfl ?_
  refine r_iconst B dL_law_1721 ?_
  refine r_iadd B dL_law_1722 ?_
  refine r_sld B hX hbl hbA (by omega) dL_law_1723 (by omega) (by omega) ?_
  refine r_topz ex ?_
  refine r_aload_n B dL_law_1724 rfl rfl ?_
  refine r_iload B dL_law_1725 rfl ?_
  refine r_iconst B dL_law_1727 ?_
  refine r_iadd B dL_law_1728 ?_
  refine r_sld B hX hbl hbA (by omega) dL_law_1729 (by omega) (by omega) ?_
  refine r_topz ek ?_
  refine r_aload_n B dL_law_1730 rfl rfl ?_
  refine r_callSW (n := 4) B dL_law_1731 (ct_L_lengthOf l g sz0 hL.1 hT hG x k hl0 qx qk hO hL.oZ.1 hL.oA.1) gL_law_L_lengthOf rfl (by decide +kernel) ⟨Nat.le_of_ble_eq_true rfl, Nat.le_of_ble_eq_true rfl⟩ rfl rfl (Nat.le_of_ble_eq_true rfl) (by show cells + 3 ≤ 601024; omega) (by show slots + 18 ≤ 7293034; omega) (fun v h1 hp => ?_)
  obtain ⟨hv1, hf1, F1, hO1, hgood, hbad⟩ := hp
  subst v
  have hM := hL.mw (Or.inl rfl) hM hf1
  have hO2 := (hf1 o2 (sm_ne hO2) hL.oA.2 (fun z => hL.2.2.2.1 z.symm)).trans hO2
  dsimp only [Option.toList, List.cons_append, List.nil_append]
  refine r_istore B dL_law_1734 (by decide) (lcat_v rfl rfl) ?_
  refine r_aload_n B dL_law_1736 rfl rfl ?_
  refine r_aload_n B dL_law_1737 rfl rfl ?_
  refine r_iload B dL_law_1738 rfl ?_
  refine r_iconst B dL_law_1740 ?_
  refine r_iadd B dL_law_1741 ?_
  refine r_sld B hX hbl hbA (by omega) dL_law_1742 (by omega) (by omega) ?_
  refine r_topz ex ?_
  refine r_aload_n B dL_law_1743 rfl rfl ?_
  refine r_iload B dL_law_1744 rfl ?_
  refine r_iconst B dL_law_1746 ?_
  refine r_iadd B dL_law_1747 ?_
  refine r_sld B hX hbl hbA (by omega) dL_law_1748 (by omega) (by omega) ?_
  refine r_topz ek ?_
  refine r_callV (n := 2) B dL_law_1749 (ct_X10_lengthOf l g sz0 ad hL.2.1 hM x k qx qk hG.1) gL_law_X10_lengthOf rfl (by decide +kernel) ⟨Nat.le_of_ble_eq_true rfl, Nat.le_of_ble_eq_true rfl⟩ hM.obj rfl rfl rfl (Nat.le_of_ble_eq_true rfl) (by show cells + 3 + 0 ≤ 601024; omega) (by show slots + 18 + 0 ≤ 7293034; omega) (fun v h2 hp => ?_)
  obtain ⟨r, hv2, hb2, hg2⟩ := hp
  subst v
  have hJ2 : LK g A Z ad o1 o2 (tAsk x k mnights (mkind (60 * x + k))) h2 ∧ (tAsk x k mnights (mkind (60 * x + k)) = 0 → F1 0 = (iI r).toInt64) ∧ h2 o1 = h1 o1 ∧ h2 o2 = h1 o2 := by
    by_cases ht : tAsk x k mnights (mkind (60 * x + k)) = 0
    · exact ⟨LK.mk hL ht (hg2 ht).2 (hgood ht).2 (hG) hO1 hO2, fun _ => (by first | (rw [(hgood ht).1, (hg2 ht).1]; done) | (rw [(hgood ht).1, (hg2 ht).1]; rfl)), hL.of (hg2 ht).2⟩
    · exact ⟨LK.mk hL rfl (hb2 ht).2 (hbad ht) hG hO1 hO2, fun y9 => absurd y9 ht, hL.of (hb2 ht).2⟩
  obtain ⟨hJ2, hr, hf2, hf3⟩ := hJ2
  have hJ3 := hJ2
  obtain ⟨mnights, mbits, mleast, mmost, mroom, mreserve, mmount, mspeed, mdata, msize, mends, mmany, mkind, mchain, mholds, mbid, mbound, mcheap, mpromised, mcoin, mpaid, mowed, mturn, misAsking, mwant, mcost, misServed, mitsRow, mitsChunk, hM, hT9, hG9, hF9, hF8⟩ := hJ2
  have hO3 := hf2.trans hO1
  have hO4 := hf3.trans hO2
  dsimp only [Option.toList, List.cons_append, List.nil_append]
  refine r_istore B dL_law_1752 (by decide) (lcat_v rfl rfl) ?_
  refine r_aload_n B dL_law_1754 rfl rfl ?_
  refine r_callV (n := 0) B dL_law_1755 (ct_X10_thrown l g sz0 ad hL.2.1 hM) gL_law_X10_thrown rfl (by decide +kernel) ⟨Nat.le_of_ble_eq_true rfl, Nat.le_of_ble_eq_true rfl⟩ hM.obj rfl rfl rfl (Nat.le_of_ble_eq_true rfl) (by show cells + 3 + 0 + 0 ≤ 601024; omega) (by show slots + 18 + 0 + 0 ≤ 7293034; omega) (fun v h' hp => ?_)
  obtain ⟨hv3, hh3⟩ := hp
  subst v
  subst h'
  dsimp only [Option.toList, List.cons_append, List.nil_append]
  refine r_iload B dL_law_1758 rfl ?_
  refine r_icmp_eqS B dL_law_1760 (tgt := 1765) (by decide) rfl ?_
  refine r_iload B dL_law_1765 rfl ?_
  refine r_if_ne B dL_law_1767 (tgt := 1782) (by decide) hM.i_thrown (fun c1767 => ?_) (fun c1767 => ?_)
  · refine r_goto B dL_law_1782 (tgt := 2502) (by decide) ?_
    refine r_widen (k := cells + 421) (n := slots + 10406) (by show cells + 3 + 0 + 0 ≤ _; omega) (by show slots + 18 + 0 + 0 ≤ _; omega) ?_
    exact r_lv (lvLe_s rfl (lvLe_s rfl (lvLe_s rfl (lvLe_s rfl (lvLe_s rfl (lvLe_s rfl (lvLe_n (lvLe_n (lvLe_n lvLe_nil))))))))) (kont _ _ hJ3)
  · refine r_aload_n B dL_law_1770 rfl rfl ?_
    refine r_iconst B dL_law_1771 ?_
    refine r_lald B dL_law_1772 hO3 (by decide) (by omega) (by omega) ?_
    refine r_iload B dL_law_1773 rfl ?_
    refine r_i2l B dL_law_1775 ?_
    refine r_lcmp B dL_law_1776 ?_
    refine r_if_eqS B dL_law_1777 (tgt := 1782) (by decide) (lgc_self (hr c1767)) ?_
    refine r_goto B dL_law_1782 (tgt := 2502) (by decide) ?_
    refine r_widen (k := cells + 421) (n := slots + 10406) (by show cells + 3 + 0 + 0 ≤ _; omega) (by show slots + 18 + 0 + 0 ≤ _; omega) ?_
    exact r_lv (lvLe_s rfl (lvLe_s rfl (lvLe_s rfl (lvLe_s rfl (lvLe_s rfl (lvLe_s rfl (lvLe_n (lvLe_n (lvLe_n lvLe_nil))))))))) (kont _ _ hJ3)
set_option maxHeartbeats 4000000 in
set_option maxRecDepth 100000 in
theorem law_c29 {p : Program} {l : Launch} {e : Env} {s : State} {m : MethodId} {args : Array Value} {below : List Frame} {meth : Method} {c : Code} {Q : State → Prop} {g : GG} {sz0 : Nat} {A ad : Nat → Nat} {Z : Nat → Prop} {o1 o2 bs L : Nat} {xs : Nat → Int32} {h : AH} {T0 i : Int} {cells slots : Nat} (hl0 : l.stackTraces = false) (B : FX p s m args c cL_law RL wsL_law 9 g sz0) (hL : LA A ad o1 o2 Z) (hX : va_X bs L xs s s.heap) (hbl : bs < s.heap.size) (hbA : ¬ A0 sz0 bs) (hLs : L < 2147483000) (hJ : LK g A Z ad o1 o2 T0 h) (i0 : 0 ≤ i) (i5 : i + 5 ≤ (L : Int)) (hc1 : cells + 421 ≤ 601024) (hc2 : slots + 10406 ≤ 7293034) (kont : ∀ (h' : AH) (T' : Int), LK g A Z ad o1 o2 T' h' → WA p l e room_1 s m args below meth c g sz0 9 Q h' (cells + 421) (slots + 10406) [some (.ref bs), some (.ref (A 0)), some (.ref (ad 0)), some (.ref o1), some (.ref o2), some (.int (iI i)), none, none, none] 2502 []) : WA p l e room_1 s m args below meth c g sz0 9 Q h cells slots [some (.ref bs), some (.ref (A 0)), some (.ref (ad 0)), some (.ref o1), some (.ref o2), some (.int (iI i)), none, none, none] 1987 [] := by
  obtain ⟨mnights, mbits, mleast, mmost, mroom, mreserve, mmount, mspeed, mdata, msize, mends, mmany, mkind, mchain, mholds, mbid, mbound, mcheap, mpromised, mcoin, mpaid, mowed, mturn, misAsking, mwant, mcost, misServed, mitsRow, mitsChunk, hM, hT, hG, ⟨F, hO⟩, F2, hO2⟩ := hJ
  obtain ⟨fs0, hro⟩ := hT.ro
  obtain ⟨x, ex, qx⟩ : ∃ z : Int, vaZ xs (i + 1) = z ∧ (-2147483648 ≤ z ∧ z < 2147483648) := ⟨_, rfl, vaZ_rng _ _⟩
  obtain ⟨y, ey, qy⟩ : ∃ z : Int, vaZ xs (i + 2) = z ∧ (-2147483648 ≤ z ∧ z < 2147483648) := ⟨_, rfl, vaZ_rng _ _⟩
  refine r_aload_n B dL_law_1987 rfl rfl ?_
  refine r_aload_n B dL_law_1988 rfl rfl ?_
  refine r_iload B dL_law_1989 rfl ?_
  refine r_iconst B dL_law_1991 ?_
  refine r_iadd B dL_law_1992 ?_
  refine r_sld B hX hbl hbA (by omega) dL_law_1993 (by omega) (by omega) ?_
  refine r_topz ex ?_
  refine r_aload_n B dL_law_1994 rfl rfl ?_
  refine r_iload B dL_law_1995 rfl ?_
  refine r_iconst B dL_law_1997 ?_
  refine r_iadd B dL_law_1998 ?_
  refine r_sld B hX hbl hbA (by omega) dL_law_1999 (by omega) (by omega) ?_
  refine r_topz ey ?_
  refine r_callSW (n := 3) B dL_law_2000 (ct_L_setSpeed l g sz0 hL.1 hT hG x y hl0 qx qy) gL_law_L_setSpeed rfl (by decide +kernel) ⟨Nat.le_of_ble_eq_true rfl, Nat.le_of_ble_eq_true rfl⟩ rfl rfl (Nat.le_of_ble_eq_true rfl) (by show cells + 2 ≤ 601024; omega) (by show slots + 12 ≤ 7293034; omega) (fun v h1 hp => ?_)
  obtain ⟨hv1, hf1, hgood, hbad⟩ := hp
  subst v
  have hM := hL.mw (o := o1) (Or.inl rfl) hM (fun q q0 q1 _ => hf1 q q0 q1)
  have hO1 := (hf1 o1 (sm_ne hO) hL.oA.1).trans hO
  have hO2 := (hf1 o2 (sm_ne hO2) hL.oA.2).trans hO2
  dsimp only [Option.toList, List.cons_append, List.nil_append]
  refine r_istore B dL_law_2003 (by decide) (lcat_v rfl rfl) ?_
  refine r_aload_n B dL_law_2005 rfl rfl ?_
  refine r_aload_n B dL_law_2006 rfl rfl ?_
  refine r_iload B dL_law_2007 rfl ?_
  refine r_iconst B dL_law_2009 ?_
  refine r_iadd B dL_law_2010 ?_
  refine r_sld B hX hbl hbA (by omega) dL_law_2011 (by omega) (by omega) ?_
  refine r_topz ex ?_
  refine r_aload_n B dL_law_2012 rfl rfl ?_
  refine r_iload B dL_law_2013 rfl ?_
  refine r_iconst B dL_law_2015 ?_
  refine r_iadd B dL_law_2016 ?_
  refine r_sld B hX hbl hbA (by omega) dL_law_2017 (by omega) (by omega) ?_
  refine r_topz ey ?_
  refine r_callV (n := 2) B dL_law_2018 (ct_X10_setSpeed l g sz0 ad hL.2.1 hM x y qx qy) gL_law_X10_setSpeed rfl (by decide +kernel) ⟨Nat.le_of_ble_eq_true rfl, Nat.le_of_ble_eq_true rfl⟩ hM.obj rfl rfl rfl (Nat.le_of_ble_eq_true rfl) (by show cells + 2 + 0 ≤ 601024; omega) (by show slots + 12 + 0 ≤ 7293034; omega) (fun v h2 hp => ?_)
  obtain ⟨hv2, hb2, hg2⟩ := hp
  subst v
  have hJ2 : LK g A Z ad o1 o2 (tB ((0 ≤ x ∧ x ≤ 30) ∧ (1 ≤ y ∧ y ≤ 50))) h2 ∧ (tB ((0 ≤ x ∧ x ≤ 30) ∧ (1 ≤ y ∧ y ≤ 50)) = 0 → True) ∧ h2 o1 = h1 o1 ∧ h2 o2 = h1 o2 := by
    by_cases ht : tB ((0 ≤ x ∧ x ≤ 30) ∧ (1 ≤ y ∧ y ≤ 50)) = 0
    · exact ⟨LK.mk hL ht (hg2 ht) (hgood ht) (⟨hG.1, hG.2.1, hG.2.2.1, (by have h9 := tB_0.mp ht; omega), hG.2.2.2.2⟩) hO1 hO2, fun _ => trivial, hL.of (hg2 ht)⟩
    · exact ⟨LK.mk hL rfl (hb2 ht) (hbad ht) hG hO1 hO2, fun y9 => absurd y9 ht, hL.of (hb2 ht)⟩
  obtain ⟨hJ2, hr, hf2, hf3⟩ := hJ2
  have hJ3 := hJ2
  obtain ⟨mnights, mbits, mleast, mmost, mroom, mreserve, mmount, mspeed, mdata, msize, mends, mmany, mkind, mchain, mholds, mbid, mbound, mcheap, mpromised, mcoin, mpaid, mowed, mturn, misAsking, mwant, mcost, misServed, mitsRow, mitsChunk, hM, hT9, hG9, hF9, hF8⟩ := hJ2
  dsimp only [Option.toList, List.cons_append, List.nil_append]
  refine r_aload_n B dL_law_2021 rfl rfl ?_
  refine r_callV (n := 0) B dL_law_2022 (ct_X10_thrown l g sz0 ad hL.2.1 hM) gL_law_X10_thrown rfl (by decide +kernel) ⟨Nat.le_of_ble_eq_true rfl, Nat.le_of_ble_eq_true rfl⟩ hM.obj rfl rfl rfl (Nat.le_of_ble_eq_true rfl) (by show cells + 2 + 0 + 0 ≤ 601024; omega) (by show slots + 12 + 0 + 0 ≤ 7293034; omega) (fun v h' hp => ?_)
  obtain ⟨hv3, hh3⟩ := hp
  subst v
  subst h'
  dsimp only [Option.toList, List.cons_append, List.nil_append]
  refine r_iload B dL_law_2025 rfl ?_
  refine r_icmp_eqS B dL_law_2027 (tgt := 2032) (by decide) rfl ?_
  refine r_goto B dL_law_2032 (tgt := 2502) (by decide) ?_
  refine r_widen (k := cells + 421) (n := slots + 10406) (by show cells + 2 + 0 + 0 ≤ _; omega) (by show slots + 12 + 0 + 0 ≤ _; omega) ?_
  exact r_lv (lvLe_s rfl (lvLe_s rfl (lvLe_s rfl (lvLe_s rfl (lvLe_s rfl (lvLe_s rfl (lvLe_n (lvLe_n (lvLe_n lvLe_nil))))))))) (kont _ _ hJ3)
set_option maxHeartbeats 4000000 in
set_option maxRecDepth 100000 in
theorem law_c35 {p : Program} {l : Launch} {e : Env} {s : State} {m : MethodId} {args : Array Value} {below : List Frame} {meth : Method} {c : Code} {Q : State → Prop} {g : GG} {sz0 : Nat} {A ad : Nat → Nat} {Z : Nat → Prop} {o1 o2 bs L : Nat} {xs : Nat → Int32} {h : AH} {T0 i : Int} {cells slots : Nat} (hl0 : l.stackTraces = false) (B : FX p s m args c cL_law RL wsL_law 9 g sz0) (hL : LA A ad o1 o2 Z) (hX : va_X bs L xs s s.heap) (hbl : bs < s.heap.size) (hbA : ¬ A0 sz0 bs) (hLs : L < 2147483000) (hJ : LK g A Z ad o1 o2 T0 h) (i0 : 0 ≤ i) (i5 : i + 5 ≤ (L : Int)) (hc1 : cells + 421 ≤ 601024) (hc2 : slots + 10406 ≤ 7293034) (kont : ∀ (h' : AH) (T' : Int), LK g A Z ad o1 o2 T' h' → WA p l e room_1 s m args below meth c g sz0 9 Q h' (cells + 421) (slots + 10406) [some (.ref bs), some (.ref (A 0)), some (.ref (ad 0)), some (.ref o1), some (.ref o2), some (.int (iI i)), none, none, none] 2502 []) : WA p l e room_1 s m args below meth c g sz0 9 Q h cells slots [some (.ref bs), some (.ref (A 0)), some (.ref (ad 0)), some (.ref o1), some (.ref o2), some (.int (iI i)), none, none, none] 2377 [] := by
  obtain ⟨mnights, mbits, mleast, mmost, mroom, mreserve, mmount, mspeed, mdata, msize, mends, mmany, mkind, mchain, mholds, mbid, mbound, mcheap, mpromised, mcoin, mpaid, mowed, mturn, misAsking, mwant, mcost, misServed, mitsRow, mitsChunk, hM, hT, hG, ⟨F, hO⟩, F2, hO2⟩ := hJ
  obtain ⟨fs0, hro⟩ := hT.ro
  obtain ⟨x, ex, qx⟩ : ∃ z : Int, vaZ xs (i + 1) = z ∧ (-2147483648 ≤ z ∧ z < 2147483648) := ⟨_, rfl, vaZ_rng _ _⟩
  refine r_aload_n B dL_law_2377 rfl rfl ?_
  refine r_aload_n B dL_law_2378 rfl rfl ?_
  refine r_iload B dL_law_2379 rfl ?_
  refine r_iconst B dL_law_2381 ?_
  refine r_iadd B dL_law_2382 ?_
  refine r_sld B hX hbl hbA (by omega) dL_law_2383 (by omega) (by omega) ?_
  refine r_topz ex ?_
  refine r_aload_n B dL_law_2384 rfl rfl ?_
  refine r_callSW (n := 3) B dL_law_2385 (ct_L_paid l g sz0 hL.1 hT hG x hl0 qx hO hL.oZ.1 hL.oA.1) gL_law_L_paid rfl (by decide +kernel) ⟨Nat.le_of_ble_eq_true rfl, Nat.le_of_ble_eq_true rfl⟩ rfl rfl (Nat.le_of_ble_eq_true rfl) (by show cells + 1 ≤ 601024; omega) (by show slots + 6 ≤ 7293034; omega) (fun v h1 hp => ?_)
  obtain ⟨hv1, hf1, F1, hO1, hgood, hbad⟩ := hp
  subst v
  have hM := hL.mw (Or.inl rfl) hM hf1
  have hO2 := (hf1 o2 (sm_ne hO2) hL.oA.2 (fun z => hL.2.2.2.1 z.symm)).trans hO2
  dsimp only [Option.toList, List.cons_append, List.nil_append]
  refine r_istore B dL_law_2388 (by decide) (lcat_v rfl rfl) ?_
  refine r_aload_n B dL_law_2390 rfl rfl ?_
  refine r_aload_n B dL_law_2391 rfl rfl ?_
  refine r_iload B dL_law_2392 rfl ?_
  refine r_iconst B dL_law_2394 ?_
  refine r_iadd B dL_law_2395 ?_
  refine r_sld B hX hbl hbA (by omega) dL_law_2396 (by omega) (by omega) ?_
  refine r_topz ex ?_
  refine r_callV (n := 1) B dL_law_2397 (ct_X10_paid l g sz0 ad hL.2.1 hM x qx) gL_law_X10_paid rfl (by decide +kernel) ⟨Nat.le_of_ble_eq_true rfl, Nat.le_of_ble_eq_true rfl⟩ hM.obj rfl rfl rfl (Nat.le_of_ble_eq_true rfl) (by show cells + 1 + 0 ≤ 601024; omega) (by show slots + 6 + 0 ≤ 7293034; omega) (fun v h2 hp => ?_)
  obtain ⟨r, hv2, hb2, hg2⟩ := hp
  subst v
  have hJ2 : LK g A Z ad o1 o2 (tCl x) h2 ∧ (tCl x = 0 → F1 0 = (iI r).toInt64) ∧ h2 o1 = h1 o1 ∧ h2 o2 = h1 o2 := by
    by_cases ht : tCl x = 0
    · exact ⟨LK.mk hL ht (hg2 ht).2 (hgood ht).2 (hG) hO1 hO2, fun _ => (by first | (rw [(hgood ht).1, (hg2 ht).1]; done) | (rw [(hgood ht).1, (hg2 ht).1]; rfl)), hL.of (hg2 ht).2⟩
    · exact ⟨LK.mk hL rfl (hb2 ht).2 (hbad ht) hG hO1 hO2, fun y9 => absurd y9 ht, hL.of (hb2 ht).2⟩
  obtain ⟨hJ2, hr, hf2, hf3⟩ := hJ2
  have hJ3 := hJ2
  obtain ⟨mnights, mbits, mleast, mmost, mroom, mreserve, mmount, mspeed, mdata, msize, mends, mmany, mkind, mchain, mholds, mbid, mbound, mcheap, mpromised, mcoin, mpaid, mowed, mturn, misAsking, mwant, mcost, misServed, mitsRow, mitsChunk, hM, hT9, hG9, hF9, hF8⟩ := hJ2
  have hO3 := hf2.trans hO1
  have hO4 := hf3.trans hO2
  dsimp only [Option.toList, List.cons_append, List.nil_append]
  refine r_istore B dL_law_2400 (by decide) (lcat_v rfl rfl) ?_
  refine r_aload_n B dL_law_2402 rfl rfl ?_
  refine r_callV (n := 0) B dL_law_2403 (ct_X10_thrown l g sz0 ad hL.2.1 hM) gL_law_X10_thrown rfl (by decide +kernel) ⟨Nat.le_of_ble_eq_true rfl, Nat.le_of_ble_eq_true rfl⟩ hM.obj rfl rfl rfl (Nat.le_of_ble_eq_true rfl) (by show cells + 1 + 0 + 0 ≤ 601024; omega) (by show slots + 6 + 0 + 0 ≤ 7293034; omega) (fun v h' hp => ?_)
  obtain ⟨hv3, hh3⟩ := hp
  subst v
  subst h'
  dsimp only [Option.toList, List.cons_append, List.nil_append]
  refine r_iload B dL_law_2406 rfl ?_
  refine r_icmp_eqS B dL_law_2408 (tgt := 2413) (by decide) rfl ?_
  refine r_iload B dL_law_2413 rfl ?_
  refine r_if_ne B dL_law_2415 (tgt := 2430) (by decide) hM.i_thrown (fun c2415 => ?_) (fun c2415 => ?_)
  · refine r_goto B dL_law_2430 (tgt := 2502) (by decide) ?_
    refine r_widen (k := cells + 421) (n := slots + 10406) (by show cells + 1 + 0 + 0 ≤ _; omega) (by show slots + 6 + 0 + 0 ≤ _; omega) ?_
    exact r_lv (lvLe_s rfl (lvLe_s rfl (lvLe_s rfl (lvLe_s rfl (lvLe_s rfl (lvLe_s rfl (lvLe_n (lvLe_n (lvLe_n lvLe_nil))))))))) (kont _ _ hJ3)
  · refine r_aload_n B dL_law_2418 rfl rfl ?_
    refine r_iconst B dL_law_2419 ?_
    refine r_lald B dL_law_2420 hO3 (by decide) (by omega) (by omega) ?_
    refine r_iload B dL_law_2421 rfl ?_
    refine r_i2l B dL_law_2423 ?_
    refine r_lcmp B dL_law_2424 ?_
    refine r_if_eqS B dL_law_2425 (tgt := 2430) (by decide) (lgc_self (hr c2415)) ?_
    refine r_goto B dL_law_2430 (tgt := 2502) (by decide) ?_
    refine r_widen (k := cells + 421) (n := slots + 10406) (by show cells + 1 + 0 + 0 ≤ _; omega) (by show slots + 6 + 0 + 0 ≤ _; omega) ?_
    exact r_lv (lvLe_s rfl (lvLe_s rfl (lvLe_s rfl (lvLe_s rfl (lvLe_s rfl (lvLe_s rfl (lvLe_n (lvLe_n (lvLe_n lvLe_nil))))))))) (kont _ _ hJ3)
