set_option maxHeartbeats 4000000 in
set_option maxRecDepth 100000 in
theorem law_c2 {p : Program} {l : Launch} {e : Env} {s : State} {m : MethodId} {args : Array Value} {below : List Frame} {meth : Method} {c : Code} {Q : State → Prop} {g : GG} {sz0 : Nat} {A ad : Nat → Nat} {Z : Nat → Prop} {o1 o2 bs L : Nat} {xs : Nat → Int32} {h : AH} {T0 i : Int} {cells slots : Nat} (hl0 : l.stackTraces = false) (B : FX p s m args c cL_law RL wsL_law 9 g sz0) (hL : LA A ad o1 o2 Z) (hX : va_X bs L xs s s.heap) (hbl : bs < s.heap.size) (hbA : ¬ A0 sz0 bs) (hLs : L < 2147483000) (hJ : LK g A Z ad o1 o2 T0 h) (i0 : 0 ≤ i) (i5 : i + 5 ≤ (L : Int)) (hc1 : cells + 421 ≤ 601024) (hc2 : slots + 10406 ≤ 7293034) (kont : ∀ (h' : AH) (T' : Int), LK g A Z ad o1 o2 T' h' → WA p l e room_1 s m args below meth c g sz0 9 Q h' (cells + 421) (slots + 10406) [some (.ref bs), some (.ref (A 0)), some (.ref (ad 0)), some (.ref o1), some (.ref o2), some (.int (iI i)), none, none, none] 2502 []) : WA p l e room_1 s m args below meth c g sz0 9 Q h cells slots [some (.ref bs), some (.ref (A 0)), some (.ref (ad 0)), some (.ref o1), some (.ref o2), some (.int (iI i)), none, none, none] 372 [] := by
  obtain ⟨mnights, mbits, mleast, mmost, mroom, mreserve, mmount, mspeed, mdata, msize, mends, mmany, mkind, mchain, mholds, mbid, mbound, mcheap, mpromised, mcoin, mpaid, mowed, mturn, misAsking, mwant, mcost, misServed, mitsRow, mitsChunk, hM, hT, hG, ⟨F, hO⟩, F2, hO2⟩ := hJ
  obtain ⟨fs0, hro⟩ := hT.ro
  obtain ⟨x, ex, qx⟩ : ∃ z : Int, vaZ xs (i + 1) = z ∧ (-2147483648 ≤ z ∧ z < 2147483648) := ⟨_, rfl, vaZ_rng _ _⟩
  obtain ⟨k, ek, qk⟩ : ∃ z : Int, vaZ xs (i + 2) = z ∧ (-2147483648 ≤ z ∧ z < 2147483648) := ⟨_, rfl, vaZ_rng _ _⟩
  obtain ⟨w, ew, qw⟩ : ∃ z : Int, vaZ xs (i + 3) = z ∧ (-2147483648 ≤ z ∧ z < 2147483648) := ⟨_, rfl, vaZ_rng _ _⟩
  refine r_aload_n B dL_law_372 rfl rfl ?_
  refine r_aload_n B dL_law_373 rfl rfl ?_
  refine r_iload B dL_law_374 rfl ?_
  refine r_iconst B dL_law_376 ?_
  refine r_iadd B dL_law_377 ?_
  refine r_sld B hX hbl hbA (by omega) dL_law_378 (by omega) (by omega) ?_
  refine r_topz ex ?_
  refine r_aload_n B dL_law_379 rfl rfl ?_
  refine r_iload B dL_law_380 rfl ?_
  refine r_iconst B dL_law_382 ?_
  refine r_iadd B dL_law_383 ?_
  refine r_sld B hX hbl hbA (by omega) dL_law_384 (by omega) (by omega) ?_
  refine r_topz ek ?_
  refine r_aload_n B dL_law_385 rfl rfl ?_
  refine r_iload B dL_law_386 rfl ?_
  refine r_iconst B dL_law_388 ?_
  refine r_iadd B dL_law_389 ?_
  refine r_sld B hX hbl hbA (by omega) dL_law_390 (by omega) (by omega) ?_
  refine r_topz ew ?_
  refine r_aload_n B dL_law_391 rfl rfl ?_
  refine r_callSW (n := 5) B dL_law_392 (ct_L_cut l g sz0 hL.1 hT hG x k w hl0 qx qk qw hO hL.oZ.1 hL.oA.1) gL_law_L_cut rfl (by decide +kernel) ⟨Nat.le_of_ble_eq_true rfl, Nat.le_of_ble_eq_true rfl⟩ rfl rfl (Nat.le_of_ble_eq_true rfl) (by show cells + 2 ≤ 601024; omega) (by show slots + 12 ≤ 7293034; omega) (fun v h1 hp => ?_)
  obtain ⟨hv1, hf1, F1, hO1, hgood, hbad⟩ := hp
  subst v
  have hM := hL.mw (Or.inl rfl) hM hf1
  have hO2 := (hf1 o2 (sm_ne hO2) hL.oA.2 (fun z => hL.2.2.2.1 z.symm)).trans hO2
  dsimp only [Option.toList, List.cons_append, List.nil_append]
  refine r_istore B dL_law_395 (by decide) (lcat_v rfl rfl) ?_
  refine r_aload_n B dL_law_397 rfl rfl ?_
  refine r_aload_n B dL_law_398 rfl rfl ?_
  refine r_iload B dL_law_399 rfl ?_
  refine r_iconst B dL_law_401 ?_
  refine r_iadd B dL_law_402 ?_
  refine r_sld B hX hbl hbA (by omega) dL_law_403 (by omega) (by omega) ?_
  refine r_topz ex ?_
  refine r_aload_n B dL_law_404 rfl rfl ?_
  refine r_iload B dL_law_405 rfl ?_
  refine r_iconst B dL_law_407 ?_
  refine r_iadd B dL_law_408 ?_
  refine r_sld B hX hbl hbA (by omega) dL_law_409 (by omega) (by omega) ?_
  refine r_topz ek ?_
  refine r_aload_n B dL_law_410 rfl rfl ?_
  refine r_iload B dL_law_411 rfl ?_
  refine r_iconst B dL_law_413 ?_
  refine r_iadd B dL_law_414 ?_
  refine r_sld B hX hbl hbA (by omega) dL_law_415 (by omega) (by omega) ?_
  refine r_topz ew ?_
  refine r_callV (n := 3) B dL_law_416 (ct_X10_cut l g sz0 ad hL.2.1 hM x k w qx qk qw (fun z hz => hG.2.2.2.2.2 (240 + z) (by omega) (by omega))) gL_law_X10_cut rfl (by decide +kernel) ⟨Nat.le_of_ble_eq_true rfl, Nat.le_of_ble_eq_true rfl⟩ hM.obj rfl rfl rfl (Nat.le_of_ble_eq_true rfl) (by show cells + 2 + 0 ≤ 601024; omega) (by show slots + 12 + 0 ≤ 7293034; omega) (fun v h2 hp => ?_)
  obtain ⟨r, hv2, hb2, hg2⟩ := hp
  subst v
  have hJ2 : LK g A Z ad o1 o2 (tCut x k w (msize (240 + x))) h2 ∧ (tCut x k w (msize (240 + x)) = 0 → F1 0 = (iI r).toInt64) ∧ h2 o1 = h1 o1 ∧ h2 o2 = h1 o2 := by
    by_cases ht : tCut x k w (msize (240 + x)) = 0
    · exact ⟨LK.mk hL ht (hg2 ht).2 (hgood ht).2 (hG.size (by have h9 := hG.2.2.2.2.2 (240 + x); unfold tCut at ht; (repeat' (split at ht)) <;> omega)) hO1 hO2, fun _ => (by first | (rw [(hgood ht).1, (hg2 ht).1]; done) | (rw [(hgood ht).1, (hg2 ht).1]; rfl)), hL.of (hg2 ht).2⟩
    · exact ⟨LK.mk hL rfl (hb2 ht).2 (hbad ht) hG hO1 hO2, fun y9 => absurd y9 ht, hL.of (hb2 ht).2⟩
  obtain ⟨hJ2, hr, hf2, hf3⟩ := hJ2
  have hJ3 := hJ2
  obtain ⟨mnights, mbits, mleast, mmost, mroom, mreserve, mmount, mspeed, mdata, msize, mends, mmany, mkind, mchain, mholds, mbid, mbound, mcheap, mpromised, mcoin, mpaid, mowed, mturn, misAsking, mwant, mcost, misServed, mitsRow, mitsChunk, hM, hT9, hG9, hF9, hF8⟩ := hJ2
  have hO3 := hf2.trans hO1
  have hO4 := hf3.trans hO2
  dsimp only [Option.toList, List.cons_append, List.nil_append]
  refine r_istore B dL_law_419 (by decide) (lcat_v rfl rfl) ?_
  refine r_aload_n B dL_law_421 rfl rfl ?_
  refine r_callV (n := 0) B dL_law_422 (ct_X10_thrown l g sz0 ad hL.2.1 hM) gL_law_X10_thrown rfl (by decide +kernel) ⟨Nat.le_of_ble_eq_true rfl, Nat.le_of_ble_eq_true rfl⟩ hM.obj rfl rfl rfl (Nat.le_of_ble_eq_true rfl) (by show cells + 2 + 0 + 0 ≤ 601024; omega) (by show slots + 12 + 0 + 0 ≤ 7293034; omega) (fun v h' hp => ?_)
  obtain ⟨hv3, hh3⟩ := hp
  subst v
  subst h'
  dsimp only [Option.toList, List.cons_append, List.nil_append]
  refine r_iload B dL_law_425 rfl ?_
  refine r_icmp_eqS B dL_law_427 (tgt := 432) (by decide) rfl ?_
  refine r_iload B dL_law_432 rfl ?_
  refine r_if_ne B dL_law_434 (tgt := 449) (by decide) hM.i_thrown (fun c434 => ?_) (fun c434 => ?_)
  · refine r_goto B dL_law_449 (tgt := 2502) (by decide) ?_
    refine r_widen (k := cells + 421) (n := slots + 10406) (by show cells + 2 + 0 + 0 ≤ _; omega) (by show slots + 12 + 0 + 0 ≤ _; omega) ?_
    exact r_lv (lvLe_s rfl (lvLe_s rfl (lvLe_s rfl (lvLe_s rfl (lvLe_s rfl (lvLe_s rfl (lvLe_n (lvLe_n (lvLe_n lvLe_nil))))))))) (kont _ _ hJ3)
  · refine r_aload_n B dL_law_437 rfl rfl ?_
    refine r_iconst B dL_law_438 ?_
    refine r_lald B dL_law_439 hO3 (by decide) (by omega) (by omega) ?_
    refine r_iload B dL_law_440 rfl ?_
    refine r_i2l B dL_law_442 ?_
    refine r_lcmp B dL_law_443 ?_
    refine r_if_eqS B dL_law_444 (tgt := 449) (by decide) (lgc_self (hr c434)) ?_
    refine r_goto B dL_law_449 (tgt := 2502) (by decide) ?_
    refine r_widen (k := cells + 421) (n := slots + 10406) (by show cells + 2 + 0 + 0 ≤ _; omega) (by show slots + 12 + 0 + 0 ≤ _; omega) ?_
    exact r_lv (lvLe_s rfl (lvLe_s rfl (lvLe_s rfl (lvLe_s rfl (lvLe_s rfl (lvLe_s rfl (lvLe_n (lvLe_n (lvLe_n lvLe_nil))))))))) (kont _ _ hJ3)
set_option maxHeartbeats 4000000 in
set_option maxRecDepth 100000 in
theorem law_c6 {p : Program} {l : Launch} {e : Env} {s : State} {m : MethodId} {args : Array Value} {below : List Frame} {meth : Method} {c : Code} {Q : State → Prop} {g : GG} {sz0 : Nat} {A ad : Nat → Nat} {Z : Nat → Prop} {o1 o2 bs L : Nat} {xs : Nat → Int32} {h : AH} {T0 i : Int} {cells slots : Nat} (hl0 : l.stackTraces = false) (B : FX p s m args c cL_law RL wsL_law 9 g sz0) (hL : LA A ad o1 o2 Z) (hX : va_X bs L xs s s.heap) (hbl : bs < s.heap.size) (hbA : ¬ A0 sz0 bs) (hLs : L < 2147483000) (hJ : LK g A Z ad o1 o2 T0 h) (i0 : 0 ≤ i) (i5 : i + 5 ≤ (L : Int)) (hc1 : cells + 421 ≤ 601024) (hc2 : slots + 10406 ≤ 7293034) (kont : ∀ (h' : AH) (T' : Int), LK g A Z ad o1 o2 T' h' → WA p l e room_1 s m args below meth c g sz0 9 Q h' (cells + 421) (slots + 10406) [some (.ref bs), some (.ref (A 0)), some (.ref (ad 0)), some (.ref o1), some (.ref o2), some (.int (iI i)), none, none, none] 2502 []) : WA p l e room_1 s m args below meth c g sz0 9 Q h cells slots [some (.ref bs), some (.ref (A 0)), some (.ref (ad 0)), some (.ref o1), some (.ref o2), some (.int (iI i)), none, none, none] 668 [] := by
  obtain ⟨mnights, mbits, mleast, mmost, mroom, mreserve, mmount, mspeed, mdata, msize, mends, mmany, mkind, mchain, mholds, mbid, mbound, mcheap, mpromised, mcoin, mpaid, mowed, mturn, misAsking, mwant, mcost, misServed, mitsRow, mitsChunk, hM, hT, hG, ⟨F, hO⟩, F2, hO2⟩ := hJ
  obtain ⟨fs0, hro⟩ := hT.ro
  obtain ⟨x, ex, qx⟩ : ∃ z : Int, vaZ xs (i + 1) = z ∧ (-2147483648 ≤ z ∧ z < 2147483648) := ⟨_, rfl, vaZ_rng _ _⟩
  refine r_aload_n B dL_law_668 rfl rfl ?_
  refine r_aload_n B dL_law_669 rfl rfl ?_
  refine r_iload B dL_law_670 rfl ?_
  refine r_iconst B dL_law_672 ?_
  refine r_iadd B dL_law_673 ?_
  refine r_sld B hX hbl hbA (by omega) dL_law_674 (by omega) (by omega) ?_
  refine r_topz ex ?_
  refine r_aload_n B dL_law_675 rfl rfl ?_
  refine r_callSW (n := 3) B dL_law_676 (ct_L_digest l g sz0 hL.1 hT hG x hl0 qx hO hL.oZ.1 hL.oA.1) gL_law_L_digest rfl (by decide +kernel) ⟨Nat.le_of_ble_eq_true rfl, Nat.le_of_ble_eq_true rfl⟩ rfl rfl (Nat.le_of_ble_eq_true rfl) (by show cells + 1 ≤ 601024; omega) (by show slots + 6 ≤ 7293034; omega) (fun v h1 hp => ?_)
  obtain ⟨hv1, hf1, F1, hO1, hgood, hbad⟩ := hp
  subst v
  have hM := hL.mw (Or.inl rfl) hM hf1
  have hO2 := (hf1 o2 (sm_ne hO2) hL.oA.2 (fun z => hL.2.2.2.1 z.symm)).trans hO2
  dsimp only [Option.toList, List.cons_append, List.nil_append]
  refine r_istore B dL_law_679 (by decide) (lcat_v rfl rfl) ?_
  refine r_aload_n B dL_law_681 rfl rfl ?_
  refine r_aload_n B dL_law_682 rfl rfl ?_
  refine r_iload B dL_law_683 rfl ?_
  refine r_iconst B dL_law_685 ?_
  refine r_iadd B dL_law_686 ?_
  refine r_sld B hX hbl hbA (by omega) dL_law_687 (by omega) (by omega) ?_
  refine r_topz ex ?_
  refine r_callV (n := 1) B dL_law_688 (ct_X10_digest l g sz0 ad hL.2.1 hM x qx (fun z hz => hG.2.2.2.2.2 (240 + z) (by omega) (by omega))) gL_law_X10_digest rfl (by decide +kernel) ⟨Nat.le_of_ble_eq_true rfl, Nat.le_of_ble_eq_true rfl⟩ hM.obj rfl rfl rfl (Nat.le_of_ble_eq_true rfl) (by show cells + 1 + 0 ≤ 601024; omega) (by show slots + 6 + 0 ≤ 7293034; omega) (fun v h2 hp => ?_)
  obtain ⟨r, hv2, hb2, hg2⟩ := hp
  subst v
  have hJ2 : LK g A Z ad o1 o2 (tCl x) h2 ∧ (tCl x = 0 → F1 0 = r) ∧ h2 o1 = h1 o1 ∧ h2 o2 = h1 o2 := by
    by_cases ht : tCl x = 0
    · exact ⟨LK.mk hL ht (hg2 ht).2 (hgood ht).2 (hG) hO1 hO2, fun _ => (by rw [(hgood ht).1, (hg2 ht).1]), hL.of (hg2 ht).2⟩
    · exact ⟨LK.mk hL rfl (hb2 ht).2 (hbad ht) hG hO1 hO2, fun y9 => absurd y9 ht, hL.of (hb2 ht).2⟩
  obtain ⟨hJ2, hr, hf2, hf3⟩ := hJ2
  have hJ3 := hJ2
  obtain ⟨mnights, mbits, mleast, mmost, mroom, mreserve, mmount, mspeed, mdata, msize, mends, mmany, mkind, mchain, mholds, mbid, mbound, mcheap, mpromised, mcoin, mpaid, mowed, mturn, misAsking, mwant, mcost, misServed, mitsRow, mitsChunk, hM, hT9, hG9, hF9, hF8⟩ := hJ2
  have hO3 := hf2.trans hO1
  have hO4 := hf3.trans hO2
  dsimp only [Option.toList, List.cons_append, List.nil_append]
  refine r_lstore B dL_law_691 (by decide) (lcat_v rfl rfl) ?_
  refine r_aload_n B dL_law_693 rfl rfl ?_
  refine r_callV (n := 0) B dL_law_694 (ct_X10_thrown l g sz0 ad hL.2.1 hM) gL_law_X10_thrown rfl (by decide +kernel) ⟨Nat.le_of_ble_eq_true rfl, Nat.le_of_ble_eq_true rfl⟩ hM.obj rfl rfl rfl (Nat.le_of_ble_eq_true rfl) (by show cells + 1 + 0 + 0 ≤ 601024; omega) (by show slots + 6 + 0 + 0 ≤ 7293034; omega) (fun v h' hp => ?_)
  obtain ⟨hv3, hh3⟩ := hp
  subst v
  subst h'
  dsimp only [Option.toList, List.cons_append, List.nil_append]
  refine r_iload B dL_law_697 rfl ?_
  refine r_icmp_eqS B dL_law_699 (tgt := 704) (by decide) rfl ?_
  refine r_iload B dL_law_704 rfl ?_
  refine r_if_ne B dL_law_706 (tgt := 720) (by decide) hM.i_thrown (fun c706 => ?_) (fun c706 => ?_)
  · refine r_goto B dL_law_720 (tgt := 2502) (by decide) ?_
    refine r_widen (k := cells + 421) (n := slots + 10406) (by show cells + 1 + 0 + 0 ≤ _; omega) (by show slots + 6 + 0 + 0 ≤ _; omega) ?_
    exact r_lv (lvLe_s rfl (lvLe_s rfl (lvLe_s rfl (lvLe_s rfl (lvLe_s rfl (lvLe_s rfl (lvLe_n (lvLe_n (lvLe_n lvLe_nil))))))))) (kont _ _ hJ3)
  · refine r_aload_n B dL_law_709 rfl rfl ?_
    refine r_iconst B dL_law_710 ?_
    refine r_lald B dL_law_711 hO3 (by decide) (by omega) (by omega) ?_
    refine r_lload B dL_law_712 rfl ?_
    refine r_lcmp B dL_law_714 ?_
    refine r_if_eqS B dL_law_715 (tgt := 720) (by decide) (lgc_self (hr c706)) ?_
    refine r_goto B dL_law_720 (tgt := 2502) (by decide) ?_
    refine r_widen (k := cells + 421) (n := slots + 10406) (by show cells + 1 + 0 + 0 ≤ _; omega) (by show slots + 6 + 0 + 0 ≤ _; omega) ?_
    exact r_lv (lvLe_s rfl (lvLe_s rfl (lvLe_s rfl (lvLe_s rfl (lvLe_s rfl (lvLe_s rfl (lvLe_n (lvLe_n (lvLe_n lvLe_nil))))))))) (kont _ _ hJ3)
set_option maxHeartbeats 4000000 in
set_option maxRecDepth 100000 in
theorem law_c10 {p : Program} {l : Launch} {e : Env} {s : State} {m : MethodId} {args : Array Value} {below : List Frame} {meth : Method} {c : Code} {Q : State → Prop} {g : GG} {sz0 : Nat} {A ad : Nat → Nat} {Z : Nat → Prop} {o1 o2 bs L : Nat} {xs : Nat → Int32} {h : AH} {T0 i : Int} {cells slots : Nat} (hl0 : l.stackTraces = false) (B : FX p s m args c cL_law RL wsL_law 9 g sz0) (hL : LA A ad o1 o2 Z) (hX : va_X bs L xs s s.heap) (hbl : bs < s.heap.size) (hbA : ¬ A0 sz0 bs) (hLs : L < 2147483000) (hJ : LK g A Z ad o1 o2 T0 h) (i0 : 0 ≤ i) (i5 : i + 5 ≤ (L : Int)) (hc1 : cells + 421 ≤ 601024) (hc2 : slots + 10406 ≤ 7293034) (kont : ∀ (h' : AH) (T' : Int), LK g A Z ad o1 o2 T' h' → WA p l e room_1 s m args below meth c g sz0 9 Q h' (cells + 421) (slots + 10406) [some (.ref bs), some (.ref (A 0)), some (.ref (ad 0)), some (.ref o1), some (.ref o2), some (.int (iI i)), none, none, none] 2502 []) : WA p l e room_1 s m args below meth c g sz0 9 Q h cells slots [some (.ref bs), some (.ref (A 0)), some (.ref (ad 0)), some (.ref o1), some (.ref o2), some (.int (iI i)), none, none, none] 907 [] := by
  obtain ⟨mnights, mbits, mleast, mmost, mroom, mreserve, mmount, mspeed, mdata, msize, mends, mmany, mkind, mchain, mholds, mbid, mbound, mcheap, mpromised, mcoin, mpaid, mowed, mturn, misAsking, mwant, mcost, misServed, mitsRow, mitsChunk, hM, hT, hG, ⟨F, hO⟩, F2, hO2⟩ := hJ
  obtain ⟨fs0, hro⟩ := hT.ro
  obtain ⟨x, ex, qx⟩ : ∃ z : Int, vaZ xs (i + 1) = z ∧ (-2147483648 ≤ z ∧ z < 2147483648) := ⟨_, rfl, vaZ_rng _ _⟩
  obtain ⟨y, ey, qy⟩ : ∃ z : Int, vaZ xs (i + 2) = z ∧ (-2147483648 ≤ z ∧ z < 2147483648) := ⟨_, rfl, vaZ_rng _ _⟩
  refine r_aload_n B dL_law_907 rfl rfl ?_
  refine r_aload_n B dL_law_908 rfl rfl ?_
  refine r_iload B dL_law_909 rfl ?_
  refine r_iconst B dL_law_911 ?_
  refine r_iadd B dL_law_912 ?_
  refine r_sld B hX hbl hbA (by omega) dL_law_913 (by omega) (by omega) ?_
  refine r_topz ex ?_
  refine r_aload_n B dL_law_914 rfl rfl ?_
  refine r_iload B dL_law_915 rfl ?_
  refine r_iconst B dL_law_917 ?_
  refine r_iadd B dL_law_918 ?_
  refine r_sld B hX hbl hbA (by omega) dL_law_919 (by omega) (by omega) ?_
  refine r_topz ey ?_
  refine r_aload_n B dL_law_920 rfl rfl ?_
  refine r_callSW (n := 4) B dL_law_921 (ct_L_end l g sz0 hL.1 hT hG x y hl0 qx qy hO hL.oZ.1 hL.oA.1) gL_law_L_end rfl (by decide +kernel) ⟨Nat.le_of_ble_eq_true rfl, Nat.le_of_ble_eq_true rfl⟩ rfl rfl (Nat.le_of_ble_eq_true rfl) (by show cells + 2 ≤ 601024; omega) (by show slots + 12 ≤ 7293034; omega) (fun v h1 hp => ?_)
  obtain ⟨hv1, hf1, F1, hO1, hgood, hbad⟩ := hp
  subst v
  have hM := hL.mw (Or.inl rfl) hM hf1
  have hO2 := (hf1 o2 (sm_ne hO2) hL.oA.2 (fun z => hL.2.2.2.1 z.symm)).trans hO2
  dsimp only [Option.toList, List.cons_append, List.nil_append]
  refine r_istore B dL_law_924 (by decide) (lcat_v rfl rfl) ?_
  refine r_aload_n B dL_law_926 rfl rfl ?_
  refine r_aload_n B dL_law_927 rfl rfl ?_
  refine r_iload B dL_law_928 rfl ?_
  refine r_iconst B dL_law_930 ?_
  refine r_iadd B dL_law_931 ?_
  refine r_sld B hX hbl hbA (by omega) dL_law_932 (by omega) (by omega) ?_
  refine r_topz ex ?_
  refine r_aload_n B dL_law_933 rfl rfl ?_
  refine r_iload B dL_law_934 rfl ?_
  refine r_iconst B dL_law_936 ?_
  refine r_iadd B dL_law_937 ?_
  refine r_sld B hX hbl hbA (by omega) dL_law_938 (by omega) (by omega) ?_
  refine r_topz ey ?_
  refine r_callV (n := 2) B dL_law_939 (ct_X10_end l g sz0 ad hL.2.1 hM x y qx qy (fun z hz => hG.2.2.2.2.2 (240 + z) (by omega) (by omega))) gL_law_X10_end rfl (by decide +kernel) ⟨Nat.le_of_ble_eq_true rfl, Nat.le_of_ble_eq_true rfl⟩ hM.obj rfl rfl rfl (Nat.le_of_ble_eq_true rfl) (by show cells + 2 + 0 ≤ 601024; omega) (by show slots + 12 + 0 ≤ 7293034; omega) (fun v h2 hp => ?_)
  obtain ⟨r, e1, m1, hE, hv2, hb2, hg2, hM2⟩ := hp
  subst v
  have hJ2 : LK g A Z ad o1 o2 (tNi x y (cutR (rowF mdata (240 + x)) (msize (240 + x)) mbits mleast mmost).2.1) h2 ∧ (tNi x y (cutR (rowF mdata (240 + x)) (msize (240 + x)) mbits mleast mmost).2.1 = 0 → F1 0 = (iI r).toInt64) ∧ h2 o1 = h1 o1 ∧ h2 o2 = h1 o2 := by
    by_cases ht : tNi x y (cutR (rowF mdata (240 + x)) (msize (240 + x)) mbits mleast mmost).2.1 = 0
    · exact ⟨LK.mk hL rfl hM2 (ST.lke hG.1 (hgood ht).2 hE) hG hO1 hO2, fun _ => (by rw [(hgood ht).1, hg2 ht]), hL.of hM2⟩
    · exact ⟨LK.mk hL rfl hM2 (ST.lke hG.1 (hbad ht) hE) hG hO1 hO2, fun y9 => absurd y9 ht, hL.of hM2⟩
  obtain ⟨hJ2, hr, hf2, hf3⟩ := hJ2
  have hJ3 := hJ2
  obtain ⟨mnights, mbits, mleast, mmost, mroom, mreserve, mmount, mspeed, mdata, msize, mends, mmany, mkind, mchain, mholds, mbid, mbound, mcheap, mpromised, mcoin, mpaid, mowed, mturn, misAsking, mwant, mcost, misServed, mitsRow, mitsChunk, hM, hT9, hG9, hF9, hF8⟩ := hJ2
  have hO3 := hf2.trans hO1
  have hO4 := hf3.trans hO2
  dsimp only [Option.toList, List.cons_append, List.nil_append]
  refine r_istore B dL_law_942 (by decide) (lcat_v rfl rfl) ?_
  refine r_aload_n B dL_law_944 rfl rfl ?_
  refine r_callV (n := 0) B dL_law_945 (ct_X10_thrown l g sz0 ad hL.2.1 hM) gL_law_X10_thrown rfl (by decide +kernel) ⟨Nat.le_of_ble_eq_true rfl, Nat.le_of_ble_eq_true rfl⟩ hM.obj rfl rfl rfl (Nat.le_of_ble_eq_true rfl) (by show cells + 2 + 0 + 0 ≤ 601024; omega) (by show slots + 12 + 0 + 0 ≤ 7293034; omega) (fun v h' hp => ?_)
  obtain ⟨hv3, hh3⟩ := hp
  subst v
  subst h'
  dsimp only [Option.toList, List.cons_append, List.nil_append]
  refine r_iload B dL_law_948 rfl ?_
  refine r_icmp_eqS B dL_law_950 (tgt := 955) (by decide) rfl ?_
  refine r_iload B dL_law_955 rfl ?_
  refine r_if_ne B dL_law_957 (tgt := 972) (by decide) hM.i_thrown (fun c957 => ?_) (fun c957 => ?_)
  · refine r_goto B dL_law_972 (tgt := 2502) (by decide) ?_
    refine r_widen (k := cells + 421) (n := slots + 10406) (by show cells + 2 + 0 + 0 ≤ _; omega) (by show slots + 12 + 0 + 0 ≤ _; omega) ?_
    exact r_lv (lvLe_s rfl (lvLe_s rfl (lvLe_s rfl (lvLe_s rfl (lvLe_s rfl (lvLe_s rfl (lvLe_n (lvLe_n (lvLe_n lvLe_nil))))))))) (kont _ _ hJ3)
  · refine r_aload_n B dL_law_960 rfl rfl ?_
    refine r_iconst B dL_law_961 ?_
    refine r_lald B dL_law_962 hO3 (by decide) (by omega) (by omega) ?_
    refine r_iload B dL_law_963 rfl ?_
    refine r_i2l B dL_law_965 ?_
    refine r_lcmp B dL_law_966 ?_
    refine r_if_eqS B dL_law_967 (tgt := 972) (by decide) (lgc_self (hr c957)) ?_
    refine r_goto B dL_law_972 (tgt := 2502) (by decide) ?_
    refine r_widen (k := cells + 421) (n := slots + 10406) (by show cells + 2 + 0 + 0 ≤ _; omega) (by show slots + 12 + 0 + 0 ≤ _; omega) ?_
    exact r_lv (lvLe_s rfl (lvLe_s rfl (lvLe_s rfl (lvLe_s rfl (lvLe_s rfl (lvLe_s rfl (lvLe_n (lvLe_n (lvLe_n lvLe_nil))))))))) (kont _ _ hJ3)
set_option maxHeartbeats 4000000 in
set_option maxRecDepth 100000 in
theorem law_c14 {p : Program} {l : Launch} {e : Env} {s : State} {m : MethodId} {args : Array Value} {below : List Frame} {meth : Method} {c : Code} {Q : State → Prop} {g : GG} {sz0 : Nat} {A ad : Nat → Nat} {Z : Nat → Prop} {o1 o2 bs L : Nat} {xs : Nat → Int32} {h : AH} {T0 i : Int} {cells slots : Nat} (hl0 : l.stackTraces = false) (B : FX p s m args c cL_law RL wsL_law 9 g sz0) (hL : LA A ad o1 o2 Z) (hX : va_X bs L xs s s.heap) (hbl : bs < s.heap.size) (hbA : ¬ A0 sz0 bs) (hLs : L < 2147483000) (hJ : LK g A Z ad o1 o2 T0 h) (i0 : 0 ≤ i) (i5 : i + 5 ≤ (L : Int)) (hc1 : cells + 421 ≤ 601024) (hc2 : slots + 10406 ≤ 7293034) (kont : ∀ (h' : AH) (T' : Int), LK g A Z ad o1 o2 T' h' → WA p l e room_1 s m args below meth c g sz0 9 Q h' (cells + 421) (slots + 10406) [some (.ref bs), some (.ref (A 0)), some (.ref (ad 0)), some (.ref o1), some (.ref o2), some (.int (iI i)), none, none, none] 2502 []) : WA p l e room_1 s m args below meth c g sz0 9 Q h cells slots [some (.ref bs), some (.ref (A 0)), some (.ref (ad 0)), some (.ref o1), some (.ref o2), some (.int (iI i)), none, none, none] 1104 [] := by
  obtain ⟨mnights, mbits, mleast, mmost, mroom, mreserve, mmount, mspeed, mdata, msize, mends, mmany, mkind, mchain, mholds, mbid, mbound, mcheap, mpromised, mcoin, mpaid, mowed, mturn, misAsking, mwant, mcost, misServed, mitsRow, mitsChunk, hM, hT, hG, ⟨F, hO⟩, F2, hO2⟩ := hJ
  obtain ⟨fs0, hro⟩ := hT.ro
  obtain ⟨x, ex, qx⟩ : ∃ z : Int, vaZ xs (i + 1) = z ∧ (-2147483648 ≤ z ∧ z < 2147483648) := ⟨_, rfl, vaZ_rng _ _⟩
  obtain ⟨y, ey, qy⟩ : ∃ z : Int, vaZ xs (i + 2) = z ∧ (-2147483648 ≤ z ∧ z < 2147483648) := ⟨_, rfl, vaZ_rng _ _⟩
  obtain ⟨z, ez, qz⟩ : ∃ z : Int, vaZ xs (i + 3) = z ∧ (-2147483648 ≤ z ∧ z < 2147483648) := ⟨_, rfl, vaZ_rng _ _⟩
  refine r_aload_n B dL_law_1104 rfl rfl ?_
  refine r_aload_n B dL_law_1105 rfl rfl ?_
  refine r_iload B dL_law_1106 rfl ?_
  refine r_iconst B dL_law_1108 ?_
  refine r_iadd B dL_law_1109 ?_
  refine r_sld B hX hbl hbA (by omega) dL_law_1110 (by omega) (by omega) ?_
  refine r_topz ex ?_
  refine r_aload_n B dL_law_1111 rfl rfl ?_
  refine r_iload B dL_law_1112 rfl ?_
  refine r_iconst B dL_law_1114 ?_
  refine r_iadd B dL_law_1115 ?_
  refine r_sld B hX hbl hbA (by omega) dL_law_1116 (by omega) (by omega) ?_
  refine r_topz ey ?_
  refine r_aload_n B dL_law_1117 rfl rfl ?_
  refine r_iload B dL_law_1118 rfl ?_
  refine r_iconst B dL_law_1120 ?_
  refine r_iadd B dL_law_1121 ?_
  refine r_sld B hX hbl hbA (by omega) dL_law_1122 (by omega) (by omega) ?_
  refine r_topz ez ?_
  refine r_callSW (n := 4) B dL_law_1123 (ct_L_setChain l g sz0 hL.1 hT hG x y z hl0 qx qy qz) gL_law_L_setChain rfl (by decide +kernel) ⟨Nat.le_of_ble_eq_true rfl, Nat.le_of_ble_eq_true rfl⟩ rfl rfl (Nat.le_of_ble_eq_true rfl) (by show cells + 3 ≤ 601024; omega) (by show slots + 18 ≤ 7293034; omega) (fun v h1 hp => ?_)
  obtain ⟨hv1, hf1, hgood, hbad⟩ := hp
  subst v
  have hM := hL.mw (o := o1) (Or.inl rfl) hM (fun q q0 q1 _ => hf1 q q0 q1)
  have hO1 := (hf1 o1 (sm_ne hO) hL.oA.1).trans hO
  have hO2 := (hf1 o2 (sm_ne hO2) hL.oA.2).trans hO2
  dsimp only [Option.toList, List.cons_append, List.nil_append]
  refine r_istore B dL_law_1126 (by decide) (lcat_v rfl rfl) ?_
  refine r_aload_n B dL_law_1128 rfl rfl ?_
  refine r_aload_n B dL_law_1129 rfl rfl ?_
  refine r_iload B dL_law_1130 rfl ?_
  refine r_iconst B dL_law_1132 ?_
  refine r_iadd B dL_law_1133 ?_
  refine r_sld B hX hbl hbA (by omega) dL_law_1134 (by omega) (by omega) ?_
  refine r_topz ex ?_
  refine r_aload_n B dL_law_1135 rfl rfl ?_
  refine r_iload B dL_law_1136 rfl ?_
  refine r_iconst B dL_law_1138 ?_
  refine r_iadd B dL_law_1139 ?_
  refine r_sld B hX hbl hbA (by omega) dL_law_1140 (by omega) (by omega) ?_
  refine r_topz ey ?_
  refine r_aload_n B dL_law_1141 rfl rfl ?_
  refine r_iload B dL_law_1142 rfl ?_
  refine r_iconst B dL_law_1144 ?_
  refine r_iadd B dL_law_1145 ?_
  refine r_sld B hX hbl hbA (by omega) dL_law_1146 (by omega) (by omega) ?_
  refine r_topz ez ?_
  refine r_callV (n := 3) B dL_law_1147 (ct_X10_setChain l g sz0 ad hL.2.1 hM x y z qx qy qz) gL_law_X10_setChain rfl (by decide +kernel) ⟨Nat.le_of_ble_eq_true rfl, Nat.le_of_ble_eq_true rfl⟩ hM.obj rfl rfl rfl (Nat.le_of_ble_eq_true rfl) (by show cells + 3 + 0 ≤ 601024; omega) (by show slots + 18 + 0 ≤ 7293034; omega) (fun v h2 hp => ?_)
  obtain ⟨hv2, hb2, hg2⟩ := hp
  subst v
  have hJ2 : LK g A Z ad o1 o2 (tB ((0 ≤ x ∧ x ≤ 3) ∧ (0 ≤ y ∧ y ≤ 30) ∧ (0 ≤ z ∧ z ≤ 50))) h2 ∧ (tB ((0 ≤ x ∧ x ≤ 3) ∧ (0 ≤ y ∧ y ≤ 30) ∧ (0 ≤ z ∧ z ≤ 50)) = 0 → True) ∧ h2 o1 = h1 o1 ∧ h2 o2 = h1 o2 := by
    by_cases ht : tB ((0 ≤ x ∧ x ≤ 3) ∧ (0 ≤ y ∧ y ≤ 30) ∧ (0 ≤ z ∧ z ≤ 50)) = 0
    · exact ⟨LK.mk hL ht (hg2 ht) (hgood ht) (hG.cl (x := x) (fun y9 _ _ => ⟨Or.inl rfl, upZ_or (tB_0.mp ht).2.1, upZ_or (tB_0.mp ht).2.2, Or.inl rfl, Or.inl rfl, Or.inl rfl⟩)) hO1 hO2, fun _ => trivial, hL.of (hg2 ht)⟩
    · exact ⟨LK.mk hL rfl (hb2 ht) (hbad ht) hG hO1 hO2, fun y9 => absurd y9 ht, hL.of (hb2 ht)⟩
  obtain ⟨hJ2, hr, hf2, hf3⟩ := hJ2
  have hJ3 := hJ2
  obtain ⟨mnights, mbits, mleast, mmost, mroom, mreserve, mmount, mspeed, mdata, msize, mends, mmany, mkind, mchain, mholds, mbid, mbound, mcheap, mpromised, mcoin, mpaid, mowed, mturn, misAsking, mwant, mcost, misServed, mitsRow, mitsChunk, hM, hT9, hG9, hF9, hF8⟩ := hJ2
  dsimp only [Option.toList, List.cons_append, List.nil_append]
  refine r_aload_n B dL_law_1150 rfl rfl ?_
  refine r_callV (n := 0) B dL_law_1151 (ct_X10_thrown l g sz0 ad hL.2.1 hM) gL_law_X10_thrown rfl (by decide +kernel) ⟨Nat.le_of_ble_eq_true rfl, Nat.le_of_ble_eq_true rfl⟩ hM.obj rfl rfl rfl (Nat.le_of_ble_eq_true rfl) (by show cells + 3 + 0 + 0 ≤ 601024; omega) (by show slots + 18 + 0 + 0 ≤ 7293034; omega) (fun v h' hp => ?_)
  obtain ⟨hv3, hh3⟩ := hp
  subst v
  subst h'
  dsimp only [Option.toList, List.cons_append, List.nil_append]
  refine r_iload B dL_law_1154 rfl ?_
  refine r_icmp_eqS B dL_law_1156 (tgt := 1161) (by decide) rfl ?_
  refine r_goto B dL_law_1161 (tgt := 2502) (by decide) ?_
  refine r_widen (k := cells + 421) (n := slots + 10406) (by show cells + 3 + 0 + 0 ≤ _; omega) (by show slots + 18 + 0 + 0 ≤ _; omega) ?_
  exact r_lv (lvLe_s rfl (lvLe_s rfl (lvLe_s rfl (lvLe_s rfl (lvLe_s rfl (lvLe_s rfl (lvLe_n (lvLe_n (lvLe_n lvLe_nil))))))))) (kont _ _ hJ3)
set_option maxHeartbeats 4000000 in
set_option maxRecDepth 100000 in
theorem law_c18 {p : Program} {l : Launch} {e : Env} {s : State} {m : MethodId} {args : Array Value} {below : List Frame} {meth : Method} {c : Code} {Q : State → Prop} {g : GG} {sz0 : Nat} {A ad : Nat → Nat} {Z : Nat → Prop} {o1 o2 bs L : Nat} {xs : Nat → Int32} {h : AH} {T0 i : Int} {cells slots : Nat} (hl0 : l.stackTraces = false) (B : FX p s m args c cL_law RL wsL_law 9 g sz0) (hL : LA A ad o1 o2 Z) (hX : va_X bs L xs s s.heap) (hbl : bs < s.heap.size) (hbA : ¬ A0 sz0 bs) (hLs : L < 2147483000) (hJ : LK g A Z ad o1 o2 T0 h) (i0 : 0 ≤ i) (i5 : i + 5 ≤ (L : Int)) (hc1 : cells + 421 ≤ 601024) (hc2 : slots + 10406 ≤ 7293034) (kont : ∀ (h' : AH) (T' : Int), LK g A Z ad o1 o2 T' h' → WA p l e room_1 s m args below meth c g sz0 9 Q h' (cells + 421) (slots + 10406) [some (.ref bs), some (.ref (A 0)), some (.ref (ad 0)), some (.ref o1), some (.ref o2), some (.int (iI i)), none, none, none] 2502 []) : WA p l e room_1 s m args below meth c g sz0 9 Q h cells slots [some (.ref bs), some (.ref (A 0)), some (.ref (ad 0)), some (.ref o1), some (.ref o2), some (.int (iI i)), none, none, none] 1332 [] := by
  obtain ⟨mnights, mbits, mleast, mmost, mroom, mreserve, mmount, mspeed, mdata, msize, mends, mmany, mkind, mchain, mholds, mbid, mbound, mcheap, mpromised, mcoin, mpaid, mowed, mturn, misAsking, mwant, mcost, misServed, mitsRow, mitsChunk, hM, hT, hG, ⟨F, hO⟩, F2, hO2⟩ := hJ
  obtain ⟨fs0, hro⟩ := hT.ro
  refine r_aload_n B dL_law_1332 rfl rfl ?_
  refine r_aload_n B dL_law_1333 rfl rfl ?_
  refine r_callSW (n := 2) B dL_law_1334 (ct_L_night l g sz0 hL.1 hT hG  hl0  (hL.ok hM hO hO2) hO hL.oZ.1 hL.oA.1) gL_law_L_night rfl (by decide +kernel) ⟨Nat.le_of_ble_eq_true rfl, Nat.le_of_ble_eq_true rfl⟩ rfl rfl (Nat.le_of_ble_eq_true rfl) (by show cells + 421 ≤ 601024; omega) (by show slots + 10406 ≤ 7293034; omega) (fun v h1 hp => ?_)
  obtain ⟨hv1, hf1, F1, hO1, hgood, hbad⟩ := hp
  subst v
  have hM := hL.mw (Or.inl rfl) hM hf1
  have hO2 := (hf1 o2 (sm_ne hO2) hL.oA.2 (fun z => hL.2.2.2.1 z.symm)).trans hO2
  dsimp only [Option.toList, List.cons_append, List.nil_append]
  refine r_istore B dL_law_1337 (by decide) (lcat_v rfl rfl) ?_
  refine r_aload_n B dL_law_1339 rfl rfl ?_
  refine r_callV (n := 0) B dL_law_1340 (ct_X10_night l g sz0 ad hL.2.1 hM   hG.1 hT.lko (fun z hz => hG.2.2.2.2.2 (240 + z) (by omega) (by omega)) hG.2.2.1.1 (fun z hz => (hG.2.2.2.2.1 z hz.1 hz.2).1) hG.2.2.1.2 (fun z hz => (hG.2.2.2.2.1 z hz.1 hz.2).2.2.2.2.2.1)) gL_law_X10_night rfl (by decide +kernel) ⟨Nat.le_of_ble_eq_true rfl, Nat.le_of_ble_eq_true rfl⟩ hM.obj rfl rfl rfl (Nat.le_of_ble_eq_true rfl) (by show cells + 421 + 0 ≤ 601024; omega) (by show slots + 10406 + 0 ≤ 7293034; omega) (fun v h2 hp => ?_)
  have hJ2 : ∃ r : Int, v = some (.int (iI r)) ∧ LK g A Z ad o1 o2 (tNg mnights) h2 ∧ (tNg mnights = 0 → F1 0 = (iI r).toInt64) ∧ h2 o1 = h1 o1 ∧ h2 o2 = h1 o2 := by
    by_cases h60 : mnights = 60
    · obtain ⟨e9, hM2⟩ := hp.1 h60
      have ht : tNg mnights = 1 := by unfold tNg; rw [if_pos h60]
      exact ⟨0, e9, LK.mk hL ht hM2 (hbad (by rw [ht]; decide)) hG hO1 hO2, fun y9 => absurd (ht.symm.trans y9) (by decide), hL.of hM2⟩
    · have ht : tNg mnights = 0 := by unfold tNg; rw [if_neg h60]
      obtain ⟨tt, AS, WT, CS, SV, dd, ss, ee, mm, kk, cc, hh, pp, z1, z2, z3, z4, z5, e9, hM2⟩ := hp.2 h60
      obtain ⟨n9, hF, hfin⟩ := hgood ht
      obtain ⟨en, hT2⟩ := hfin tt AS WT CS SV dd ss ee mm kk cc hh pp z1 z2 z3 z4 z5
      refine ⟨_, e9, LK.mk hL ht hM2 hT2 (hG.night h60 z1 z2 z3 z4) hO1 hO2, fun _ => ?_, hL.of hM2⟩
      rw [hF, en]
      rfl
  obtain ⟨r, hv2, hJ2, hr, hf2, hf3⟩ := hJ2
  subst v
  have hJ3 := hJ2
  obtain ⟨mnights, mbits, mleast, mmost, mroom, mreserve, mmount, mspeed, mdata, msize, mends, mmany, mkind, mchain, mholds, mbid, mbound, mcheap, mpromised, mcoin, mpaid, mowed, mturn, misAsking, mwant, mcost, misServed, mitsRow, mitsChunk, hM, hT9, hG9, hF9, hF8⟩ := hJ2
  have hO3 := hf2.trans hO1
  have hO4 := hf3.trans hO2
  dsimp only [Option.toList, List.cons_append, List.nil_append]
  refine r_istore B dL_law_1343 (by decide) (lcat_v rfl rfl) ?_
  refine r_aload_n B dL_law_1345 rfl rfl ?_
  refine r_callV (n := 0) B dL_law_1346 (ct_X10_thrown l g sz0 ad hL.2.1 hM) gL_law_X10_thrown rfl (by decide +kernel) ⟨Nat.le_of_ble_eq_true rfl, Nat.le_of_ble_eq_true rfl⟩ hM.obj rfl rfl rfl (Nat.le_of_ble_eq_true rfl) (by show cells + 421 + 0 + 0 ≤ 601024; omega) (by show slots + 10406 + 0 + 0 ≤ 7293034; omega) (fun v h' hp => ?_)
  obtain ⟨hv3, hh3⟩ := hp
  subst v
  subst h'
  dsimp only [Option.toList, List.cons_append, List.nil_append]
  refine r_iload B dL_law_1349 rfl ?_
  refine r_icmp_eqS B dL_law_1351 (tgt := 1356) (by decide) rfl ?_
  refine r_iload B dL_law_1356 rfl ?_
  refine r_if_ne B dL_law_1358 (tgt := 1373) (by decide) hM.i_thrown (fun c1358 => ?_) (fun c1358 => ?_)
  · refine r_goto B dL_law_1373 (tgt := 2502) (by decide) ?_
    refine r_widen (k := cells + 421) (n := slots + 10406) (by show cells + 421 + 0 + 0 ≤ _; omega) (by show slots + 10406 + 0 + 0 ≤ _; omega) ?_
    exact r_lv (lvLe_s rfl (lvLe_s rfl (lvLe_s rfl (lvLe_s rfl (lvLe_s rfl (lvLe_s rfl (lvLe_n (lvLe_n (lvLe_n lvLe_nil))))))))) (kont _ _ hJ3)
  · refine r_aload_n B dL_law_1361 rfl rfl ?_
    refine r_iconst B dL_law_1362 ?_
    refine r_lald B dL_law_1363 hO3 (by decide) (by omega) (by omega) ?_
    refine r_iload B dL_law_1364 rfl ?_
    refine r_i2l B dL_law_1366 ?_
    refine r_lcmp B dL_law_1367 ?_
    refine r_if_eqS B dL_law_1368 (tgt := 1373) (by decide) (lgc_self (hr c1358)) ?_
    refine r_goto B dL_law_1373 (tgt := 2502) (by decide) ?_
    refine r_widen (k := cells + 421) (n := slots + 10406) (by show cells + 421 + 0 + 0 ≤ _; omega) (by show slots + 10406 + 0 + 0 ≤ _; omega) ?_
    exact r_lv (lvLe_s rfl (lvLe_s rfl (lvLe_s rfl (lvLe_s rfl (lvLe_s rfl (lvLe_s rfl (lvLe_n (lvLe_n (lvLe_n lvLe_nil))))))))) (kont _ _ hJ3)
set_option maxHeartbeats 4000000 in
set_option maxRecDepth 100000 in
theorem law_c22 {p : Program} {l : Launch} {e : Env} {s : State} {m : MethodId} {args : Array Value} {below : List Frame} {meth : Method} {c : Code} {Q : State → Prop} {g : GG} {sz0 : Nat} {A ad : Nat → Nat} {Z : Nat → Prop} {o1 o2 bs L : Nat} {xs : Nat → Int32} {h : AH} {T0 i : Int} {cells slots : Nat} (hl0 : l.stackTraces = false) (B : FX p s m args c cL_law RL wsL_law 9 g sz0) (hL : LA A ad o1 o2 Z) (hX : va_X bs L xs s s.heap) (hbl : bs < s.heap.size) (hbA : ¬ A0 sz0 bs) (hLs : L < 2147483000) (hJ : LK g A Z ad o1 o2 T0 h) (i0 : 0 ≤ i) (i5 : i + 5 ≤ (L : Int)) (hc1 : cells + 421 ≤ 601024) (hc2 : slots + 10406 ≤ 7293034) (kont : ∀ (h' : AH) (T' : Int), LK g A Z ad o1 o2 T' h' → WA p l e room_1 s m args below meth c g sz0 9 Q h' (cells + 421) (slots + 10406) [some (.ref bs), some (.ref (A 0)), some (.ref (ad 0)), some (.ref o1), some (.ref o2), some (.int (iI i)), none, none, none] 2502 []) : WA p l e room_1 s m args below meth c g sz0 9 Q h cells slots [some (.ref bs), some (.ref (A 0)), some (.ref (ad 0)), some (.ref o1), some (.ref o2), some (.int (iI i)), none, none, none] 1525 [] := by
  obtain ⟨mnights, mbits, mleast, mmost, mroom, mreserve, mmount, mspeed, mdata, msize, mends, mmany, mkind, mchain, mholds, mbid, mbound, mcheap, mpromised, mcoin, mpaid, mowed, mturn, misAsking, mwant, mcost, misServed, mitsRow, mitsChunk, hM, hT, hG, ⟨F, hO⟩, F2, hO2⟩ := hJ
  obtain ⟨fs0, hro⟩ := hT.ro
  obtain ⟨x, ex, qx⟩ : ∃ z : Int, vaZ xs (i + 1) = z ∧ (-2147483648 ≤ z ∧ z < 2147483648) := ⟨_, rfl, vaZ_rng _ _⟩
  refine r_aload_n B dL_law_1525 rfl rfl ?_
  refine r_aload_n B dL_law_1526 rfl rfl ?_
  refine r_iload B dL_law_1527 rfl ?_
  refine r_iconst B dL_law_1529 ?_
  refine r_iadd B dL_law_1530 ?_
  refine r_sld B hX hbl hbA (by omega) dL_law_1531 (by omega) (by omega) ?_
  refine r_topz ex ?_
  refine r_aload_n B dL_law_1532 rfl rfl ?_
  refine r_callSW (n := 3) B dL_law_1533 (ct_L_chain l g sz0 hL.1 hT hG x hl0 qx hO hL.oZ.1 hL.oA.1) gL_law_L_chain rfl (by decide +kernel) ⟨Nat.le_of_ble_eq_true rfl, Nat.le_of_ble_eq_true rfl⟩ rfl rfl (Nat.le_of_ble_eq_true rfl) (by show cells + 1 ≤ 601024; omega) (by show slots + 6 ≤ 7293034; omega) (fun v h1 hp => ?_)
  obtain ⟨hv1, hf1, F1, hO1, hgood, hbad⟩ := hp
  subst v
  have hM := hL.mw (Or.inl rfl) hM hf1
  have hO2 := (hf1 o2 (sm_ne hO2) hL.oA.2 (fun z => hL.2.2.2.1 z.symm)).trans hO2
  dsimp only [Option.toList, List.cons_append, List.nil_append]
  refine r_istore B dL_law_1536 (by decide) (lcat_v rfl rfl) ?_
  refine r_aload_n B dL_law_1538 rfl rfl ?_
  refine r_aload_n B dL_law_1539 rfl rfl ?_
  refine r_iload B dL_law_1540 rfl ?_
  refine r_iconst B dL_law_1542 ?_
  refine r_iadd B dL_law_1543 ?_
  refine r_sld B hX hbl hbA (by omega) dL_law_1544 (by omega) (by omega) ?_
  refine r_topz ex ?_
  refine r_callV (n := 1) B dL_law_1545 (ct_X10_chain l g sz0 ad hL.2.1 hM x qx hG.1) gL_law_X10_chain rfl (by decide +kernel) ⟨Nat.le_of_ble_eq_true rfl, Nat.le_of_ble_eq_true rfl⟩ hM.obj rfl rfl rfl (Nat.le_of_ble_eq_true rfl) (by show cells + 1 + 0 ≤ 601024; omega) (by show slots + 6 + 0 ≤ 7293034; omega) (fun v h2 hp => ?_)
  obtain ⟨r, hv2, hb2, hg2⟩ := hp
  subst v
  have hJ2 : LK g A Z ad o1 o2 (tCl x) h2 ∧ (tCl x = 0 → F1 0 = (iI r).toInt64) ∧ h2 o1 = h1 o1 ∧ h2 o2 = h1 o2 := by
    by_cases ht : tCl x = 0
    · exact ⟨LK.mk hL ht (hg2 ht).2 (hgood ht).2 (hG) hO1 hO2, fun _ => (by first | (rw [(hgood ht).1, (hg2 ht).1]; done) | (rw [(hgood ht).1, (hg2 ht).1]; rfl)), hL.of (hg2 ht).2⟩
    · exact ⟨LK.mk hL rfl (hb2 ht).2 (hbad ht) hG hO1 hO2, fun y9 => absurd y9 ht, hL.of (hb2 ht).2⟩
  obtain ⟨hJ2, hr, hf2, hf3⟩ := hJ2
  have hJ3 := hJ2
  obtain ⟨mnights, mbits, mleast, mmost, mroom, mreserve, mmount, mspeed, mdata, msize, mends, mmany, mkind, mchain, mholds, mbid, mbound, mcheap, mpromised, mcoin, mpaid, mowed, mturn, misAsking, mwant, mcost, misServed, mitsRow, mitsChunk, hM, hT9, hG9, hF9, hF8⟩ := hJ2
  have hO3 := hf2.trans hO1
  have hO4 := hf3.trans hO2
  dsimp only [Option.toList, List.cons_append, List.nil_append]
  refine r_istore B dL_law_1548 (by decide) (lcat_v rfl rfl) ?_
  refine r_aload_n B dL_law_1550 rfl rfl ?_
  refine r_callV (n := 0) B dL_law_1551 (ct_X10_thrown l g sz0 ad hL.2.1 hM) gL_law_X10_thrown rfl (by decide +kernel) ⟨Nat.le_of_ble_eq_true rfl, Nat.le_of_ble_eq_true rfl⟩ hM.obj rfl rfl rfl (Nat.le_of_ble_eq_true rfl) (by show cells + 1 + 0 + 0 ≤ 601024; omega) (by show slots + 6 + 0 + 0 ≤ 7293034; omega) (fun v h' hp => ?_)
  obtain ⟨hv3, hh3⟩ := hp
  subst v
  subst h'
  dsimp only [Option.toList, List.cons_append, List.nil_append]
  refine r_iload B dL_law_1554 rfl ?_
  refine r_icmp_eqS B dL_law_1556 (tgt := 1561) (by decide) rfl ?_
  refine r_iload B dL_law_1561 rfl ?_
  refine r_if_ne B dL_law_1563 (tgt := 1578) (by decide) hM.i_thrown (fun c1563 => ?_) (fun c1563 => ?_)
  · refine r_goto B dL_law_1578 (tgt := 2502) (by decide) ?_
    refine r_widen (k := cells + 421) (n := slots + 10406) (by show cells + 1 + 0 + 0 ≤ _; omega) (by show slots + 6 + 0 + 0 ≤ _; omega) ?_
    exact r_lv (lvLe_s rfl (lvLe_s rfl (lvLe_s rfl (lvLe_s rfl (lvLe_s rfl (lvLe_s rfl (lvLe_n (lvLe_n (lvLe_n lvLe_nil))))))))) (kont _ _ hJ3)
  · refine r_aload_n B dL_law_1566 rfl rfl ?_
    refine r_iconst B dL_law_1567 ?_
    refine r_lald B dL_law_1568 hO3 (by decide) (by omega) (by omega) ?_
    refine r_iload B dL_law_1569 rfl ?_
    refine r_i2l B dL_law_1571 ?_
    refine r_lcmp B dL_law_1572 ?_
    refine r_if_eqS B dL_law_1573 (tgt := 1578) (by decide) (lgc_self (hr c1563)) ?_
    refine r_goto B dL_law_1578 (tgt := 2502) (by decide) ?_
    refine r_widen (k := cells + 421) (n := slots + 10406) (by show cells + 1 + 0 + 0 ≤ _; omega) (by show slots + 6 + 0 + 0 ≤ _; omega) ?_
    exact r_lv (lvLe_s rfl (lvLe_s rfl (lvLe_s rfl (lvLe_s rfl (lvLe_s rfl (lvLe_s rfl (lvLe_n (lvLe_n (lvLe_n lvLe_nil))))))))) (kont _ _ hJ3)
set_option maxHeartbeats 4000000 in
set_option maxRecDepth 100000 in
theorem law_c26 {p : Program} {l : Launch} {e : Env} {s : State} {m : MethodId} {args : Array Value} {below : List Frame} {meth : Method} {c : Code} {Q : State → Prop} {g : GG} {sz0 : Nat} {A ad : Nat → Nat} {Z : Nat → Prop} {o1 o2 bs L : Nat} {xs : Nat → Int32} {h : AH} {T0 i : Int} {cells slots : Nat} (hl0 : l.stackTraces = false) (B : FX p s m args c cL_law RL wsL_law 9 g sz0) (hL : LA A ad o1 o2 Z) (hX : va_X bs L xs s s.heap) (hbl : bs < s.heap.size) (hbA : ¬ A0 sz0 bs) (hLs : L < 2147483000) (hJ : LK g A Z ad o1 o2 T0 h) (i0 : 0 ≤ i) (i5 : i + 5 ≤ (L : Int)) (hc1 : cells + 421 ≤ 601024) (hc2 : slots + 10406 ≤ 7293034) (kont : ∀ (h' : AH) (T' : Int), LK g A Z ad o1 o2 T' h' → WA p l e room_1 s m args below meth c g sz0 9 Q h' (cells + 421) (slots + 10406) [some (.ref bs), some (.ref (A 0)), some (.ref (ad 0)), some (.ref o1), some (.ref o2), some (.int (iI i)), none, none, none] 2502 []) : WA p l e room_1 s m args below meth c g sz0 9 Q h cells slots [some (.ref bs), some (.ref (A 0)), some (.ref (ad 0)), some (.ref o1), some (.ref o2), some (.int (iI i)), none, none, none] 1785 [] := by
  obtain ⟨mnights, mbits, mleast, mmost, mroom, mreserve, mmount, mspeed, mdata, msize, mends, mmany, mkind, mchain, mholds, mbid, mbound, mcheap, mpromised, mcoin, mpaid, mowed, mturn, misAsking, mwant, mcost, misServed, mitsRow, mitsChunk, hM, hT, hG, ⟨F, hO⟩, F2, hO2⟩ := hJ
  obtain ⟨fs0, hro⟩ := hT.ro
  obtain ⟨x, ex, qx⟩ : ∃ z : Int, vaZ xs (i + 1) = z ∧ (-2147483648 ≤ z ∧ z < 2147483648) := ⟨_, rfl, vaZ_rng _ _⟩
  obtain ⟨k, ek, qk⟩ : ∃ z : Int, vaZ xs (i + 2) = z ∧ (-2147483648 ≤ z ∧ z < 2147483648) := ⟨_, rfl, vaZ_rng _ _⟩
  refine r_aload_n B dL_law_1785 rfl rfl ?_
  refine r_aload_n B dL_law_1786 rfl rfl ?_
  refine r_iload B dL_law_1787 rfl ?_
  refine r_iconst B dL_law_1789 ?_
  refine r_iadd B dL_law_1790 ?_
  refine r_sld B hX hbl hbA (by omega) dL_law_1791 (by omega) (by omega) ?_
  refine r_topz ex ?_
  refine r_aload_n B dL_law_1792 rfl rfl ?_
  refine r_iload B dL_law_1793 rfl ?_
  refine r_iconst B dL_law_1795 ?_
  refine r_iadd B dL_law_1796 ?_
  refine r_sld B hX hbl hbA (by omega) dL_law_1797 (by omega) (by omega) ?_
  refine r_topz ek ?_
  refine r_aload_n B dL_law_1798 rfl rfl ?_
  refine r_callSW (n := 4) B dL_law_1799 (ct_L_digestOf l g sz0 hL.1 hT hG x k hl0 qx qk hO hL.oZ.1 hL.oA.1) gL_law_L_digestOf rfl (by decide +kernel) ⟨Nat.le_of_ble_eq_true rfl, Nat.le_of_ble_eq_true rfl⟩ rfl rfl (Nat.le_of_ble_eq_true rfl) (by show cells + 3 ≤ 601024; omega) (by show slots + 18 ≤ 7293034; omega) (fun v h1 hp => ?_)
  obtain ⟨hv1, hf1, F1, hO1, hgood, hbad⟩ := hp
  subst v
  have hM := hL.mw (Or.inl rfl) hM hf1
  have hO2 := (hf1 o2 (sm_ne hO2) hL.oA.2 (fun z => hL.2.2.2.1 z.symm)).trans hO2
  dsimp only [Option.toList, List.cons_append, List.nil_append]
  refine r_istore B dL_law_1802 (by decide) (lcat_v rfl rfl) ?_
  refine r_aload_n B dL_law_1804 rfl rfl ?_
  refine r_aload_n B dL_law_1805 rfl rfl ?_
  refine r_iload B dL_law_1806 rfl ?_
  refine r_iconst B dL_law_1808 ?_
  refine r_iadd B dL_law_1809 ?_
  refine r_sld B hX hbl hbA (by omega) dL_law_1810 (by omega) (by omega) ?_
  refine r_topz ex ?_
  refine r_aload_n B dL_law_1811 rfl rfl ?_
  refine r_iload B dL_law_1812 rfl ?_
  refine r_iconst B dL_law_1814 ?_
  refine r_iadd B dL_law_1815 ?_
  refine r_sld B hX hbl hbA (by omega) dL_law_1816 (by omega) (by omega) ?_
  refine r_topz ek ?_
  refine r_callV (n := 2) B dL_law_1817 (ct_X10_digestOf l g sz0 ad hL.2.1 hM x k qx qk hG.1 hG.2.2.2.2.2) gL_law_X10_digestOf rfl (by decide +kernel) ⟨Nat.le_of_ble_eq_true rfl, Nat.le_of_ble_eq_true rfl⟩ hM.obj rfl rfl rfl (Nat.le_of_ble_eq_true rfl) (by show cells + 3 + 0 ≤ 601024; omega) (by show slots + 18 + 0 ≤ 7293034; omega) (fun v h2 hp => ?_)
  obtain ⟨r, hv2, hb2, hg2⟩ := hp
  subst v
  have hJ2 : LK g A Z ad o1 o2 (tAsk x k mnights (mkind (60 * x + k))) h2 ∧ (tAsk x k mnights (mkind (60 * x + k)) = 0 → F1 0 = r) ∧ h2 o1 = h1 o1 ∧ h2 o2 = h1 o2 := by
    by_cases ht : tAsk x k mnights (mkind (60 * x + k)) = 0
    · exact ⟨LK.mk hL ht (hg2 ht).2 (hgood ht).2 (hG) hO1 hO2, fun _ => (by rw [(hgood ht).1, (hg2 ht).1]), hL.of (hg2 ht).2⟩
    · exact ⟨LK.mk hL rfl (hb2 ht).2 (hbad ht) hG hO1 hO2, fun y9 => absurd y9 ht, hL.of (hb2 ht).2⟩
  obtain ⟨hJ2, hr, hf2, hf3⟩ := hJ2
  have hJ3 := hJ2
  obtain ⟨mnights, mbits, mleast, mmost, mroom, mreserve, mmount, mspeed, mdata, msize, mends, mmany, mkind, mchain, mholds, mbid, mbound, mcheap, mpromised, mcoin, mpaid, mowed, mturn, misAsking, mwant, mcost, misServed, mitsRow, mitsChunk, hM, hT9, hG9, hF9, hF8⟩ := hJ2
  have hO3 := hf2.trans hO1
  have hO4 := hf3.trans hO2
  dsimp only [Option.toList, List.cons_append, List.nil_append]
  refine r_lstore B dL_law_1820 (by decide) (lcat_v rfl rfl) ?_
  refine r_aload_n B dL_law_1822 rfl rfl ?_
  refine r_callV (n := 0) B dL_law_1823 (ct_X10_thrown l g sz0 ad hL.2.1 hM) gL_law_X10_thrown rfl (by decide +kernel) ⟨Nat.le_of_ble_eq_true rfl, Nat.le_of_ble_eq_true rfl⟩ hM.obj rfl rfl rfl (Nat.le_of_ble_eq_true rfl) (by show cells + 3 + 0 + 0 ≤ 601024; omega) (by show slots + 18 + 0 + 0 ≤ 7293034; omega) (fun v h' hp => ?_)
  obtain ⟨hv3, hh3⟩ := hp
  subst v
  subst h'
  dsimp only [Option.toList, List.cons_append, List.nil_append]
  refine r_iload B dL_law_1826 rfl ?_
  refine r_icmp_eqS B dL_law_1828 (tgt := 1833) (by decide) rfl ?_
  refine r_iload B dL_law_1833 rfl ?_
  refine r_if_ne B dL_law_1835 (tgt := 1849) (by decide) hM.i_thrown (fun c1835 => ?_) (fun c1835 => ?_)
  · refine r_goto B dL_law_1849 (tgt := 2502) (by decide) ?_
    refine r_widen (k := cells + 421) (n := slots + 10406) (by show cells + 3 + 0 + 0 ≤ _; omega) (by show slots + 18 + 0 + 0 ≤ _; omega) ?_
    exact r_lv (lvLe_s rfl (lvLe_s rfl (lvLe_s rfl (lvLe_s rfl (lvLe_s rfl (lvLe_s rfl (lvLe_n (lvLe_n (lvLe_n lvLe_nil))))))))) (kont _ _ hJ3)
  · refine r_aload_n B dL_law_1838 rfl rfl ?_
    refine r_iconst B dL_law_1839 ?_
    refine r_lald B dL_law_1840 hO3 (by decide) (by omega) (by omega) ?_
    refine r_lload B dL_law_1841 rfl ?_
    refine r_lcmp B dL_law_1843 ?_
    refine r_if_eqS B dL_law_1844 (tgt := 1849) (by decide) (lgc_self (hr c1835)) ?_
    refine r_goto B dL_law_1849 (tgt := 2502) (by decide) ?_
    refine r_widen (k := cells + 421) (n := slots + 10406) (by show cells + 3 + 0 + 0 ≤ _; omega) (by show slots + 18 + 0 + 0 ≤ _; omega) ?_
    exact r_lv (lvLe_s rfl (lvLe_s rfl (lvLe_s rfl (lvLe_s rfl (lvLe_s rfl (lvLe_s rfl (lvLe_n (lvLe_n (lvLe_n lvLe_nil))))))))) (kont _ _ hJ3)
set_option maxHeartbeats 4000000 in
set_option maxRecDepth 100000 in
theorem law_c30 {p : Program} {l : Launch} {e : Env} {s : State} {m : MethodId} {args : Array Value} {below : List Frame} {meth : Method} {c : Code} {Q : State → Prop} {g : GG} {sz0 : Nat} {A ad : Nat → Nat} {Z : Nat → Prop} {o1 o2 bs L : Nat} {xs : Nat → Int32} {h : AH} {T0 i : Int} {cells slots : Nat} (hl0 : l.stackTraces = false) (B : FX p s m args c cL_law RL wsL_law 9 g sz0) (hL : LA A ad o1 o2 Z) (hX : va_X bs L xs s s.heap) (hbl : bs < s.heap.size) (hbA : ¬ A0 sz0 bs) (hLs : L < 2147483000) (hJ : LK g A Z ad o1 o2 T0 h) (i0 : 0 ≤ i) (i5 : i + 5 ≤ (L : Int)) (hc1 : cells + 421 ≤ 601024) (hc2 : slots + 10406 ≤ 7293034) (kont : ∀ (h' : AH) (T' : Int), LK g A Z ad o1 o2 T' h' → WA p l e room_1 s m args below meth c g sz0 9 Q h' (cells + 421) (slots + 10406) [some (.ref bs), some (.ref (A 0)), some (.ref (ad 0)), some (.ref o1), some (.ref o2), some (.int (iI i)), none, none, none] 2502 []) : WA p l e room_1 s m args below meth c g sz0 9 Q h cells slots [some (.ref bs), some (.ref (A 0)), some (.ref (ad 0)), some (.ref o1), some (.ref o2), some (.int (iI i)), none, none, none] 2035 [] := by
  obtain ⟨mnights, mbits, mleast, mmost, mroom, mreserve, mmount, mspeed, mdata, msize, mends, mmany, mkind, mchain, mholds, mbid, mbound, mcheap, mpromised, mcoin, mpaid, mowed, mturn, misAsking, mwant, mcost, misServed, mitsRow, mitsChunk, hM, hT, hG, ⟨F, hO⟩, F2, hO2⟩ := hJ
  obtain ⟨fs0, hro⟩ := hT.ro
  obtain ⟨x, ex, qx⟩ : ∃ z : Int, vaZ xs (i + 1) = z ∧ (-2147483648 ≤ z ∧ z < 2147483648) := ⟨_, rfl, vaZ_rng _ _⟩
  obtain ⟨k, ek, qk⟩ : ∃ z : Int, vaZ xs (i + 2) = z ∧ (-2147483648 ≤ z ∧ z < 2147483648) := ⟨_, rfl, vaZ_rng _ _⟩
  refine r_aload_n B dL_law_2035 rfl rfl ?_
  refine r_aload_n B dL_law_2036 rfl rfl ?_
  refine r_iload B dL_law_2037 rfl ?_
  refine r_iconst B dL_law_2039 ?_
  refine r_iadd B dL_law_2040 ?_
  refine r_sld B hX hbl hbA (by omega) dL_law_2041 (by omega) (by omega) ?_
  refine r_topz ex ?_
  refine r_aload_n B dL_law_2042 rfl rfl ?_
  refine r_iload B dL_law_2043 rfl ?_
  refine r_iconst B dL_law_2045 ?_
  refine r_iadd B dL_law_2046 ?_
  refine r_sld B hX hbl hbA (by omega) dL_law_2047 (by omega) (by omega) ?_
  refine r_topz ek ?_
  refine r_aload_n B dL_law_2048 rfl rfl ?_
  refine r_callSW (n := 4) B dL_law_2049 (ct_L_mounts l g sz0 hL.1 hT hG x k hl0 qx qk hO hL.oZ.1 hL.oA.1) gL_law_L_mounts rfl (by decide +kernel) ⟨Nat.le_of_ble_eq_true rfl, Nat.le_of_ble_eq_true rfl⟩ rfl rfl (Nat.le_of_ble_eq_true rfl) (by show cells + 3 ≤ 601024; omega) (by show slots + 18 ≤ 7293034; omega) (fun v h1 hp => ?_)
  obtain ⟨hv1, hf1, F1, hO1, hgood, hbad⟩ := hp
  subst v
  have hM := hL.mw (Or.inl rfl) hM hf1
  have hO2 := (hf1 o2 (sm_ne hO2) hL.oA.2 (fun z => hL.2.2.2.1 z.symm)).trans hO2
  dsimp only [Option.toList, List.cons_append, List.nil_append]
  refine r_istore B dL_law_2052 (by decide) (lcat_v rfl rfl) ?_
  refine r_aload_n B dL_law_2054 rfl rfl ?_
  refine r_aload_n B dL_law_2055 rfl rfl ?_
  refine r_iload B dL_law_2056 rfl ?_
  refine r_iconst B dL_law_2058 ?_
  refine r_iadd B dL_law_2059 ?_
  refine r_sld B hX hbl hbA (by omega) dL_law_2060 (by omega) (by omega) ?_
  refine r_topz ex ?_
  refine r_aload_n B dL_law_2061 rfl rfl ?_
  refine r_iload B dL_law_2062 rfl ?_
  refine r_iconst B dL_law_2064 ?_
  refine r_iadd B dL_law_2065 ?_
  refine r_sld B hX hbl hbA (by omega) dL_law_2066 (by omega) (by omega) ?_
  refine r_topz ek ?_
  refine r_callV (n := 2) B dL_law_2067 (ct_X10_mounts l g sz0 ad hL.2.1 hM x k qx qk hG.1 hT.lko) gL_law_X10_mounts rfl (by decide +kernel) ⟨Nat.le_of_ble_eq_true rfl, Nat.le_of_ble_eq_true rfl⟩ hM.obj rfl rfl rfl (Nat.le_of_ble_eq_true rfl) (by show cells + 3 + 0 ≤ 601024; omega) (by show slots + 18 + 0 ≤ 7293034; omega) (fun v h2 hp => ?_)
  obtain ⟨r, hv2, hb2, hg2⟩ := hp
  subst v
  have hJ2 : LK g A Z ad o1 o2 (tAsk x k mnights (mkind (60 * x + k))) h2 ∧ (tAsk x k mnights (mkind (60 * x + k)) = 0 → F1 0 = (iI r).toInt64) ∧ h2 o1 = h1 o1 ∧ h2 o2 = h1 o2 := by
    by_cases ht : tAsk x k mnights (mkind (60 * x + k)) = 0
    · exact ⟨LK.mk hL ht (hg2 ht).2 (hgood ht).2 (hG) hO1 hO2, fun _ => (by first | (rw [(hgood ht).1, (hg2 ht).1]; done) | (rw [(hgood ht).1, (hg2 ht).1]; rfl)), hL.of (hg2 ht).2⟩
    · exact ⟨LK.mk hL rfl (hb2 ht).2 (hbad ht) hG hO1 hO2, fun y9 => absurd y9 ht, hL.of (hb2 ht).2⟩
  obtain ⟨hJ2, hr, hf2, hf3⟩ := hJ2
  have hJ3 := hJ2
  obtain ⟨mnights, mbits, mleast, mmost, mroom, mreserve, mmount, mspeed, mdata, msize, mends, mmany, mkind, mchain, mholds, mbid, mbound, mcheap, mpromised, mcoin, mpaid, mowed, mturn, misAsking, mwant, mcost, misServed, mitsRow, mitsChunk, hM, hT9, hG9, hF9, hF8⟩ := hJ2
  have hO3 := hf2.trans hO1
  have hO4 := hf3.trans hO2
  dsimp only [Option.toList, List.cons_append, List.nil_append]
  refine r_istore B dL_law_2070 (by decide) (lcat_v rfl rfl) ?_
  refine r_aload_n B dL_law_2072 rfl rfl ?_
  refine r_callV (n := 0) B dL_law_2073 (ct_X10_thrown l g sz0 ad hL.2.1 hM) gL_law_X10_thrown rfl (by decide +kernel) ⟨Nat.le_of_ble_eq_true rfl, Nat.le_of_ble_eq_true rfl⟩ hM.obj rfl rfl rfl (Nat.le_of_ble_eq_true rfl) (by show cells + 3 + 0 + 0 ≤ 601024; omega) (by show slots + 18 + 0 + 0 ≤ 7293034; omega) (fun v h' hp => ?_)
  obtain ⟨hv3, hh3⟩ := hp
  subst v
  subst h'
  dsimp only [Option.toList, List.cons_append, List.nil_append]
  refine r_iload B dL_law_2076 rfl ?_
  refine r_icmp_eqS B dL_law_2078 (tgt := 2083) (by decide) rfl ?_
  refine r_iload B dL_law_2083 rfl ?_
  refine r_if_ne B dL_law_2085 (tgt := 2100) (by decide) hM.i_thrown (fun c2085 => ?_) (fun c2085 => ?_)
  · refine r_goto B dL_law_2100 (tgt := 2502) (by decide) ?_
    refine r_widen (k := cells + 421) (n := slots + 10406) (by show cells + 3 + 0 + 0 ≤ _; omega) (by show slots + 18 + 0 + 0 ≤ _; omega) ?_
    exact r_lv (lvLe_s rfl (lvLe_s rfl (lvLe_s rfl (lvLe_s rfl (lvLe_s rfl (lvLe_s rfl (lvLe_n (lvLe_n (lvLe_n lvLe_nil))))))))) (kont _ _ hJ3)
  · refine r_aload_n B dL_law_2088 rfl rfl ?_
    refine r_iconst B dL_law_2089 ?_
    refine r_lald B dL_law_2090 hO3 (by decide) (by omega) (by omega) ?_
    refine r_iload B dL_law_2091 rfl ?_
    refine r_i2l B dL_law_2093 ?_
    refine r_lcmp B dL_law_2094 ?_
    refine r_if_eqS B dL_law_2095 (tgt := 2100) (by decide) (lgc_self (hr c2085)) ?_
    refine r_goto B dL_law_2100 (tgt := 2502) (by decide) ?_
    refine r_widen (k := cells + 421) (n := slots + 10406) (by show cells + 3 + 0 + 0 ≤ _; omega) (by show slots + 18 + 0 + 0 ≤ _; omega) ?_
    exact r_lv (lvLe_s rfl (lvLe_s rfl (lvLe_s rfl (lvLe_s rfl (lvLe_s rfl (lvLe_s rfl (lvLe_n (lvLe_n (lvLe_n lvLe_nil))))))))) (kont _ _ hJ3)
set_option maxHeartbeats 4000000 in
set_option maxRecDepth 100000 in
theorem law_c36 {p : Program} {l : Launch} {e : Env} {s : State} {m : MethodId} {args : Array Value} {below : List Frame} {meth : Method} {c : Code} {Q : State → Prop} {g : GG} {sz0 : Nat} {A ad : Nat → Nat} {Z : Nat → Prop} {o1 o2 bs L : Nat} {xs : Nat → Int32} {h : AH} {T0 i : Int} {cells slots : Nat} (hl0 : l.stackTraces = false) (B : FX p s m args c cL_law RL wsL_law 9 g sz0) (hL : LA A ad o1 o2 Z) (hX : va_X bs L xs s s.heap) (hbl : bs < s.heap.size) (hbA : ¬ A0 sz0 bs) (hLs : L < 2147483000) (hJ : LK g A Z ad o1 o2 T0 h) (i0 : 0 ≤ i) (i5 : i + 5 ≤ (L : Int)) (hc1 : cells + 421 ≤ 601024) (hc2 : slots + 10406 ≤ 7293034) (kont : ∀ (h' : AH) (T' : Int), LK g A Z ad o1 o2 T' h' → WA p l e room_1 s m args below meth c g sz0 9 Q h' (cells + 421) (slots + 10406) [some (.ref bs), some (.ref (A 0)), some (.ref (ad 0)), some (.ref o1), some (.ref o2), some (.int (iI i)), none, none, none] 2502 []) : WA p l e room_1 s m args below meth c g sz0 9 Q h cells slots [some (.ref bs), some (.ref (A 0)), some (.ref (ad 0)), some (.ref o1), some (.ref o2), some (.int (iI i)), none, none, none] 2433 [] := by
  obtain ⟨mnights, mbits, mleast, mmost, mroom, mreserve, mmount, mspeed, mdata, msize, mends, mmany, mkind, mchain, mholds, mbid, mbound, mcheap, mpromised, mcoin, mpaid, mowed, mturn, misAsking, mwant, mcost, misServed, mitsRow, mitsChunk, hM, hT, hG, ⟨F, hO⟩, F2, hO2⟩ := hJ
  obtain ⟨fs0, hro⟩ := hT.ro
  obtain ⟨x, ex, qx⟩ : ∃ z : Int, vaZ xs (i + 1) = z ∧ (-2147483648 ≤ z ∧ z < 2147483648) := ⟨_, rfl, vaZ_rng _ _⟩
  refine r_aload_n B dL_law_2433 rfl rfl ?_
  refine r_aload_n B dL_law_2434 rfl rfl ?_
  refine r_iload B dL_law_2435 rfl ?_
  refine r_iconst B dL_law_2437 ?_
  refine r_iadd B dL_law_2438 ?_
  refine r_sld B hX hbl hbA (by omega) dL_law_2439 (by omega) (by omega) ?_
  refine r_topz ex ?_
  refine r_aload_n B dL_law_2440 rfl rfl ?_
  refine r_callSW (n := 3) B dL_law_2441 (ct_L_owed l g sz0 hL.1 hT hG x hl0 qx hO hL.oZ.1 hL.oA.1) gL_law_L_owed rfl (by decide +kernel) ⟨Nat.le_of_ble_eq_true rfl, Nat.le_of_ble_eq_true rfl⟩ rfl rfl (Nat.le_of_ble_eq_true rfl) (by show cells + 1 ≤ 601024; omega) (by show slots + 6 ≤ 7293034; omega) (fun v h1 hp => ?_)
  obtain ⟨hv1, hf1, F1, hO1, hgood, hbad⟩ := hp
  subst v
  have hM := hL.mw (Or.inl rfl) hM hf1
  have hO2 := (hf1 o2 (sm_ne hO2) hL.oA.2 (fun z => hL.2.2.2.1 z.symm)).trans hO2
  dsimp only [Option.toList, List.cons_append, List.nil_append]
  refine r_istore B dL_law_2444 (by decide) (lcat_v rfl rfl) ?_
  refine r_aload_n B dL_law_2446 rfl rfl ?_
  refine r_aload_n B dL_law_2447 rfl rfl ?_
  refine r_iload B dL_law_2448 rfl ?_
  refine r_iconst B dL_law_2450 ?_
  refine r_iadd B dL_law_2451 ?_
  refine r_sld B hX hbl hbA (by omega) dL_law_2452 (by omega) (by omega) ?_
  refine r_topz ex ?_
  refine r_callV (n := 1) B dL_law_2453 (ct_X10_owed l g sz0 ad hL.2.1 hM x qx) gL_law_X10_owed rfl (by decide +kernel) ⟨Nat.le_of_ble_eq_true rfl, Nat.le_of_ble_eq_true rfl⟩ hM.obj rfl rfl rfl (Nat.le_of_ble_eq_true rfl) (by show cells + 1 + 0 ≤ 601024; omega) (by show slots + 6 + 0 ≤ 7293034; omega) (fun v h2 hp => ?_)
  obtain ⟨r, hv2, hb2, hg2⟩ := hp
  subst v
  have hJ2 : LK g A Z ad o1 o2 (tCl x) h2 ∧ (tCl x = 0 → F1 0 = (iI r).toInt64) ∧ h2 o1 = h1 o1 ∧ h2 o2 = h1 o2 := by
    by_cases ht : tCl x = 0
    · exact ⟨LK.mk hL ht (hg2 ht).2 (hgood ht).2 (hG) hO1 hO2, fun _ => (by first | (rw [(hgood ht).1, (hg2 ht).1]; done) | (rw [(hgood ht).1, (hg2 ht).1]; rfl)), hL.of (hg2 ht).2⟩
    · exact ⟨LK.mk hL rfl (hb2 ht).2 (hbad ht) hG hO1 hO2, fun y9 => absurd y9 ht, hL.of (hb2 ht).2⟩
  obtain ⟨hJ2, hr, hf2, hf3⟩ := hJ2
  have hJ3 := hJ2
  obtain ⟨mnights, mbits, mleast, mmost, mroom, mreserve, mmount, mspeed, mdata, msize, mends, mmany, mkind, mchain, mholds, mbid, mbound, mcheap, mpromised, mcoin, mpaid, mowed, mturn, misAsking, mwant, mcost, misServed, mitsRow, mitsChunk, hM, hT9, hG9, hF9, hF8⟩ := hJ2
  have hO3 := hf2.trans hO1
  have hO4 := hf3.trans hO2
  dsimp only [Option.toList, List.cons_append, List.nil_append]
  refine r_istore B dL_law_2456 (by decide) (lcat_v rfl rfl) ?_
  refine r_aload_n B dL_law_2458 rfl rfl ?_
  refine r_callV (n := 0) B dL_law_2459 (ct_X10_thrown l g sz0 ad hL.2.1 hM) gL_law_X10_thrown rfl (by decide +kernel) ⟨Nat.le_of_ble_eq_true rfl, Nat.le_of_ble_eq_true rfl⟩ hM.obj rfl rfl rfl (Nat.le_of_ble_eq_true rfl) (by show cells + 1 + 0 + 0 ≤ 601024; omega) (by show slots + 6 + 0 + 0 ≤ 7293034; omega) (fun v h' hp => ?_)
  obtain ⟨hv3, hh3⟩ := hp
  subst v
  subst h'
  dsimp only [Option.toList, List.cons_append, List.nil_append]
  refine r_iload B dL_law_2462 rfl ?_
  refine r_icmp_eqS B dL_law_2464 (tgt := 2469) (by decide) rfl ?_
  refine r_iload B dL_law_2469 rfl ?_
  refine r_if_ne B dL_law_2471 (tgt := 2486) (by decide) hM.i_thrown (fun c2471 => ?_) (fun c2471 => ?_)
  · refine r_goto B dL_law_2486 (tgt := 2502) (by decide) ?_
    refine r_widen (k := cells + 421) (n := slots + 10406) (by show cells + 1 + 0 + 0 ≤ _; omega) (by show slots + 6 + 0 + 0 ≤ _; omega) ?_
    exact r_lv (lvLe_s rfl (lvLe_s rfl (lvLe_s rfl (lvLe_s rfl (lvLe_s rfl (lvLe_s rfl (lvLe_n (lvLe_n (lvLe_n lvLe_nil))))))))) (kont _ _ hJ3)
  · refine r_aload_n B dL_law_2474 rfl rfl ?_
    refine r_iconst B dL_law_2475 ?_
    refine r_lald B dL_law_2476 hO3 (by decide) (by omega) (by omega) ?_
    refine r_iload B dL_law_2477 rfl ?_
    refine r_i2l B dL_law_2479 ?_
    refine r_lcmp B dL_law_2480 ?_
    refine r_if_eqS B dL_law_2481 (tgt := 2486) (by decide) (lgc_self (hr c2471)) ?_
    refine r_goto B dL_law_2486 (tgt := 2502) (by decide) ?_
    refine r_widen (k := cells + 421) (n := slots + 10406) (by show cells + 1 + 0 + 0 ≤ _; omega) (by show slots + 6 + 0 + 0 ≤ _; omega) ?_
    exact r_lv (lvLe_s rfl (lvLe_s rfl (lvLe_s rfl (lvLe_s rfl (lvLe_s rfl (lvLe_s rfl (lvLe_n (lvLe_n (lvLe_n lvLe_nil))))))))) (kont _ _ hJ3)
