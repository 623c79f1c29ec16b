set_option maxHeartbeats 4000000 in
set_option maxRecDepth 100000 in
theorem law_c3 {p : Program} {l : Launch} {e : Env} {s : State} {m : MethodId} {args : Array Value} {below : List Frame} {meth : Method} {c : Code} {Q : State → Prop} {g : GG} {sz0 : Nat} {A ad : Nat → Nat} {Z : Nat → Prop} {o1 o2 bs L : Nat} {xs : Nat → Int32} {h : AH} {T0 i : Int} {cells slots : Nat} (hl0 : l.stackTraces = false) (B : FX p s m args c cL_law RL wsL_law 9 g sz0) (hL : LA A ad o1 o2 Z) (hX : va_X bs L xs s s.heap) (hbl : bs < s.heap.size) (hbA : ¬ A0 sz0 bs) (hLs : L < 2147483000) (hJ : LK g A Z ad o1 o2 T0 h) (i0 : 0 ≤ i) (i5 : i + 5 ≤ (L : Int)) (hc1 : cells + 421 ≤ 601024) (hc2 : slots + 10406 ≤ 7293034) (kont : ∀ (h' : AH) (T' : Int), LK g A Z ad o1 o2 T' h' → WA p l e room_1 s m args below meth c g sz0 9 Q h' (cells + 421) (slots + 10406) [some (.ref bs), some (.ref (A 0)), some (.ref (ad 0)), some (.ref o1), some (.ref o2), some (.int (iI i)), none, none, none] 2502 []) : WA p l e room_1 s m args below meth c g sz0 9 Q h cells slots [some (.ref bs), some (.ref (A 0)), some (.ref (ad 0)), some (.ref o1), some (.ref o2), some (.int (iI i)), none, none, none] 452 [] := by
  obtain ⟨mnights, mbits, mleast, mmost, mroom, mreserve, mmount, mspeed, mdata, msize, mends, mmany, mkind, mchain, mholds, mbid, mbound, mcheap, mpromised, mcoin, mpaid, mowed, mturn, misAsking, mwant, mcost, misServed, mitsRow, mitsChunk, hM, hT, hG, ⟨F, hO⟩, F2, hO2⟩ := hJ
  obtain ⟨fs0, hro⟩ := hT.ro
  obtain ⟨x, ex, qx⟩ : ∃ z : Int, vaZ xs (i + 1) = z ∧ (-2147483648 ≤ z ∧ z < 2147483648) := ⟨_, rfl, vaZ_rng _ _⟩
  obtain ⟨k, ek, qk⟩ : ∃ z : Int, vaZ xs (i + 2) = z ∧ (-2147483648 ≤ z ∧ z < 2147483648) := ⟨_, rfl, vaZ_rng _ _⟩
  obtain ⟨w, ew, qw⟩ : ∃ z : Int, vaZ xs (i + 3) = z ∧ (-2147483648 ≤ z ∧ z < 2147483648) := ⟨_, rfl, vaZ_rng _ _⟩
  obtain ⟨y, ey, qy⟩ : ∃ z : Int, vaZ xs (i + 4) = z ∧ (-2147483648 ≤ z ∧ z < 2147483648) := ⟨_, rfl, vaZ_rng _ _⟩
  refine r_aload_n B dL_law_452 rfl rfl ?_
  refine r_aload_n B dL_law_453 rfl rfl ?_
  refine r_iload B dL_law_454 rfl ?_
  refine r_iconst B dL_law_456 ?_
  refine r_iadd B dL_law_457 ?_
  refine r_sld B hX hbl hbA (by omega) dL_law_458 (by omega) (by omega) ?_
  refine r_topz ex ?_
  refine r_aload_n B dL_law_459 rfl rfl ?_
  refine r_iload B dL_law_460 rfl ?_
  refine r_iconst B dL_law_462 ?_
  refine r_iadd B dL_law_463 ?_
  refine r_sld B hX hbl hbA (by omega) dL_law_464 (by omega) (by omega) ?_
  refine r_topz ek ?_
  refine r_aload_n B dL_law_465 rfl rfl ?_
  refine r_iload B dL_law_466 rfl ?_
  refine r_iconst B dL_law_468 ?_
  refine r_iadd B dL_law_469 ?_
  refine r_sld B hX hbl hbA (by omega) dL_law_470 (by omega) (by omega) ?_
  refine r_topz ew ?_
  refine r_aload_n B dL_law_471 rfl rfl ?_
  refine r_iload B dL_law_472 rfl ?_
  refine r_iconst B dL_law_474 ?_
  refine r_iadd B dL_law_475 ?_
  refine r_sld B hX hbl hbA (by omega) dL_law_476 (by omega) (by omega) ?_
  refine r_topz ey ?_
  refine r_aload_n B dL_law_477 rfl rfl ?_
  refine r_callSW (n := 6) B dL_law_478 (ct_L_copy l g sz0 hL.1 hT hG x k w y hl0 qx qk qw qy hO hL.oZ.1 hL.oA.1) gL_law_L_copy rfl (by decide +kernel) ⟨Nat.le_of_ble_eq_true rfl, Nat.le_of_ble_eq_true rfl⟩ rfl rfl (Nat.le_of_ble_eq_true rfl) (by show cells + 4 ≤ 601024; omega) (by show slots + 24 ≤ 7293034; omega) (fun v h1 hp => ?_)
  obtain ⟨hv1, hf1, F1, hO1, hgood, hbad⟩ := hp
  subst v
  have hM := hL.mw (Or.inl rfl) hM hf1
  have hO2 := (hf1 o2 (sm_ne hO2) hL.oA.2 (fun z => hL.2.2.2.1 z.symm)).trans hO2
  dsimp only [Option.toList, List.cons_append, List.nil_append]
  refine r_istore B dL_law_481 (by decide) (lcat_v rfl rfl) ?_
  refine r_aload_n B dL_law_483 rfl rfl ?_
  refine r_aload_n B dL_law_484 rfl rfl ?_
  refine r_iload B dL_law_485 rfl ?_
  refine r_iconst B dL_law_487 ?_
  refine r_iadd B dL_law_488 ?_
  refine r_sld B hX hbl hbA (by omega) dL_law_489 (by omega) (by omega) ?_
  refine r_topz ex ?_
  refine r_aload_n B dL_law_490 rfl rfl ?_
  refine r_iload B dL_law_491 rfl ?_
  refine r_iconst B dL_law_493 ?_
  refine r_iadd B dL_law_494 ?_
  refine r_sld B hX hbl hbA (by omega) dL_law_495 (by omega) (by omega) ?_
  refine r_topz ek ?_
  refine r_aload_n B dL_law_496 rfl rfl ?_
  refine r_iload B dL_law_497 rfl ?_
  refine r_iconst B dL_law_499 ?_
  refine r_iadd B dL_law_500 ?_
  refine r_sld B hX hbl hbA (by omega) dL_law_501 (by omega) (by omega) ?_
  refine r_topz ew ?_
  refine r_aload_n B dL_law_502 rfl rfl ?_
  refine r_iload B dL_law_503 rfl ?_
  refine r_iconst B dL_law_505 ?_
  refine r_iadd B dL_law_506 ?_
  refine r_sld B hX hbl hbA (by omega) dL_law_507 (by omega) (by omega) ?_
  refine r_topz ey ?_
  refine r_callV (n := 4) B dL_law_508 (ct_X10_copy l g sz0 ad hL.2.1 hM x k w y qx qk qw qy (fun z hz => hG.2.2.2.2.2 (240 + z) (by omega) (by omega))) gL_law_X10_copy rfl (by decide +kernel) ⟨Nat.le_of_ble_eq_true rfl, Nat.le_of_ble_eq_true rfl⟩ hM.obj rfl rfl rfl (Nat.le_of_ble_eq_true rfl) (by show cells + 4 + 0 ≤ 601024; omega) (by show slots + 24 + 0 ≤ 7293034; omega) (fun v h2 hp => ?_)
  obtain ⟨r, hv2, hb2, hg2⟩ := hp
  subst v
  have hJ2 : LK g A Z ad o1 o2 (tCopy x k w y (msize (240 + x)) (msize (240 + y))) h2 ∧ (tCopy x k w y (msize (240 + x)) (msize (240 + y)) = 0 → F1 0 = (iI r).toInt64) ∧ h2 o1 = h1 o1 ∧ h2 o2 = h1 o2 := by
    by_cases ht : tCopy x k w y (msize (240 + x)) (msize (240 + y)) = 0
    · exact ⟨LK.mk hL ht (hg2 ht).2 (hgood ht).2 (hG.size (by have h9 := hG.2.2.2.2.2 (240 + y); unfold tCopy at ht; (repeat' (split at ht)) <;> omega)) hO1 hO2, fun _ => (by first | (rw [(hgood ht).1, (hg2 ht).1]; done) | (rw [(hgood ht).1, (hg2 ht).1]; rfl)), hL.of (hg2 ht).2⟩
    · exact ⟨LK.mk hL rfl (hb2 ht).2 (hbad ht) hG hO1 hO2, fun y9 => absurd y9 ht, hL.of (hb2 ht).2⟩
  obtain ⟨hJ2, hr, hf2, hf3⟩ := hJ2
  have hJ3 := hJ2
  obtain ⟨mnights, mbits, mleast, mmost, mroom, mreserve, mmount, mspeed, mdata, msize, mends, mmany, mkind, mchain, mholds, mbid, mbound, mcheap, mpromised, mcoin, mpaid, mowed, mturn, misAsking, mwant, mcost, misServed, mitsRow, mitsChunk, hM, hT9, hG9, hF9, hF8⟩ := hJ2
  have hO3 := hf2.trans hO1
  have hO4 := hf3.trans hO2
  dsimp only [Option.toList, List.cons_append, List.nil_append]
  refine r_istore B dL_law_511 (by decide) (lcat_v rfl rfl) ?_
  refine r_aload_n B dL_law_513 rfl rfl ?_
  refine r_callV (n := 0) B dL_law_514 (ct_X10_thrown l g sz0 ad hL.2.1 hM) gL_law_X10_thrown rfl (by decide +kernel) ⟨Nat.le_of_ble_eq_true rfl, Nat.le_of_ble_eq_true rfl⟩ hM.obj rfl rfl rfl (Nat.le_of_ble_eq_true rfl) (by show cells + 4 + 0 + 0 ≤ 601024; omega) (by show slots + 24 + 0 + 0 ≤ 7293034; omega) (fun v h' hp => ?_)
  obtain ⟨hv3, hh3⟩ := hp
  subst v
  subst h'
  dsimp only [Option.toList, List.cons_append, List.nil_append]
  refine r_iload B dL_law_517 rfl ?_
  refine r_icmp_eqS B dL_law_519 (tgt := 524) (by decide) rfl ?_
  refine r_iload B dL_law_524 rfl ?_
  refine r_if_ne B dL_law_526 (tgt := 541) (by decide) hM.i_thrown (fun c526 => ?_) (fun c526 => ?_)
  · refine r_goto B dL_law_541 (tgt := 2502) (by decide) ?_
    refine r_widen (k := cells + 421) (n := slots + 10406) (by show cells + 4 + 0 + 0 ≤ _; omega) (by show slots + 24 + 0 + 0 ≤ _; omega) ?_
    exact r_lv (lvLe_s rfl (lvLe_s rfl (lvLe_s rfl (lvLe_s rfl (lvLe_s rfl (lvLe_s rfl (lvLe_n (lvLe_n (lvLe_n lvLe_nil))))))))) (kont _ _ hJ3)
  · refine r_aload_n B dL_law_529 rfl rfl ?_
    refine r_iconst B dL_law_530 ?_
    refine r_lald B dL_law_531 hO3 (by decide) (by omega) (by omega) ?_
    refine r_iload B dL_law_532 rfl ?_
    refine r_i2l B dL_law_534 ?_
    refine r_lcmp B dL_law_535 ?_
    refine r_if_eqS B dL_law_536 (tgt := 541) (by decide) (lgc_self (hr c526)) ?_
    refine r_goto B dL_law_541 (tgt := 2502) (by decide) ?_
    refine r_widen (k := cells + 421) (n := slots + 10406) (by show cells + 4 + 0 + 0 ≤ _; omega) (by show slots + 24 + 0 + 0 ≤ _; omega) ?_
    exact r_lv (lvLe_s rfl (lvLe_s rfl (lvLe_s rfl (lvLe_s rfl (lvLe_s rfl (lvLe_s rfl (lvLe_n (lvLe_n (lvLe_n lvLe_nil))))))))) (kont _ _ hJ3)
set_option maxHeartbeats 4000000 in
set_option maxRecDepth 100000 in
theorem law_c7 {p : Program} {l : Launch} {e : Env} {s : State} {m : MethodId} {args : Array Value} {below : List Frame} {meth : Method} {c : Code} {Q : State → Prop} {g : GG} {sz0 : Nat} {A ad : Nat → Nat} {Z : Nat → Prop} {o1 o2 bs L : Nat} {xs : Nat → Int32} {h : AH} {T0 i : Int} {cells slots : Nat} (hl0 : l.stackTraces = false) (B : FX p s m args c cL_law RL wsL_law 9 g sz0) (hL : LA A ad o1 o2 Z) (hX : va_X bs L xs s s.heap) (hbl : bs < s.heap.size) (hbA : ¬ A0 sz0 bs) (hLs : L < 2147483000) (hJ : LK g A Z ad o1 o2 T0 h) (i0 : 0 ≤ i) (i5 : i + 5 ≤ (L : Int)) (hc1 : cells + 421 ≤ 601024) (hc2 : slots + 10406 ≤ 7293034) (kont : ∀ (h' : AH) (T' : Int), LK g A Z ad o1 o2 T' h' → WA p l e room_1 s m args below meth c g sz0 9 Q h' (cells + 421) (slots + 10406) [some (.ref bs), some (.ref (A 0)), some (.ref (ad 0)), some (.ref o1), some (.ref o2), some (.int (iI i)), none, none, none] 2502 []) : WA p l e room_1 s m args below meth c g sz0 9 Q h cells slots [some (.ref bs), some (.ref (A 0)), some (.ref (ad 0)), some (.ref o1), some (.ref o2), some (.int (iI i)), none, none, none] 723 [] := by
  obtain ⟨mnights, mbits, mleast, mmost, mroom, mreserve, mmount, mspeed, mdata, msize, mends, mmany, mkind, mchain, mholds, mbid, mbound, mcheap, mpromised, mcoin, mpaid, mowed, mturn, misAsking, mwant, mcost, misServed, mitsRow, mitsChunk, hM, hT, hG, ⟨F, hO⟩, F2, hO2⟩ := hJ
  obtain ⟨fs0, hro⟩ := hT.ro
  obtain ⟨x, ex, qx⟩ : ∃ z : Int, vaZ xs (i + 1) = z ∧ (-2147483648 ≤ z ∧ z < 2147483648) := ⟨_, rfl, vaZ_rng _ _⟩
  obtain ⟨y, ey, qy⟩ : ∃ z : Int, vaZ xs (i + 2) = z ∧ (-2147483648 ≤ z ∧ z < 2147483648) := ⟨_, rfl, vaZ_rng _ _⟩
  obtain ⟨z, ez, qz⟩ : ∃ z : Int, vaZ xs (i + 3) = z ∧ (-2147483648 ≤ z ∧ z < 2147483648) := ⟨_, rfl, vaZ_rng _ _⟩
  refine r_aload_n B dL_law_723 rfl rfl ?_
  refine r_aload_n B dL_law_724 rfl rfl ?_
  refine r_iload B dL_law_725 rfl ?_
  refine r_iconst B dL_law_727 ?_
  refine r_iadd B dL_law_728 ?_
  refine r_sld B hX hbl hbA (by omega) dL_law_729 (by omega) (by omega) ?_
  refine r_topz ex ?_
  refine r_aload_n B dL_law_730 rfl rfl ?_
  refine r_iload B dL_law_731 rfl ?_
  refine r_iconst B dL_law_733 ?_
  refine r_iadd B dL_law_734 ?_
  refine r_sld B hX hbl hbA (by omega) dL_law_735 (by omega) (by omega) ?_
  refine r_topz ey ?_
  refine r_aload_n B dL_law_736 rfl rfl ?_
  refine r_iload B dL_law_737 rfl ?_
  refine r_iconst B dL_law_739 ?_
  refine r_iadd B dL_law_740 ?_
  refine r_sld B hX hbl hbA (by omega) dL_law_741 (by omega) (by omega) ?_
  refine r_topz ez ?_
  refine r_callSW (n := 4) B dL_law_742 (ct_L_setMarks l g sz0 hL.1 hT hG x y z hl0 qx qy qz) gL_law_L_setMarks rfl (by decide +kernel) ⟨Nat.le_of_ble_eq_true rfl, Nat.le_of_ble_eq_true rfl⟩ rfl rfl (Nat.le_of_ble_eq_true rfl) (by show cells + 3 ≤ 601024; omega) (by show slots + 18 ≤ 7293034; omega) (fun v h1 hp => ?_)
  obtain ⟨hv1, hf1, hgood, hbad⟩ := hp
  subst v
  have hM := hL.mw (o := o1) (Or.inl rfl) hM (fun q q0 q1 _ => hf1 q q0 q1)
  have hO1 := (hf1 o1 (sm_ne hO) hL.oA.1).trans hO
  have hO2 := (hf1 o2 (sm_ne hO2) hL.oA.2).trans hO2
  dsimp only [Option.toList, List.cons_append, List.nil_append]
  refine r_istore B dL_law_745 (by decide) (lcat_v rfl rfl) ?_
  refine r_aload_n B dL_law_747 rfl rfl ?_
  refine r_aload_n B dL_law_748 rfl rfl ?_
  refine r_iload B dL_law_749 rfl ?_
  refine r_iconst B dL_law_751 ?_
  refine r_iadd B dL_law_752 ?_
  refine r_sld B hX hbl hbA (by omega) dL_law_753 (by omega) (by omega) ?_
  refine r_topz ex ?_
  refine r_aload_n B dL_law_754 rfl rfl ?_
  refine r_iload B dL_law_755 rfl ?_
  refine r_iconst B dL_law_757 ?_
  refine r_iadd B dL_law_758 ?_
  refine r_sld B hX hbl hbA (by omega) dL_law_759 (by omega) (by omega) ?_
  refine r_topz ey ?_
  refine r_aload_n B dL_law_760 rfl rfl ?_
  refine r_iload B dL_law_761 rfl ?_
  refine r_iconst B dL_law_763 ?_
  refine r_iadd B dL_law_764 ?_
  refine r_sld B hX hbl hbA (by omega) dL_law_765 (by omega) (by omega) ?_
  refine r_topz ez ?_
  refine r_callV (n := 3) B dL_law_766 (ct_X10_setMarks l g sz0 ad hL.2.1 hM x y z qx qy qz) gL_law_X10_setMarks rfl (by decide +kernel) ⟨Nat.le_of_ble_eq_true rfl, Nat.le_of_ble_eq_true rfl⟩ hM.obj rfl rfl rfl (Nat.le_of_ble_eq_true rfl) (by show cells + 3 + 0 ≤ 601024; omega) (by show slots + 18 + 0 ≤ 7293034; omega) (fun v h2 hp => ?_)
  obtain ⟨hv2, hb2, hg2⟩ := hp
  subst v
  have hJ2 : LK g A Z ad o1 o2 (tB ((0 ≤ x ∧ x ≤ 8) ∧ (1 ≤ y ∧ y ≤ 16) ∧ (y ≤ z ∧ z ≤ 24))) h2 ∧ (tB ((0 ≤ x ∧ x ≤ 8) ∧ (1 ≤ y ∧ y ≤ 16) ∧ (y ≤ z ∧ z ≤ 24)) = 0 → True) ∧ h2 o1 = h1 o1 ∧ h2 o2 = h1 o2 := by
    by_cases ht : tB ((0 ≤ x ∧ x ≤ 8) ∧ (1 ≤ y ∧ y ≤ 16) ∧ (y ≤ z ∧ z ≤ 24)) = 0
    · exact ⟨LK.mk hL ht (hg2 ht) (hgood ht) (⟨hG.1, (by have h9 := tB_0.mp ht; omega), hG.2.2⟩) hO1 hO2, fun _ => trivial, hL.of (hg2 ht)⟩
    · exact ⟨LK.mk hL rfl (hb2 ht) (hbad ht) hG hO1 hO2, fun y9 => absurd y9 ht, hL.of (hb2 ht)⟩
  obtain ⟨hJ2, hr, hf2, hf3⟩ := hJ2
  have hJ3 := hJ2
  obtain ⟨mnights, mbits, mleast, mmost, mroom, mreserve, mmount, mspeed, mdata, msize, mends, mmany, mkind, mchain, mholds, mbid, mbound, mcheap, mpromised, mcoin, mpaid, mowed, mturn, misAsking, mwant, mcost, misServed, mitsRow, mitsChunk, hM, hT9, hG9, hF9, hF8⟩ := hJ2
  dsimp only [Option.toList, List.cons_append, List.nil_append]
  refine r_aload_n B dL_law_769 rfl rfl ?_
  refine r_callV (n := 0) B dL_law_770 (ct_X10_thrown l g sz0 ad hL.2.1 hM) gL_law_X10_thrown rfl (by decide +kernel) ⟨Nat.le_of_ble_eq_true rfl, Nat.le_of_ble_eq_true rfl⟩ hM.obj rfl rfl rfl (Nat.le_of_ble_eq_true rfl) (by show cells + 3 + 0 + 0 ≤ 601024; omega) (by show slots + 18 + 0 + 0 ≤ 7293034; omega) (fun v h' hp => ?_)
  obtain ⟨hv3, hh3⟩ := hp
  subst v
  subst h'
  dsimp only [Option.toList, List.cons_append, List.nil_append]
  refine r_iload B dL_law_773 rfl ?_
  refine r_icmp_eqS B dL_law_775 (tgt := 780) (by decide) rfl ?_
  refine r_goto B dL_law_780 (tgt := 2502) (by decide) ?_
  refine r_widen (k := cells + 421) (n := slots + 10406) (by show cells + 3 + 0 + 0 ≤ _; omega) (by show slots + 18 + 0 + 0 ≤ _; omega) ?_
  exact r_lv (lvLe_s rfl (lvLe_s rfl (lvLe_s rfl (lvLe_s rfl (lvLe_s rfl (lvLe_s rfl (lvLe_n (lvLe_n (lvLe_n lvLe_nil))))))))) (kont _ _ hJ3)
set_option maxHeartbeats 4000000 in
set_option maxRecDepth 100000 in
theorem law_c11 {p : Program} {l : Launch} {e : Env} {s : State} {m : MethodId} {args : Array Value} {below : List Frame} {meth : Method} {c : Code} {Q : State → Prop} {g : GG} {sz0 : Nat} {A ad : Nat → Nat} {Z : Nat → Prop} {o1 o2 bs L : Nat} {xs : Nat → Int32} {h : AH} {T0 i : Int} {cells slots : Nat} (hl0 : l.stackTraces = false) (B : FX p s m args c cL_law RL wsL_law 9 g sz0) (hL : LA A ad o1 o2 Z) (hX : va_X bs L xs s s.heap) (hbl : bs < s.heap.size) (hbA : ¬ A0 sz0 bs) (hLs : L < 2147483000) (hJ : LK g A Z ad o1 o2 T0 h) (i0 : 0 ≤ i) (i5 : i + 5 ≤ (L : Int)) (hc1 : cells + 421 ≤ 601024) (hc2 : slots + 10406 ≤ 7293034) (kont : ∀ (h' : AH) (T' : Int), LK g A Z ad o1 o2 T' h' → WA p l e room_1 s m args below meth c g sz0 9 Q h' (cells + 421) (slots + 10406) [some (.ref bs), some (.ref (A 0)), some (.ref (ad 0)), some (.ref o1), some (.ref o2), some (.int (iI i)), none, none, none] 2502 []) : WA p l e room_1 s m args below meth c g sz0 9 Q h cells slots [some (.ref bs), some (.ref (A 0)), some (.ref (ad 0)), some (.ref o1), some (.ref o2), some (.int (iI i)), none, none, none] 975 [] := by
  obtain ⟨mnights, mbits, mleast, mmost, mroom, mreserve, mmount, mspeed, mdata, msize, mends, mmany, mkind, mchain, mholds, mbid, mbound, mcheap, mpromised, mcoin, mpaid, mowed, mturn, misAsking, mwant, mcost, misServed, mitsRow, mitsChunk, hM, hT, hG, ⟨F, hO⟩, F2, hO2⟩ := hJ
  obtain ⟨fs0, hro⟩ := hT.ro
  refine r_aload_n B dL_law_975 rfl rfl ?_
  refine r_callV (n := 0) B dL_law_976 (ct_X9_store l g sz0 hL.1 hT hG) gL_law_X9_store rfl (by decide +kernel) ⟨Nat.le_of_ble_eq_true rfl, Nat.le_of_ble_eq_true rfl⟩ hro rfl rfl rfl (Nat.le_of_ble_eq_true rfl) (by show cells + 0 ≤ 601024; omega) (by show slots + 0 ≤ 7293034; omega) (fun v h1 hp => ?_)
  obtain ⟨n9, hv1, hn9, hT1⟩ := hp
  subst v
  have hM := hL.mw (o := o1) (Or.inl rfl) hM (fun q q0 q1 _ => hT1.fr q q0 q1)
  have hO1 := (hT1.fr o1 (sm_ne hO) hL.oA.1).trans hO
  have hO2 := (hT1.fr o2 (sm_ne hO2) hL.oA.2).trans hO2
  have hT1 := hT1.base
  dsimp only [Option.toList, List.cons_append, List.nil_append]
  refine r_aload_n B dL_law_979 rfl rfl ?_
  refine r_callV (n := 0) B dL_law_980 (ct_X10_store l g sz0 ad hL.2.1 hM   hT.lko) gL_law_X10_store rfl (by decide +kernel) ⟨Nat.le_of_ble_eq_true rfl, Nat.le_of_ble_eq_true rfl⟩ hM.obj rfl rfl rfl (Nat.le_of_ble_eq_true rfl) (by show cells + 0 + 0 ≤ 601024; omega) (by show slots + 0 + 0 ≤ 7293034; omega) (fun v h2 hp => ?_)
  obtain ⟨iR, iC, L9, hnd, hmem, hv2, hM2⟩ := hp
  subst v
  have hJ3 := LK.mk hL rfl hM2 hT1 hG hO1 hO2
  have eq9 : iI n9 = iI (L9.length : Int) := by rw [hn9 L9 hnd hmem]
  dsimp only [Option.toList, List.cons_append, List.nil_append]
  refine r_icmp_eqS B dL_law_983 (tgt := 2502) (by decide) eq9 ?_
  refine r_widen (k := cells + 421) (n := slots + 10406) (by show cells + 0 + 0 ≤ _; omega) (by show slots + 0 + 0 ≤ _; omega) ?_
  exact r_lv (lvLe_s rfl (lvLe_s rfl (lvLe_s rfl (lvLe_s rfl (lvLe_s rfl (lvLe_s rfl (lvLe_n (lvLe_n (lvLe_n lvLe_nil))))))))) (kont _ _ hJ3)
set_option maxHeartbeats 4000000 in
set_option maxRecDepth 100000 in
theorem law_c15 {p : Program} {l : Launch} {e : Env} {s : State} {m : MethodId} {args : Array Value} {below : List Frame} {meth : Method} {c : Code} {Q : State → Prop} {g : GG} {sz0 : Nat} {A ad : Nat → Nat} {Z : Nat → Prop} {o1 o2 bs L : Nat} {xs : Nat → Int32} {h : AH} {T0 i : Int} {cells slots : Nat} (hl0 : l.stackTraces = false) (B : FX p s m args c cL_law RL wsL_law 9 g sz0) (hL : LA A ad o1 o2 Z) (hX : va_X bs L xs s s.heap) (hbl : bs < s.heap.size) (hbA : ¬ A0 sz0 bs) (hLs : L < 2147483000) (hJ : LK g A Z ad o1 o2 T0 h) (i0 : 0 ≤ i) (i5 : i + 5 ≤ (L : Int)) (hc1 : cells + 421 ≤ 601024) (hc2 : slots + 10406 ≤ 7293034) (kont : ∀ (h' : AH) (T' : Int), LK g A Z ad o1 o2 T' h' → WA p l e room_1 s m args below meth c g sz0 9 Q h' (cells + 421) (slots + 10406) [some (.ref bs), some (.ref (A 0)), some (.ref (ad 0)), some (.ref o1), some (.ref o2), some (.int (iI i)), none, none, none] 2502 []) : WA p l e room_1 s m args below meth c g sz0 9 Q h cells slots [some (.ref bs), some (.ref (A 0)), some (.ref (ad 0)), some (.ref o1), some (.ref o2), some (.int (iI i)), none, none, none] 1164 [] := by
  obtain ⟨mnights, mbits, mleast, mmost, mroom, mreserve, mmount, mspeed, mdata, msize, mends, mmany, mkind, mchain, mholds, mbid, mbound, mcheap, mpromised, mcoin, mpaid, mowed, mturn, misAsking, mwant, mcost, misServed, mitsRow, mitsChunk, hM, hT, hG, ⟨F, hO⟩, F2, hO2⟩ := hJ
  obtain ⟨fs0, hro⟩ := hT.ro
  obtain ⟨x, ex, qx⟩ : ∃ z : Int, vaZ xs (i + 1) = z ∧ (-2147483648 ≤ z ∧ z < 2147483648) := ⟨_, rfl, vaZ_rng _ _⟩
  refine r_aload_n B dL_law_1164 rfl rfl ?_
  refine r_aload_n B dL_law_1165 rfl rfl ?_
  refine r_iload B dL_law_1166 rfl ?_
  refine r_iconst B dL_law_1168 ?_
  refine r_iadd B dL_law_1169 ?_
  refine r_sld B hX hbl hbA (by omega) dL_law_1170 (by omega) (by omega) ?_
  refine r_topz ex ?_
  refine r_aload_n B dL_law_1171 rfl rfl ?_
  refine r_callSW (n := 3) B dL_law_1172 (ct_L_forBase l g sz0 hL.1 hT hG x hl0 qx hO hL.oZ.1 hL.oA.1) gL_law_L_forBase rfl (by decide +kernel) ⟨Nat.le_of_ble_eq_true rfl, Nat.le_of_ble_eq_true rfl⟩ rfl rfl (Nat.le_of_ble_eq_true rfl) (by show cells + 1 ≤ 601024; omega) (by show slots + 6 ≤ 7293034; omega) (fun v h1 hp => ?_)
  obtain ⟨hv1, hf1, F1, hO1, hgood, hbad⟩ := hp
  subst v
  have hM := hL.mw (Or.inl rfl) hM hf1
  have hO2 := (hf1 o2 (sm_ne hO2) hL.oA.2 (fun z => hL.2.2.2.1 z.symm)).trans hO2
  dsimp only [Option.toList, List.cons_append, List.nil_append]
  refine r_istore B dL_law_1175 (by decide) (lcat_v rfl rfl) ?_
  refine r_aload_n B dL_law_1177 rfl rfl ?_
  refine r_aload_n B dL_law_1178 rfl rfl ?_
  refine r_iload B dL_law_1179 rfl ?_
  refine r_iconst B dL_law_1181 ?_
  refine r_iadd B dL_law_1182 ?_
  refine r_sld B hX hbl hbA (by omega) dL_law_1183 (by omega) (by omega) ?_
  refine r_topz ex ?_
  refine r_callV (n := 1) B dL_law_1184 (ct_X10_forBase l g sz0 ad hL.2.1 hM x qx (fun z hz => hG.2.2.2.2.2 (240 + z) (by omega) (by omega))) gL_law_X10_forBase rfl (by decide +kernel) ⟨Nat.le_of_ble_eq_true rfl, Nat.le_of_ble_eq_true rfl⟩ hM.obj rfl rfl rfl (Nat.le_of_ble_eq_true rfl) (by show cells + 1 + 0 ≤ 601024; omega) (by show slots + 6 + 0 ≤ 7293034; omega) (fun v h2 hp => ?_)
  obtain ⟨r, hv2, hb2, hg2⟩ := hp
  subst v
  have hJ2 : LK g A Z ad o1 o2 (tCl x) h2 ∧ (tCl x = 0 → F1 0 = (iI r).toInt64) ∧ h2 o1 = h1 o1 ∧ h2 o2 = h1 o2 := by
    by_cases ht : tCl x = 0
    · have hn48 : (cutR (rowF mdata (240 + x)) (msize (240 + x)) mbits mleast mmost).2.1 ≤ 48 := by
        have hs9 := hG.2.2.2.2.2 (240 + x) (by unfold tCl at ht; (repeat' (split at ht)) <;> omega) (by unfold tCl at ht; (repeat' (split at ht)) <;> omega)
        have h9 := cutR_ok (rowF mdata (240 + x)) (b := mbits) (ls := mleast) (ms := mmost) hs9.1 hs9.2
        omega
      exact ⟨LK.mk hL ht (hg2 ht).2 (ST.lke hG.1 (hgood ht).2 (lk_put mends mmany _ (by unfold tCl at ht; (repeat' (split at ht)) <;> omega) hn48)) (hG) hO1 hO2, fun _ => (by first | (rw [(hgood ht).1, (hg2 ht).1]; done) | (rw [(hgood ht).1, (hg2 ht).1]; rfl)), hL.of (hg2 ht).2⟩
    · exact ⟨LK.mk hL rfl (hb2 ht).2 (hbad ht) hG hO1 hO2, fun y9 => absurd y9 ht, hL.of (hb2 ht).2⟩
  obtain ⟨hJ2, hr, hf2, hf3⟩ := hJ2
  have hJ3 := hJ2
  obtain ⟨mnights, mbits, mleast, mmost, mroom, mreserve, mmount, mspeed, mdata, msize, mends, mmany, mkind, mchain, mholds, mbid, mbound, mcheap, mpromised, mcoin, mpaid, mowed, mturn, misAsking, mwant, mcost, misServed, mitsRow, mitsChunk, hM, hT9, hG9, hF9, hF8⟩ := hJ2
  have hO3 := hf2.trans hO1
  have hO4 := hf3.trans hO2
  dsimp only [Option.toList, List.cons_append, List.nil_append]
  refine r_istore B dL_law_1187 (by decide) (lcat_v rfl rfl) ?_
  refine r_aload_n B dL_law_1189 rfl rfl ?_
  refine r_callV (n := 0) B dL_law_1190 (ct_X10_thrown l g sz0 ad hL.2.1 hM) gL_law_X10_thrown rfl (by decide +kernel) ⟨Nat.le_of_ble_eq_true rfl, Nat.le_of_ble_eq_true rfl⟩ hM.obj rfl rfl rfl (Nat.le_of_ble_eq_true rfl) (by show cells + 1 + 0 + 0 ≤ 601024; omega) (by show slots + 6 + 0 + 0 ≤ 7293034; omega) (fun v h' hp => ?_)
  obtain ⟨hv3, hh3⟩ := hp
  subst v
  subst h'
  dsimp only [Option.toList, List.cons_append, List.nil_append]
  refine r_iload B dL_law_1193 rfl ?_
  refine r_icmp_eqS B dL_law_1195 (tgt := 1200) (by decide) rfl ?_
  refine r_iload B dL_law_1200 rfl ?_
  refine r_if_ne B dL_law_1202 (tgt := 1217) (by decide) hM.i_thrown (fun c1202 => ?_) (fun c1202 => ?_)
  · refine r_goto B dL_law_1217 (tgt := 2502) (by decide) ?_
    refine r_widen (k := cells + 421) (n := slots + 10406) (by show cells + 1 + 0 + 0 ≤ _; omega) (by show slots + 6 + 0 + 0 ≤ _; omega) ?_
    exact r_lv (lvLe_s rfl (lvLe_s rfl (lvLe_s rfl (lvLe_s rfl (lvLe_s rfl (lvLe_s rfl (lvLe_n (lvLe_n (lvLe_n lvLe_nil))))))))) (kont _ _ hJ3)
  · refine r_aload_n B dL_law_1205 rfl rfl ?_
    refine r_iconst B dL_law_1206 ?_
    refine r_lald B dL_law_1207 hO3 (by decide) (by omega) (by omega) ?_
    refine r_iload B dL_law_1208 rfl ?_
    refine r_i2l B dL_law_1210 ?_
    refine r_lcmp B dL_law_1211 ?_
    refine r_if_eqS B dL_law_1212 (tgt := 1217) (by decide) (lgc_self (hr c1202)) ?_
    refine r_goto B dL_law_1217 (tgt := 2502) (by decide) ?_
    refine r_widen (k := cells + 421) (n := slots + 10406) (by show cells + 1 + 0 + 0 ≤ _; omega) (by show slots + 6 + 0 + 0 ≤ _; omega) ?_
    exact r_lv (lvLe_s rfl (lvLe_s rfl (lvLe_s rfl (lvLe_s rfl (lvLe_s rfl (lvLe_s rfl (lvLe_n (lvLe_n (lvLe_n lvLe_nil))))))))) (kont _ _ hJ3)
set_option maxHeartbeats 4000000 in
set_option maxRecDepth 100000 in
theorem law_c19 {p : Program} {l : Launch} {e : Env} {s : State} {m : MethodId} {args : Array Value} {below : List Frame} {meth : Method} {c : Code} {Q : State → Prop} {g : GG} {sz0 : Nat} {A ad : Nat → Nat} {Z : Nat → Prop} {o1 o2 bs L : Nat} {xs : Nat → Int32} {h : AH} {T0 i : Int} {cells slots : Nat} (hl0 : l.stackTraces = false) (B : FX p s m args c cL_law RL wsL_law 9 g sz0) (hL : LA A ad o1 o2 Z) (hX : va_X bs L xs s s.heap) (hbl : bs < s.heap.size) (hbA : ¬ A0 sz0 bs) (hLs : L < 2147483000) (hJ : LK g A Z ad o1 o2 T0 h) (i0 : 0 ≤ i) (i5 : i + 5 ≤ (L : Int)) (hc1 : cells + 421 ≤ 601024) (hc2 : slots + 10406 ≤ 7293034) (kont : ∀ (h' : AH) (T' : Int), LK g A Z ad o1 o2 T' h' → WA p l e room_1 s m args below meth c g sz0 9 Q h' (cells + 421) (slots + 10406) [some (.ref bs), some (.ref (A 0)), some (.ref (ad 0)), some (.ref o1), some (.ref o2), some (.int (iI i)), none, none, none] 2502 []) : WA p l e room_1 s m args below meth c g sz0 9 Q h cells slots [some (.ref bs), some (.ref (A 0)), some (.ref (ad 0)), some (.ref o1), some (.ref o2), some (.int (iI i)), none, none, none] 1376 [] := by
  obtain ⟨mnights, mbits, mleast, mmost, mroom, mreserve, mmount, mspeed, mdata, msize, mends, mmany, mkind, mchain, mholds, mbid, mbound, mcheap, mpromised, mcoin, mpaid, mowed, mturn, misAsking, mwant, mcost, misServed, mitsRow, mitsChunk, hM, hT, hG, ⟨F, hO⟩, F2, hO2⟩ := hJ
  obtain ⟨fs0, hro⟩ := hT.ro
  refine r_aload_n B dL_law_1376 rfl rfl ?_
  refine r_callV (n := 0) B dL_law_1377 (ct_X9_nights l g sz0 hL.1 hT hG) gL_law_X9_nights rfl (by decide +kernel) ⟨Nat.le_of_ble_eq_true rfl, Nat.le_of_ble_eq_true rfl⟩ hro rfl rfl rfl (Nat.le_of_ble_eq_true rfl) (by show cells + 0 ≤ 601024; omega) (by show slots + 0 ≤ 7293034; omega) (fun v h1 hp => ?_)
  obtain ⟨hv1, hT1⟩ := hp
  subst v
  have hM := hL.mw (o := o1) (Or.inl rfl) hM (fun q q0 q1 _ => hT1.fr q q0 q1)
  have hO1 := (hT1.fr o1 (sm_ne hO) hL.oA.1).trans hO
  have hO2 := (hT1.fr o2 (sm_ne hO2) hL.oA.2).trans hO2
  have hT1 := hT1.base
  dsimp only [Option.toList, List.cons_append, List.nil_append]
  refine r_aload_n B dL_law_1380 rfl rfl ?_
  refine r_callV (n := 0) B dL_law_1381 (ct_X10_nights l g sz0 ad hL.2.1 hM) gL_law_X10_nights rfl (by decide +kernel) ⟨Nat.le_of_ble_eq_true rfl, Nat.le_of_ble_eq_true rfl⟩ hM.obj rfl rfl rfl (Nat.le_of_ble_eq_true rfl) (by show cells + 0 + 0 ≤ 601024; omega) (by show slots + 0 + 0 ≤ 7293034; omega) (fun v h2 hp => ?_)
  obtain ⟨hv2, hM2⟩ := hp
  subst v
  have hJ3 := LK.mk hL rfl hM2 hT1 hG hO1 hO2
  dsimp only [Option.toList, List.cons_append, List.nil_append]
  refine r_icmp_eqS B dL_law_1384 (tgt := 2502) (by decide) rfl ?_
  refine r_widen (k := cells + 421) (n := slots + 10406) (by show cells + 0 + 0 ≤ _; omega) (by show slots + 0 + 0 ≤ _; omega) ?_
  exact r_lv (lvLe_s rfl (lvLe_s rfl (lvLe_s rfl (lvLe_s rfl (lvLe_s rfl (lvLe_s rfl (lvLe_n (lvLe_n (lvLe_n lvLe_nil))))))))) (kont _ _ hJ3)
set_option maxHeartbeats 4000000 in
set_option maxRecDepth 100000 in
theorem law_c23 {p : Program} {l : Launch} {e : Env} {s : State} {m : MethodId} {args : Array Value} {below : List Frame} {meth : Method} {c : Code} {Q : State → Prop} {g : GG} {sz0 : Nat} {A ad : Nat → Nat} {Z : Nat → Prop} {o1 o2 bs L : Nat} {xs : Nat → Int32} {h : AH} {T0 i : Int} {cells slots : Nat} (hl0 : l.stackTraces = false) (B : FX p s m args c cL_law RL wsL_law 9 g sz0) (hL : LA A ad o1 o2 Z) (hX : va_X bs L xs s s.heap) (hbl : bs < s.heap.size) (hbA : ¬ A0 sz0 bs) (hLs : L < 2147483000) (hJ : LK g A Z ad o1 o2 T0 h) (i0 : 0 ≤ i) (i5 : i + 5 ≤ (L : Int)) (hc1 : cells + 421 ≤ 601024) (hc2 : slots + 10406 ≤ 7293034) (kont : ∀ (h' : AH) (T' : Int), LK g A Z ad o1 o2 T' h' → WA p l e room_1 s m args below meth c g sz0 9 Q h' (cells + 421) (slots + 10406) [some (.ref bs), some (.ref (A 0)), some (.ref (ad 0)), some (.ref o1), some (.ref o2), some (.int (iI i)), none, none, none] 2502 []) : WA p l e room_1 s m args below meth c g sz0 9 Q h cells slots [some (.ref bs), some (.ref (A 0)), some (.ref (ad 0)), some (.ref o1), some (.ref o2), some (.int (iI i)), none, none, none] 1581 [] := by
  obtain ⟨mnights, mbits, mleast, mmost, mroom, mreserve, mmount, mspeed, mdata, msize, mends, mmany, mkind, mchain, mholds, mbid, mbound, mcheap, mpromised, mcoin, mpaid, mowed, mturn, misAsking, mwant, mcost, misServed, mitsRow, mitsChunk, hM, hT, hG, ⟨F, hO⟩, F2, hO2⟩ := hJ
  obtain ⟨fs0, hro⟩ := hT.ro
  obtain ⟨x, ex, qx⟩ : ∃ z : Int, vaZ xs (i + 1) = z ∧ (-2147483648 ≤ z ∧ z < 2147483648) := ⟨_, rfl, vaZ_rng _ _⟩
  obtain ⟨k, ek, qk⟩ : ∃ z : Int, vaZ xs (i + 2) = z ∧ (-2147483648 ≤ z ∧ z < 2147483648) := ⟨_, rfl, vaZ_rng _ _⟩
  refine r_aload_n B dL_law_1581 rfl rfl ?_
  refine r_aload_n B dL_law_1582 rfl rfl ?_
  refine r_iload B dL_law_1583 rfl ?_
  refine r_iconst B dL_law_1585 ?_
  refine r_iadd B dL_law_1586 ?_
  refine r_sld B hX hbl hbA (by omega) dL_law_1587 (by omega) (by omega) ?_
  refine r_topz ex ?_
  refine r_aload_n B dL_law_1588 rfl rfl ?_
  refine r_iload B dL_law_1589 rfl ?_
  refine r_iconst B dL_law_1591 ?_
  refine r_iadd B dL_law_1592 ?_
  refine r_sld B hX hbl hbA (by omega) dL_law_1593 (by omega) (by omega) ?_
  refine r_topz ek ?_
  refine r_aload_n B dL_law_1594 rfl rfl ?_
  refine r_callSW (n := 4) B dL_law_1595 (ct_L_bytes l g sz0 hL.1 hT hG x k hl0 qx qk hO hL.oZ.1 hL.oA.1) gL_law_L_bytes rfl (by decide +kernel) ⟨Nat.le_of_ble_eq_true rfl, Nat.le_of_ble_eq_true rfl⟩ rfl rfl (Nat.le_of_ble_eq_true rfl) (by show cells + 3 ≤ 601024; omega) (by show slots + 18 ≤ 7293034; omega) (fun v h1 hp => ?_)
  obtain ⟨hv1, hf1, F1, hO1, hgood, hbad⟩ := hp
  subst v
  have hM := hL.mw (Or.inl rfl) hM hf1
  have hO2 := (hf1 o2 (sm_ne hO2) hL.oA.2 (fun z => hL.2.2.2.1 z.symm)).trans hO2
  dsimp only [Option.toList, List.cons_append, List.nil_append]
  refine r_istore B dL_law_1598 (by decide) (lcat_v rfl rfl) ?_
  refine r_aload_n B dL_law_1600 rfl rfl ?_
  refine r_aload_n B dL_law_1601 rfl rfl ?_
  refine r_iload B dL_law_1602 rfl ?_
  refine r_iconst B dL_law_1604 ?_
  refine r_iadd B dL_law_1605 ?_
  refine r_sld B hX hbl hbA (by omega) dL_law_1606 (by omega) (by omega) ?_
  refine r_topz ex ?_
  refine r_aload_n B dL_law_1607 rfl rfl ?_
  refine r_iload B dL_law_1608 rfl ?_
  refine r_iconst B dL_law_1610 ?_
  refine r_iadd B dL_law_1611 ?_
  refine r_sld B hX hbl hbA (by omega) dL_law_1612 (by omega) (by omega) ?_
  refine r_topz ek ?_
  refine r_callV (n := 2) B dL_law_1613 (ct_X10_bytes l g sz0 ad hL.2.1 hM x k qx qk hG.1 hT.lko) gL_law_X10_bytes rfl (by decide +kernel) ⟨Nat.le_of_ble_eq_true rfl, Nat.le_of_ble_eq_true rfl⟩ hM.obj rfl rfl rfl (Nat.le_of_ble_eq_true rfl) (by show cells + 3 + 0 ≤ 601024; omega) (by show slots + 18 + 0 ≤ 7293034; omega) (fun v h2 hp => ?_)
  obtain ⟨r, hv2, hb2, hg2⟩ := hp
  subst v
  have hJ2 : LK g A Z ad o1 o2 (tAsk x k mnights (mkind (60 * x + k))) h2 ∧ (tAsk x k mnights (mkind (60 * x + k)) = 0 → F1 0 = (iI r).toInt64) ∧ h2 o1 = h1 o1 ∧ h2 o2 = h1 o2 := by
    by_cases ht : tAsk x k mnights (mkind (60 * x + k)) = 0
    · exact ⟨LK.mk hL ht (hg2 ht).2 (hgood ht).2 (hG) hO1 hO2, fun _ => (by first | (rw [(hgood ht).1, (hg2 ht).1]; done) | (rw [(hgood ht).1, (hg2 ht).1]; rfl)), hL.of (hg2 ht).2⟩
    · exact ⟨LK.mk hL rfl (hb2 ht).2 (hbad ht) hG hO1 hO2, fun y9 => absurd y9 ht, hL.of (hb2 ht).2⟩
  obtain ⟨hJ2, hr, hf2, hf3⟩ := hJ2
  have hJ3 := hJ2
  obtain ⟨mnights, mbits, mleast, mmost, mroom, mreserve, mmount, mspeed, mdata, msize, mends, mmany, mkind, mchain, mholds, mbid, mbound, mcheap, mpromised, mcoin, mpaid, mowed, mturn, misAsking, mwant, mcost, misServed, mitsRow, mitsChunk, hM, hT9, hG9, hF9, hF8⟩ := hJ2
  have hO3 := hf2.trans hO1
  have hO4 := hf3.trans hO2
  dsimp only [Option.toList, List.cons_append, List.nil_append]
  refine r_istore B dL_law_1616 (by decide) (lcat_v rfl rfl) ?_
  refine r_aload_n B dL_law_1618 rfl rfl ?_
  refine r_callV (n := 0) B dL_law_1619 (ct_X10_thrown l g sz0 ad hL.2.1 hM) gL_law_X10_thrown rfl (by decide +kernel) ⟨Nat.le_of_ble_eq_true rfl, Nat.le_of_ble_eq_true rfl⟩ hM.obj rfl rfl rfl (Nat.le_of_ble_eq_true rfl) (by show cells + 3 + 0 + 0 ≤ 601024; omega) (by show slots + 18 + 0 + 0 ≤ 7293034; omega) (fun v h' hp => ?_)
  obtain ⟨hv3, hh3⟩ := hp
  subst v
  subst h'
  dsimp only [Option.toList, List.cons_append, List.nil_append]
  refine r_iload B dL_law_1622 rfl ?_
  refine r_icmp_eqS B dL_law_1624 (tgt := 1629) (by decide) rfl ?_
  refine r_iload B dL_law_1629 rfl ?_
  refine r_if_ne B dL_law_1631 (tgt := 1646) (by decide) hM.i_thrown (fun c1631 => ?_) (fun c1631 => ?_)
  · refine r_goto B dL_law_1646 (tgt := 2502) (by decide) ?_
    refine r_widen (k := cells + 421) (n := slots + 10406) (by show cells + 3 + 0 + 0 ≤ _; omega) (by show slots + 18 + 0 + 0 ≤ _; omega) ?_
    exact r_lv (lvLe_s rfl (lvLe_s rfl (lvLe_s rfl (lvLe_s rfl (lvLe_s rfl (lvLe_s rfl (lvLe_n (lvLe_n (lvLe_n lvLe_nil))))))))) (kont _ _ hJ3)
  · refine r_aload_n B dL_law_1634 rfl rfl ?_
    refine r_iconst B dL_law_1635 ?_
    refine r_lald B dL_law_1636 hO3 (by decide) (by omega) (by omega) ?_
    refine r_iload B dL_law_1637 rfl ?_
    refine r_i2l B dL_law_1639 ?_
    refine r_lcmp B dL_law_1640 ?_
    refine r_if_eqS B dL_law_1641 (tgt := 1646) (by decide) (lgc_self (hr c1631)) ?_
    refine r_goto B dL_law_1646 (tgt := 2502) (by decide) ?_
    refine r_widen (k := cells + 421) (n := slots + 10406) (by show cells + 3 + 0 + 0 ≤ _; omega) (by show slots + 18 + 0 + 0 ≤ _; omega) ?_
    exact r_lv (lvLe_s rfl (lvLe_s rfl (lvLe_s rfl (lvLe_s rfl (lvLe_s rfl (lvLe_s rfl (lvLe_n (lvLe_n (lvLe_n lvLe_nil))))))))) (kont _ _ hJ3)
set_option maxHeartbeats 4000000 in
set_option maxRecDepth 100000 in
theorem law_c27 {p : Program} {l : Launch} {e : Env} {s : State} {m : MethodId} {args : Array Value} {below : List Frame} {meth : Method} {c : Code} {Q : State → Prop} {g : GG} {sz0 : Nat} {A ad : Nat → Nat} {Z : Nat → Prop} {o1 o2 bs L : Nat} {xs : Nat → Int32} {h : AH} {T0 i : Int} {cells slots : Nat} (hl0 : l.stackTraces = false) (B : FX p s m args c cL_law RL wsL_law 9 g sz0) (hL : LA A ad o1 o2 Z) (hX : va_X bs L xs s s.heap) (hbl : bs < s.heap.size) (hbA : ¬ A0 sz0 bs) (hLs : L < 2147483000) (hJ : LK g A Z ad o1 o2 T0 h) (i0 : 0 ≤ i) (i5 : i + 5 ≤ (L : Int)) (hc1 : cells + 421 ≤ 601024) (hc2 : slots + 10406 ≤ 7293034) (kont : ∀ (h' : AH) (T' : Int), LK g A Z ad o1 o2 T' h' → WA p l e room_1 s m args below meth c g sz0 9 Q h' (cells + 421) (slots + 10406) [some (.ref bs), some (.ref (A 0)), some (.ref (ad 0)), some (.ref o1), some (.ref o2), some (.int (iI i)), none, none, none] 2502 []) : WA p l e room_1 s m args below meth c g sz0 9 Q h cells slots [some (.ref bs), some (.ref (A 0)), some (.ref (ad 0)), some (.ref o1), some (.ref o2), some (.int (iI i)), none, none, none] 1852 [] := by
  obtain ⟨mnights, mbits, mleast, mmost, mroom, mreserve, mmount, mspeed, mdata, msize, mends, mmany, mkind, mchain, mholds, mbid, mbound, mcheap, mpromised, mcoin, mpaid, mowed, mturn, misAsking, mwant, mcost, misServed, mitsRow, mitsChunk, hM, hT, hG, ⟨F, hO⟩, F2, hO2⟩ := hJ
  obtain ⟨fs0, hro⟩ := hT.ro
  obtain ⟨x, ex, qx⟩ : ∃ z : Int, vaZ xs (i + 1) = z ∧ (-2147483648 ≤ z ∧ z < 2147483648) := ⟨_, rfl, vaZ_rng _ _⟩
  obtain ⟨k, ek, qk⟩ : ∃ z : Int, vaZ xs (i + 2) = z ∧ (-2147483648 ≤ z ∧ z < 2147483648) := ⟨_, rfl, vaZ_rng _ _⟩
  refine r_aload_n B dL_law_1852 rfl rfl ?_
  refine r_aload_n B dL_law_1853 rfl rfl ?_
  refine r_iload B dL_law_1854 rfl ?_
  refine r_iconst B dL_law_1856 ?_
  refine r_iadd B dL_law_1857 ?_
  refine r_sld B hX hbl hbA (by omega) dL_law_1858 (by omega) (by omega) ?_
  refine r_topz ex ?_
  refine r_aload_n B dL_law_1859 rfl rfl ?_
  refine r_iload B dL_law_1860 rfl ?_
  refine r_iconst B dL_law_1862 ?_
  refine r_iadd B dL_law_1863 ?_
  refine r_sld B hX hbl hbA (by omega) dL_law_1864 (by omega) (by omega) ?_
  refine r_topz ek ?_
  refine r_aload_n B dL_law_1865 rfl rfl ?_
  refine r_callSW (n := 4) B dL_law_1866 (ct_L_digestByChunks l g sz0 hL.1 hT hG x k hl0 qx qk hO hL.oZ.1 hL.oA.1) gL_law_L_digestByChunks rfl (by decide +kernel) ⟨Nat.le_of_ble_eq_true rfl, Nat.le_of_ble_eq_true rfl⟩ rfl rfl (Nat.le_of_ble_eq_true rfl) (by show cells + 3 ≤ 601024; omega) (by show slots + 18 ≤ 7293034; omega) (fun v h1 hp => ?_)
  obtain ⟨hv1, hf1, F1, hO1, hgood, hbad⟩ := hp
  subst v
  have hM := hL.mw (Or.inl rfl) hM hf1
  have hO2 := (hf1 o2 (sm_ne hO2) hL.oA.2 (fun z => hL.2.2.2.1 z.symm)).trans hO2
  dsimp only [Option.toList, List.cons_append, List.nil_append]
  refine r_istore B dL_law_1869 (by decide) (lcat_v rfl rfl) ?_
  refine r_aload_n B dL_law_1871 rfl rfl ?_
  refine r_aload_n B dL_law_1872 rfl rfl ?_
  refine r_iload B dL_law_1873 rfl ?_
  refine r_iconst B dL_law_1875 ?_
  refine r_iadd B dL_law_1876 ?_
  refine r_sld B hX hbl hbA (by omega) dL_law_1877 (by omega) (by omega) ?_
  refine r_topz ex ?_
  refine r_aload_n B dL_law_1878 rfl rfl ?_
  refine r_iload B dL_law_1879 rfl ?_
  refine r_iconst B dL_law_1881 ?_
  refine r_iadd B dL_law_1882 ?_
  refine r_sld B hX hbl hbA (by omega) dL_law_1883 (by omega) (by omega) ?_
  refine r_topz ek ?_
  refine r_callV (n := 2) B dL_law_1884 (ct_X10_digestByChunks l g sz0 ad hL.2.1 hM x k qx qk hG.1 hG.2.2.2.2.2) gL_law_X10_digestByChunks rfl (by decide +kernel) ⟨Nat.le_of_ble_eq_true rfl, Nat.le_of_ble_eq_true rfl⟩ hM.obj rfl rfl rfl (Nat.le_of_ble_eq_true rfl) (by show cells + 3 + 0 ≤ 601024; omega) (by show slots + 18 + 0 ≤ 7293034; omega) (fun v h2 hp => ?_)
  obtain ⟨r, hv2, hb2, hg2⟩ := hp
  subst v
  have hJ2 : LK g A Z ad o1 o2 (tAsk x k mnights (mkind (60 * x + k))) h2 ∧ (tAsk x k mnights (mkind (60 * x + k)) = 0 → F1 0 = r) ∧ h2 o1 = h1 o1 ∧ h2 o2 = h1 o2 := by
    by_cases ht : tAsk x k mnights (mkind (60 * x + k)) = 0
    · exact ⟨LK.mk hL ht (hg2 ht).2 (hgood ht).2 (hG) hO1 hO2, fun _ => (by rw [(hgood ht).1, (hg2 ht).1]), hL.of (hg2 ht).2⟩
    · exact ⟨LK.mk hL rfl (hb2 ht).2 (hbad ht) hG hO1 hO2, fun y9 => absurd y9 ht, hL.of (hb2 ht).2⟩
  obtain ⟨hJ2, hr, hf2, hf3⟩ := hJ2
  have hJ3 := hJ2
  obtain ⟨mnights, mbits, mleast, mmost, mroom, mreserve, mmount, mspeed, mdata, msize, mends, mmany, mkind, mchain, mholds, mbid, mbound, mcheap, mpromised, mcoin, mpaid, mowed, mturn, misAsking, mwant, mcost, misServed, mitsRow, mitsChunk, hM, hT9, hG9, hF9, hF8⟩ := hJ2
  have hO3 := hf2.trans hO1
  have hO4 := hf3.trans hO2
  dsimp only [Option.toList, List.cons_append, List.nil_append]
  refine r_lstore B dL_law_1887 (by decide) (lcat_v rfl rfl) ?_
  refine r_aload_n B dL_law_1889 rfl rfl ?_
  refine r_callV (n := 0) B dL_law_1890 (ct_X10_thrown l g sz0 ad hL.2.1 hM) gL_law_X10_thrown rfl (by decide +kernel) ⟨Nat.le_of_ble_eq_true rfl, Nat.le_of_ble_eq_true rfl⟩ hM.obj rfl rfl rfl (Nat.le_of_ble_eq_true rfl) (by show cells + 3 + 0 + 0 ≤ 601024; omega) (by show slots + 18 + 0 + 0 ≤ 7293034; omega) (fun v h' hp => ?_)
  obtain ⟨hv3, hh3⟩ := hp
  subst v
  subst h'
  dsimp only [Option.toList, List.cons_append, List.nil_append]
  refine r_iload B dL_law_1893 rfl ?_
  refine r_icmp_eqS B dL_law_1895 (tgt := 1900) (by decide) rfl ?_
  refine r_iload B dL_law_1900 rfl ?_
  refine r_if_ne B dL_law_1902 (tgt := 1916) (by decide) hM.i_thrown (fun c1902 => ?_) (fun c1902 => ?_)
  · refine r_goto B dL_law_1916 (tgt := 2502) (by decide) ?_
    refine r_widen (k := cells + 421) (n := slots + 10406) (by show cells + 3 + 0 + 0 ≤ _; omega) (by show slots + 18 + 0 + 0 ≤ _; omega) ?_
    exact r_lv (lvLe_s rfl (lvLe_s rfl (lvLe_s rfl (lvLe_s rfl (lvLe_s rfl (lvLe_s rfl (lvLe_n (lvLe_n (lvLe_n lvLe_nil))))))))) (kont _ _ hJ3)
  · refine r_aload_n B dL_law_1905 rfl rfl ?_
    refine r_iconst B dL_law_1906 ?_
    refine r_lald B dL_law_1907 hO3 (by decide) (by omega) (by omega) ?_
    refine r_lload B dL_law_1908 rfl ?_
    refine r_lcmp B dL_law_1910 ?_
    refine r_if_eqS B dL_law_1911 (tgt := 1916) (by decide) (lgc_self (hr c1902)) ?_
    refine r_goto B dL_law_1916 (tgt := 2502) (by decide) ?_
    refine r_widen (k := cells + 421) (n := slots + 10406) (by show cells + 3 + 0 + 0 ≤ _; omega) (by show slots + 18 + 0 + 0 ≤ _; omega) ?_
    exact r_lv (lvLe_s rfl (lvLe_s rfl (lvLe_s rfl (lvLe_s rfl (lvLe_s rfl (lvLe_s rfl (lvLe_n (lvLe_n (lvLe_n lvLe_nil))))))))) (kont _ _ hJ3)
set_option maxHeartbeats 4000000 in
set_option maxRecDepth 100000 in
theorem law_c31 {p : Program} {l : Launch} {e : Env} {s : State} {m : MethodId} {args : Array Value} {below : List Frame} {meth : Method} {c : Code} {Q : State → Prop} {g : GG} {sz0 : Nat} {A ad : Nat → Nat} {Z : Nat → Prop} {o1 o2 bs L : Nat} {xs : Nat → Int32} {h : AH} {T0 i : Int} {cells slots : Nat} (hl0 : l.stackTraces = false) (B : FX p s m args c cL_law RL wsL_law 9 g sz0) (hL : LA A ad o1 o2 Z) (hX : va_X bs L xs s s.heap) (hbl : bs < s.heap.size) (hbA : ¬ A0 sz0 bs) (hLs : L < 2147483000) (hJ : LK g A Z ad o1 o2 T0 h) (i0 : 0 ≤ i) (i5 : i + 5 ≤ (L : Int)) (hc1 : cells + 421 ≤ 601024) (hc2 : slots + 10406 ≤ 7293034) (kont : ∀ (h' : AH) (T' : Int), LK g A Z ad o1 o2 T' h' → WA p l e room_1 s m args below meth c g sz0 9 Q h' (cells + 421) (slots + 10406) [some (.ref bs), some (.ref (A 0)), some (.ref (ad 0)), some (.ref o1), some (.ref o2), some (.int (iI i)), none, none, none] 2502 []) : WA p l e room_1 s m args below meth c g sz0 9 Q h cells slots [some (.ref bs), some (.ref (A 0)), some (.ref (ad 0)), some (.ref o1), some (.ref o2), some (.int (iI i)), none, none, none] 2103 [] := by
  obtain ⟨mnights, mbits, mleast, mmost, mroom, mreserve, mmount, mspeed, mdata, msize, mends, mmany, mkind, mchain, mholds, mbid, mbound, mcheap, mpromised, mcoin, mpaid, mowed, mturn, misAsking, mwant, mcost, misServed, mitsRow, mitsChunk, hM, hT, hG, ⟨F, hO⟩, F2, hO2⟩ := hJ
  obtain ⟨fs0, hro⟩ := hT.ro
  obtain ⟨x, ex, qx⟩ : ∃ z : Int, vaZ xs (i + 1) = z ∧ (-2147483648 ≤ z ∧ z < 2147483648) := ⟨_, rfl, vaZ_rng _ _⟩
  obtain ⟨k, ek, qk⟩ : ∃ z : Int, vaZ xs (i + 2) = z ∧ (-2147483648 ≤ z ∧ z < 2147483648) := ⟨_, rfl, vaZ_rng _ _⟩
  refine r_aload_n B dL_law_2103 rfl rfl ?_
  refine r_aload_n B dL_law_2104 rfl rfl ?_
  refine r_iload B dL_law_2105 rfl ?_
  refine r_iconst B dL_law_2107 ?_
  refine r_iadd B dL_law_2108 ?_
  refine r_sld B hX hbl hbA (by omega) dL_law_2109 (by omega) (by omega) ?_
  refine r_topz ex ?_
  refine r_aload_n B dL_law_2110 rfl rfl ?_
  refine r_iload B dL_law_2111 rfl ?_
  refine r_iconst B dL_law_2113 ?_
  refine r_iadd B dL_law_2114 ?_
  refine r_sld B hX hbl hbA (by omega) dL_law_2115 (by omega) (by omega) ?_
  refine r_topz ek ?_
  refine r_aload B dL_law_2116 rfl rfl ?_
  refine r_callSW (n := 4) B dL_law_2118 (ct_L_minutes l g sz0 hL.1 hT hG x k hl0 qx qk hO2 hL.oZ.2 hL.oA.2) gL_law_L_minutes rfl (by decide +kernel) ⟨Nat.le_of_ble_eq_true rfl, Nat.le_of_ble_eq_true rfl⟩ rfl rfl (Nat.le_of_ble_eq_true rfl) (by show cells + 3 ≤ 601024; omega) (by show slots + 18 ≤ 7293034; omega) (fun v h1 hp => ?_)
  obtain ⟨hv1, hf1, F1, hO2b, hgood, hbad⟩ := hp
  subst v
  have hM := hL.mw (Or.inr rfl) hM hf1
  have hO1 := (hf1 o1 (sm_ne hO) hL.oA.1 hL.2.2.2.1).trans hO
  have hO2 := hO2b
  dsimp only [Option.toList, List.cons_append, List.nil_append]
  refine r_istore B dL_law_2121 (by decide) (lcat_v rfl rfl) ?_
  refine r_aload_n B dL_law_2123 rfl rfl ?_
  refine r_aload_n B dL_law_2124 rfl rfl ?_
  refine r_iload B dL_law_2125 rfl ?_
  refine r_iconst B dL_law_2127 ?_
  refine r_iadd B dL_law_2128 ?_
  refine r_sld B hX hbl hbA (by omega) dL_law_2129 (by omega) (by omega) ?_
  refine r_topz ex ?_
  refine r_aload_n B dL_law_2130 rfl rfl ?_
  refine r_iload B dL_law_2131 rfl ?_
  refine r_iconst B dL_law_2133 ?_
  refine r_iadd B dL_law_2134 ?_
  refine r_sld B hX hbl hbA (by omega) dL_law_2135 (by omega) (by omega) ?_
  refine r_topz ek ?_
  refine r_callV (n := 2) B dL_law_2136 (ct_X10_minutes l g sz0 ad hL.2.1 hM x k qx qk hG.1 hT.lko (have hsp9 := hG.2.2.2.1.2; ⟨by omega, by omega⟩)) gL_law_X10_minutes rfl (by decide +kernel) ⟨Nat.le_of_ble_eq_true rfl, Nat.le_of_ble_eq_true rfl⟩ hM.obj rfl rfl rfl (Nat.le_of_ble_eq_true rfl) (by show cells + 3 + 0 ≤ 601024; omega) (by show slots + 18 + 0 ≤ 7293034; omega) (fun v h2 hp => ?_)
  obtain ⟨r, hv2, hb2, hg2⟩ := hp
  subst v
  have hJ2 : LK g A Z ad o1 o2 (tAsk x k mnights (mkind (60 * x + k))) h2 ∧ (tAsk x k mnights (mkind (60 * x + k)) = 0 → F1 0 = FP.f2d r ∧ Jvm.FP.Core.fIsNaN r = false) ∧ h2 o1 = h1 o1 ∧ h2 o2 = h1 o2 := by
    by_cases ht : tAsk x k mnights (mkind (60 * x + k)) = 0
    · exact ⟨LK.mk hL ht (hg2 ht).2 (hgood ht).2 (hG) hO1 hO2, fun _ => ⟨(by rw [(hgood ht).1, (hg2 ht).1]), (by rw [(hg2 ht).1]; exact mn_ok (have hsp9 := hG.2.2.2.1.2; ⟨by omega, by omega⟩))⟩, hL.of (hg2 ht).2⟩
    · exact ⟨LK.mk hL rfl (hb2 ht).2 (hbad ht) hG hO1 hO2, fun y9 => absurd y9 ht, hL.of (hb2 ht).2⟩
  obtain ⟨hJ2, hr, hf2, hf3⟩ := hJ2
  have hJ3 := hJ2
  obtain ⟨mnights, mbits, mleast, mmost, mroom, mreserve, mmount, mspeed, mdata, msize, mends, mmany, mkind, mchain, mholds, mbid, mbound, mcheap, mpromised, mcoin, mpaid, mowed, mturn, misAsking, mwant, mcost, misServed, mitsRow, mitsChunk, hM, hT9, hG9, hF9, hF8⟩ := hJ2
  have hO3 := hf2.trans hO1
  have hO4 := hf3.trans hO2
  dsimp only [Option.toList, List.cons_append, List.nil_append]
  refine r_fstore B dL_law_2139 (by decide) (lcat_v rfl rfl) ?_
  refine r_aload_n B dL_law_2141 rfl rfl ?_
  refine r_callV (n := 0) B dL_law_2142 (ct_X10_thrown l g sz0 ad hL.2.1 hM) gL_law_X10_thrown rfl (by decide +kernel) ⟨Nat.le_of_ble_eq_true rfl, Nat.le_of_ble_eq_true rfl⟩ hM.obj rfl rfl rfl (Nat.le_of_ble_eq_true rfl) (by show cells + 3 + 0 + 0 ≤ 601024; omega) (by show slots + 18 + 0 + 0 ≤ 7293034; omega) (fun v h' hp => ?_)
  obtain ⟨hv3, hh3⟩ := hp
  subst v
  subst h'
  dsimp only [Option.toList, List.cons_append, List.nil_append]
  refine r_iload B dL_law_2145 rfl ?_
  refine r_icmp_eqS B dL_law_2147 (tgt := 2152) (by decide) rfl ?_
  refine r_iload B dL_law_2152 rfl ?_
  refine r_if_ne B dL_law_2154 (tgt := 2190) (by decide) hM.i_thrown (fun c2154 => ?_) (fun c2154 => ?_)
  · refine r_goto B dL_law_2190 (tgt := 2502) (by decide) ?_
    refine r_widen (k := cells + 421) (n := slots + 10406) (by show cells + 3 + 0 + 0 ≤ _; omega) (by show slots + 18 + 0 + 0 ≤ _; omega) ?_
    exact r_lv (lvLe_s rfl (lvLe_s rfl (lvLe_s rfl (lvLe_s rfl (lvLe_s rfl (lvLe_s rfl (lvLe_n (lvLe_n (lvLe_n lvLe_nil))))))))) (kont _ _ hJ3)
  · refine r_aload B dL_law_2157 rfl rfl ?_
    refine r_iconst B dL_law_2159 ?_
    refine r_dald B dL_law_2160 hO4 (by decide) (by omega) (by omega) ?_
    refine r_fload B dL_law_2161 rfl ?_
    refine r_f2d B dL_law_2163 (hr c2154).2 ?_
    refine r_dcmp B dL_law_2164 ?_
    refine r_if_eqS B dL_law_2165 (tgt := 2190) (by decide) (dcl_self (hr c2154).1 (by rw [show F1 (0 : Int).toNat = FP.f2d r from (hr c2154).1]; exact (FP.f2d_nan r).trans (hr c2154).2)) ?_
    refine r_goto B dL_law_2190 (tgt := 2502) (by decide) ?_
    refine r_widen (k := cells + 421) (n := slots + 10406) (by show cells + 3 + 0 + 0 ≤ _; omega) (by show slots + 18 + 0 + 0 ≤ _; omega) ?_
    exact r_lv (lvLe_s rfl (lvLe_s rfl (lvLe_s rfl (lvLe_s rfl (lvLe_s rfl (lvLe_s rfl (lvLe_n (lvLe_n (lvLe_n lvLe_nil))))))))) (kont _ _ hJ3)
set_option maxHeartbeats 4000000 in
set_option maxRecDepth 100000 in
theorem law_c37 {p : Program} {l : Launch} {e : Env} {s : State} {m : MethodId} {args : Array Value} {below : List Frame} {meth : Method} {c : Code} {Q : State → Prop} {g : GG} {sz0 : Nat} {A ad : Nat → Nat} {Z : Nat → Prop} {o1 o2 bs L : Nat} {xs : Nat → Int32} {h : AH} {T0 i : Int} {cells slots : Nat} (hl0 : l.stackTraces = false) (B : FX p s m args c cL_law RL wsL_law 9 g sz0) (hL : LA A ad o1 o2 Z) (hX : va_X bs L xs s s.heap) (hbl : bs < s.heap.size) (hbA : ¬ A0 sz0 bs) (hLs : L < 2147483000) (hJ : LK g A Z ad o1 o2 T0 h) (i0 : 0 ≤ i) (i5 : i + 5 ≤ (L : Int)) (hc1 : cells + 421 ≤ 601024) (hc2 : slots + 10406 ≤ 7293034) (kont : ∀ (h' : AH) (T' : Int), LK g A Z ad o1 o2 T' h' → WA p l e room_1 s m args below meth c g sz0 9 Q h' (cells + 421) (slots + 10406) [some (.ref bs), some (.ref (A 0)), some (.ref (ad 0)), some (.ref o1), some (.ref o2), some (.int (iI i)), none, none, none] 2502 []) : WA p l e room_1 s m args below meth c g sz0 9 Q h cells slots [some (.ref bs), some (.ref (A 0)), some (.ref (ad 0)), some (.ref o1), some (.ref o2), some (.int (iI i)), none, none, none] 2489 [] := by
  obtain ⟨mnights, mbits, mleast, mmost, mroom, mreserve, mmount, mspeed, mdata, msize, mends, mmany, mkind, mchain, mholds, mbid, mbound, mcheap, mpromised, mcoin, mpaid, mowed, mturn, misAsking, mwant, mcost, misServed, mitsRow, mitsChunk, hM, hT, hG, ⟨F, hO⟩, F2, hO2⟩ := hJ
  obtain ⟨fs0, hro⟩ := hT.ro
  refine r_aload_n B dL_law_2489 rfl rfl ?_
  refine r_callV (n := 0) B dL_law_2490 (ct_X9_purse l g sz0 hL.1 hT hG) gL_law_X9_purse rfl (by decide +kernel) ⟨Nat.le_of_ble_eq_true rfl, Nat.le_of_ble_eq_true rfl⟩ hro rfl rfl rfl (Nat.le_of_ble_eq_true rfl) (by show cells + 0 ≤ 601024; omega) (by show slots + 0 ≤ 7293034; omega) (fun v h1 hp => ?_)
  obtain ⟨hv1, hT1⟩ := hp
  subst v
  have hM := hL.mw (o := o1) (Or.inl rfl) hM (fun q q0 q1 _ => hT1.fr q q0 q1)
  have hO1 := (hT1.fr o1 (sm_ne hO) hL.oA.1).trans hO
  have hO2 := (hT1.fr o2 (sm_ne hO2) hL.oA.2).trans hO2
  have hT1 := hT1.base
  dsimp only [Option.toList, List.cons_append, List.nil_append]
  refine r_aload_n B dL_law_2493 rfl rfl ?_
  refine r_callV (n := 0) B dL_law_2494 (ct_X10_purse l g sz0 ad hL.2.1 hM) gL_law_X10_purse rfl (by decide +kernel) ⟨Nat.le_of_ble_eq_true rfl, Nat.le_of_ble_eq_true rfl⟩ hM.obj rfl rfl rfl (Nat.le_of_ble_eq_true rfl) (by show cells + 0 + 0 ≤ 601024; omega) (by show slots + 0 + 0 ≤ 7293034; omega) (fun v h2 hp => ?_)
  obtain ⟨hv2, hM2⟩ := hp
  subst v
  have hJ3 := LK.mk hL rfl hM2 hT1 hG hO1 hO2
  dsimp only [Option.toList, List.cons_append, List.nil_append]
  refine r_icmp_eqS B dL_law_2497 (tgt := 2502) (by decide) rfl ?_
  refine r_widen (k := cells + 421) (n := slots + 10406) (by show cells + 0 + 0 ≤ _; omega) (by show slots + 0 + 0 ≤ _; omega) ?_
  exact r_lv (lvLe_s rfl (lvLe_s rfl (lvLe_s rfl (lvLe_s rfl (lvLe_s rfl (lvLe_s rfl (lvLe_n (lvLe_n (lvLe_n lvLe_nil))))))))) (kont _ _ hJ3)
