set_option maxHeartbeats 4000000 in
set_option maxRecDepth 100000 in
theorem law_c0 {p : Program} {l : Launch} {e : Env} {s : State} {m : MethodId} {args : Array Value} {below : List Frame} {meth : Method} {c : Code} {Q : State → Prop} {g : GG} {sz0 : Nat} {A ad : Nat → Nat} {Z : Nat → Prop} {o1 o2 bs L : Nat} {xs : Nat → Int32} {h : AH} {T0 i : Int} {cells slots : Nat} (hl0 : l.stackTraces = false) (B : FX p s m args c cL_law RL wsL_law 9 g sz0) (hL : LA A ad o1 o2 Z) (hX : va_X bs L xs s s.heap) (hbl : bs < s.heap.size) (hbA : ¬ A0 sz0 bs) (hLs : L < 2147483000) (hJ : LK g A Z ad o1 o2 T0 h) (i0 : 0 ≤ i) (i5 : i + 5 ≤ (L : Int)) (hc1 : cells + 421 ≤ 601024) (hc2 : slots + 10406 ≤ 7293034) (kont : ∀ (h' : AH) (T' : Int), LK g A Z ad o1 o2 T' h' → WA p l e room_1 s m args below meth c g sz0 9 Q h' (cells + 421) (slots + 10406) [some (.ref bs), some (.ref (A 0)), some (.ref (ad 0)), some (.ref o1), some (.ref o2), some (.int (iI i)), none, none, none] 2502 []) : WA p l e room_1 s m args below meth c g sz0 9 Q h cells slots [some (.ref bs), some (.ref (A 0)), some (.ref (ad 0)), some (.ref o1), some (.ref o2), some (.int (iI i)), none, none, none] 212 [] := by
  obtain ⟨mnights, mbits, mleast, mmost, mroom, mreserve, mmount, mspeed, mdata, msize, mends, mmany, mkind, mchain, mholds, mbid, mbound, mcheap, mpromised, mcoin, mpaid, mowed, mturn, misAsking, mwant, mcost, misServed, mitsRow, mitsChunk, hM, hT, hG, ⟨F, hO⟩, F2, hO2⟩ := hJ
  obtain ⟨fs0, hro⟩ := hT.ro
  obtain ⟨x, ex, qx⟩ : ∃ z : Int, vaZ xs (i + 1) = z ∧ (-2147483648 ≤ z ∧ z < 2147483648) := ⟨_, rfl, vaZ_rng _ _⟩
  obtain ⟨k, ek, qk⟩ : ∃ z : Int, vaZ xs (i + 2) = z ∧ (-2147483648 ≤ z ∧ z < 2147483648) := ⟨_, rfl, vaZ_rng _ _⟩
  obtain ⟨b, eb, qb⟩ : ∃ z : Int, vaZ xs (i + 3) = z ∧ (-2147483648 ≤ z ∧ z < 2147483648) := ⟨_, rfl, vaZ_rng _ _⟩
  refine r_aload_n B dL_law_212 rfl rfl ?_
  refine r_aload_n B dL_law_213 rfl rfl ?_
  refine r_iload B dL_law_214 rfl ?_
  refine r_iconst B dL_law_216 ?_
  refine r_iadd B dL_law_217 ?_
  refine r_sld B hX hbl hbA (by omega) dL_law_218 (by omega) (by omega) ?_
  refine r_topz ex ?_
  refine r_aload_n B dL_law_219 rfl rfl ?_
  refine r_iload B dL_law_220 rfl ?_
  refine r_iconst B dL_law_222 ?_
  refine r_iadd B dL_law_223 ?_
  refine r_sld B hX hbl hbA (by omega) dL_law_224 (by omega) (by omega) ?_
  refine r_topz ek ?_
  refine r_aload_n B dL_law_225 rfl rfl ?_
  refine r_iload B dL_law_226 rfl ?_
  refine r_iconst B dL_law_228 ?_
  refine r_iadd B dL_law_229 ?_
  refine r_sld B hX hbl hbA (by omega) dL_law_230 (by omega) (by omega) ?_
  refine r_topz eb ?_
  refine r_aload_n B dL_law_231 rfl rfl ?_
  refine r_callSW (n := 5) B dL_law_232 (ct_L_put l g sz0 hL.1 hT hG x k b hl0 qx qk qb hO hL.oZ.1 hL.oA.1) gL_law_L_put rfl (by decide +kernel) ⟨Nat.le_of_ble_eq_true rfl, Nat.le_of_ble_eq_true rfl⟩ rfl rfl (Nat.le_of_ble_eq_true rfl) (by show cells + 4 ≤ 601024; omega) (by show slots + 24 ≤ 7293034; omega) (fun v h1 hp => ?_)
  obtain ⟨hv1, hf1, F1, hO1, hgood, hbad⟩ := hp
  subst v
  have hM := hL.mw (Or.inl rfl) hM hf1
  have hO2 := (hf1 o2 (sm_ne hO2) hL.oA.2 (fun z => hL.2.2.2.1 z.symm)).trans hO2
  dsimp only [Option.toList, List.cons_append, List.nil_append]
  refine r_istore B dL_law_235 (by decide) (lcat_v rfl rfl) ?_
  refine r_aload_n B dL_law_237 rfl rfl ?_
  refine r_aload_n B dL_law_238 rfl rfl ?_
  refine r_iload B dL_law_239 rfl ?_
  refine r_iconst B dL_law_241 ?_
  refine r_iadd B dL_law_242 ?_
  refine r_sld B hX hbl hbA (by omega) dL_law_243 (by omega) (by omega) ?_
  refine r_topz ex ?_
  refine r_aload_n B dL_law_244 rfl rfl ?_
  refine r_iload B dL_law_245 rfl ?_
  refine r_iconst B dL_law_247 ?_
  refine r_iadd B dL_law_248 ?_
  refine r_sld B hX hbl hbA (by omega) dL_law_249 (by omega) (by omega) ?_
  refine r_topz ek ?_
  refine r_aload_n B dL_law_250 rfl rfl ?_
  refine r_iload B dL_law_251 rfl ?_
  refine r_iconst B dL_law_253 ?_
  refine r_iadd B dL_law_254 ?_
  refine r_sld B hX hbl hbA (by omega) dL_law_255 (by omega) (by omega) ?_
  refine r_topz eb ?_
  refine r_callV (n := 3) B dL_law_256 (ct_X10_put l g sz0 ad hL.2.1 hM x k b qx qk qb (fun z hz => hG.2.2.2.2.2 (240 + z) (by omega) (by omega))) gL_law_X10_put rfl (by decide +kernel) ⟨Nat.le_of_ble_eq_true rfl, Nat.le_of_ble_eq_true rfl⟩ hM.obj rfl rfl rfl (Nat.le_of_ble_eq_true rfl) (by show cells + 4 + 0 ≤ 601024; omega) (by show slots + 24 + 0 ≤ 7293034; omega) (fun v h2 hp => ?_)
  obtain ⟨r, hv2, hb2, hg2⟩ := hp
  subst v
  have hJ2 : LK g A Z ad o1 o2 (tPut x k b (msize (240 + x))) h2 ∧ (tPut x k b (msize (240 + x)) = 0 → F1 0 = (iI r).toInt64) ∧ h2 o1 = h1 o1 ∧ h2 o2 = h1 o2 := by
    by_cases ht : tPut x k b (msize (240 + x)) = 0
    · exact ⟨LK.mk hL ht (hg2 ht).2 (hgood ht).2 (hG.size (by have h9 := hG.2.2.2.2.2 (240 + x); unfold tPut at ht; (repeat' (split at ht)) <;> omega)) hO1 hO2, fun _ => (by first | (rw [(hgood ht).1, (hg2 ht).1]; done) | (rw [(hgood ht).1, (hg2 ht).1]; rfl)), hL.of (hg2 ht).2⟩
    · exact ⟨LK.mk hL rfl (hb2 ht).2 (hbad ht) hG hO1 hO2, fun y9 => absurd y9 ht, hL.of (hb2 ht).2⟩
  obtain ⟨hJ2, hr, hf2, hf3⟩ := hJ2
  have hJ3 := hJ2
  obtain ⟨mnights, mbits, mleast, mmost, mroom, mreserve, mmount, mspeed, mdata, msize, mends, mmany, mkind, mchain, mholds, mbid, mbound, mcheap, mpromised, mcoin, mpaid, mowed, mturn, misAsking, mwant, mcost, misServed, mitsRow, mitsChunk, hM, hT9, hG9, hF9, hF8⟩ := hJ2
  have hO3 := hf2.trans hO1
  have hO4 := hf3.trans hO2
  dsimp only [Option.toList, List.cons_append, List.nil_append]
  refine r_istore B dL_law_259 (by decide) (lcat_v rfl rfl) ?_
  refine r_aload_n B dL_law_261 rfl rfl ?_
  refine r_callV (n := 0) B dL_law_262 (ct_X10_thrown l g sz0 ad hL.2.1 hM) gL_law_X10_thrown rfl (by decide +kernel) ⟨Nat.le_of_ble_eq_true rfl, Nat.le_of_ble_eq_true rfl⟩ hM.obj rfl rfl rfl (Nat.le_of_ble_eq_true rfl) (by show cells + 4 + 0 + 0 ≤ 601024; omega) (by show slots + 24 + 0 + 0 ≤ 7293034; omega) (fun v h' hp => ?_)
  obtain ⟨hv3, hh3⟩ := hp
  subst v
  subst h'
  dsimp only [Option.toList, List.cons_append, List.nil_append]
  refine r_iload B dL_law_265 rfl ?_
  refine r_icmp_eqS B dL_law_267 (tgt := 272) (by decide) rfl ?_
  refine r_iload B dL_law_272 rfl ?_
  refine r_if_ne B dL_law_274 (tgt := 289) (by decide) hM.i_thrown (fun c274 => ?_) (fun c274 => ?_)
  · refine r_goto B dL_law_289 (tgt := 2502) (by decide) ?_
    refine r_widen (k := cells + 421) (n := slots + 10406) (by show cells + 4 + 0 + 0 ≤ _; omega) (by show slots + 24 + 0 + 0 ≤ _; omega) ?_
    exact r_lv (lvLe_s rfl (lvLe_s rfl (lvLe_s rfl (lvLe_s rfl (lvLe_s rfl (lvLe_s rfl (lvLe_n (lvLe_n (lvLe_n lvLe_nil))))))))) (kont _ _ hJ3)
  · refine r_aload_n B dL_law_277 rfl rfl ?_
    refine r_iconst B dL_law_278 ?_
    refine r_lald B dL_law_279 hO3 (by decide) (by omega) (by omega) ?_
    refine r_iload B dL_law_280 rfl ?_
    refine r_i2l B dL_law_282 ?_
    refine r_lcmp B dL_law_283 ?_
    refine r_if_eqS B dL_law_284 (tgt := 289) (by decide) (lgc_self (hr c274)) ?_
    refine r_goto B dL_law_289 (tgt := 2502) (by decide) ?_
    refine r_widen (k := cells + 421) (n := slots + 10406) (by show cells + 4 + 0 + 0 ≤ _; omega) (by show slots + 24 + 0 + 0 ≤ _; omega) ?_
    exact r_lv (lvLe_s rfl (lvLe_s rfl (lvLe_s rfl (lvLe_s rfl (lvLe_s rfl (lvLe_s rfl (lvLe_n (lvLe_n (lvLe_n lvLe_nil))))))))) (kont _ _ hJ3)
set_option maxHeartbeats 4000000 in
set_option maxRecDepth 100000 in
theorem law_c4 {p : Program} {l : Launch} {e : Env} {s : State} {m : MethodId} {args : Array Value} {below : List Frame} {meth : Method} {c : Code} {Q : State → Prop} {g : GG} {sz0 : Nat} {A ad : Nat → Nat} {Z : Nat → Prop} {o1 o2 bs L : Nat} {xs : Nat → Int32} {h : AH} {T0 i : Int} {cells slots : Nat} (hl0 : l.stackTraces = false) (B : FX p s m args c cL_law RL wsL_law 9 g sz0) (hL : LA A ad o1 o2 Z) (hX : va_X bs L xs s s.heap) (hbl : bs < s.heap.size) (hbA : ¬ A0 sz0 bs) (hLs : L < 2147483000) (hJ : LK g A Z ad o1 o2 T0 h) (i0 : 0 ≤ i) (i5 : i + 5 ≤ (L : Int)) (hc1 : cells + 421 ≤ 601024) (hc2 : slots + 10406 ≤ 7293034) (kont : ∀ (h' : AH) (T' : Int), LK g A Z ad o1 o2 T' h' → WA p l e room_1 s m args below meth c g sz0 9 Q h' (cells + 421) (slots + 10406) [some (.ref bs), some (.ref (A 0)), some (.ref (ad 0)), some (.ref o1), some (.ref o2), some (.int (iI i)), none, none, none] 2502 []) : WA p l e room_1 s m args below meth c g sz0 9 Q h cells slots [some (.ref bs), some (.ref (A 0)), some (.ref (ad 0)), some (.ref o1), some (.ref o2), some (.int (iI i)), none, none, none] 544 [] := by
  obtain ⟨mnights, mbits, mleast, mmost, mroom, mreserve, mmount, mspeed, mdata, msize, mends, mmany, mkind, mchain, mholds, mbid, mbound, mcheap, mpromised, mcoin, mpaid, mowed, mturn, misAsking, mwant, mcost, misServed, mitsRow, mitsChunk, hM, hT, hG, ⟨F, hO⟩, F2, hO2⟩ := hJ
  obtain ⟨fs0, hro⟩ := hT.ro
  obtain ⟨x, ex, qx⟩ : ∃ z : Int, vaZ xs (i + 1) = z ∧ (-2147483648 ≤ z ∧ z < 2147483648) := ⟨_, rfl, vaZ_rng _ _⟩
  refine r_aload_n B dL_law_544 rfl rfl ?_
  refine r_aload_n B dL_law_545 rfl rfl ?_
  refine r_iload B dL_law_546 rfl ?_
  refine r_iconst B dL_law_548 ?_
  refine r_iadd B dL_law_549 ?_
  refine r_sld B hX hbl hbA (by omega) dL_law_550 (by omega) (by omega) ?_
  refine r_topz ex ?_
  refine r_aload_n B dL_law_551 rfl rfl ?_
  refine r_callSW (n := 3) B dL_law_552 (ct_L_length l g sz0 hL.1 hT hG x hl0 qx hO hL.oZ.1 hL.oA.1) gL_law_L_length rfl (by decide +kernel) ⟨Nat.le_of_ble_eq_true rfl, Nat.le_of_ble_eq_true rfl⟩ rfl rfl (Nat.le_of_ble_eq_true rfl) (by show cells + 1 ≤ 601024; omega) (by show slots + 6 ≤ 7293034; omega) (fun v h1 hp => ?_)
  obtain ⟨hv1, hf1, F1, hO1, hgood, hbad⟩ := hp
  subst v
  have hM := hL.mw (Or.inl rfl) hM hf1
  have hO2 := (hf1 o2 (sm_ne hO2) hL.oA.2 (fun z => hL.2.2.2.1 z.symm)).trans hO2
  dsimp only [Option.toList, List.cons_append, List.nil_append]
  refine r_istore B dL_law_555 (by decide) (lcat_v rfl rfl) ?_
  refine r_aload_n B dL_law_557 rfl rfl ?_
  refine r_aload_n B dL_law_558 rfl rfl ?_
  refine r_iload B dL_law_559 rfl ?_
  refine r_iconst B dL_law_561 ?_
  refine r_iadd B dL_law_562 ?_
  refine r_sld B hX hbl hbA (by omega) dL_law_563 (by omega) (by omega) ?_
  refine r_topz ex ?_
  refine r_callV (n := 1) B dL_law_564 (ct_X10_length l g sz0 ad hL.2.1 hM x qx (fun z hz => hG.2.2.2.2.2 (240 + z) (by omega) (by omega))) gL_law_X10_length rfl (by decide +kernel) ⟨Nat.le_of_ble_eq_true rfl, Nat.le_of_ble_eq_true rfl⟩ hM.obj rfl rfl rfl (Nat.le_of_ble_eq_true rfl) (by show cells + 1 + 0 ≤ 601024; omega) (by show slots + 6 + 0 ≤ 7293034; omega) (fun v h2 hp => ?_)
  obtain ⟨r, hv2, hb2, hg2⟩ := hp
  subst v
  have hJ2 : LK g A Z ad o1 o2 (tCl x) h2 ∧ (tCl x = 0 → F1 0 = (iI r).toInt64) ∧ h2 o1 = h1 o1 ∧ h2 o2 = h1 o2 := by
    by_cases ht : tCl x = 0
    · exact ⟨LK.mk hL ht (hg2 ht).2 (hgood ht).2 (hG) hO1 hO2, fun _ => (by first | (rw [(hgood ht).1, (hg2 ht).1]; done) | (rw [(hgood ht).1, (hg2 ht).1]; rfl)), hL.of (hg2 ht).2⟩
    · exact ⟨LK.mk hL rfl (hb2 ht).2 (hbad ht) hG hO1 hO2, fun y9 => absurd y9 ht, hL.of (hb2 ht).2⟩
  obtain ⟨hJ2, hr, hf2, hf3⟩ := hJ2
  have hJ3 := hJ2
  obtain ⟨mnights, mbits, mleast, mmost, mroom, mreserve, mmount, mspeed, mdata, msize, mends, mmany, mkind, mchain, mholds, mbid, mbound, mcheap, mpromised, mcoin, mpaid, mowed, mturn, misAsking, mwant, mcost, misServed, mitsRow, mitsChunk, hM, hT9, hG9, hF9, hF8⟩ := hJ2
  have hO3 := hf2.trans hO1
  have hO4 := hf3.trans hO2
  dsimp only [Option.toList, List.cons_append, List.nil_append]
  refine r_istore B dL_law_567 (by decide) (lcat_v rfl rfl) ?_
  refine r_aload_n B dL_law_569 rfl rfl ?_
  refine r_callV (n := 0) B dL_law_570 (ct_X10_thrown l g sz0 ad hL.2.1 hM) gL_law_X10_thrown rfl (by decide +kernel) ⟨Nat.le_of_ble_eq_true rfl, Nat.le_of_ble_eq_true rfl⟩ hM.obj rfl rfl rfl (Nat.le_of_ble_eq_true rfl) (by show cells + 1 + 0 + 0 ≤ 601024; omega) (by show slots + 6 + 0 + 0 ≤ 7293034; omega) (fun v h' hp => ?_)
  obtain ⟨hv3, hh3⟩ := hp
  subst v
  subst h'
  dsimp only [Option.toList, List.cons_append, List.nil_append]
  refine r_iload B dL_law_573 rfl ?_
  refine r_icmp_eqS B dL_law_575 (tgt := 580) (by decide) rfl ?_
  refine r_iload B dL_law_580 rfl ?_
  refine r_if_ne B dL_law_582 (tgt := 597) (by decide) hM.i_thrown (fun c582 => ?_) (fun c582 => ?_)
  · refine r_goto B dL_law_597 (tgt := 2502) (by decide) ?_
    refine r_widen (k := cells + 421) (n := slots + 10406) (by show cells + 1 + 0 + 0 ≤ _; omega) (by show slots + 6 + 0 + 0 ≤ _; omega) ?_
    exact r_lv (lvLe_s rfl (lvLe_s rfl (lvLe_s rfl (lvLe_s rfl (lvLe_s rfl (lvLe_s rfl (lvLe_n (lvLe_n (lvLe_n lvLe_nil))))))))) (kont _ _ hJ3)
  · refine r_aload_n B dL_law_585 rfl rfl ?_
    refine r_iconst B dL_law_586 ?_
    refine r_lald B dL_law_587 hO3 (by decide) (by omega) (by omega) ?_
    refine r_iload B dL_law_588 rfl ?_
    refine r_i2l B dL_law_590 ?_
    refine r_lcmp B dL_law_591 ?_
    refine r_if_eqS B dL_law_592 (tgt := 597) (by decide) (lgc_self (hr c582)) ?_
    refine r_goto B dL_law_597 (tgt := 2502) (by decide) ?_
    refine r_widen (k := cells + 421) (n := slots + 10406) (by show cells + 1 + 0 + 0 ≤ _; omega) (by show slots + 6 + 0 + 0 ≤ _; omega) ?_
    exact r_lv (lvLe_s rfl (lvLe_s rfl (lvLe_s rfl (lvLe_s rfl (lvLe_s rfl (lvLe_s rfl (lvLe_n (lvLe_n (lvLe_n lvLe_nil))))))))) (kont _ _ hJ3)
set_option maxHeartbeats 4000000 in
set_option maxRecDepth 100000 in
theorem law_c8 {p : Program} {l : Launch} {e : Env} {s : State} {m : MethodId} {args : Array Value} {below : List Frame} {meth : Method} {c : Code} {Q : State → Prop} {g : GG} {sz0 : Nat} {A ad : Nat → Nat} {Z : Nat → Prop} {o1 o2 bs L : Nat} {xs : Nat → Int32} {h : AH} {T0 i : Int} {cells slots : Nat} (hl0 : l.stackTraces = false) (B : FX p s m args c cL_law RL wsL_law 9 g sz0) (hL : LA A ad o1 o2 Z) (hX : va_X bs L xs s s.heap) (hbl : bs < s.heap.size) (hbA : ¬ A0 sz0 bs) (hLs : L < 2147483000) (hJ : LK g A Z ad o1 o2 T0 h) (i0 : 0 ≤ i) (i5 : i + 5 ≤ (L : Int)) (hc1 : cells + 421 ≤ 601024) (hc2 : slots + 10406 ≤ 7293034) (kont : ∀ (h' : AH) (T' : Int), LK g A Z ad o1 o2 T' h' → WA p l e room_1 s m args below meth c g sz0 9 Q h' (cells + 421) (slots + 10406) [some (.ref bs), some (.ref (A 0)), some (.ref (ad 0)), some (.ref o1), some (.ref o2), some (.int (iI i)), none, none, none] 2502 []) : WA p l e room_1 s m args below meth c g sz0 9 Q h cells slots [some (.ref bs), some (.ref (A 0)), some (.ref (ad 0)), some (.ref o1), some (.ref o2), some (.int (iI i)), none, none, none] 783 [] := by
  obtain ⟨mnights, mbits, mleast, mmost, mroom, mreserve, mmount, mspeed, mdata, msize, mends, mmany, mkind, mchain, mholds, mbid, mbound, mcheap, mpromised, mcoin, mpaid, mowed, mturn, misAsking, mwant, mcost, misServed, mitsRow, mitsChunk, hM, hT, hG, ⟨F, hO⟩, F2, hO2⟩ := hJ
  obtain ⟨fs0, hro⟩ := hT.ro
  obtain ⟨x, ex, qx⟩ : ∃ z : Int, vaZ xs (i + 1) = z ∧ (-2147483648 ≤ z ∧ z < 2147483648) := ⟨_, rfl, vaZ_rng _ _⟩
  obtain ⟨k, ek, qk⟩ : ∃ z : Int, vaZ xs (i + 2) = z ∧ (-2147483648 ≤ z ∧ z < 2147483648) := ⟨_, rfl, vaZ_rng _ _⟩
  refine r_aload_n B dL_law_783 rfl rfl ?_
  refine r_aload_n B dL_law_784 rfl rfl ?_
  refine r_iload B dL_law_785 rfl ?_
  refine r_iconst B dL_law_787 ?_
  refine r_iadd B dL_law_788 ?_
  refine r_sld B hX hbl hbA (by omega) dL_law_789 (by omega) (by omega) ?_
  refine r_topz ex ?_
  refine r_aload_n B dL_law_790 rfl rfl ?_
  refine r_iload B dL_law_791 rfl ?_
  refine r_iconst B dL_law_793 ?_
  refine r_iadd B dL_law_794 ?_
  refine r_sld B hX hbl hbA (by omega) dL_law_795 (by omega) (by omega) ?_
  refine r_topz ek ?_
  refine r_aload_n B dL_law_796 rfl rfl ?_
  refine r_callSW (n := 4) B dL_law_797 (ct_L_mark l g sz0 hL.1 hT hG x k hl0 qx qk hO hL.oZ.1 hL.oA.1) gL_law_L_mark rfl (by decide +kernel) ⟨Nat.le_of_ble_eq_true rfl, Nat.le_of_ble_eq_true rfl⟩ rfl rfl (Nat.le_of_ble_eq_true rfl) (by show cells + 2 ≤ 601024; omega) (by show slots + 12 ≤ 7293034; omega) (fun v h1 hp => ?_)
  obtain ⟨hv1, hf1, F1, hO1, hgood, hbad⟩ := hp
  subst v
  have hM := hL.mw (Or.inl rfl) hM hf1
  have hO2 := (hf1 o2 (sm_ne hO2) hL.oA.2 (fun z => hL.2.2.2.1 z.symm)).trans hO2
  dsimp only [Option.toList, List.cons_append, List.nil_append]
  refine r_istore B dL_law_800 (by decide) (lcat_v rfl rfl) ?_
  refine r_aload_n B dL_law_802 rfl rfl ?_
  refine r_aload_n B dL_law_803 rfl rfl ?_
  refine r_iload B dL_law_804 rfl ?_
  refine r_iconst B dL_law_806 ?_
  refine r_iadd B dL_law_807 ?_
  refine r_sld B hX hbl hbA (by omega) dL_law_808 (by omega) (by omega) ?_
  refine r_topz ex ?_
  refine r_aload_n B dL_law_809 rfl rfl ?_
  refine r_iload B dL_law_810 rfl ?_
  refine r_iconst B dL_law_812 ?_
  refine r_iadd B dL_law_813 ?_
  refine r_sld B hX hbl hbA (by omega) dL_law_814 (by omega) (by omega) ?_
  refine r_topz ek ?_
  refine r_callV (n := 2) B dL_law_815 (ct_X10_mark l g sz0 ad hL.2.1 hM x k qx qk (fun z hz => hG.2.2.2.2.2 (240 + z) (by omega) (by omega))) gL_law_X10_mark rfl (by decide +kernel) ⟨Nat.le_of_ble_eq_true rfl, Nat.le_of_ble_eq_true rfl⟩ hM.obj rfl rfl rfl (Nat.le_of_ble_eq_true rfl) (by show cells + 2 + 0 ≤ 601024; omega) (by show slots + 12 + 0 ≤ 7293034; omega) (fun v h2 hp => ?_)
  obtain ⟨r, hv2, hb2, hg2⟩ := hp
  subst v
  have hJ2 : LK g A Z ad o1 o2 (tAt x k (msize (240 + x))) h2 ∧ (tAt x k (msize (240 + x)) = 0 → F1 0 = r.toInt64) ∧ h2 o1 = h1 o1 ∧ h2 o2 = h1 o2 := by
    by_cases ht : tAt x k (msize (240 + x)) = 0
    · exact ⟨LK.mk hL ht (hg2 ht).2 (hgood ht).2 (hG) hO1 hO2, fun _ => (by rw [(hgood ht).1, (hg2 ht).1]), hL.of (hg2 ht).2⟩
    · exact ⟨LK.mk hL rfl (hb2 ht).2 (hbad ht) hG hO1 hO2, fun y9 => absurd y9 ht, hL.of (hb2 ht).2⟩
  obtain ⟨hJ2, hr, hf2, hf3⟩ := hJ2
  have hJ3 := hJ2
  obtain ⟨mnights, mbits, mleast, mmost, mroom, mreserve, mmount, mspeed, mdata, msize, mends, mmany, mkind, mchain, mholds, mbid, mbound, mcheap, mpromised, mcoin, mpaid, mowed, mturn, misAsking, mwant, mcost, misServed, mitsRow, mitsChunk, hM, hT9, hG9, hF9, hF8⟩ := hJ2
  have hO3 := hf2.trans hO1
  have hO4 := hf3.trans hO2
  dsimp only [Option.toList, List.cons_append, List.nil_append]
  refine r_istore B dL_law_818 (by decide) (lcat_v rfl rfl) ?_
  refine r_aload_n B dL_law_820 rfl rfl ?_
  refine r_callV (n := 0) B dL_law_821 (ct_X10_thrown l g sz0 ad hL.2.1 hM) gL_law_X10_thrown rfl (by decide +kernel) ⟨Nat.le_of_ble_eq_true rfl, Nat.le_of_ble_eq_true rfl⟩ hM.obj rfl rfl rfl (Nat.le_of_ble_eq_true rfl) (by show cells + 2 + 0 + 0 ≤ 601024; omega) (by show slots + 12 + 0 + 0 ≤ 7293034; omega) (fun v h' hp => ?_)
  obtain ⟨hv3, hh3⟩ := hp
  subst v
  subst h'
  dsimp only [Option.toList, List.cons_append, List.nil_append]
  refine r_iload B dL_law_824 rfl ?_
  refine r_icmp_eqS B dL_law_826 (tgt := 831) (by decide) rfl ?_
  refine r_iload B dL_law_831 rfl ?_
  refine r_if_ne B dL_law_833 (tgt := 848) (by decide) hM.i_thrown (fun c833 => ?_) (fun c833 => ?_)
  · refine r_goto B dL_law_848 (tgt := 2502) (by decide) ?_
    refine r_widen (k := cells + 421) (n := slots + 10406) (by show cells + 2 + 0 + 0 ≤ _; omega) (by show slots + 12 + 0 + 0 ≤ _; omega) ?_
    exact r_lv (lvLe_s rfl (lvLe_s rfl (lvLe_s rfl (lvLe_s rfl (lvLe_s rfl (lvLe_s rfl (lvLe_n (lvLe_n (lvLe_n lvLe_nil))))))))) (kont _ _ hJ3)
  · refine r_aload_n B dL_law_836 rfl rfl ?_
    refine r_iconst B dL_law_837 ?_
    refine r_lald B dL_law_838 hO3 (by decide) (by omega) (by omega) ?_
    refine r_iload B dL_law_839 rfl ?_
    refine r_i2l B dL_law_841 ?_
    refine r_lcmp B dL_law_842 ?_
    refine r_if_eqS B dL_law_843 (tgt := 848) (by decide) (lgc_self (hr c833)) ?_
    refine r_goto B dL_law_848 (tgt := 2502) (by decide) ?_
    refine r_widen (k := cells + 421) (n := slots + 10406) (by show cells + 2 + 0 + 0 ≤ _; omega) (by show slots + 12 + 0 + 0 ≤ _; omega) ?_
    exact r_lv (lvLe_s rfl (lvLe_s rfl (lvLe_s rfl (lvLe_s rfl (lvLe_s rfl (lvLe_s rfl (lvLe_n (lvLe_n (lvLe_n lvLe_nil))))))))) (kont _ _ hJ3)
set_option maxHeartbeats 4000000 in
set_option maxRecDepth 100000 in
theorem law_c12 {p : Program} {l : Launch} {e : Env} {s : State} {m : MethodId} {args : Array Value} {below : List Frame} {meth : Method} {c : Code} {Q : State → Prop} {g : GG} {sz0 : Nat} {A ad : Nat → Nat} {Z : Nat → Prop} {o1 o2 bs L : Nat} {xs : Nat → Int32} {h : AH} {T0 i : Int} {cells slots : Nat} (hl0 : l.stackTraces = false) (B : FX p s m args c cL_law RL wsL_law 9 g sz0) (hL : LA A ad o1 o2 Z) (hX : va_X bs L xs s s.heap) (hbl : bs < s.heap.size) (hbA : ¬ A0 sz0 bs) (hLs : L < 2147483000) (hJ : LK g A Z ad o1 o2 T0 h) (i0 : 0 ≤ i) (i5 : i + 5 ≤ (L : Int)) (hc1 : cells + 421 ≤ 601024) (hc2 : slots + 10406 ≤ 7293034) (kont : ∀ (h' : AH) (T' : Int), LK g A Z ad o1 o2 T' h' → WA p l e room_1 s m args below meth c g sz0 9 Q h' (cells + 421) (slots + 10406) [some (.ref bs), some (.ref (A 0)), some (.ref (ad 0)), some (.ref o1), some (.ref o2), some (.int (iI i)), none, none, none] 2502 []) : WA p l e room_1 s m args below meth c g sz0 9 Q h cells slots [some (.ref bs), some (.ref (A 0)), some (.ref (ad 0)), some (.ref o1), some (.ref o2), some (.int (iI i)), none, none, none] 988 [] := by
  obtain ⟨mnights, mbits, mleast, mmost, mroom, mreserve, mmount, mspeed, mdata, msize, mends, mmany, mkind, mchain, mholds, mbid, mbound, mcheap, mpromised, mcoin, mpaid, mowed, mturn, misAsking, mwant, mcost, misServed, mitsRow, mitsChunk, hM, hT, hG, ⟨F, hO⟩, F2, hO2⟩ := hJ
  obtain ⟨fs0, hro⟩ := hT.ro
  obtain ⟨x, ex, qx⟩ : ∃ z : Int, vaZ xs (i + 1) = z ∧ (-2147483648 ≤ z ∧ z < 2147483648) := ⟨_, rfl, vaZ_rng _ _⟩
  obtain ⟨y, ey, qy⟩ : ∃ z : Int, vaZ xs (i + 2) = z ∧ (-2147483648 ≤ z ∧ z < 2147483648) := ⟨_, rfl, vaZ_rng _ _⟩
  refine r_aload_n B dL_law_988 rfl rfl ?_
  refine r_aload_n B dL_law_989 rfl rfl ?_
  refine r_iload B dL_law_990 rfl ?_
  refine r_iconst B dL_law_992 ?_
  refine r_iadd B dL_law_993 ?_
  refine r_sld B hX hbl hbA (by omega) dL_law_994 (by omega) (by omega) ?_
  refine r_topz ex ?_
  refine r_aload_n B dL_law_995 rfl rfl ?_
  refine r_iload B dL_law_996 rfl ?_
  refine r_iconst B dL_law_998 ?_
  refine r_iadd B dL_law_999 ?_
  refine r_sld B hX hbl hbA (by omega) dL_law_1000 (by omega) (by omega) ?_
  refine r_topz ey ?_
  refine r_callSW (n := 3) B dL_law_1001 (ct_L_setNight l g sz0 hL.1 hT hG x y hl0 qx qy) gL_law_L_setNight rfl (by decide +kernel) ⟨Nat.le_of_ble_eq_true rfl, Nat.le_of_ble_eq_true rfl⟩ rfl rfl (Nat.le_of_ble_eq_true rfl) (by show cells + 2 ≤ 601024; omega) (by show slots + 12 ≤ 7293034; omega) (fun v h1 hp => ?_)
  obtain ⟨hv1, hf1, hgood, hbad⟩ := hp
  subst v
  have hM := hL.mw (o := o1) (Or.inl rfl) hM (fun q q0 q1 _ => hf1 q q0 q1)
  have hO1 := (hf1 o1 (sm_ne hO) hL.oA.1).trans hO
  have hO2 := (hf1 o2 (sm_ne hO2) hL.oA.2).trans hO2
  dsimp only [Option.toList, List.cons_append, List.nil_append]
  refine r_istore B dL_law_1004 (by decide) (lcat_v rfl rfl) ?_
  refine r_aload_n B dL_law_1006 rfl rfl ?_
  refine r_aload_n B dL_law_1007 rfl rfl ?_
  refine r_iload B dL_law_1008 rfl ?_
  refine r_iconst B dL_law_1010 ?_
  refine r_iadd B dL_law_1011 ?_
  refine r_sld B hX hbl hbA (by omega) dL_law_1012 (by omega) (by omega) ?_
  refine r_topz ex ?_
  refine r_aload_n B dL_law_1013 rfl rfl ?_
  refine r_iload B dL_law_1014 rfl ?_
  refine r_iconst B dL_law_1016 ?_
  refine r_iadd B dL_law_1017 ?_
  refine r_sld B hX hbl hbA (by omega) dL_law_1018 (by omega) (by omega) ?_
  refine r_topz ey ?_
  refine r_callV (n := 2) B dL_law_1019 (ct_X10_setNight l g sz0 ad hL.2.1 hM x y qx qy) gL_law_X10_setNight rfl (by decide +kernel) ⟨Nat.le_of_ble_eq_true rfl, Nat.le_of_ble_eq_true rfl⟩ hM.obj rfl rfl rfl (Nat.le_of_ble_eq_true rfl) (by show cells + 2 + 0 ≤ 601024; omega) (by show slots + 12 + 0 ≤ 7293034; omega) (fun v h2 hp => ?_)
  obtain ⟨hv2, hb2, hg2⟩ := hp
  subst v
  have hJ2 : LK g A Z ad o1 o2 (tB ((0 ≤ x ∧ x ≤ 500) ∧ (0 ≤ y ∧ y ≤ 50))) h2 ∧ (tB ((0 ≤ x ∧ x ≤ 500) ∧ (0 ≤ y ∧ y ≤ 50)) = 0 → True) ∧ h2 o1 = h1 o1 ∧ h2 o2 = h1 o2 := by
    by_cases ht : tB ((0 ≤ x ∧ x ≤ 500) ∧ (0 ≤ y ∧ y ≤ 50)) = 0
    · exact ⟨LK.mk hL ht (hg2 ht) (hgood ht) (⟨hG.1, hG.2.1, (by have h9 := tB_0.mp ht; omega), hG.2.2.2⟩) hO1 hO2, fun _ => trivial, hL.of (hg2 ht)⟩
    · exact ⟨LK.mk hL rfl (hb2 ht) (hbad ht) hG hO1 hO2, fun y9 => absurd y9 ht, hL.of (hb2 ht)⟩
  obtain ⟨hJ2, hr, hf2, hf3⟩ := hJ2
  have hJ3 := hJ2
  obtain ⟨mnights, mbits, mleast, mmost, mroom, mreserve, mmount, mspeed, mdata, msize, mends, mmany, mkind, mchain, mholds, mbid, mbound, mcheap, mpromised, mcoin, mpaid, mowed, mturn, misAsking, mwant, mcost, misServed, mitsRow, mitsChunk, hM, hT9, hG9, hF9, hF8⟩ := hJ2
  dsimp only [Option.toList, List.cons_append, List.nil_append]
  refine r_aload_n B dL_law_1022 rfl rfl ?_
  refine r_callV (n := 0) B dL_law_1023 (ct_X10_thrown l g sz0 ad hL.2.1 hM) gL_law_X10_thrown rfl (by decide +kernel) ⟨Nat.le_of_ble_eq_true rfl, Nat.le_of_ble_eq_true rfl⟩ hM.obj rfl rfl rfl (Nat.le_of_ble_eq_true rfl) (by show cells + 2 + 0 + 0 ≤ 601024; omega) (by show slots + 12 + 0 + 0 ≤ 7293034; omega) (fun v h' hp => ?_)
  obtain ⟨hv3, hh3⟩ := hp
  subst v
  subst h'
  dsimp only [Option.toList, List.cons_append, List.nil_append]
  refine r_iload B dL_law_1026 rfl ?_
  refine r_icmp_eqS B dL_law_1028 (tgt := 1033) (by decide) rfl ?_
  refine r_goto B dL_law_1033 (tgt := 2502) (by decide) ?_
  refine r_widen (k := cells + 421) (n := slots + 10406) (by show cells + 2 + 0 + 0 ≤ _; omega) (by show slots + 12 + 0 + 0 ≤ _; omega) ?_
  exact r_lv (lvLe_s rfl (lvLe_s rfl (lvLe_s rfl (lvLe_s rfl (lvLe_s rfl (lvLe_s rfl (lvLe_n (lvLe_n (lvLe_n lvLe_nil))))))))) (kont _ _ hJ3)
set_option maxHeartbeats 4000000 in
set_option maxRecDepth 100000 in
theorem law_c16 {p : Program} {l : Launch} {e : Env} {s : State} {m : MethodId} {args : Array Value} {below : List Frame} {meth : Method} {c : Code} {Q : State → Prop} {g : GG} {sz0 : Nat} {A ad : Nat → Nat} {Z : Nat → Prop} {o1 o2 bs L : Nat} {xs : Nat → Int32} {h : AH} {T0 i : Int} {cells slots : Nat} (hl0 : l.stackTraces = false) (B : FX p s m args c cL_law RL wsL_law 9 g sz0) (hL : LA A ad o1 o2 Z) (hX : va_X bs L xs s s.heap) (hbl : bs < s.heap.size) (hbA : ¬ A0 sz0 bs) (hLs : L < 2147483000) (hJ : LK g A Z ad o1 o2 T0 h) (i0 : 0 ≤ i) (i5 : i + 5 ≤ (L : Int)) (hc1 : cells + 421 ≤ 601024) (hc2 : slots + 10406 ≤ 7293034) (kont : ∀ (h' : AH) (T' : Int), LK g A Z ad o1 o2 T' h' → WA p l e room_1 s m args below meth c g sz0 9 Q h' (cells + 421) (slots + 10406) [some (.ref bs), some (.ref (A 0)), some (.ref (ad 0)), some (.ref o1), some (.ref o2), some (.int (iI i)), none, none, none] 2502 []) : WA p l e room_1 s m args below meth c g sz0 9 Q h cells slots [some (.ref bs), some (.ref (A 0)), some (.ref (ad 0)), some (.ref o1), some (.ref o2), some (.int (iI i)), none, none, none] 1220 [] := by
  obtain ⟨mnights, mbits, mleast, mmost, mroom, mreserve, mmount, mspeed, mdata, msize, mends, mmany, mkind, mchain, mholds, mbid, mbound, mcheap, mpromised, mcoin, mpaid, mowed, mturn, misAsking, mwant, mcost, misServed, mitsRow, mitsChunk, hM, hT, hG, ⟨F, hO⟩, F2, hO2⟩ := hJ
  obtain ⟨fs0, hro⟩ := hT.ro
  obtain ⟨x, ex, qx⟩ : ∃ z : Int, vaZ xs (i + 1) = z ∧ (-2147483648 ≤ z ∧ z < 2147483648) := ⟨_, rfl, vaZ_rng _ _⟩
  refine r_aload_n B dL_law_1220 rfl rfl ?_
  refine r_aload_n B dL_law_1221 rfl rfl ?_
  refine r_iload B dL_law_1222 rfl ?_
  refine r_iconst B dL_law_1224 ?_
  refine r_iadd B dL_law_1225 ?_
  refine r_sld B hX hbl hbA (by omega) dL_law_1226 (by omega) (by omega) ?_
  refine r_topz ex ?_
  refine r_aload_n B dL_law_1227 rfl rfl ?_
  refine r_callSW (n := 3) B dL_law_1228 (ct_L_forDifference l g sz0 hL.1 hT hG x hl0 qx hO hL.oZ.1 hL.oA.1) gL_law_L_forDifference rfl (by decide +kernel) ⟨Nat.le_of_ble_eq_true rfl, Nat.le_of_ble_eq_true rfl⟩ rfl rfl (Nat.le_of_ble_eq_true rfl) (by show cells + 3 ≤ 601024; omega) (by show slots + 18 ≤ 7293034; omega) (fun v h1 hp => ?_)
  obtain ⟨hv1, hf1, F1, hO1, hgood, hbad⟩ := hp
  subst v
  have hM := hL.mw (Or.inl rfl) hM hf1
  have hO2 := (hf1 o2 (sm_ne hO2) hL.oA.2 (fun z => hL.2.2.2.1 z.symm)).trans hO2
  dsimp only [Option.toList, List.cons_append, List.nil_append]
  refine r_istore B dL_law_1231 (by decide) (lcat_v rfl rfl) ?_
  refine r_aload_n B dL_law_1233 rfl rfl ?_
  refine r_aload_n B dL_law_1234 rfl rfl ?_
  refine r_iload B dL_law_1235 rfl ?_
  refine r_iconst B dL_law_1237 ?_
  refine r_iadd B dL_law_1238 ?_
  refine r_sld B hX hbl hbA (by omega) dL_law_1239 (by omega) (by omega) ?_
  refine r_topz ex ?_
  refine r_callV (n := 1) B dL_law_1240 (ct_X10_forDifference l g sz0 ad hL.2.1 hM x qx (fun z hz => hG.2.2.2.2.2 (240 + z) (by omega) (by omega)) hG.1 hT.lko) gL_law_X10_forDifference rfl (by decide +kernel) ⟨Nat.le_of_ble_eq_true rfl, Nat.le_of_ble_eq_true rfl⟩ hM.obj rfl rfl rfl (Nat.le_of_ble_eq_true rfl) (by show cells + 3 + 0 ≤ 601024; omega) (by show slots + 18 + 0 ≤ 7293034; omega) (fun v h2 hp => ?_)
  obtain ⟨r, hv2, hb2, hg2⟩ := hp
  subst v
  have hJ2 : LK g A Z ad o1 o2 (tDif x (ltN (colF mkind x) mnights.toNat)) h2 ∧ (tDif x (ltN (colF mkind x) mnights.toNat) = 0 → F1 0 = (iI r).toInt64) ∧ h2 o1 = h1 o1 ∧ h2 o2 = h1 o2 := by
    by_cases ht : tDif x (ltN (colF mkind x) mnights.toNat) = 0
    · have hn48 : (cutR (rowF mdata (240 + x)) (msize (240 + x)) mbits mleast mmost).2.1 ≤ 48 := by
        have hs9 := hG.2.2.2.2.2 (240 + x) (by unfold tDif at ht; (repeat' (split at ht)) <;> omega) (by unfold tDif at ht; (repeat' (split at ht)) <;> omega)
        have h9 := cutR_ok (rowF mdata (240 + x)) (b := mbits) (ls := mleast) (ms := mmost) hs9.1 hs9.2
        omega
      exact ⟨LK.mk hL ht (hg2 ht).2 (ST.lke hG.1 (hgood ht).2 (lk_put mends mmany _ (by unfold tDif at ht; (repeat' (split at ht)) <;> omega) hn48)) (hG) hO1 hO2, fun _ => (by first | (rw [(hgood ht).1, (hg2 ht).1]; done) | (rw [(hgood ht).1, (hg2 ht).1]; rfl)), hL.of (hg2 ht).2⟩
    · exact ⟨LK.mk hL rfl (hb2 ht).2 (hbad ht) hG hO1 hO2, fun y9 => absurd y9 ht, hL.of (hb2 ht).2⟩
  obtain ⟨hJ2, hr, hf2, hf3⟩ := hJ2
  have hJ3 := hJ2
  obtain ⟨mnights, mbits, mleast, mmost, mroom, mreserve, mmount, mspeed, mdata, msize, mends, mmany, mkind, mchain, mholds, mbid, mbound, mcheap, mpromised, mcoin, mpaid, mowed, mturn, misAsking, mwant, mcost, misServed, mitsRow, mitsChunk, hM, hT9, hG9, hF9, hF8⟩ := hJ2
  have hO3 := hf2.trans hO1
  have hO4 := hf3.trans hO2
  dsimp only [Option.toList, List.cons_append, List.nil_append]
  refine r_istore B dL_law_1243 (by decide) (lcat_v rfl rfl) ?_
  refine r_aload_n B dL_law_1245 rfl rfl ?_
  refine r_callV (n := 0) B dL_law_1246 (ct_X10_thrown l g sz0 ad hL.2.1 hM) gL_law_X10_thrown rfl (by decide +kernel) ⟨Nat.le_of_ble_eq_true rfl, Nat.le_of_ble_eq_true rfl⟩ hM.obj rfl rfl rfl (Nat.le_of_ble_eq_true rfl) (by show cells + 3 + 0 + 0 ≤ 601024; omega) (by show slots + 18 + 0 + 0 ≤ 7293034; omega) (fun v h' hp => ?_)
  obtain ⟨hv3, hh3⟩ := hp
  subst v
  subst h'
  dsimp only [Option.toList, List.cons_append, List.nil_append]
  refine r_iload B dL_law_1249 rfl ?_
  refine r_icmp_eqS B dL_law_1251 (tgt := 1256) (by decide) rfl ?_
  refine r_iload B dL_law_1256 rfl ?_
  refine r_if_ne B dL_law_1258 (tgt := 1273) (by decide) hM.i_thrown (fun c1258 => ?_) (fun c1258 => ?_)
  · refine r_goto B dL_law_1273 (tgt := 2502) (by decide) ?_
    refine r_widen (k := cells + 421) (n := slots + 10406) (by show cells + 3 + 0 + 0 ≤ _; omega) (by show slots + 18 + 0 + 0 ≤ _; omega) ?_
    exact r_lv (lvLe_s rfl (lvLe_s rfl (lvLe_s rfl (lvLe_s rfl (lvLe_s rfl (lvLe_s rfl (lvLe_n (lvLe_n (lvLe_n lvLe_nil))))))))) (kont _ _ hJ3)
  · refine r_aload_n B dL_law_1261 rfl rfl ?_
    refine r_iconst B dL_law_1262 ?_
    refine r_lald B dL_law_1263 hO3 (by decide) (by omega) (by omega) ?_
    refine r_iload B dL_law_1264 rfl ?_
    refine r_i2l B dL_law_1266 ?_
    refine r_lcmp B dL_law_1267 ?_
    refine r_if_eqS B dL_law_1268 (tgt := 1273) (by decide) (lgc_self (hr c1258)) ?_
    refine r_goto B dL_law_1273 (tgt := 2502) (by decide) ?_
    refine r_widen (k := cells + 421) (n := slots + 10406) (by show cells + 3 + 0 + 0 ≤ _; omega) (by show slots + 18 + 0 + 0 ≤ _; omega) ?_
    exact r_lv (lvLe_s rfl (lvLe_s rfl (lvLe_s rfl (lvLe_s rfl (lvLe_s rfl (lvLe_s rfl (lvLe_n (lvLe_n (lvLe_n lvLe_nil))))))))) (kont _ _ hJ3)
set_option maxHeartbeats 4000000 in
set_option maxRecDepth 100000 in
theorem law_c20 {p : Program} {l : Launch} {e : Env} {s : State} {m : MethodId} {args : Array Value} {below : List Frame} {meth : Method} {c : Code} {Q : State → Prop} {g : GG} {sz0 : Nat} {A ad : Nat → Nat} {Z : Nat → Prop} {o1 o2 bs L : Nat} {xs : Nat → Int32} {h : AH} {T0 i : Int} {cells slots : Nat} (hl0 : l.stackTraces = false) (B : FX p s m args c cL_law RL wsL_law 9 g sz0) (hL : LA A ad o1 o2 Z) (hX : va_X bs L xs s s.heap) (hbl : bs < s.heap.size) (hbA : ¬ A0 sz0 bs) (hLs : L < 2147483000) (hJ : LK g A Z ad o1 o2 T0 h) (i0 : 0 ≤ i) (i5 : i + 5 ≤ (L : Int)) (hc1 : cells + 421 ≤ 601024) (hc2 : slots + 10406 ≤ 7293034) (kont : ∀ (h' : AH) (T' : Int), LK g A Z ad o1 o2 T' h' → WA p l e room_1 s m args below meth c g sz0 9 Q h' (cells + 421) (slots + 10406) [some (.ref bs), some (.ref (A 0)), some (.ref (ad 0)), some (.ref o1), some (.ref o2), some (.int (iI i)), none, none, none] 2502 []) : WA p l e room_1 s m args below meth c g sz0 9 Q h cells slots [some (.ref bs), some (.ref (A 0)), some (.ref (ad 0)), some (.ref o1), some (.ref o2), some (.int (iI i)), none, none, none] 1389 [] := by
  obtain ⟨mnights, mbits, mleast, mmost, mroom, mreserve, mmount, mspeed, mdata, msize, mends, mmany, mkind, mchain, mholds, mbid, mbound, mcheap, mpromised, mcoin, mpaid, mowed, mturn, misAsking, mwant, mcost, misServed, mitsRow, mitsChunk, hM, hT, hG, ⟨F, hO⟩, F2, hO2⟩ := hJ
  obtain ⟨fs0, hro⟩ := hT.ro
  obtain ⟨x, ex, qx⟩ : ∃ z : Int, vaZ xs (i + 1) = z ∧ (-2147483648 ≤ z ∧ z < 2147483648) := ⟨_, rfl, vaZ_rng _ _⟩
  obtain ⟨k, ek, qk⟩ : ∃ z : Int, vaZ xs (i + 2) = z ∧ (-2147483648 ≤ z ∧ z < 2147483648) := ⟨_, rfl, vaZ_rng _ _⟩
  refine r_aload_n B dL_law_1389 rfl rfl ?_
  refine r_aload_n B dL_law_1390 rfl rfl ?_
  refine r_iload B dL_law_1391 rfl ?_
  refine r_iconst B dL_law_1393 ?_
  refine r_iadd B dL_law_1394 ?_
  refine r_sld B hX hbl hbA (by omega) dL_law_1395 (by omega) (by omega) ?_
  refine r_topz ex ?_
  refine r_aload_n B dL_law_1396 rfl rfl ?_
  refine r_iload B dL_law_1397 rfl ?_
  refine r_iconst B dL_law_1399 ?_
  refine r_iadd B dL_law_1400 ?_
  refine r_sld B hX hbl hbA (by omega) dL_law_1401 (by omega) (by omega) ?_
  refine r_topz ek ?_
  refine r_aload_n B dL_law_1402 rfl rfl ?_
  refine r_callSW (n := 4) B dL_law_1403 (ct_L_got l g sz0 hL.1 hT hG x k hl0 qx qk hO hL.oZ.1 hL.oA.1) gL_law_L_got rfl (by decide +kernel) ⟨Nat.le_of_ble_eq_true rfl, Nat.le_of_ble_eq_true rfl⟩ rfl rfl (Nat.le_of_ble_eq_true rfl) (by show cells + 2 ≤ 601024; omega) (by show slots + 12 ≤ 7293034; omega) (fun v h1 hp => ?_)
  obtain ⟨hv1, hf1, F1, hO1, hgood, hbad⟩ := hp
  subst v
  have hM := hL.mw (Or.inl rfl) hM hf1
  have hO2 := (hf1 o2 (sm_ne hO2) hL.oA.2 (fun z => hL.2.2.2.1 z.symm)).trans hO2
  dsimp only [Option.toList, List.cons_append, List.nil_append]
  refine r_istore B dL_law_1406 (by decide) (lcat_v rfl rfl) ?_
  refine r_aload_n B dL_law_1408 rfl rfl ?_
  refine r_aload_n B dL_law_1409 rfl rfl ?_
  refine r_iload B dL_law_1410 rfl ?_
  refine r_iconst B dL_law_1412 ?_
  refine r_iadd B dL_law_1413 ?_
  refine r_sld B hX hbl hbA (by omega) dL_law_1414 (by omega) (by omega) ?_
  refine r_topz ex ?_
  refine r_aload_n B dL_law_1415 rfl rfl ?_
  refine r_iload B dL_law_1416 rfl ?_
  refine r_iconst B dL_law_1418 ?_
  refine r_iadd B dL_law_1419 ?_
  refine r_sld B hX hbl hbA (by omega) dL_law_1420 (by omega) (by omega) ?_
  refine r_topz ek ?_
  refine r_callV (n := 2) B dL_law_1421 (ct_X10_got l g sz0 ad hL.2.1 hM x k qx qk hG.1) gL_law_X10_got rfl (by decide +kernel) ⟨Nat.le_of_ble_eq_true rfl, Nat.le_of_ble_eq_true rfl⟩ hM.obj rfl rfl rfl (Nat.le_of_ble_eq_true rfl) (by show cells + 2 + 0 ≤ 601024; omega) (by show slots + 12 + 0 ≤ 7293034; omega) (fun v h2 hp => ?_)
  obtain ⟨r, hv2, hb2, hg2⟩ := hp
  subst v
  have hJ2 : LK g A Z ad o1 o2 (tNi x k mnights) h2 ∧ (tNi x k mnights = 0 → F1 0 = (iI r).toInt64) ∧ h2 o1 = h1 o1 ∧ h2 o2 = h1 o2 := by
    by_cases ht : tNi x k mnights = 0
    · exact ⟨LK.mk hL ht (hg2 ht).2 (hgood ht).2 (hG) hO1 hO2, fun _ => (by first | (rw [(hgood ht).1, (hg2 ht).1]; done) | (rw [(hgood ht).1, (hg2 ht).1]; rfl)), hL.of (hg2 ht).2⟩
    · exact ⟨LK.mk hL rfl (hb2 ht).2 (hbad ht) hG hO1 hO2, fun y9 => absurd y9 ht, hL.of (hb2 ht).2⟩
  obtain ⟨hJ2, hr, hf2, hf3⟩ := hJ2
  have hJ3 := hJ2
  obtain ⟨mnights, mbits, mleast, mmost, mroom, mreserve, mmount, mspeed, mdata, msize, mends, mmany, mkind, mchain, mholds, mbid, mbound, mcheap, mpromised, mcoin, mpaid, mowed, mturn, misAsking, mwant, mcost, misServed, mitsRow, mitsChunk, hM, hT9, hG9, hF9, hF8⟩ := hJ2
  have hO3 := hf2.trans hO1
  have hO4 := hf3.trans hO2
  dsimp only [Option.toList, List.cons_append, List.nil_append]
  refine r_istore B dL_law_1424 (by decide) (lcat_v rfl rfl) ?_
  refine r_aload_n B dL_law_1426 rfl rfl ?_
  refine r_callV (n := 0) B dL_law_1427 (ct_X10_thrown l g sz0 ad hL.2.1 hM) gL_law_X10_thrown rfl (by decide +kernel) ⟨Nat.le_of_ble_eq_true rfl, Nat.le_of_ble_eq_true rfl⟩ hM.obj rfl rfl rfl (Nat.le_of_ble_eq_true rfl) (by show cells + 2 + 0 + 0 ≤ 601024; omega) (by show slots + 12 + 0 + 0 ≤ 7293034; omega) (fun v h' hp => ?_)
  obtain ⟨hv3, hh3⟩ := hp
  subst v
  subst h'
  dsimp only [Option.toList, List.cons_append, List.nil_append]
  refine r_iload B dL_law_1430 rfl ?_
  refine r_icmp_eqS B dL_law_1432 (tgt := 1437) (by decide) rfl ?_
  refine r_iload B dL_law_1437 rfl ?_
  refine r_if_ne B dL_law_1439 (tgt := 1454) (by decide) hM.i_thrown (fun c1439 => ?_) (fun c1439 => ?_)
  · refine r_goto B dL_law_1454 (tgt := 2502) (by decide) ?_
    refine r_widen (k := cells + 421) (n := slots + 10406) (by show cells + 2 + 0 + 0 ≤ _; omega) (by show slots + 12 + 0 + 0 ≤ _; omega) ?_
    exact r_lv (lvLe_s rfl (lvLe_s rfl (lvLe_s rfl (lvLe_s rfl (lvLe_s rfl (lvLe_s rfl (lvLe_n (lvLe_n (lvLe_n lvLe_nil))))))))) (kont _ _ hJ3)
  · refine r_aload_n B dL_law_1442 rfl rfl ?_
    refine r_iconst B dL_law_1443 ?_
    refine r_lald B dL_law_1444 hO3 (by decide) (by omega) (by omega) ?_
    refine r_iload B dL_law_1445 rfl ?_
    refine r_i2l B dL_law_1447 ?_
    refine r_lcmp B dL_law_1448 ?_
    refine r_if_eqS B dL_law_1449 (tgt := 1454) (by decide) (lgc_self (hr c1439)) ?_
    refine r_goto B dL_law_1454 (tgt := 2502) (by decide) ?_
    refine r_widen (k := cells + 421) (n := slots + 10406) (by show cells + 2 + 0 + 0 ≤ _; omega) (by show slots + 12 + 0 + 0 ≤ _; omega) ?_
    exact r_lv (lvLe_s rfl (lvLe_s rfl (lvLe_s rfl (lvLe_s rfl (lvLe_s rfl (lvLe_s rfl (lvLe_n (lvLe_n (lvLe_n lvLe_nil))))))))) (kont _ _ hJ3)
set_option maxHeartbeats 4000000 in
set_option maxRecDepth 100000 in
theorem law_c24 {p : Program} {l : Launch} {e : Env} {s : State} {m : MethodId} {args : Array Value} {below : List Frame} {meth : Method} {c : Code} {Q : State → Prop} {g : GG} {sz0 : Nat} {A ad : Nat → Nat} {Z : Nat → Prop} {o1 o2 bs L : Nat} {xs : Nat → Int32} {h : AH} {T0 i : Int} {cells slots : Nat} (hl0 : l.stackTraces = false) (B : FX p s m args c cL_law RL wsL_law 9 g sz0) (hL : LA A ad o1 o2 Z) (hX : va_X bs L xs s s.heap) (hbl : bs < s.heap.size) (hbA : ¬ A0 sz0 bs) (hLs : L < 2147483000) (hJ : LK g A Z ad o1 o2 T0 h) (i0 : 0 ≤ i) (i5 : i + 5 ≤ (L : Int)) (hc1 : cells + 421 ≤ 601024) (hc2 : slots + 10406 ≤ 7293034) (kont : ∀ (h' : AH) (T' : Int), LK g A Z ad o1 o2 T' h' → WA p l e room_1 s m args below meth c g sz0 9 Q h' (cells + 421) (slots + 10406) [some (.ref bs), some (.ref (A 0)), some (.ref (ad 0)), some (.ref o1), some (.ref o2), some (.int (iI i)), none, none, none] 2502 []) : WA p l e room_1 s m args below meth c g sz0 9 Q h cells slots [some (.ref bs), some (.ref (A 0)), some (.ref (ad 0)), some (.ref o1), some (.ref o2), some (.int (iI i)), none, none, none] 1649 [] := by
  obtain ⟨mnights, mbits, mleast, mmost, mroom, mreserve, mmount, mspeed, mdata, msize, mends, mmany, mkind, mchain, mholds, mbid, mbound, mcheap, mpromised, mcoin, mpaid, mowed, mturn, misAsking, mwant, mcost, misServed, mitsRow, mitsChunk, hM, hT, hG, ⟨F, hO⟩, F2, hO2⟩ := hJ
  obtain ⟨fs0, hro⟩ := hT.ro
  obtain ⟨x, ex, qx⟩ : ∃ z : Int, vaZ xs (i + 1) = z ∧ (-2147483648 ≤ z ∧ z < 2147483648) := ⟨_, rfl, vaZ_rng _ _⟩
  obtain ⟨k, ek, qk⟩ : ∃ z : Int, vaZ xs (i + 2) = z ∧ (-2147483648 ≤ z ∧ z < 2147483648) := ⟨_, rfl, vaZ_rng _ _⟩
  refine r_aload_n B dL_law_1649 rfl rfl ?_
  refine r_aload_n B dL_law_1650 rfl rfl ?_
  refine r_iload B dL_law_1651 rfl ?_
  refine r_iconst B dL_law_1653 ?_
  refine r_iadd B dL_law_1654 ?_
  refine r_sld B hX hbl hbA (by omega) dL_law_1655 (by omega) (by omega) ?_
  refine r_topz ex ?_
  refine r_aload_n B dL_law_1656 rfl rfl ?_
  refine r_iload B dL_law_1657 rfl ?_
  refine r_iconst B dL_law_1659 ?_
  refine r_iadd B dL_law_1660 ?_
  refine r_sld B hX hbl hbA (by omega) dL_law_1661 (by omega) (by omega) ?_
  refine r_topz ek ?_
  refine r_aload_n B dL_law_1662 rfl rfl ?_
  refine r_callSW (n := 4) B dL_law_1663 (ct_L_held l g sz0 hL.1 hT hG x k hl0 qx qk hO hL.oZ.1 hL.oA.1) gL_law_L_held rfl (by decide +kernel) ⟨Nat.le_of_ble_eq_true rfl, Nat.le_of_ble_eq_true rfl⟩ rfl rfl (Nat.le_of_ble_eq_true rfl) (by show cells + 3 ≤ 601024; omega) (by show slots + 18 ≤ 7293034; omega) (fun v h1 hp => ?_)
  obtain ⟨hv1, hf1, F1, hO1, hgood, hbad⟩ := hp
  subst v
  have hM := hL.mw (Or.inl rfl) hM hf1
  have hO2 := (hf1 o2 (sm_ne hO2) hL.oA.2 (fun z => hL.2.2.2.1 z.symm)).trans hO2
  dsimp only [Option.toList, List.cons_append, List.nil_append]
  refine r_istore B dL_law_1666 (by decide) (lcat_v rfl rfl) ?_
  refine r_aload_n B dL_law_1668 rfl rfl ?_
  refine r_aload_n B dL_law_1669 rfl rfl ?_
  refine r_iload B dL_law_1670 rfl ?_
  refine r_iconst B dL_law_1672 ?_
  refine r_iadd B dL_law_1673 ?_
  refine r_sld B hX hbl hbA (by omega) dL_law_1674 (by omega) (by omega) ?_
  refine r_topz ex ?_
  refine r_aload_n B dL_law_1675 rfl rfl ?_
  refine r_iload B dL_law_1676 rfl ?_
  refine r_iconst B dL_law_1678 ?_
  refine r_iadd B dL_law_1679 ?_
  refine r_sld B hX hbl hbA (by omega) dL_law_1680 (by omega) (by omega) ?_
  refine r_topz ek ?_
  refine r_callV (n := 2) B dL_law_1681 (ct_X10_held l g sz0 ad hL.2.1 hM x k qx qk hG.1 hT.lko) gL_law_X10_held rfl (by decide +kernel) ⟨Nat.le_of_ble_eq_true rfl, Nat.le_of_ble_eq_true rfl⟩ hM.obj rfl rfl rfl (Nat.le_of_ble_eq_true rfl) (by show cells + 3 + 0 ≤ 601024; omega) (by show slots + 18 + 0 ≤ 7293034; omega) (fun v h2 hp => ?_)
  obtain ⟨r, hv2, hb2, hg2⟩ := hp
  subst v
  have hJ2 : LK g A Z ad o1 o2 (tAsk x k mnights (mkind (60 * x + k))) h2 ∧ (tAsk x k mnights (mkind (60 * x + k)) = 0 → F1 0 = (iI r).toInt64) ∧ h2 o1 = h1 o1 ∧ h2 o2 = h1 o2 := by
    by_cases ht : tAsk x k mnights (mkind (60 * x + k)) = 0
    · exact ⟨LK.mk hL ht (hg2 ht).2 (hgood ht).2 (hG) hO1 hO2, fun _ => (by first | (rw [(hgood ht).1, (hg2 ht).1]; done) | (rw [(hgood ht).1, (hg2 ht).1]; rfl)), hL.of (hg2 ht).2⟩
    · exact ⟨LK.mk hL rfl (hb2 ht).2 (hbad ht) hG hO1 hO2, fun y9 => absurd y9 ht, hL.of (hb2 ht).2⟩
  obtain ⟨hJ2, hr, hf2, hf3⟩ := hJ2
  have hJ3 := hJ2
  obtain ⟨mnights, mbits, mleast, mmost, mroom, mreserve, mmount, mspeed, mdata, msize, mends, mmany, mkind, mchain, mholds, mbid, mbound, mcheap, mpromised, mcoin, mpaid, mowed, mturn, misAsking, mwant, mcost, misServed, mitsRow, mitsChunk, hM, hT9, hG9, hF9, hF8⟩ := hJ2
  have hO3 := hf2.trans hO1
  have hO4 := hf3.trans hO2
  dsimp only [Option.toList, List.cons_append, List.nil_append]
  refine r_istore B dL_law_1684 (by decide) (lcat_v rfl rfl) ?_
  refine r_aload_n B dL_law_1686 rfl rfl ?_
  refine r_callV (n := 0) B dL_law_1687 (ct_X10_thrown l g sz0 ad hL.2.1 hM) gL_law_X10_thrown rfl (by decide +kernel) ⟨Nat.le_of_ble_eq_true rfl, Nat.le_of_ble_eq_true rfl⟩ hM.obj rfl rfl rfl (Nat.le_of_ble_eq_true rfl) (by show cells + 3 + 0 + 0 ≤ 601024; omega) (by show slots + 18 + 0 + 0 ≤ 7293034; omega) (fun v h' hp => ?_)
  obtain ⟨hv3, hh3⟩ := hp
  subst v
  subst h'
  dsimp only [Option.toList, List.cons_append, List.nil_append]
  refine r_iload B dL_law_1690 rfl ?_
  refine r_icmp_eqS B dL_law_1692 (tgt := 1697) (by decide) rfl ?_
  refine r_iload B dL_law_1697 rfl ?_
  refine r_if_ne B dL_law_1699 (tgt := 1714) (by decide) hM.i_thrown (fun c1699 => ?_) (fun c1699 => ?_)
  · refine r_goto B dL_law_1714 (tgt := 2502) (by decide) ?_
    refine r_widen (k := cells + 421) (n := slots + 10406) (by show cells + 3 + 0 + 0 ≤ _; omega) (by show slots + 18 + 0 + 0 ≤ _; omega) ?_
    exact r_lv (lvLe_s rfl (lvLe_s rfl (lvLe_s rfl (lvLe_s rfl (lvLe_s rfl (lvLe_s rfl (lvLe_n (lvLe_n (lvLe_n lvLe_nil))))))))) (kont _ _ hJ3)
  · refine r_aload_n B dL_law_1702 rfl rfl ?_
    refine r_iconst B dL_law_1703 ?_
    refine r_lald B dL_law_1704 hO3 (by decide) (by omega) (by omega) ?_
    refine r_iload B dL_law_1705 rfl ?_
    refine r_i2l B dL_law_1707 ?_
    refine r_lcmp B dL_law_1708 ?_
    refine r_if_eqS B dL_law_1709 (tgt := 1714) (by decide) (lgc_self (hr c1699)) ?_
    refine r_goto B dL_law_1714 (tgt := 2502) (by decide) ?_
    refine r_widen (k := cells + 421) (n := slots + 10406) (by show cells + 3 + 0 + 0 ≤ _; omega) (by show slots + 18 + 0 + 0 ≤ _; omega) ?_
    exact r_lv (lvLe_s rfl (lvLe_s rfl (lvLe_s rfl (lvLe_s rfl (lvLe_s rfl (lvLe_s rfl (lvLe_n (lvLe_n (lvLe_n lvLe_nil))))))))) (kont _ _ hJ3)
set_option maxHeartbeats 4000000 in
set_option maxRecDepth 100000 in
theorem law_c28 {p : Program} {l : Launch} {e : Env} {s : State} {m : MethodId} {args : Array Value} {below : List Frame} {meth : Method} {c : Code} {Q : State → Prop} {g : GG} {sz0 : Nat} {A ad : Nat → Nat} {Z : Nat → Prop} {o1 o2 bs L : Nat} {xs : Nat → Int32} {h : AH} {T0 i : Int} {cells slots : Nat} (hl0 : l.stackTraces = false) (B : FX p s m args c cL_law RL wsL_law 9 g sz0) (hL : LA A ad o1 o2 Z) (hX : va_X bs L xs s s.heap) (hbl : bs < s.heap.size) (hbA : ¬ A0 sz0 bs) (hLs : L < 2147483000) (hJ : LK g A Z ad o1 o2 T0 h) (i0 : 0 ≤ i) (i5 : i + 5 ≤ (L : Int)) (hc1 : cells + 421 ≤ 601024) (hc2 : slots + 10406 ≤ 7293034) (kont : ∀ (h' : AH) (T' : Int), LK g A Z ad o1 o2 T' h' → WA p l e room_1 s m args below meth c g sz0 9 Q h' (cells + 421) (slots + 10406) [some (.ref bs), some (.ref (A 0)), some (.ref (ad 0)), some (.ref o1), some (.ref o2), some (.int (iI i)), none, none, none] 2502 []) : WA p l e room_1 s m args below meth c g sz0 9 Q h cells slots [some (.ref bs), some (.ref (A 0)), some (.ref (ad 0)), some (.ref o1), some (.ref o2), some (.int (iI i)), none, none, none] 1919 [] := by
  obtain ⟨mnights, mbits, mleast, mmost, mroom, mreserve, mmount, mspeed, mdata, msize, mends, mmany, mkind, mchain, mholds, mbid, mbound, mcheap, mpromised, mcoin, mpaid, mowed, mturn, misAsking, mwant, mcost, misServed, mitsRow, mitsChunk, hM, hT, hG, ⟨F, hO⟩, F2, hO2⟩ := hJ
  obtain ⟨fs0, hro⟩ := hT.ro
  obtain ⟨x, ex, qx⟩ : ∃ z : Int, vaZ xs (i + 1) = z ∧ (-2147483648 ≤ z ∧ z < 2147483648) := ⟨_, rfl, vaZ_rng _ _⟩
  obtain ⟨k, ek, qk⟩ : ∃ z : Int, vaZ xs (i + 2) = z ∧ (-2147483648 ≤ z ∧ z < 2147483648) := ⟨_, rfl, vaZ_rng _ _⟩
  refine r_aload_n B dL_law_1919 rfl rfl ?_
  refine r_aload_n B dL_law_1920 rfl rfl ?_
  refine r_iload B dL_law_1921 rfl ?_
  refine r_iconst B dL_law_1923 ?_
  refine r_iadd B dL_law_1924 ?_
  refine r_sld B hX hbl hbA (by omega) dL_law_1925 (by omega) (by omega) ?_
  refine r_topz ex ?_
  refine r_aload_n B dL_law_1926 rfl rfl ?_
  refine r_iload B dL_law_1927 rfl ?_
  refine r_iconst B dL_law_1929 ?_
  refine r_iadd B dL_law_1930 ?_
  refine r_sld B hX hbl hbA (by omega) dL_law_1931 (by omega) (by omega) ?_
  refine r_topz ek ?_
  refine r_aload_n B dL_law_1932 rfl rfl ?_
  refine r_callSW (n := 4) B dL_law_1933 (ct_L_restore l g sz0 hL.1 hT hG x k hl0 qx qk hO hL.oZ.1 hL.oA.1) gL_law_L_restore rfl (by decide +kernel) ⟨Nat.le_of_ble_eq_true rfl, Nat.le_of_ble_eq_true rfl⟩ rfl rfl (Nat.le_of_ble_eq_true rfl) (by show cells + 4 ≤ 601024; omega) (by show slots + 24 ≤ 7293034; omega) (fun v h1 hp => ?_)
  obtain ⟨hv1, hf1, F1, hO1, hgood, hbad⟩ := hp
  subst v
  have hM := hL.mw (Or.inl rfl) hM hf1
  have hO2 := (hf1 o2 (sm_ne hO2) hL.oA.2 (fun z => hL.2.2.2.1 z.symm)).trans hO2
  dsimp only [Option.toList, List.cons_append, List.nil_append]
  refine r_istore B dL_law_1936 (by decide) (lcat_v rfl rfl) ?_
  refine r_aload_n B dL_law_1938 rfl rfl ?_
  refine r_aload_n B dL_law_1939 rfl rfl ?_
  refine r_iload B dL_law_1940 rfl ?_
  refine r_iconst B dL_law_1942 ?_
  refine r_iadd B dL_law_1943 ?_
  refine r_sld B hX hbl hbA (by omega) dL_law_1944 (by omega) (by omega) ?_
  refine r_topz ex ?_
  refine r_aload_n B dL_law_1945 rfl rfl ?_
  refine r_iload B dL_law_1946 rfl ?_
  refine r_iconst B dL_law_1948 ?_
  refine r_iadd B dL_law_1949 ?_
  refine r_sld B hX hbl hbA (by omega) dL_law_1950 (by omega) (by omega) ?_
  refine r_topz ek ?_
  refine r_callV (n := 2) B dL_law_1951 (ct_X10_restore l g sz0 ad hL.2.1 hM x k qx qk hG.1 hG.2.2.2.2.2) gL_law_X10_restore rfl (by decide +kernel) ⟨Nat.le_of_ble_eq_true rfl, Nat.le_of_ble_eq_true rfl⟩ hM.obj rfl rfl rfl (Nat.le_of_ble_eq_true rfl) (by show cells + 4 + 0 ≤ 601024; omega) (by show slots + 24 + 0 ≤ 7293034; omega) (fun v h2 hp => ?_)
  obtain ⟨r, hv2, hb2, hg2⟩ := hp
  subst v
  have hJ2 : LK g A Z ad o1 o2 (tAsk x k mnights (mkind (60 * x + k))) h2 ∧ (tAsk x k mnights (mkind (60 * x + k)) = 0 → F1 0 = (iI r).toInt64) ∧ h2 o1 = h1 o1 ∧ h2 o2 = h1 o2 := by
    by_cases ht : tAsk x k mnights (mkind (60 * x + k)) = 0
    · exact ⟨LK.mk hL ht (hg2 ht).2 (hgood ht).2 (hG.size (by unfold tAsk at ht; (repeat' (split at ht)) <;> first | exact hG.2.2.2.2.2 _ (by omega) (by have := hG.1; omega) | omega)) hO1 hO2, fun _ => (by first | (rw [(hgood ht).1, (hg2 ht).1]; done) | (rw [(hgood ht).1, (hg2 ht).1]; rfl)), hL.of (hg2 ht).2⟩
    · exact ⟨LK.mk hL rfl (hb2 ht).2 (hbad ht) hG hO1 hO2, fun y9 => absurd y9 ht, hL.of (hb2 ht).2⟩
  obtain ⟨hJ2, hr, hf2, hf3⟩ := hJ2
  have hJ3 := hJ2
  obtain ⟨mnights, mbits, mleast, mmost, mroom, mreserve, mmount, mspeed, mdata, msize, mends, mmany, mkind, mchain, mholds, mbid, mbound, mcheap, mpromised, mcoin, mpaid, mowed, mturn, misAsking, mwant, mcost, misServed, mitsRow, mitsChunk, hM, hT9, hG9, hF9, hF8⟩ := hJ2
  have hO3 := hf2.trans hO1
  have hO4 := hf3.trans hO2
  dsimp only [Option.toList, List.cons_append, List.nil_append]
  refine r_istore B dL_law_1954 (by decide) (lcat_v rfl rfl) ?_
  refine r_aload_n B dL_law_1956 rfl rfl ?_
  refine r_callV (n := 0) B dL_law_1957 (ct_X10_thrown l g sz0 ad hL.2.1 hM) gL_law_X10_thrown rfl (by decide +kernel) ⟨Nat.le_of_ble_eq_true rfl, Nat.le_of_ble_eq_true rfl⟩ hM.obj rfl rfl rfl (Nat.le_of_ble_eq_true rfl) (by show cells + 4 + 0 + 0 ≤ 601024; omega) (by show slots + 24 + 0 + 0 ≤ 7293034; omega) (fun v h' hp => ?_)
  obtain ⟨hv3, hh3⟩ := hp
  subst v
  subst h'
  dsimp only [Option.toList, List.cons_append, List.nil_append]
  refine r_iload B dL_law_1960 rfl ?_
  refine r_icmp_eqS B dL_law_1962 (tgt := 1967) (by decide) rfl ?_
  refine r_iload B dL_law_1967 rfl ?_
  refine r_if_ne B dL_law_1969 (tgt := 1984) (by decide) hM.i_thrown (fun c1969 => ?_) (fun c1969 => ?_)
  · refine r_goto B dL_law_1984 (tgt := 2502) (by decide) ?_
    refine r_widen (k := cells + 421) (n := slots + 10406) (by show cells + 4 + 0 + 0 ≤ _; omega) (by show slots + 24 + 0 + 0 ≤ _; omega) ?_
    exact r_lv (lvLe_s rfl (lvLe_s rfl (lvLe_s rfl (lvLe_s rfl (lvLe_s rfl (lvLe_s rfl (lvLe_n (lvLe_n (lvLe_n lvLe_nil))))))))) (kont _ _ hJ3)
  · refine r_aload_n B dL_law_1972 rfl rfl ?_
    refine r_iconst B dL_law_1973 ?_
    refine r_lald B dL_law_1974 hO3 (by decide) (by omega) (by omega) ?_
    refine r_iload B dL_law_1975 rfl ?_
    refine r_i2l B dL_law_1977 ?_
    refine r_lcmp B dL_law_1978 ?_
    refine r_if_eqS B dL_law_1979 (tgt := 1984) (by decide) (lgc_self (hr c1969)) ?_
    refine r_goto B dL_law_1984 (tgt := 2502) (by decide) ?_
    refine r_widen (k := cells + 421) (n := slots + 10406) (by show cells + 4 + 0 + 0 ≤ _; omega) (by show slots + 24 + 0 + 0 ≤ _; omega) ?_
    exact r_lv (lvLe_s rfl (lvLe_s rfl (lvLe_s rfl (lvLe_s rfl (lvLe_s rfl (lvLe_s rfl (lvLe_n (lvLe_n (lvLe_n lvLe_nil))))))))) (kont _ _ hJ3)
set_option maxHeartbeats 4000000 in
set_option maxRecDepth 100000 in
theorem law_c33 {p : Program} {l : Launch} {e : Env} {s : State} {m : MethodId} {args : Array Value} {below : List Frame} {meth : Method} {c : Code} {Q : State → Prop} {g : GG} {sz0 : Nat} {A ad : Nat → Nat} {Z : Nat → Prop} {o1 o2 bs L : Nat} {xs : Nat → Int32} {h : AH} {T0 i : Int} {cells slots : Nat} (hl0 : l.stackTraces = false) (B : FX p s m args c cL_law RL wsL_law 9 g sz0) (hL : LA A ad o1 o2 Z) (hX : va_X bs L xs s s.heap) (hbl : bs < s.heap.size) (hbA : ¬ A0 sz0 bs) (hLs : L < 2147483000) (hJ : LK g A Z ad o1 o2 T0 h) (i0 : 0 ≤ i) (i5 : i + 5 ≤ (L : Int)) (hc1 : cells + 421 ≤ 601024) (hc2 : slots + 10406 ≤ 7293034) (kont : ∀ (h' : AH) (T' : Int), LK g A Z ad o1 o2 T' h' → WA p l e room_1 s m args below meth c g sz0 9 Q h' (cells + 421) (slots + 10406) [some (.ref bs), some (.ref (A 0)), some (.ref (ad 0)), some (.ref o1), some (.ref o2), some (.int (iI i)), none, none, none] 2502 []) : WA p l e room_1 s m args below meth c g sz0 9 Q h cells slots [some (.ref bs), some (.ref (A 0)), some (.ref (ad 0)), some (.ref o1), some (.ref o2), some (.int (iI i)), none, none, none] 2261 [] := by
  obtain ⟨mnights, mbits, mleast, mmost, mroom, mreserve, mmount, mspeed, mdata, msize, mends, mmany, mkind, mchain, mholds, mbid, mbound, mcheap, mpromised, mcoin, mpaid, mowed, mturn, misAsking, mwant, mcost, misServed, mitsRow, mitsChunk, hM, hT, hG, ⟨F, hO⟩, F2, hO2⟩ := hJ
  obtain ⟨fs0, hro⟩ := hT.ro
  obtain ⟨x, ex, qx⟩ : ∃ z : Int, vaZ xs (i + 1) = z ∧ (-2147483648 ≤ z ∧ z < 2147483648) := ⟨_, rfl, vaZ_rng _ _⟩
  obtain ⟨y, ey, qy⟩ : ∃ z : Int, vaZ xs (i + 2) = z ∧ (-2147483648 ≤ z ∧ z < 2147483648) := ⟨_, rfl, vaZ_rng _ _⟩
  obtain ⟨z, ez, qz⟩ : ∃ z : Int, vaZ xs (i + 3) = z ∧ (-2147483648 ≤ z ∧ z < 2147483648) := ⟨_, rfl, vaZ_rng _ _⟩
  refine r_aload_n B dL_law_2261 rfl rfl ?_
  refine r_aload_n B dL_law_2262 rfl rfl ?_
  refine r_iload B dL_law_2263 rfl ?_
  refine r_iconst B dL_law_2265 ?_
  refine r_iadd B dL_law_2266 ?_
  refine r_sld B hX hbl hbA (by omega) dL_law_2267 (by omega) (by omega) ?_
  refine r_topz ex ?_
  refine r_aload_n B dL_law_2268 rfl rfl ?_
  refine r_iload B dL_law_2269 rfl ?_
  refine r_iconst B dL_law_2271 ?_
  refine r_iadd B dL_law_2272 ?_
  refine r_sld B hX hbl hbA (by omega) dL_law_2273 (by omega) (by omega) ?_
  refine r_topz ey ?_
  refine r_aload_n B dL_law_2274 rfl rfl ?_
  refine r_iload B dL_law_2275 rfl ?_
  refine r_iconst B dL_law_2277 ?_
  refine r_iadd B dL_law_2278 ?_
  refine r_sld B hX hbl hbA (by omega) dL_law_2279 (by omega) (by omega) ?_
  refine r_topz ez ?_
  refine r_callSW (n := 4) B dL_law_2280 (ct_L_promise l g sz0 hL.1 hT hG x y z hl0 qx qy qz) gL_law_L_promise rfl (by decide +kernel) ⟨Nat.le_of_ble_eq_true rfl, Nat.le_of_ble_eq_true rfl⟩ rfl rfl (Nat.le_of_ble_eq_true rfl) (by show cells + 3 ≤ 601024; omega) (by show slots + 18 ≤ 7293034; omega) (fun v h1 hp => ?_)
  obtain ⟨hv1, hf1, hgood, hbad⟩ := hp
  subst v
  have hM := hL.mw (o := o1) (Or.inl rfl) hM (fun q q0 q1 _ => hf1 q q0 q1)
  have hO1 := (hf1 o1 (sm_ne hO) hL.oA.1).trans hO
  have hO2 := (hf1 o2 (sm_ne hO2) hL.oA.2).trans hO2
  dsimp only [Option.toList, List.cons_append, List.nil_append]
  refine r_istore B dL_law_2283 (by decide) (lcat_v rfl rfl) ?_
  refine r_aload_n B dL_law_2285 rfl rfl ?_
  refine r_aload_n B dL_law_2286 rfl rfl ?_
  refine r_iload B dL_law_2287 rfl ?_
  refine r_iconst B dL_law_2289 ?_
  refine r_iadd B dL_law_2290 ?_
  refine r_sld B hX hbl hbA (by omega) dL_law_2291 (by omega) (by omega) ?_
  refine r_topz ex ?_
  refine r_aload_n B dL_law_2292 rfl rfl ?_
  refine r_iload B dL_law_2293 rfl ?_
  refine r_iconst B dL_law_2295 ?_
  refine r_iadd B dL_law_2296 ?_
  refine r_sld B hX hbl hbA (by omega) dL_law_2297 (by omega) (by omega) ?_
  refine r_topz ey ?_
  refine r_aload_n B dL_law_2298 rfl rfl ?_
  refine r_iload B dL_law_2299 rfl ?_
  refine r_iconst B dL_law_2301 ?_
  refine r_iadd B dL_law_2302 ?_
  refine r_sld B hX hbl hbA (by omega) dL_law_2303 (by omega) (by omega) ?_
  refine r_topz ez ?_
  refine r_callV (n := 3) B dL_law_2304 (ct_X10_promise l g sz0 ad hL.2.1 hM x y z qx qy qz) gL_law_X10_promise rfl (by decide +kernel) ⟨Nat.le_of_ble_eq_true rfl, Nat.le_of_ble_eq_true rfl⟩ hM.obj rfl rfl rfl (Nat.le_of_ble_eq_true rfl) (by show cells + 3 + 0 ≤ 601024; omega) (by show slots + 18 + 0 ≤ 7293034; omega) (fun v h2 hp => ?_)
  obtain ⟨hv2, hb2, hg2⟩ := hp
  subst v
  have hJ2 : LK g A Z ad o1 o2 (tB ((0 ≤ x ∧ x ≤ 3) ∧ (0 ≤ y ∧ y ≤ 600) ∧ (0 ≤ z ∧ z ≤ 100))) h2 ∧ (tB ((0 ≤ x ∧ x ≤ 3) ∧ (0 ≤ y ∧ y ≤ 600) ∧ (0 ≤ z ∧ z ≤ 100)) = 0 → True) ∧ h2 o1 = h1 o1 ∧ h2 o2 = h1 o2 := by
    by_cases ht : tB ((0 ≤ x ∧ x ≤ 3) ∧ (0 ≤ y ∧ y ≤ 600) ∧ (0 ≤ z ∧ z ≤ 100)) = 0
    · exact ⟨LK.mk hL ht (hg2 ht) (hgood ht) (hG.cl (x := x) (fun y9 _ _ => ⟨Or.inl rfl, Or.inl rfl, Or.inl rfl, upZ_or (tB_0.mp ht).2.1, upZ_or (tB_0.mp ht).2.2, Or.inl rfl⟩)) hO1 hO2, fun _ => trivial, hL.of (hg2 ht)⟩
    · exact ⟨LK.mk hL rfl (hb2 ht) (hbad ht) hG hO1 hO2, fun y9 => absurd y9 ht, hL.of (hb2 ht)⟩
  obtain ⟨hJ2, hr, hf2, hf3⟩ := hJ2
  have hJ3 := hJ2
  obtain ⟨mnights, mbits, mleast, mmost, mroom, mreserve, mmount, mspeed, mdata, msize, mends, mmany, mkind, mchain, mholds, mbid, mbound, mcheap, mpromised, mcoin, mpaid, mowed, mturn, misAsking, mwant, mcost, misServed, mitsRow, mitsChunk, hM, hT9, hG9, hF9, hF8⟩ := hJ2
  dsimp only [Option.toList, List.cons_append, List.nil_append]
  refine r_aload_n B dL_law_2307 rfl rfl ?_
  refine r_callV (n := 0) B dL_law_2308 (ct_X10_thrown l g sz0 ad hL.2.1 hM) gL_law_X10_thrown rfl (by decide +kernel) ⟨Nat.le_of_ble_eq_true rfl, Nat.le_of_ble_eq_true rfl⟩ hM.obj rfl rfl rfl (Nat.le_of_ble_eq_true rfl) (by show cells + 3 + 0 + 0 ≤ 601024; omega) (by show slots + 18 + 0 + 0 ≤ 7293034; omega) (fun v h' hp => ?_)
  obtain ⟨hv3, hh3⟩ := hp
  subst v
  subst h'
  dsimp only [Option.toList, List.cons_append, List.nil_append]
  refine r_iload B dL_law_2311 rfl ?_
  refine r_icmp_eqS B dL_law_2313 (tgt := 2318) (by decide) rfl ?_
  refine r_goto B dL_law_2318 (tgt := 2502) (by decide) ?_
  refine r_widen (k := cells + 421) (n := slots + 10406) (by show cells + 3 + 0 + 0 ≤ _; omega) (by show slots + 18 + 0 + 0 ≤ _; omega) ?_
  exact r_lv (lvLe_s rfl (lvLe_s rfl (lvLe_s rfl (lvLe_s rfl (lvLe_s rfl (lvLe_s rfl (lvLe_n (lvLe_n (lvLe_n lvLe_nil))))))))) (kont _ _ hJ3)
