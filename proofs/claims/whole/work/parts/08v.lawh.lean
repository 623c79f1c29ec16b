set_option maxHeartbeats 4000000 in
set_option maxRecDepth 100000 in
theorem law_c32 {p : Program} {l : Launch} {e : Env} {s : State} {m : MethodId} {args : Array Value} {below : List Frame} {meth : Method} {c : Code} {Q : State → Prop} {g : GG} {sz0 : Nat} {A ad : Nat → Nat} {Z : Nat → Prop} {o1 o2 bs L : Nat} {xs : Nat → Int32} {h : AH} {T0 i : Int} {cells slots : Nat} (hl0 : l.stackTraces = false) (B : FX p s m args c cL_law RL wsL_law 9 g sz0) (hL : LA A ad o1 o2 Z) (hX : va_X bs L xs s s.heap) (hbl : bs < s.heap.size) (hbA : ¬ A0 sz0 bs) (hLs : L < 2147483000) (hJ : LK g A Z ad o1 o2 T0 h) (i0 : 0 ≤ i) (i5 : i + 5 ≤ (L : Int)) (hc1 : cells + 421 ≤ 601024) (hc2 : slots + 10406 ≤ 7293034) (kont : ∀ (h' : AH) (T' : Int), LK g A Z ad o1 o2 T' h' → WA p l e room_1 s m args below meth c g sz0 9 Q h' (cells + 421) (slots + 10406) [some (.ref bs), some (.ref (A 0)), some (.ref (ad 0)), some (.ref o1), some (.ref o2), some (.int (iI i)), none, none, none] 2502 []) : WA p l e room_1 s m args below meth c g sz0 9 Q h cells slots [some (.ref bs), some (.ref (A 0)), some (.ref (ad 0)), some (.ref o1), some (.ref o2), some (.int (iI i)), none, none, none] 2193 [] := by
  obtain ⟨mnights, mbits, mleast, mmost, mroom, mreserve, mmount, mspeed, mdata, msize, mends, mmany, mkind, mchain, mholds, mbid, mbound, mcheap, mpromised, mcoin, mpaid, mowed, mturn, misAsking, mwant, mcost, misServed, mitsRow, mitsChunk, hM, hT, hG, ⟨F, hO⟩, F2, hO2⟩ := hJ
  obtain ⟨fs0, hro⟩ := hT.ro
  obtain ⟨x, ex, qx⟩ : ∃ z : Int, vaZ xs (i + 1) = z ∧ (-2147483648 ≤ z ∧ z < 2147483648) := ⟨_, rfl, vaZ_rng _ _⟩
  obtain ⟨k, ek, qk⟩ : ∃ z : Int, vaZ xs (i + 2) = z ∧ (-2147483648 ≤ z ∧ z < 2147483648) := ⟨_, rfl, vaZ_rng _ _⟩
  refine r_aload_n B dL_law_2193 rfl rfl ?_
  refine r_aload_n B dL_law_2194 rfl rfl ?_
  refine r_iload B dL_law_2195 rfl ?_
  refine r_iconst B dL_law_2197 ?_
  refine r_iadd B dL_law_2198 ?_
  refine r_sld B hX hbl hbA (by omega) dL_law_2199 (by omega) (by omega) ?_
  refine r_topz ex ?_
  refine r_aload_n B dL_law_2200 rfl rfl ?_
  refine r_iload B dL_law_2201 rfl ?_
  refine r_iconst B dL_law_2203 ?_
  refine r_iadd B dL_law_2204 ?_
  refine r_sld B hX hbl hbA (by omega) dL_law_2205 (by omega) (by omega) ?_
  refine r_topz ek ?_
  refine r_aload_n B dL_law_2206 rfl rfl ?_
  refine r_callSW (n := 4) B dL_law_2207 (ct_L_hourBits l g sz0 hL.1 hT hG x k hl0 qx qk hO hL.oZ.1 hL.oA.1) gL_law_L_hourBits rfl (by decide +kernel) ⟨Nat.le_of_ble_eq_true rfl, Nat.le_of_ble_eq_true rfl⟩ rfl rfl (Nat.le_of_ble_eq_true rfl) (by show cells + 3 ≤ 601024; omega) (by show slots + 18 ≤ 7293034; omega) (fun v h1 hp => ?_)
  obtain ⟨hv1, hf1, F1, hO1, hgood, hbad⟩ := hp
  subst v
  have hM := hL.mw (Or.inl rfl) hM hf1
  have hO2 := (hf1 o2 (sm_ne hO2) hL.oA.2 (fun z => hL.2.2.2.1 z.symm)).trans hO2
  dsimp only [Option.toList, List.cons_append, List.nil_append]
  refine r_istore B dL_law_2210 (by decide) (lcat_v rfl rfl) ?_
  refine r_aload_n B dL_law_2212 rfl rfl ?_
  refine r_aload_n B dL_law_2213 rfl rfl ?_
  refine r_iload B dL_law_2214 rfl ?_
  refine r_iconst B dL_law_2216 ?_
  refine r_iadd B dL_law_2217 ?_
  refine r_sld B hX hbl hbA (by omega) dL_law_2218 (by omega) (by omega) ?_
  refine r_topz ex ?_
  refine r_aload_n B dL_law_2219 rfl rfl ?_
  refine r_iload B dL_law_2220 rfl ?_
  refine r_iconst B dL_law_2222 ?_
  refine r_iadd B dL_law_2223 ?_
  refine r_sld B hX hbl hbA (by omega) dL_law_2224 (by omega) (by omega) ?_
  refine r_topz ek ?_
  refine r_callV (n := 2) B dL_law_2225 (ct_X10_hourBits l g sz0 ad hL.2.1 hM x k qx qk hG.1 hT.lko (have hsp9 := hG.2.2.2.1.2; ⟨by omega, by omega⟩)) gL_law_X10_hourBits rfl (by decide +kernel) ⟨Nat.le_of_ble_eq_true rfl, Nat.le_of_ble_eq_true rfl⟩ hM.obj rfl rfl rfl (Nat.le_of_ble_eq_true rfl) (by show cells + 3 + 0 ≤ 601024; omega) (by show slots + 18 + 0 ≤ 7293034; omega) (fun v h2 hp => ?_)
  obtain ⟨r, hv2, hb2, hg2⟩ := hp
  subst v
  have hJ2 : LK g A Z ad o1 o2 (tAsk x k mnights (mkind (60 * x + k))) h2 ∧ (tAsk x k mnights (mkind (60 * x + k)) = 0 → F1 0 = (iI r).toInt64) ∧ h2 o1 = h1 o1 ∧ h2 o2 = h1 o2 := by
    by_cases ht : tAsk x k mnights (mkind (60 * x + k)) = 0
    · exact ⟨LK.mk hL ht (hg2 ht).2 (hgood ht).2 (hG) hO1 hO2, fun _ => (by first | (rw [(hgood ht).1, (hg2 ht).1]; done) | (rw [(hgood ht).1, (hg2 ht).1]; rfl)), hL.of (hg2 ht).2⟩
    · exact ⟨LK.mk hL rfl (hb2 ht).2 (hbad ht) hG hO1 hO2, fun y9 => absurd y9 ht, hL.of (hb2 ht).2⟩
  obtain ⟨hJ2, hr, hf2, hf3⟩ := hJ2
  have hJ3 := hJ2
  obtain ⟨mnights, mbits, mleast, mmost, mroom, mreserve, mmount, mspeed, mdata, msize, mends, mmany, mkind, mchain, mholds, mbid, mbound, mcheap, mpromised, mcoin, mpaid, mowed, mturn, misAsking, mwant, mcost, misServed, mitsRow, mitsChunk, hM, hT9, hG9, hF9, hF8⟩ := hJ2
  have hO3 := hf2.trans hO1
  have hO4 := hf3.trans hO2
  dsimp only [Option.toList, List.cons_append, List.nil_append]
  refine r_istore B dL_law_2228 (by decide) (lcat_v rfl rfl) ?_
  refine r_aload_n B dL_law_2230 rfl rfl ?_
  refine r_callV (n := 0) B dL_law_2231 (ct_X10_thrown l g sz0 ad hL.2.1 hM) gL_law_X10_thrown rfl (by decide +kernel) ⟨Nat.le_of_ble_eq_true rfl, Nat.le_of_ble_eq_true rfl⟩ hM.obj rfl rfl rfl (Nat.le_of_ble_eq_true rfl) (by show cells + 3 + 0 + 0 ≤ 601024; omega) (by show slots + 18 + 0 + 0 ≤ 7293034; omega) (fun v h' hp => ?_)
  obtain ⟨hv3, hh3⟩ := hp
  subst v
  subst h'
  dsimp only [Option.toList, List.cons_append, List.nil_append]
  refine r_iload B dL_law_2234 rfl ?_
  refine r_icmp_eqS B dL_law_2236 (tgt := 2241) (by decide) rfl ?_
  refine r_iload B dL_law_2241 rfl ?_
  refine r_if_ne B dL_law_2243 (tgt := 2258) (by decide) hM.i_thrown (fun c2243 => ?_) (fun c2243 => ?_)
  · refine r_goto B dL_law_2258 (tgt := 2502) (by decide) ?_
    refine r_widen (k := cells + 421) (n := slots + 10406) (by show cells + 3 + 0 + 0 ≤ _; omega) (by show slots + 18 + 0 + 0 ≤ _; omega) ?_
    exact r_lv (lvLe_s rfl (lvLe_s rfl (lvLe_s rfl (lvLe_s rfl (lvLe_s rfl (lvLe_s rfl (lvLe_n (lvLe_n (lvLe_n lvLe_nil))))))))) (kont _ _ hJ3)
  · refine r_aload_n B dL_law_2246 rfl rfl ?_
    refine r_iconst B dL_law_2247 ?_
    refine r_lald B dL_law_2248 hO3 (by decide) (by omega) (by omega) ?_
    refine r_iload B dL_law_2249 rfl ?_
    refine r_i2l B dL_law_2251 ?_
    refine r_lcmp B dL_law_2252 ?_
    refine r_if_eqS B dL_law_2253 (tgt := 2258) (by decide) (lgc_self (hr c2243)) ?_
    refine r_goto B dL_law_2258 (tgt := 2502) (by decide) ?_
    refine r_widen (k := cells + 421) (n := slots + 10406) (by show cells + 3 + 0 + 0 ≤ _; omega) (by show slots + 18 + 0 + 0 ≤ _; omega) ?_
    exact r_lv (lvLe_s rfl (lvLe_s rfl (lvLe_s rfl (lvLe_s rfl (lvLe_s rfl (lvLe_s rfl (lvLe_n (lvLe_n (lvLe_n lvLe_nil))))))))) (kont _ _ hJ3)
