set_option maxHeartbeats 8000000 in
set_option maxRecDepth 100000 in
theorem law_night {p : Program} {l : Launch} {e : Env} {s : State} {m : MethodId} {args : Array Value} {below : List Frame} {meth : Method} {c : Code} {Q : State → Prop} {g : GG} {sz0 : Nat} {A : Nat → Nat} {Z : Nat → Prop} {od ob oc op oo bs : Nat} {h : AH} {mnights mbits mleast mmost mroom mreserve mmount mspeed : Int} {mdata msize mends mmany mkind mchain mholds mbid mbound mcheap mpromised mcoin mpaid mowed : Int → Int} {D : Nat → Int64} {Fb Fc Fp Fo : Int → Int} {cells slots : Nat} {tn tu y de cl : Int} {xv : Int32} (hl0 : l.stackTraces = false) (B : FX p s m args c cL_law RL wsL_law 29 g sz0) (hL : LY A Z od ob oc op oo) (hT : ST g A Z h mdata msize mends mmany mkind mchain mholds mnights mbits mleast mmost mroom mreserve mmount mspeed mbid mbound mcheap mpromised mcoin mpaid mowed h) (hG : RGm mnights mbits mleast mmost mroom mreserve mmount mspeed msize mbid mbound mcheap mpromised mcoin mpaid mowed) (hAR : AR g od ob oc op oo D Fb Fc Fp Fo h) (hD : DGI D mdata msize mkind mnights) (hFE : FE Fb Fc Fp Fo mbid mcoin mpaid mowed) (hn16 : mnights ≤ 16) (y0 : 0 ≤ y ∧ y ≤ 268435455) (d0 : 0 ≤ de ∧ de ≤ 15) (c0 : 0 ≤ cl ∧ cl ≤ 3) (hc1 : cells + 1000 ≤ 683647) (hc2 : slots + 14000 ≤ 7050684) (kont : ∀ (h' : AH) (ng ls ms mo sp rm rs : Int), JL g A Z od ob oc op oo ng ls ms mo sp rm rs h' → WA p l e room_1 s m args below meth c g sz0 29 Q h' (cells + 600) (slots + 12000) [some (.ref bs), some (.ref (A 0)), some (.ref od), some (.ref ob), some (.ref oc), some (.ref op), some (.ref oo), some (.int (iI ls)), some (.int (iI ms)), some (.int (iI mo)), some (.int (iI sp)), some (.int (iI rm)), some (.int (iI rs)), some (.int (iI 1)), some (.int (iI tu)), some (.int (iI tn)), none, some (.int (iI y)), none, some (.int (iI cl)), none, none, none, none, none, none, none, none, none] 1445 []) : WA p l e room_1 s m args below meth c g sz0 29 Q h cells slots [some (.ref bs), some (.ref (A 0)), some (.ref od), some (.ref ob), some (.ref oc), some (.ref op), some (.ref oo), some (.int (iI mleast)), some (.int (iI mmost)), some (.int (iI mmount)), some (.int (iI mspeed)), some (.int (iI mroom)), some (.int (iI mreserve)), some (.int (iI 1)), some (.int (iI tu)), some (.int (iI tn)), some (.int xv), some (.int (iI y)), some (.int (iI de)), some (.int (iI cl)), some (.int (iI (msize (240 + cl)))), some (.int (iI mnights)), none, none, none, none, none, none, none] 1099 [] := by
  obtain ⟨fs0, hro⟩ := hT.ro
  have hmz := hG.2.2.2.2.2 (240 + cl) (by omega) (by omega)
  have hNr := hG.1
  have hMK := hG.2.1
  have hNM := hG.2.2.1
  have hSP := hG.2.2.2.1
  
  refine r_iload B dL_law_1099 rfl ?_
  refine r_bipush B dL_law_1101 (by decide) ?_
  refine r_icmp_ge B dL_law_1103 (tgt := 1445) (by decide) (by omega) (by omega) (fun c1103 => ?_) (fun c1103 => ?_)
  · refine r_widen (k := cells + 600) (n := slots + 12000) (by show cells ≤ cells + 600; omega) (by show slots ≤ slots + 12000; omega) ?_
    exact r_lv (lvLe_s rfl (lvLe_s rfl (lvLe_s rfl (lvLe_s rfl (lvLe_s rfl (lvLe_s rfl (lvLe_s rfl (lvLe_s rfl (lvLe_s rfl (lvLe_s rfl (lvLe_s rfl (lvLe_s rfl (lvLe_s rfl (lvLe_s rfl (lvLe_s rfl (lvLe_s rfl (lvLe_n (lvLe_s rfl (lvLe_n (lvLe_s rfl (lvLe_n (lvLe_n (lvLe_n (lvLe_n (lvLe_n (lvLe_n (lvLe_n (lvLe_n (lvLe_n lvLe_nil))))))))))))))))))))))))))))) (kont _ _ _ _ _ _ _ _ ⟨_, _, _, _, _, _, _, _, _, _, _, _, _, _, _, _, _, _, _, _, hT, hG, hAR, hD, hFE, by omega⟩)
  · have h60 : 0 ≤ mnights ∧ mnights < 60 := by omega
    obtain ⟨GT, hGT⟩ : ∃ GT : Int → Int, GT = gtS (wbP mkind mbound mcheap mnights mreserve) (mNC mkind mnights) (mOT mdata msize mends mmany mkind mnights mbits mleast mmost) (mAK mdata msize mends mmany mkind mbid mbound mcheap mnights mreserve mbits mleast mmost) (mBS mdata msize mbits mleast mmost) (mDF mdata msize mends mmany mkind mchain mholds mnights mbits mleast mmost) mroom mbid := ⟨_, rfl⟩
    obtain ⟨BS9, hBS⟩ : ∃ f : Int → Int, f = (mBS mdata msize mbits mleast mmost) := ⟨_, rfl⟩
    obtain ⟨DF9, hDF⟩ : ∃ f : Int → Int, f = (mDF mdata msize mends mmany mkind mchain mholds mnights mbits mleast mmost) := ⟨_, rfl⟩
    have hgr := GT_range hGT
    have hga : ∀ x : Int, ¬ GT x = 0 → 0 < mbid x ∧ mreserve ≤ mbid x := fun x w => by
      rw [hGT] at w
      exact gt_asks w
    have hg2 : ∀ x : Int, GT x = 2 → ¬ ltN (colF mkind x) mnights.toNat = -1 := fun x w => by
      rw [hGT] at w
      exact gt_two w
    have hlb : sumZ (lbF GT BS9 DF9) 4 ≤ mroom := by
      rw [hGT, hBS, hDF]
      exact left_le hG
    have hlr : ∀ x : Int, 0 ≤ x → x ≤ 3 → (0 ≤ BS9 x ∧ BS9 x ≤ 3000) ∧ (0 ≤ DF9 x ∧ DF9 x ≤ 3000) := fun x w0 w1 => by
      have hs := hG.2.2.2.2.2 (240 + x) (by omega) (by omega)
      have hco := cutR_ok (rowF mdata (240 + x)) (b := mbits) (ls := mleast) (ms := mmost) hs.1 hs.2
      rw [hBS, hDF]
      exact ⟨baseB_rng (n := (cutR (rowF mdata (240 + x)) (msize (240 + x)) mbits mleast mmost).2.1) ⟨hco.1, Int.le_trans hco.2.1 hs.2⟩ hco.2.2, difB_rng (n := (cutR (rowF mdata (240 + x)) (msize (240 + x)) mbits mleast mmost).2.1) ⟨hco.1, Int.le_trans hco.2.1 hs.2⟩ hco.2.2⟩
    have hlf : ∀ x : Int, 0 ≤ x → x ≤ 3 → 0 ≤ lbF GT BS9 DF9 x ∧ lbF GT BS9 DF9 x ≤ 3000 := fun x w0 w1 => by
      have h9 := hlr x w0 w1
      unfold lbF
      split
      · exact h9.1
      · split
        · exact h9.2
        · omega
    refine r_iconst B dL_law_1106 ?_
    refine r_istore B dL_law_1107 (by decide) (lcat_v rfl rfl) ?_
    refine r_iconst B dL_law_1109 ?_
    refine r_istore B dL_law_1110 (by decide) (lcat_v rfl rfl) ?_
    refine r_iconst B dL_law_1112 ?_
    refine r_istore B dL_law_1113 (by decide) (lcat_v rfl rfl) ?_
    refine r_iconst B dL_law_1115 ?_
    refine r_istore B dL_law_1116 (by decide) (lcat_v rfl rfl) ?_
    have loop1118 : ∀ (nn : Nat) (q : Int) (h : AH), (ST g A Z h mdata msize mends mmany mkind mchain mholds mnights mbits mleast mmost mroom mreserve mmount mspeed mbid mbound mcheap mpromised mcoin mpaid mowed h ∧ ∃ D1 : Nat → Int64, AR g od ob oc op oo D1 Fb Fc Fp Fo h ∧ DN D D1 mdata msize mnights q) → (0 ≤ q ∧ q ≤ 4) → (4 - q).toNat < nn → WA p l e room_1 s m args below meth c g sz0 29 Q h (cells + q.toNat * 5) (slots + q.toNat * 30) [some (.ref bs), some (.ref (A 0)), some (.ref od), some (.ref ob), some (.ref oc), some (.ref op), some (.ref oo), some (.int (iI mleast)), some (.int (iI mmost)), some (.int (iI mmount)), some (.int (iI mspeed)), some (.int (iI mroom)), some (.int (iI mreserve)), some (.int (iI 1)), some (.int (iI tu)), some (.int (iI tn)), some (.int xv), some (.int (iI y)), some (.int (iI de)), some (.int (iI cl)), some (.int (iI (msize (240 + cl)))), some (.int (iI mnights)), some (.int (iI (sumZ (fun x => bI (0 < GT x)) q.toNat))), some (.int (iI (sumZ (lbF GT BS9 DF9) q.toNat))), some (.int (iI (sumZ (fun x => GT x * p4 x) q.toNat))), some (.int (iI q)), none, none, none] 1118 [] := by
      intro nn
      induction nn with
      | zero => intro q h hTA i1 hn; exact absurd hn (Nat.not_lt_zero _)
      | succ nn ih =>
        intro q h hTA i1 hn
        refine r_iload B dL_law_1118 rfl ?_
        obtain ⟨hT, D1, hAR, hDN⟩ := hTA
        obtain ⟨fs0, hro⟩ := hT.ro
        refine r_iconst B dL_law_1120 ?_
        refine r_icmp_ge B dL_law_1121 (tgt := 1250) (by decide) (by omega) (by omega) (fun c1121 => ?_) (fun c1121 => ?_)
        · have hq4 : q = 4 := by omega
          have hS4 := sum_bI (P := fun x => 0 < GT x) 4
          have hlb2 : 0 ≤ sumZ (lbF GT BS9 DF9) 4 := sumZ_nn (fun x x0 x1 => (hlf x x0 (by omega)).1)
          refine r_iload B dL_law_1250 rfl ?_
          refine r_if_eq B dL_law_1252 (tgt := 1290) (by decide) (by omega) (fun c1252 => ?_) (fun c1252 => ?_)
          · exact absurd c1252 (by decide)
          · refine r_iload B dL_law_1255 rfl ?_
            refine r_topz (show sumZ (lbF GT BS9 DF9) q.toNat = sumZ (lbF GT BS9 DF9) 4 by rw [hq4]; rfl) ?_
            refine r_iload B dL_law_1257 rfl ?_
            refine r_icmp_gt B dL_law_1259 (tgt := 1290) (by decide) (by omega) (by omega) (fun c1259 => ?_) (fun c1259 => ?_)
            · exfalso; omega
            · refine r_aload_n B dL_law_1262 rfl rfl ?_
              refine r_bipush B dL_law_1263 (by decide) ?_
              refine r_iconst B dL_law_1265 ?_
              refine r_iconst B dL_law_1266 ?_
              refine r_callSW (n := 4) B dL_law_1267 (ct_L_on_7 l g sz0 hL.1 hT hG (0) (0) hl0 (by omega) (by omega) (by omega) (hAR.zs hL)) gL_law_L_on rfl (by decide +kernel) ⟨Nat.le_of_ble_eq_true rfl, Nat.le_of_ble_eq_true rfl⟩ rfl rfl (Nat.le_of_ble_eq_true rfl) (by show (cells + q.toNat * 5) + 421 ≤ 683647; omega) (by show (slots + q.toNat * 30) + 10406 ≤ 7050684; omega) (fun v h hp => ?_)
              obtain ⟨hfr9, nn9, hv, hfin⟩ := hp
              subst v
              obtain ⟨tt, AS, WT, CS, SV, dd, ss, ee, mm, kk, cc, hh, pp, z1, z2, z3, z4⟩ := night_wit hG h60
              have hLK := nwC_LKo h60 (fun z hz => hG.2.2.2.2.2 (240 + z) (by omega) (by omega)) hT.lko z3
              obtain ⟨hnn, hT2⟩ := hfin tt AS WT CS SV dd ss ee mm kk cc hh pp z1 z2 z3 z4 hLK
              have hse := served_eq z1 z2
              rw [← hGT] at hse
              have hAR := hAR.fr hL hfr9
              have hNF := fun (x : Int) (x0 : 0 ≤ x ∧ x ≤ 3) => night_facts hT hG h60 z1 z2 z3 z4 hT2 x0
              rw [← hGT] at hNF
              have hD2 : DGI D1 dd ss kk (mnights + 1) := DGI.night hT hG (by omega) z1 z2 z3 z4 hT2 hD hDN.1 (fun x x0 => hDN.2 x (by omega))
              have hG2 := hG.night (by omega) z1 z2 z3 z4
              have hT := hT2.base
              have hG := hG2
              have hD := hD2
              obtain ⟨fs0, hro⟩ := hT.ro
              dsimp only [Option.toList, List.cons_append, List.nil_append]
              refine r_iload B dL_law_1270 rfl ?_
              refine r_topz (show sumZ (fun x => bI (0 < GT x)) q.toNat = sumZ (fun x => bI (0 < GT x)) 4 by rw [hq4]; rfl) ?_
              refine r_icmp_ne B dL_law_1272 (tgt := 1290) (by decide) (by omega) (by omega) (fun c1272 => ?_) (fun c1272 => ?_)
              · exact absurd (hnn.trans hse) c1272
              · refine r_aload_n B dL_law_1275 rfl rfl ?_
                refine r_callV (n := 0) B dL_law_1276 (ct_X9_nights l g sz0 hL.1 hT hG) gL_law_X9_nights rfl (by decide +kernel) ⟨Nat.le_of_ble_eq_true rfl, Nat.le_of_ble_eq_true rfl⟩ hro rfl rfl rfl (Nat.le_of_ble_eq_true rfl) (by show (cells + q.toNat * 5) + 421 + 0 ≤ 683647; omega) (by show (slots + q.toNat * 30) + 10406 + 0 ≤ 7050684; omega) (fun v h hp => ?_)
                obtain ⟨hv, hST⟩ := hp
                subst v
                have hAR := hAR.fr hL hST.fr
                have hT := hST.base
                obtain ⟨fs0, hro⟩ := hT.ro
                dsimp only [Option.toList, List.cons_append, List.nil_append]
                refine r_iload B dL_law_1279 rfl ?_
                refine r_iconst B dL_law_1281 ?_
                refine r_iadd B dL_law_1282 ?_
                refine r_icmp_ne B dL_law_1283 (tgt := 1290) (by decide) (by omega) (by omega) (fun c1283 => ?_) (fun c1283 => ?_)
                · exact absurd rfl c1283
                · refine r_iconst B dL_law_1286 ?_
                  refine r_goto B dL_law_1287 (tgt := 1291) (by decide) ?_
                  refine r_istore B dL_law_1291 (by decide) (lcat_v rfl rfl) ?_
                  refine r_iconst B dL_law_1293 ?_
                  refine r_istore B dL_law_1294 (by decide) (lcat_v rfl rfl) ?_
                  have loop1296 : ∀ (nn : Nat) (j9 : Int) (h : AH), (ST g A Z h dd ss ee mm kk cc hh (mnights + 1) mbits mleast mmost mroom mreserve mmount mspeed mbid mbound mcheap mpromised mcoin pp mowed h ∧ ∃ F9 : Int → Int, AR g od ob oc op oo D1 Fb Fc F9 Fo h ∧ ∀ x : Int, 0 ≤ x → x ≤ 3 → F9 x = if x < j9 then pp x else mpaid x) → (0 ≤ j9 ∧ j9 ≤ 4) → (4 - j9).toNat < nn → WA p l e room_1 s m args below meth c g sz0 29 Q h (cells + 441 + j9.toNat * 12) (slots + 10600 + j9.toNat * 72) [some (.ref bs), some (.ref (A 0)), some (.ref od), some (.ref ob), some (.ref oc), some (.ref op), some (.ref oo), some (.int (iI mleast)), some (.int (iI mmost)), some (.int (iI mmount)), some (.int (iI mspeed)), some (.int (iI mroom)), some (.int (iI mreserve)), some (.int (iI 1)), some (.int (iI tu)), some (.int (iI tn)), some (.int xv), some (.int (iI y)), some (.int (iI de)), some (.int (iI cl)), some (.int (iI (msize (240 + cl)))), some (.int (iI mnights)), none, none, some (.int (iI (sumZ (fun x => GT x * p4 x) q.toNat))), some (.int (iI j9)), none, none, none] 1296 [] := by
                    intro nn
                    induction nn with
                    | zero => intro j9 h hTA i2 hn; exact absurd hn (Nat.not_lt_zero _)
                    | succ nn ih2 =>
                      intro j9 h hTA i2 hn
                      refine r_iload B dL_law_1296 rfl ?_
                      obtain ⟨hT, F9, hAR, hF9⟩ := hTA
                      obtain ⟨fs0, hro⟩ := hT.ro
                      refine r_iconst B dL_law_1298 ?_
                      refine r_icmp_ge B dL_law_1299 (tgt := 1445) (by decide) (by omega) (by omega) (fun c1299 => ?_) (fun c1299 => ?_)
                      · have hFE : FE Fb Fc F9 Fo mbid mcoin pp mowed := fun x w0 w1 => ⟨(hFE x w0 w1).1, (hFE x w0 w1).2.1, by rw [hF9 x w0 w1, if_pos (by omega)], (hFE x w0 w1).2.2.2⟩
                        refine r_widen (k := cells + 600) (n := slots + 12000) (by show (cells + 441 + j9.toNat * 12) ≤ cells + 600; omega) (by show (slots + 10600 + j9.toNat * 72) ≤ slots + 12000; omega) ?_
                        exact r_lv (lvLe_s rfl (lvLe_s rfl (lvLe_s rfl (lvLe_s rfl (lvLe_s rfl (lvLe_s rfl (lvLe_s rfl (lvLe_s rfl (lvLe_s rfl (lvLe_s rfl (lvLe_s rfl (lvLe_s rfl (lvLe_s rfl (lvLe_s rfl (lvLe_s rfl (lvLe_s rfl (lvLe_n (lvLe_s rfl (lvLe_n (lvLe_s rfl (lvLe_n (lvLe_n (lvLe_n (lvLe_n (lvLe_n (lvLe_n (lvLe_n (lvLe_n (lvLe_n lvLe_nil))))))))))))))))))))))))))))) (kont _ _ _ _ _ _ _ _ ⟨_, _, _, _, _, _, _, _, _, _, _, _, _, _, _, _, _, _, _, _, hT, hG, hAR, hD, hFE, by omega⟩)
                      · refine r_iload B dL_law_1302 rfl ?_
                        refine r_if_eq B dL_law_1304 (tgt := 1445) (by decide) (by omega) (fun c1304 => ?_) (fun c1304 => ?_)
                        · exact absurd c1304 (by decide)
                        · have hb1 : 0 ≤ j9 + 1 ∧ j9 + 1 ≤ 4 := by omega
                          have hb2 : (4 - (j9 + 1)).toNat < nn := by omega
                          obtain ⟨f1, f2, f3, f4⟩ := hNF j9 ⟨i2.1, by omega⟩
                          have hgq := hgr j9 i2.1 (by omega)
                          have hFq := (hFE j9 i2.1 (by omega)).1
                          have hcq := hG.2.2.2.2.1 j9 i2.1 (by omega)
                          have hF9q : F9 j9 = mpaid j9 := by rw [hF9 j9 i2.1 (by omega), if_neg (by omega)]
                          have hsq := hG.2.2.2.2.2 (240 + j9) (by omega) (by omega)
                          have hco := cutR_ok (rowF dd (240 + j9)) (b := mbits) (ls := mleast) (ms := mmost) hsq.1 hsq.2
                          have hdr := dfN_rng (colF kk j9) (mnights + 1).toNat
                          refine r_aload_n B dL_law_1307 rfl rfl ?_
                          refine r_iload B dL_law_1308 rfl ?_
                          refine r_iload B dL_law_1310 rfl ?_
                          refine r_callVX (n := 2) B dL_law_1312 (ct_X9_got l g sz0 hL.1 hT hG (j9) (mnights) hl0 (by omega) (by omega)) gL_law_X9_got rfl (by decide +kernel) ⟨Nat.le_of_ble_eq_true rfl, Nat.le_of_ble_eq_true rfl⟩ hro rfl rfl rfl (Nat.le_of_ble_eq_true rfl) (by show (cells + 441 + j9.toNat * 12) + 2 ≤ 683647; omega) (by show (slots + 10600 + j9.toNat * 72) + 12 ≤ 7050684; omega) (fun E h' hp => False.elim ?_) (fun v h hp => ?_)
                          · obtain ⟨hp, -⟩ := hp
                            rcases hp with ⟨-, e9⟩ | ⟨-, e9⟩
                            · unfold tNi at e9; (repeat' (split at e9)) <;> omega
                            · unfold tNi at e9; (repeat' (split at e9)) <;> omega
                          obtain ⟨ht0, hv, hST⟩ := hp
                          subst v
                          have hAR := hAR.fr hL hST.fr
                          have hT := hST.base
                          obtain ⟨fs0, hro⟩ := hT.ro
                          dsimp only [Option.toList, List.cons_append, List.nil_append]
                          refine r_topz f1 ?_
                          refine r_istore B dL_law_1315 (by decide) (lcat_v rfl rfl) ?_
                          refine r_iload B dL_law_1317 rfl ?_
                          have join1334 : ∀ (by9 : Int) (h : AH), (ST g A Z h dd ss ee mm kk cc hh (mnights + 1) mbits mleast mmost mroom mreserve mmount mspeed mbid mbound mcheap mpromised mcoin pp mowed h ∧ AR g od ob oc op oo D1 Fb Fc F9 Fo h) → ((0 ≤ by9 ∧ by9 ≤ 96) ∧ by9 * mreserve ≤ pp j9 - mpaid j9 ∧ pp j9 - mpaid j9 ≤ by9 * mbid j9) → WA p l e room_1 s m args below meth c g sz0 29 Q h (cells + 441 + j9.toNat * 12 + 5) (slots + 10600 + j9.toNat * 72 + 30) [some (.ref bs), some (.ref (A 0)), some (.ref od), some (.ref ob), some (.ref oc), some (.ref op), some (.ref oo), some (.int (iI mleast)), some (.int (iI mmost)), some (.int (iI mmount)), some (.int (iI mspeed)), some (.int (iI mroom)), some (.int (iI mreserve)), some (.int (iI 1)), some (.int (iI tu)), some (.int (iI tn)), some (.int xv), some (.int (iI y)), some (.int (iI de)), some (.int (iI cl)), some (.int (iI (msize (240 + cl)))), some (.int (iI mnights)), none, none, some (.int (iI (sumZ (fun x => GT x * p4 x) q.toNat))), some (.int (iI j9)), some (.int (iI (GT j9))), none, none] 1334 [.int (iI by9)] := by
                            intro by9 h hTB w9
                            refine r_istore B dL_law_1334 (by decide) (lcat_v rfl rfl) ?_
                            obtain ⟨hT, hAR⟩ := hTB
                            obtain ⟨fs0, hro⟩ := hT.ro
                            have hm1 : 0 ≤ by9 * mreserve ∧ by9 * mreserve ≤ 4800 := ⟨Int.mul_nonneg w9.1.1 hNM.2.1, Int.le_trans (Int.mul_le_mul w9.1.2 hNM.2.2 hNM.2.1 (by decide)) (by decide)⟩
                            have hm2 : 0 ≤ by9 * mbid j9 ∧ by9 * mbid j9 ≤ 9600 := ⟨Int.mul_nonneg w9.1.1 hcq.1.1, Int.le_trans (Int.mul_le_mul w9.1.2 hcq.1.2 hcq.1.1 (by decide)) (by decide)⟩
                            refine r_aload_n B dL_law_1336 rfl rfl ?_
                            refine r_iload B dL_law_1337 rfl ?_
                            refine r_callVX (n := 1) B dL_law_1339 (ct_X9_paid l g sz0 hL.1 hT hG (j9) hl0 (by omega)) gL_law_X9_paid rfl (by decide +kernel) ⟨Nat.le_of_ble_eq_true rfl, Nat.le_of_ble_eq_true rfl⟩ hro rfl rfl rfl (Nat.le_of_ble_eq_true rfl) (by show (cells + 441 + j9.toNat * 12 + 5) + 1 ≤ 683647; omega) (by show (slots + 10600 + j9.toNat * 72 + 30) + 6 ≤ 7050684; omega) (fun E h' hp => False.elim ?_) (fun v h hp => ?_)
                            · obtain ⟨hp, -⟩ := hp
                              have e9 := hp.2
                              unfold tCl at e9; (repeat' (split at e9)) <;> omega
                            obtain ⟨ht0, hv, hST⟩ := hp
                            subst v
                            have hAR := hAR.fr hL hST.fr
                            have hT := hST.base
                            obtain ⟨fs0, hro⟩ := hT.ro
                            dsimp only [Option.toList, List.cons_append, List.nil_append]
                            refine r_aload B dL_law_1342 rfl rfl ?_
                            refine r_iload B dL_law_1344 rfl ?_
                            refine r_iald B dL_law_1346 hAR.2.2.2.1 (by decide) (by omega) (by show j9 < 4; omega) ?_
                            refine r_isub B dL_law_1347 ?_
                            refine r_topz (show pp j9 - F9 j9 = pp j9 - mpaid j9 by rw [hF9q]) ?_
                            refine r_istore B dL_law_1348 (by decide) (lcat_v rfl rfl) ?_
                            refine r_iload B dL_law_1350 rfl ?_
                            refine r_iload B dL_law_1352 rfl ?_
                            refine r_iconst B dL_law_1354 ?_
                            refine r_iload B dL_law_1355 rfl ?_
                            refine r_imul B dL_law_1357 ?_
                            refine r_ishr B dL_law_1358 ?_
                            refine r_iconst B dL_law_1359 ?_
                            refine r_iand B dL_law_1360 ?_
                            refine r_top (show (iI (sumZ (fun x => GT x * p4 x) q.toNat) >>> (iI (2 * j9) &&& 31)) &&& iI 3 = iI (GT j9) by rw [hq4]; exact wt_at hgr ⟨i2.1, by omega⟩) ?_
                            refine r_icmp_ne B dL_law_1361 (tgt := 1425) (by decide) (by omega) (by omega) (fun c1361 => ?_) (fun c1361 => ?_)
                            · exact absurd rfl c1361
                            · refine r_iload B dL_law_1364 rfl ?_
                              refine r_iload B dL_law_1366 rfl ?_
                              refine r_iload B dL_law_1368 rfl ?_
                              refine r_imul B dL_law_1370 ?_
                              refine r_icmp_lt B dL_law_1371 (tgt := 1425) (by decide) (by omega) (by omega) (fun c1371 => ?_) (fun c1371 => ?_)
                              · exfalso; omega
                              · refine r_iload B dL_law_1374 rfl ?_
                                refine r_iload B dL_law_1376 rfl ?_
                                refine r_aload_n B dL_law_1378 rfl rfl ?_
                                refine r_iload B dL_law_1379 rfl ?_
                                refine r_iald B dL_law_1381 hAR.2.1 (by decide) (by omega) (by show j9 < 4; omega) ?_
                                refine r_topz hFq ?_
                                refine r_imul B dL_law_1382 ?_
                                refine r_icmp_gt B dL_law_1383 (tgt := 1425) (by decide) (by omega) (by omega) (fun c1383 => ?_) (fun c1383 => ?_)
                                · exfalso; omega
                                · refine r_iload B dL_law_1386 rfl ?_
                                  refine r_if_eq B dL_law_1388 (tgt := 1406) (by decide) (by omega) (fun c1388 => ?_) (fun c1388 => ?_)
                                  · refine r_iload B dL_law_1406 rfl ?_
                                    refine r_iconst B dL_law_1408 ?_
                                    refine r_icmp_ne B dL_law_1409 (tgt := 1421) (by decide) (by omega) (by omega) (fun c1409 => ?_) (fun c1409 => ?_)
                                    · refine r_iconst B dL_law_1421 ?_
                                      refine r_goto B dL_law_1422 (tgt := 1426) (by decide) ?_
                                      refine r_istore B dL_law_1426 (by decide) (lcat_v rfl rfl) ?_
                                      refine r_aload B dL_law_1428 rfl rfl ?_
                                      refine r_iload B dL_law_1430 rfl ?_
                                      refine r_aload_n B dL_law_1432 rfl rfl ?_
                                      refine r_iload B dL_law_1433 rfl ?_
                                      refine r_callVX (n := 1) B dL_law_1435 (ct_X9_paid l g sz0 hL.1 hT hG (j9) hl0 (by omega)) gL_law_X9_paid rfl (by decide +kernel) ⟨Nat.le_of_ble_eq_true rfl, Nat.le_of_ble_eq_true rfl⟩ hro rfl rfl rfl (Nat.le_of_ble_eq_true rfl) (by show (cells + 441 + j9.toNat * 12 + 5) + 1 + 1 ≤ 683647; omega) (by show (slots + 10600 + j9.toNat * 72 + 30) + 6 + 6 ≤ 7050684; omega) (fun E h' hp => False.elim ?_) (fun v h hp => ?_)
                                      · obtain ⟨hp, -⟩ := hp
                                        have e9 := hp.2
                                        unfold tCl at e9; (repeat' (split at e9)) <;> omega
                                      obtain ⟨ht0, hv, hST⟩ := hp
                                      subst v
                                      have hAR := hAR.fr hL hST.fr
                                      have hT := hST.base
                                      obtain ⟨fs0, hro⟩ := hT.ro
                                      dsimp only [Option.toList, List.cons_append, List.nil_append]
                                      refine r_iast B dL_law_1438 hAR.2.2.2.1 (by decide) (by omega) (by show j9 < 4; omega) ?_
                                      have hT := hT.wr hL (o := op) (ev := iE g 4 (upZ F9 j9 (pp j9))) (Or.inr (Or.inr (Or.inr (Or.inl rfl))))
                                      have hAR := hAR.wp hL (F' := upZ F9 j9 (pp j9))
                                      have hF9 : ∀ x : Int, 0 ≤ x → x ≤ 3 → upZ F9 j9 (pp j9) x = if x < j9 + 1 then pp x else mpaid x := fun x w0 w1 => by
                                        unfold upZ
                                        by_cases w : x = j9
                                        · rw [if_pos w, if_pos (by omega), w]
                                        · rw [if_neg w, hF9 x w0 w1]
                                          by_cases w2 : x < j9
                                          · rw [if_pos w2, if_pos (by omega)]
                                          · rw [if_neg w2, if_neg (by omega)]
                                      refine r_iinc B dL_law_1439 rfl (by decide) (lcat_v rfl rfl) ?_
                                      refine r_goto B dL_law_1442 (tgt := 1296) (by decide) ?_
                                      refine r_widen (k := (cells + 441 + (j9 + 1).toNat * 12)) (n := (slots + 10600 + (j9 + 1).toNat * 72)) (by show (cells + 441 + j9.toNat * 12 + 5) + 1 + 1 ≤ (cells + 441 + (j9 + 1).toNat * 12); omega) (by show (slots + 10600 + j9.toNat * 72 + 30) + 6 + 6 ≤ (slots + 10600 + (j9 + 1).toNat * 72); omega) ?_
                                      exact r_lv (lvLe_s rfl (lvLe_s rfl (lvLe_s rfl (lvLe_s rfl (lvLe_s rfl (lvLe_s rfl (lvLe_s rfl (lvLe_s rfl (lvLe_s rfl (lvLe_s rfl (lvLe_s rfl (lvLe_s rfl (lvLe_s rfl (lvLe_s rfl (lvLe_s rfl (lvLe_s rfl (lvLe_s rfl (lvLe_s rfl (lvLe_s rfl (lvLe_s rfl (lvLe_s rfl (lvLe_s rfl (lvLe_n (lvLe_n (lvLe_s rfl (lvLe_s rfl (lvLe_n (lvLe_n (lvLe_n lvLe_nil))))))))))))))))))))))))))))) (ih2 (j9 + 1) _ ⟨hT, _, hAR, hF9⟩ hb1 hb2)
                                    · refine r_aload_n B dL_law_1412 rfl rfl ?_
                                      refine r_iload B dL_law_1413 rfl ?_
                                      refine r_callVX (n := 1) B dL_law_1415 (ct_X9_chain l g sz0 hL.1 hT hG (j9) hl0 (by omega)) gL_law_X9_chain rfl (by decide +kernel) ⟨Nat.le_of_ble_eq_true rfl, Nat.le_of_ble_eq_true rfl⟩ hro rfl rfl rfl (Nat.le_of_ble_eq_true rfl) (by show (cells + 441 + j9.toNat * 12 + 5) + 1 + 1 ≤ 683647; omega) (by show (slots + 10600 + j9.toNat * 72 + 30) + 6 + 6 ≤ 7050684; omega) (fun E h' hp => False.elim ?_) (fun v h hp => ?_)
                                      · obtain ⟨hp, -⟩ := hp
                                        have e9 := hp.2
                                        unfold tCl at e9; (repeat' (split at e9)) <;> omega
                                      obtain ⟨ht0, hv, hST⟩ := hp
                                      subst v
                                      have hAR := hAR.fr hL hST.fr
                                      have hT := hST.base
                                      obtain ⟨fs0, hro⟩ := hT.ro
                                      dsimp only [Option.toList, List.cons_append, List.nil_append]
                                      refine r_if_ne B dL_law_1418 (tgt := 1425) (by decide) (by omega) (fun c1418 => ?_) (fun c1418 => ?_)
                                      · exact absurd (f4 (by omega)) c1418
                                      · refine r_iconst B dL_law_1421 ?_
                                        refine r_goto B dL_law_1422 (tgt := 1426) (by decide) ?_
                                        refine r_istore B dL_law_1426 (by decide) (lcat_v rfl rfl) ?_
                                        refine r_aload B dL_law_1428 rfl rfl ?_
                                        refine r_iload B dL_law_1430 rfl ?_
                                        refine r_aload_n B dL_law_1432 rfl rfl ?_
                                        refine r_iload B dL_law_1433 rfl ?_
                                        refine r_callVX (n := 1) B dL_law_1435 (ct_X9_paid l g sz0 hL.1 hT hG (j9) hl0 (by omega)) gL_law_X9_paid rfl (by decide +kernel) ⟨Nat.le_of_ble_eq_true rfl, Nat.le_of_ble_eq_true rfl⟩ hro rfl rfl rfl (Nat.le_of_ble_eq_true rfl) (by show (cells + 441 + j9.toNat * 12 + 5) + 1 + 1 + 1 ≤ 683647; omega) (by show (slots + 10600 + j9.toNat * 72 + 30) + 6 + 6 + 6 ≤ 7050684; omega) (fun E h' hp => False.elim ?_) (fun v h hp => ?_)
                                        · obtain ⟨hp, -⟩ := hp
                                          have e9 := hp.2
                                          unfold tCl at e9; (repeat' (split at e9)) <;> omega
                                        obtain ⟨ht0, hv, hST⟩ := hp
                                        subst v
                                        have hAR := hAR.fr hL hST.fr
                                        have hT := hST.base
                                        obtain ⟨fs0, hro⟩ := hT.ro
                                        dsimp only [Option.toList, List.cons_append, List.nil_append]
                                        refine r_iast B dL_law_1438 hAR.2.2.2.1 (by decide) (by omega) (by show j9 < 4; omega) ?_
                                        have hT := hT.wr hL (o := op) (ev := iE g 4 (upZ F9 j9 (pp j9))) (Or.inr (Or.inr (Or.inr (Or.inl rfl))))
                                        have hAR := hAR.wp hL (F' := upZ F9 j9 (pp j9))
                                        have hF9 : ∀ x : Int, 0 ≤ x → x ≤ 3 → upZ F9 j9 (pp j9) x = if x < j9 + 1 then pp x else mpaid x := fun x w0 w1 => by
                                          unfold upZ
                                          by_cases w : x = j9
                                          · rw [if_pos w, if_pos (by omega), w]
                                          · rw [if_neg w, hF9 x w0 w1]
                                            by_cases w2 : x < j9
                                            · rw [if_pos w2, if_pos (by omega)]
                                            · rw [if_neg w2, if_neg (by omega)]
                                        refine r_iinc B dL_law_1439 rfl (by decide) (lcat_v rfl rfl) ?_
                                        refine r_goto B dL_law_1442 (tgt := 1296) (by decide) ?_
                                        refine r_widen (k := (cells + 441 + (j9 + 1).toNat * 12)) (n := (slots + 10600 + (j9 + 1).toNat * 72)) (by show (cells + 441 + j9.toNat * 12 + 5) + 1 + 1 + 1 ≤ (cells + 441 + (j9 + 1).toNat * 12); omega) (by show (slots + 10600 + j9.toNat * 72 + 30) + 6 + 6 + 6 ≤ (slots + 10600 + (j9 + 1).toNat * 72); omega) ?_
                                        exact r_lv (lvLe_s rfl (lvLe_s rfl (lvLe_s rfl (lvLe_s rfl (lvLe_s rfl (lvLe_s rfl (lvLe_s rfl (lvLe_s rfl (lvLe_s rfl (lvLe_s rfl (lvLe_s rfl (lvLe_s rfl (lvLe_s rfl (lvLe_s rfl (lvLe_s rfl (lvLe_s rfl (lvLe_s rfl (lvLe_s rfl (lvLe_s rfl (lvLe_s rfl (lvLe_s rfl (lvLe_s rfl (lvLe_n (lvLe_n (lvLe_s rfl (lvLe_s rfl (lvLe_n (lvLe_n (lvLe_n lvLe_nil))))))))))))))))))))))))))))) (ih2 (j9 + 1) _ ⟨hT, _, hAR, hF9⟩ hb1 hb2)
                                  · refine r_aload_n B dL_law_1391 rfl rfl ?_
                                    refine r_iload B dL_law_1392 rfl ?_
                                    refine r_callVX (n := 1) B dL_law_1394 (ct_X9_forDifference l g sz0 hL.1 hT hG (j9) hl0 (by omega)) gL_law_X9_forDifference rfl (by decide +kernel) ⟨Nat.le_of_ble_eq_true rfl, Nat.le_of_ble_eq_true rfl⟩ hro rfl rfl rfl (Nat.le_of_ble_eq_true rfl) (by show (cells + 441 + j9.toNat * 12 + 5) + 1 + 3 ≤ 683647; omega) (by show (slots + 10600 + j9.toNat * 72 + 30) + 6 + 18 ≤ 7050684; omega) (fun E h' hp => False.elim ?_) (fun v h hp => ?_)
                                    · have hg9 := (f3 (by omega)).2.2.1
                                      obtain ⟨hp, -⟩ := hp
                                      rcases hp with ⟨-, e9⟩ | ⟨-, e9⟩
                                      · unfold tDif at e9; (repeat' (split at e9)) <;> omega
                                      · unfold tDif at e9; (repeat' (split at e9)) <;> omega
                                    obtain ⟨ht0, hv, hST⟩ := hp
                                    subst v
                                    have hAR := hAR.fr hL hST.fr
                                    have hT := hST.base
                                    obtain ⟨fs0, hro⟩ := hT.ro
                                    dsimp only [Option.toList, List.cons_append, List.nil_append]
                                    refine r_aload_n B dL_law_1397 rfl rfl ?_
                                    refine r_iload B dL_law_1398 rfl ?_
                                    refine r_callVX (n := 1) B dL_law_1400 (ct_X9_chunks l g sz0 hL.1 hT hG (j9) hl0 (by omega)) gL_law_X9_chunks rfl (by decide +kernel) ⟨Nat.le_of_ble_eq_true rfl, Nat.le_of_ble_eq_true rfl⟩ hro rfl rfl rfl (Nat.le_of_ble_eq_true rfl) (by show (cells + 441 + j9.toNat * 12 + 5) + 1 + 3 + 1 ≤ 683647; omega) (by show (slots + 10600 + j9.toNat * 72 + 30) + 6 + 18 + 6 ≤ 7050684; omega) (fun E h' hp => False.elim ?_) (fun v h hp => ?_)
                                    · obtain ⟨hp, -⟩ := hp
                                      have e9 := hp.2
                                      unfold tCl at e9; (repeat' (split at e9)) <;> omega
                                    obtain ⟨ht0, hv, hST⟩ := hp
                                    subst v
                                    have hAR := hAR.fr hL hST.fr
                                    have hT := hST.base
                                    obtain ⟨fs0, hro⟩ := hT.ro
                                    dsimp only [Option.toList, List.cons_append, List.nil_append]
                                    refine r_icmp_ne B dL_law_1403 (tgt := 1425) (by decide) (by rw [(f3 (by omega)).2.2.2.1]; omega) (by omega) (fun c1403 => ?_) (fun c1403 => ?_)
                                    · exact absurd (f3 (by omega)).2.2.2.1 c1403
                                    · refine r_iload B dL_law_1406 rfl ?_
                                      refine r_iconst B dL_law_1408 ?_
                                      refine r_icmp_ne B dL_law_1409 (tgt := 1421) (by decide) (by omega) (by omega) (fun c1409 => ?_) (fun c1409 => ?_)
                                      · refine r_iconst B dL_law_1421 ?_
                                        refine r_goto B dL_law_1422 (tgt := 1426) (by decide) ?_
                                        refine r_istore B dL_law_1426 (by decide) (lcat_v rfl rfl) ?_
                                        refine r_aload B dL_law_1428 rfl rfl ?_
                                        refine r_iload B dL_law_1430 rfl ?_
                                        refine r_aload_n B dL_law_1432 rfl rfl ?_
                                        refine r_iload B dL_law_1433 rfl ?_
                                        refine r_callVX (n := 1) B dL_law_1435 (ct_X9_paid l g sz0 hL.1 hT hG (j9) hl0 (by omega)) gL_law_X9_paid rfl (by decide +kernel) ⟨Nat.le_of_ble_eq_true rfl, Nat.le_of_ble_eq_true rfl⟩ hro rfl rfl rfl (Nat.le_of_ble_eq_true rfl) (by show (cells + 441 + j9.toNat * 12 + 5) + 1 + 3 + 1 + 1 ≤ 683647; omega) (by show (slots + 10600 + j9.toNat * 72 + 30) + 6 + 18 + 6 + 6 ≤ 7050684; omega) (fun E h' hp => False.elim ?_) (fun v h hp => ?_)
                                        · obtain ⟨hp, -⟩ := hp
                                          have e9 := hp.2
                                          unfold tCl at e9; (repeat' (split at e9)) <;> omega
                                        obtain ⟨ht0, hv, hST⟩ := hp
                                        subst v
                                        have hAR := hAR.fr hL hST.fr
                                        have hT := hST.base
                                        obtain ⟨fs0, hro⟩ := hT.ro
                                        dsimp only [Option.toList, List.cons_append, List.nil_append]
                                        refine r_iast B dL_law_1438 hAR.2.2.2.1 (by decide) (by omega) (by show j9 < 4; omega) ?_
                                        have hT := hT.wr hL (o := op) (ev := iE g 4 (upZ F9 j9 (pp j9))) (Or.inr (Or.inr (Or.inr (Or.inl rfl))))
                                        have hAR := hAR.wp hL (F' := upZ F9 j9 (pp j9))
                                        have hF9 : ∀ x : Int, 0 ≤ x → x ≤ 3 → upZ F9 j9 (pp j9) x = if x < j9 + 1 then pp x else mpaid x := fun x w0 w1 => by
                                          unfold upZ
                                          by_cases w : x = j9
                                          · rw [if_pos w, if_pos (by omega), w]
                                          · rw [if_neg w, hF9 x w0 w1]
                                            by_cases w2 : x < j9
                                            · rw [if_pos w2, if_pos (by omega)]
                                            · rw [if_neg w2, if_neg (by omega)]
                                        refine r_iinc B dL_law_1439 rfl (by decide) (lcat_v rfl rfl) ?_
                                        refine r_goto B dL_law_1442 (tgt := 1296) (by decide) ?_
                                        refine r_widen (k := (cells + 441 + (j9 + 1).toNat * 12)) (n := (slots + 10600 + (j9 + 1).toNat * 72)) (by show (cells + 441 + j9.toNat * 12 + 5) + 1 + 3 + 1 + 1 ≤ (cells + 441 + (j9 + 1).toNat * 12); omega) (by show (slots + 10600 + j9.toNat * 72 + 30) + 6 + 18 + 6 + 6 ≤ (slots + 10600 + (j9 + 1).toNat * 72); omega) ?_
                                        exact r_lv (lvLe_s rfl (lvLe_s rfl (lvLe_s rfl (lvLe_s rfl (lvLe_s rfl (lvLe_s rfl (lvLe_s rfl (lvLe_s rfl (lvLe_s rfl (lvLe_s rfl (lvLe_s rfl (lvLe_s rfl (lvLe_s rfl (lvLe_s rfl (lvLe_s rfl (lvLe_s rfl (lvLe_s rfl (lvLe_s rfl (lvLe_s rfl (lvLe_s rfl (lvLe_s rfl (lvLe_s rfl (lvLe_n (lvLe_n (lvLe_s rfl (lvLe_s rfl (lvLe_n (lvLe_n (lvLe_n lvLe_nil))))))))))))))))))))))))))))) (ih2 (j9 + 1) _ ⟨hT, _, hAR, hF9⟩ hb1 hb2)
                                      · refine r_aload_n B dL_law_1412 rfl rfl ?_
                                        refine r_iload B dL_law_1413 rfl ?_
                                        refine r_callVX (n := 1) B dL_law_1415 (ct_X9_chain l g sz0 hL.1 hT hG (j9) hl0 (by omega)) gL_law_X9_chain rfl (by decide +kernel) ⟨Nat.le_of_ble_eq_true rfl, Nat.le_of_ble_eq_true rfl⟩ hro rfl rfl rfl (Nat.le_of_ble_eq_true rfl) (by show (cells + 441 + j9.toNat * 12 + 5) + 1 + 3 + 1 + 1 ≤ 683647; omega) (by show (slots + 10600 + j9.toNat * 72 + 30) + 6 + 18 + 6 + 6 ≤ 7050684; omega) (fun E h' hp => False.elim ?_) (fun v h hp => ?_)
                                        · obtain ⟨hp, -⟩ := hp
                                          have e9 := hp.2
                                          unfold tCl at e9; (repeat' (split at e9)) <;> omega
                                        obtain ⟨ht0, hv, hST⟩ := hp
                                        subst v
                                        have hAR := hAR.fr hL hST.fr
                                        have hT := hST.base
                                        obtain ⟨fs0, hro⟩ := hT.ro
                                        dsimp only [Option.toList, List.cons_append, List.nil_append]
                                        refine r_if_ne B dL_law_1418 (tgt := 1425) (by decide) (by omega) (fun c1418 => ?_) (fun c1418 => ?_)
                                        · exact absurd (f4 (by omega)) c1418
                                        · refine r_iconst B dL_law_1421 ?_
                                          refine r_goto B dL_law_1422 (tgt := 1426) (by decide) ?_
                                          refine r_istore B dL_law_1426 (by decide) (lcat_v rfl rfl) ?_
                                          refine r_aload B dL_law_1428 rfl rfl ?_
                                          refine r_iload B dL_law_1430 rfl ?_
                                          refine r_aload_n B dL_law_1432 rfl rfl ?_
                                          refine r_iload B dL_law_1433 rfl ?_
                                          refine r_callVX (n := 1) B dL_law_1435 (ct_X9_paid l g sz0 hL.1 hT hG (j9) hl0 (by omega)) gL_law_X9_paid rfl (by decide +kernel) ⟨Nat.le_of_ble_eq_true rfl, Nat.le_of_ble_eq_true rfl⟩ hro rfl rfl rfl (Nat.le_of_ble_eq_true rfl) (by show (cells + 441 + j9.toNat * 12 + 5) + 1 + 3 + 1 + 1 + 1 ≤ 683647; omega) (by show (slots + 10600 + j9.toNat * 72 + 30) + 6 + 18 + 6 + 6 + 6 ≤ 7050684; omega) (fun E h' hp => False.elim ?_) (fun v h hp => ?_)
                                          · obtain ⟨hp, -⟩ := hp
                                            have e9 := hp.2
                                            unfold tCl at e9; (repeat' (split at e9)) <;> omega
                                          obtain ⟨ht0, hv, hST⟩ := hp
                                          subst v
                                          have hAR := hAR.fr hL hST.fr
                                          have hT := hST.base
                                          obtain ⟨fs0, hro⟩ := hT.ro
                                          dsimp only [Option.toList, List.cons_append, List.nil_append]
                                          refine r_iast B dL_law_1438 hAR.2.2.2.1 (by decide) (by omega) (by show j9 < 4; omega) ?_
                                          have hT := hT.wr hL (o := op) (ev := iE g 4 (upZ F9 j9 (pp j9))) (Or.inr (Or.inr (Or.inr (Or.inl rfl))))
                                          have hAR := hAR.wp hL (F' := upZ F9 j9 (pp j9))
                                          have hF9 : ∀ x : Int, 0 ≤ x → x ≤ 3 → upZ F9 j9 (pp j9) x = if x < j9 + 1 then pp x else mpaid x := fun x w0 w1 => by
                                            unfold upZ
                                            by_cases w : x = j9
                                            · rw [if_pos w, if_pos (by omega), w]
                                            · rw [if_neg w, hF9 x w0 w1]
                                              by_cases w2 : x < j9
                                              · rw [if_pos w2, if_pos (by omega)]
                                              · rw [if_neg w2, if_neg (by omega)]
                                          refine r_iinc B dL_law_1439 rfl (by decide) (lcat_v rfl rfl) ?_
                                          refine r_goto B dL_law_1442 (tgt := 1296) (by decide) ?_
                                          refine r_widen (k := (cells + 441 + (j9 + 1).toNat * 12)) (n := (slots + 10600 + (j9 + 1).toNat * 72)) (by show (cells + 441 + j9.toNat * 12 + 5) + 1 + 3 + 1 + 1 + 1 ≤ (cells + 441 + (j9 + 1).toNat * 12); omega) (by show (slots + 10600 + j9.toNat * 72 + 30) + 6 + 18 + 6 + 6 + 6 ≤ (slots + 10600 + (j9 + 1).toNat * 72); omega) ?_
                                          exact r_lv (lvLe_s rfl (lvLe_s rfl (lvLe_s rfl (lvLe_s rfl (lvLe_s rfl (lvLe_s rfl (lvLe_s rfl (lvLe_s rfl (lvLe_s rfl (lvLe_s rfl (lvLe_s rfl (lvLe_s rfl (lvLe_s rfl (lvLe_s rfl (lvLe_s rfl (lvLe_s rfl (lvLe_s rfl (lvLe_s rfl (lvLe_s rfl (lvLe_s rfl (lvLe_s rfl (lvLe_s rfl (lvLe_n (lvLe_n (lvLe_s rfl (lvLe_s rfl (lvLe_n (lvLe_n (lvLe_n lvLe_nil))))))))))))))))))))))))))))) (ih2 (j9 + 1) _ ⟨hT, _, hAR, hF9⟩ hb1 hb2)
                          refine r_if_ne B dL_law_1319 (tgt := 1326) (by decide) (by omega) (fun c1319 => ?_) (fun c1319 => ?_)
                          · refine r_aload_n B dL_law_1326 rfl rfl ?_
                            refine r_iload B dL_law_1327 rfl ?_
                            refine r_iload B dL_law_1329 rfl ?_
                            refine r_callVX (n := 2) B dL_law_1331 (ct_X9_bytes l g sz0 hL.1 hT hG (j9) (mnights) hl0 (by omega) (by omega)) gL_law_X9_bytes rfl (by decide +kernel) ⟨Nat.le_of_ble_eq_true rfl, Nat.le_of_ble_eq_true rfl⟩ hro rfl rfl rfl (Nat.le_of_ble_eq_true rfl) (by show (cells + 441 + j9.toNat * 12) + 2 + 3 ≤ 683647; omega) (by show (slots + 10600 + j9.toNat * 72) + 12 + 18 ≤ 7050684; omega) (fun E h' hp => False.elim ?_) (fun v h hp => ?_)
                            · have hk9 : ¬ kk (60 * j9 + mnights) = 0 := by omega
                              obtain ⟨hp, -⟩ := hp
                              rcases hp with ⟨-, e9⟩ | ⟨-, e9⟩ | ⟨-, e9⟩
                              · unfold tAsk at e9; (repeat' (split at e9)) <;> omega
                              · unfold tAsk at e9; (repeat' (split at e9)) <;> omega
                              · unfold tAsk at e9; (repeat' (split at e9)) <;> omega
                            obtain ⟨ht0, hv, hST⟩ := hp
                            subst v
                            have hAR := hAR.fr hL hST.fr
                            have hT := hST.base
                            obtain ⟨fs0, hro⟩ := hT.ro
                            dsimp only [Option.toList, List.cons_append, List.nil_append]
                            obtain ⟨⟨u, hu, eu⟩, hb, -⟩ := f3 (by omega)
                            refine r_widen (k := (cells + 441 + j9.toNat * 12 + 5)) (n := (slots + 10600 + j9.toNat * 72 + 30)) (by show (cells + 441 + j9.toNat * 12) + 2 + 3 ≤ (cells + 441 + j9.toNat * 12 + 5); omega) (by show (slots + 10600 + j9.toNat * 72) + 12 + 18 ≤ (slots + 10600 + j9.toNat * 72 + 30); omega) ?_
                            exact r_lv (lvLe_s rfl (lvLe_s rfl (lvLe_s rfl (lvLe_s rfl (lvLe_s rfl (lvLe_s rfl (lvLe_s rfl (lvLe_s rfl (lvLe_s rfl (lvLe_s rfl (lvLe_s rfl (lvLe_s rfl (lvLe_s rfl (lvLe_s rfl (lvLe_s rfl (lvLe_s rfl (lvLe_s rfl (lvLe_s rfl (lvLe_s rfl (lvLe_s rfl (lvLe_s rfl (lvLe_s rfl (lvLe_n (lvLe_n (lvLe_s rfl (lvLe_s rfl (lvLe_s rfl (lvLe_n (lvLe_n lvLe_nil))))))))))))))))))))))))))))) (join1334 _ _ ⟨hT, hAR⟩ ⟨hb, pay_between hu hb.1 eu⟩)
                          · refine r_iconst B dL_law_1322 ?_
                            refine r_goto B dL_law_1323 (tgt := 1334) (by decide) ?_
                            have e9 := f2 (by omega)
                            refine r_widen (k := (cells + 441 + j9.toNat * 12 + 5)) (n := (slots + 10600 + j9.toNat * 72 + 30)) (by show (cells + 441 + j9.toNat * 12) + 2 ≤ (cells + 441 + j9.toNat * 12 + 5); omega) (by show (slots + 10600 + j9.toNat * 72) + 12 ≤ (slots + 10600 + j9.toNat * 72 + 30); omega) ?_
                            exact r_lv (lvLe_s rfl (lvLe_s rfl (lvLe_s rfl (lvLe_s rfl (lvLe_s rfl (lvLe_s rfl (lvLe_s rfl (lvLe_s rfl (lvLe_s rfl (lvLe_s rfl (lvLe_s rfl (lvLe_s rfl (lvLe_s rfl (lvLe_s rfl (lvLe_s rfl (lvLe_s rfl (lvLe_s rfl (lvLe_s rfl (lvLe_s rfl (lvLe_s rfl (lvLe_s rfl (lvLe_s rfl (lvLe_n (lvLe_n (lvLe_s rfl (lvLe_s rfl (lvLe_s rfl (lvLe_n (lvLe_n lvLe_nil))))))))))))))))))))))))))))) (join1334 0 _ ⟨hT, hAR⟩ ⟨by omega, by rw [Int.zero_mul]; omega, by rw [Int.zero_mul]; omega⟩)
                  refine r_widen (k := (cells + 441 + (0 : Int).toNat * 12)) (n := (slots + 10600 + (0 : Int).toNat * 72)) (by show (cells + q.toNat * 5) + 421 + 0 ≤ (cells + 441 + (0 : Int).toNat * 12); omega) (by show (slots + q.toNat * 30) + 10406 + 0 ≤ (slots + 10600 + (0 : Int).toNat * 72); omega) ?_
                  exact r_lv (lvLe_s rfl (lvLe_s rfl (lvLe_s rfl (lvLe_s rfl (lvLe_s rfl (lvLe_s rfl (lvLe_s rfl (lvLe_s rfl (lvLe_s rfl (lvLe_s rfl (lvLe_s rfl (lvLe_s rfl (lvLe_s rfl (lvLe_s rfl (lvLe_s rfl (lvLe_s rfl (lvLe_s rfl (lvLe_s rfl (lvLe_s rfl (lvLe_s rfl (lvLe_s rfl (lvLe_s rfl (lvLe_n (lvLe_n (lvLe_s rfl (lvLe_s rfl (lvLe_n (lvLe_n (lvLe_n lvLe_nil))))))))))))))))))))))))))))) (loop1296 _ 0 _ ⟨hT, _, hAR, fun x w0 w1 => by rw [if_neg (by omega)]; exact (hFE x w0 w1).2.2.1⟩ (by omega) (Nat.lt_succ_self _))
        · have hgq := hgr q i1.1 (by omega)
          have hlq := hlf q i1.1 (by omega)
          have hS2 := sum_bI (P := fun x => 0 < GT x) q.toNat
          have hFq := (hFE q i1.1 (by omega)).1
          have hbq := (hG.2.2.2.2.1 q i1.1 (by omega)).1
          refine r_aload_n B dL_law_1124 rfl rfl ?_
          refine r_iload B dL_law_1125 rfl ?_
          refine r_callVX (n := 1) B dL_law_1127 (ct_X9_would l g sz0 hL.1 hT hG (q) hl0 (by omega)) gL_law_X9_would rfl (by decide +kernel) ⟨Nat.le_of_ble_eq_true rfl, Nat.le_of_ble_eq_true rfl⟩ hro rfl rfl rfl (Nat.le_of_ble_eq_true rfl) (by show (cells + q.toNat * 5) + 1 ≤ 683647; omega) (by show (slots + q.toNat * 30) + 6 ≤ 7050684; omega) (fun E h' hp => False.elim ?_) (fun v h hp => ?_)
          · obtain ⟨hp, -⟩ := hp
            have e9 := hp.2
            unfold tCl at e9; (repeat' (split at e9)) <;> omega
          obtain ⟨ht0, hv, hST⟩ := hp
          subst v
          have hAR := hAR.fr hL hST.fr
          have hT := hST.base
          obtain ⟨fs0, hro⟩ := hT.ro
          dsimp only [Option.toList, List.cons_append, List.nil_append]
          rw [← hGT]
          refine r_istore B dL_law_1130 (by decide) (lcat_v rfl rfl) ?_
          refine r_iload B dL_law_1132 rfl ?_
          refine r_iload B dL_law_1134 rfl ?_
          refine r_iconst B dL_law_1136 ?_
          refine r_iload B dL_law_1137 rfl ?_
          refine r_imul B dL_law_1139 ?_
          refine r_ishl B dL_law_1140 ?_
          refine r_top (shl4 hgq ⟨i1.1, by omega⟩) ?_
          refine r_iadd B dL_law_1141 ?_
          refine r_topz (show sumZ (fun x => GT x * p4 x) q.toNat + GT q * p4 q = sumZ (fun x => GT x * p4 x) (q + 1).toNat by rw [sumZ_s _ i1.1]) ?_
          refine r_istore B dL_law_1142 (by decide) (lcat_v rfl rfl) ?_
          refine r_iload B dL_law_1144 rfl ?_
          refine r_iload B dL_law_1146 rfl ?_
          have join1156 : ∀ (u1 : Int), (u1 = bI (0 < GT q)) → WA p l e room_1 s m args below meth c g sz0 29 Q h (cells + q.toNat * 5 + 1) (slots + q.toNat * 30 + 6) [some (.ref bs), some (.ref (A 0)), some (.ref od), some (.ref ob), some (.ref oc), some (.ref op), some (.ref oo), some (.int (iI mleast)), some (.int (iI mmost)), some (.int (iI mmount)), some (.int (iI mspeed)), some (.int (iI mroom)), some (.int (iI mreserve)), some (.int (iI 1)), some (.int (iI tu)), some (.int (iI tn)), some (.int xv), some (.int (iI y)), some (.int (iI de)), some (.int (iI cl)), some (.int (iI (msize (240 + cl)))), some (.int (iI mnights)), none, some (.int (iI (sumZ (lbF GT BS9 DF9) q.toNat))), some (.int (iI (sumZ (fun x => GT x * p4 x) (q + 1).toNat))), some (.int (iI q)), some (.int (iI (GT q))), none, none] 1156 [.int (iI u1), .int (iI (sumZ (fun x => bI (0 < GT x)) q.toNat))] := by
            intro u1 u1e
            refine r_iadd B dL_law_1156 ?_
            refine r_topz (show sumZ (fun x => bI (0 < GT x)) q.toNat + u1 = sumZ (fun x => bI (0 < GT x)) (q + 1).toNat by rw [sumZ_s _ i1.1, u1e]) ?_
            refine r_istore B dL_law_1157 (by decide) (lcat_v rfl rfl) ?_
            refine r_iload B dL_law_1159 rfl ?_
            refine r_iload B dL_law_1161 rfl ?_
            refine r_iconst B dL_law_1163 ?_
            have join1192 : ∀ (u2 : Int) (h : AH), (ST g A Z h mdata msize mends mmany mkind mchain mholds mnights mbits mleast mmost mroom mreserve mmount mspeed mbid mbound mcheap mpromised mcoin mpaid mowed h ∧ AR g od ob oc op oo D1 Fb Fc Fp Fo h) → (u2 = lbF GT BS9 DF9 q) → WA p l e room_1 s m args below meth c g sz0 29 Q h (cells + q.toNat * 5 + 4) (slots + q.toNat * 30 + 24) [some (.ref bs), some (.ref (A 0)), some (.ref od), some (.ref ob), some (.ref oc), some (.ref op), some (.ref oo), some (.int (iI mleast)), some (.int (iI mmost)), some (.int (iI mmount)), some (.int (iI mspeed)), some (.int (iI mroom)), some (.int (iI mreserve)), some (.int (iI 1)), some (.int (iI tu)), some (.int (iI tn)), some (.int xv), some (.int (iI y)), some (.int (iI de)), some (.int (iI cl)), some (.int (iI (msize (240 + cl)))), some (.int (iI mnights)), some (.int (iI (sumZ (fun x => bI (0 < GT x)) (q + 1).toNat))), none, some (.int (iI (sumZ (fun x => GT x * p4 x) (q + 1).toNat))), some (.int (iI q)), some (.int (iI (GT q))), none, none] 1192 [.int (iI u2), .int (iI (sumZ (lbF GT BS9 DF9) q.toNat))] := by
              intro u2 h hTB u2e
              refine r_iadd B dL_law_1192 ?_
              obtain ⟨hT, hAR⟩ := hTB
              obtain ⟨fs0, hro⟩ := hT.ro
              refine r_topz (show sumZ (lbF GT BS9 DF9) q.toNat + u2 = sumZ (lbF GT BS9 DF9) (q + 1).toNat by rw [sumZ_s _ i1.1, u2e]) ?_
              refine r_istore B dL_law_1193 (by decide) (lcat_v rfl rfl) ?_
              refine r_aload_n B dL_law_1195 rfl rfl ?_
              refine r_bipush B dL_law_1196 (by decide) ?_
              refine r_iload B dL_law_1198 rfl ?_
              refine r_imul B dL_law_1200 ?_
              refine r_iload B dL_law_1201 rfl ?_
              refine r_iadd B dL_law_1203 ?_
              refine r_aload_n B dL_law_1204 rfl rfl ?_
              refine r_iload B dL_law_1205 rfl ?_
              refine r_callVX (n := 1) B dL_law_1207 (ct_X9_digest l g sz0 hL.1 hT hG (q) hl0 (by omega)) gL_law_X9_digest rfl (by decide +kernel) ⟨Nat.le_of_ble_eq_true rfl, Nat.le_of_ble_eq_true rfl⟩ hro rfl rfl rfl (Nat.le_of_ble_eq_true rfl) (by show (cells + q.toNat * 5 + 4) + 1 ≤ 683647; omega) (by show (slots + q.toNat * 30 + 24) + 6 ≤ 7050684; omega) (fun E h' hp => False.elim ?_) (fun v h hp => ?_)
              · obtain ⟨hp, -⟩ := hp
                have e9 := hp.2
                unfold tCl at e9; (repeat' (split at e9)) <;> omega
              obtain ⟨ht0, hv, hST⟩ := hp
              subst v
              have hAR := hAR.fr hL hST.fr
              have hT := hST.base
              obtain ⟨fs0, hro⟩ := hT.ro
              dsimp only [Option.toList, List.cons_append, List.nil_append]
              refine r_last B dL_law_1210 hAR.1 (by decide) (by omega) (by show 16 * q + mnights < 64; omega) ?_
              have hT := hT.wr hL (o := od) (ev := lE g 64 (vp_updL D1 (16 * q + mnights).toNat (dig (rowF mdata (240 + q)) (msize (240 + q)).toNat))) (Or.inl rfl)
              have hAR := hAR.wd hL (D' := (vp_updL D1 (16 * q + mnights).toNat (dig (rowF mdata (240 + q)) (msize (240 + q)).toNat)))
              have hDN := hDN.s (by omega) ⟨i1.1, by omega⟩
              obtain ⟨fs0, hro⟩ := hT.ro
              refine r_iload B dL_law_1211 rfl ?_
              refine r_if_eq B dL_law_1213 (tgt := 1241) (by decide) (by omega) (fun c1213 => ?_) (fun c1213 => ?_)
              · exact absurd c1213 (by decide)
              · refine r_iload B dL_law_1216 rfl ?_
                refine r_if_eq B dL_law_1218 (tgt := 1237) (by decide) (by omega) (fun c1218 => ?_) (fun c1218 => ?_)
                · refine r_iconst B dL_law_1237 ?_
                  refine r_goto B dL_law_1238 (tgt := 1242) (by decide) ?_
                  refine r_istore B dL_law_1242 (by decide) (lcat_v rfl rfl) ?_
                  refine r_iinc B dL_law_1244 rfl (by decide) (lcat_v rfl rfl) ?_
                  refine r_goto B dL_law_1247 (tgt := 1118) (by decide) ?_
                  refine r_widen (k := (cells + (q + 1).toNat * 5)) (n := (slots + (q + 1).toNat * 30)) (by show (cells + q.toNat * 5 + 4) + 1 ≤ (cells + (q + 1).toNat * 5); omega) (by show (slots + q.toNat * 30 + 24) + 6 ≤ (slots + (q + 1).toNat * 30); omega) ?_
                  exact r_lv (lvLe_s rfl (lvLe_s rfl (lvLe_s rfl (lvLe_s rfl (lvLe_s rfl (lvLe_s rfl (lvLe_s rfl (lvLe_s rfl (lvLe_s rfl (lvLe_s rfl (lvLe_s rfl (lvLe_s rfl (lvLe_s rfl (lvLe_s rfl (lvLe_s rfl (lvLe_s rfl (lvLe_s rfl (lvLe_s rfl (lvLe_s rfl (lvLe_s rfl (lvLe_s rfl (lvLe_s rfl (lvLe_s rfl (lvLe_s rfl (lvLe_s rfl (lvLe_s rfl (lvLe_n (lvLe_n (lvLe_n lvLe_nil))))))))))))))))))))))))))))) (ih (q + 1) _ ⟨hT, _, hAR, hDN⟩ (by omega) (by omega))
                · refine r_aload_n B dL_law_1221 rfl rfl ?_
                  refine r_iload B dL_law_1222 rfl ?_
                  refine r_iald B dL_law_1224 hAR.2.1 (by decide) (by omega) (by show q < 4; omega) ?_
                  refine r_if_le B dL_law_1225 (tgt := 1241) (by decide) (by omega) (fun c1225 => ?_) (fun c1225 => ?_)
                  · have h9 := hga q (by omega)
                    exfalso; omega
                  · refine r_aload_n B dL_law_1228 rfl rfl ?_
                    refine r_iload B dL_law_1229 rfl ?_
                    refine r_iald B dL_law_1231 hAR.2.1 (by decide) (by omega) (by show q < 4; omega) ?_
                    refine r_iload B dL_law_1232 rfl ?_
                    refine r_icmp_lt B dL_law_1234 (tgt := 1241) (by decide) (by omega) (by omega) (fun c1234 => ?_) (fun c1234 => ?_)
                    · have h9 := hga q (by omega)
                      exfalso; omega
                    · refine r_iconst B dL_law_1237 ?_
                      refine r_goto B dL_law_1238 (tgt := 1242) (by decide) ?_
                      refine r_istore B dL_law_1242 (by decide) (lcat_v rfl rfl) ?_
                      refine r_iinc B dL_law_1244 rfl (by decide) (lcat_v rfl rfl) ?_
                      refine r_goto B dL_law_1247 (tgt := 1118) (by decide) ?_
                      refine r_widen (k := (cells + (q + 1).toNat * 5)) (n := (slots + (q + 1).toNat * 30)) (by show (cells + q.toNat * 5 + 4) + 1 ≤ (cells + (q + 1).toNat * 5); omega) (by show (slots + q.toNat * 30 + 24) + 6 ≤ (slots + (q + 1).toNat * 30); omega) ?_
                      exact r_lv (lvLe_s rfl (lvLe_s rfl (lvLe_s rfl (lvLe_s rfl (lvLe_s rfl (lvLe_s rfl (lvLe_s rfl (lvLe_s rfl (lvLe_s rfl (lvLe_s rfl (lvLe_s rfl (lvLe_s rfl (lvLe_s rfl (lvLe_s rfl (lvLe_s rfl (lvLe_s rfl (lvLe_s rfl (lvLe_s rfl (lvLe_s rfl (lvLe_s rfl (lvLe_s rfl (lvLe_s rfl (lvLe_s rfl (lvLe_s rfl (lvLe_s rfl (lvLe_s rfl (lvLe_n (lvLe_n (lvLe_n lvLe_nil))))))))))))))))))))))))))))) (ih (q + 1) _ ⟨hT, _, hAR, hDN⟩ (by omega) (by omega))
            refine r_icmp_ne B dL_law_1164 (tgt := 1176) (by decide) (by omega) (by omega) (fun c1164 => ?_) (fun c1164 => ?_)
            · refine r_iload B dL_law_1176 rfl ?_
              refine r_iconst B dL_law_1178 ?_
              refine r_icmp_ne B dL_law_1179 (tgt := 1191) (by decide) (by omega) (by omega) (fun c1179 => ?_) (fun c1179 => ?_)
              · refine r_iconst B dL_law_1191 ?_
                refine r_widen (k := (cells + q.toNat * 5 + 4)) (n := (slots + q.toNat * 30 + 24)) (by show (cells + q.toNat * 5 + 1) ≤ (cells + q.toNat * 5 + 4); omega) (by show (slots + q.toNat * 30 + 6) ≤ (slots + q.toNat * 30 + 24); omega) ?_
                exact r_lv (lvLe_s rfl (lvLe_s rfl (lvLe_s rfl (lvLe_s rfl (lvLe_s rfl (lvLe_s rfl (lvLe_s rfl (lvLe_s rfl (lvLe_s rfl (lvLe_s rfl (lvLe_s rfl (lvLe_s rfl (lvLe_s rfl (lvLe_s rfl (lvLe_s rfl (lvLe_s rfl (lvLe_s rfl (lvLe_s rfl (lvLe_s rfl (lvLe_s rfl (lvLe_s rfl (lvLe_s rfl (lvLe_s rfl (lvLe_n (lvLe_s rfl (lvLe_s rfl (lvLe_s rfl (lvLe_n (lvLe_n lvLe_nil))))))))))))))))))))))))))))) (join1192 0 _ ⟨hT, hAR⟩ (by unfold lbF; rw [if_neg (by omega), if_neg (by omega)]))
              · refine r_aload_n B dL_law_1182 rfl rfl ?_
                refine r_iload B dL_law_1183 rfl ?_
                refine r_callVX (n := 1) B dL_law_1185 (ct_X9_forDifference l g sz0 hL.1 hT hG (q) hl0 (by omega)) gL_law_X9_forDifference rfl (by decide +kernel) ⟨Nat.le_of_ble_eq_true rfl, Nat.le_of_ble_eq_true rfl⟩ hro rfl rfl rfl (Nat.le_of_ble_eq_true rfl) (by show (cells + q.toNat * 5 + 1) + 3 ≤ 683647; omega) (by show (slots + q.toNat * 30 + 6) + 18 ≤ 7050684; omega) (fun E h' hp => False.elim ?_) (fun v h hp => ?_)
                · have hg9 := hg2 q (by omega)
                  obtain ⟨hp, -⟩ := hp
                  rcases hp with ⟨-, e9⟩ | ⟨-, e9⟩
                  · unfold tDif at e9; (repeat' (split at e9)) <;> omega
                  · unfold tDif at e9; (repeat' (split at e9)) <;> omega
                obtain ⟨ht0, hv, hST⟩ := hp
                subst v
                have hAR := hAR.fr hL hST.fr
                have hT := hST.base
                obtain ⟨fs0, hro⟩ := hT.ro
                dsimp only [Option.toList, List.cons_append, List.nil_append]
                refine r_topz (y := DF9 q) (by rw [hDF]; rfl) ?_
                refine r_goto B dL_law_1188 (tgt := 1192) (by decide) ?_
                refine r_widen (k := (cells + q.toNat * 5 + 4)) (n := (slots + q.toNat * 30 + 24)) (by show (cells + q.toNat * 5 + 1) + 3 ≤ (cells + q.toNat * 5 + 4); omega) (by show (slots + q.toNat * 30 + 6) + 18 ≤ (slots + q.toNat * 30 + 24); omega) ?_
                exact r_lv (lvLe_s rfl (lvLe_s rfl (lvLe_s rfl (lvLe_s rfl (lvLe_s rfl (lvLe_s rfl (lvLe_s rfl (lvLe_s rfl (lvLe_s rfl (lvLe_s rfl (lvLe_s rfl (lvLe_s rfl (lvLe_s rfl (lvLe_s rfl (lvLe_s rfl (lvLe_s rfl (lvLe_s rfl (lvLe_s rfl (lvLe_s rfl (lvLe_s rfl (lvLe_s rfl (lvLe_s rfl (lvLe_s rfl (lvLe_n (lvLe_s rfl (lvLe_s rfl (lvLe_s rfl (lvLe_n (lvLe_n lvLe_nil))))))))))))))))))))))))))))) (join1192 (DF9 q) _ ⟨hT, hAR⟩ (by unfold lbF; rw [if_neg (by omega), if_pos (by omega)]))
            · refine r_aload_n B dL_law_1167 rfl rfl ?_
              refine r_iload B dL_law_1168 rfl ?_
              refine r_callVX (n := 1) B dL_law_1170 (ct_X9_forBase l g sz0 hL.1 hT hG (q) hl0 (by omega)) gL_law_X9_forBase rfl (by decide +kernel) ⟨Nat.le_of_ble_eq_true rfl, Nat.le_of_ble_eq_true rfl⟩ hro rfl rfl rfl (Nat.le_of_ble_eq_true rfl) (by show (cells + q.toNat * 5 + 1) + 1 ≤ 683647; omega) (by show (slots + q.toNat * 30 + 6) + 6 ≤ 7050684; omega) (fun E h' hp => False.elim ?_) (fun v h hp => ?_)
              · obtain ⟨hp, -⟩ := hp
                have e9 := hp.2
                unfold tCl at e9; (repeat' (split at e9)) <;> omega
              obtain ⟨ht0, hv, hST⟩ := hp
              subst v
              have hAR := hAR.fr hL hST.fr
              have hT := hST.base
              obtain ⟨fs0, hro⟩ := hT.ro
              dsimp only [Option.toList, List.cons_append, List.nil_append]
              refine r_topz (y := BS9 q) (by rw [hBS]; rfl) ?_
              refine r_goto B dL_law_1173 (tgt := 1192) (by decide) ?_
              refine r_widen (k := (cells + q.toNat * 5 + 4)) (n := (slots + q.toNat * 30 + 24)) (by show (cells + q.toNat * 5 + 1) + 1 ≤ (cells + q.toNat * 5 + 4); omega) (by show (slots + q.toNat * 30 + 6) + 6 ≤ (slots + q.toNat * 30 + 24); omega) ?_
              exact r_lv (lvLe_s rfl (lvLe_s rfl (lvLe_s rfl (lvLe_s rfl (lvLe_s rfl (lvLe_s rfl (lvLe_s rfl (lvLe_s rfl (lvLe_s rfl (lvLe_s rfl (lvLe_s rfl (lvLe_s rfl (lvLe_s rfl (lvLe_s rfl (lvLe_s rfl (lvLe_s rfl (lvLe_s rfl (lvLe_s rfl (lvLe_s rfl (lvLe_s rfl (lvLe_s rfl (lvLe_s rfl (lvLe_s rfl (lvLe_n (lvLe_s rfl (lvLe_s rfl (lvLe_s rfl (lvLe_n (lvLe_n lvLe_nil))))))))))))))))))))))))))))) (join1192 (BS9 q) _ ⟨hT, hAR⟩ (by unfold lbF; rw [if_pos (by omega)]))
          refine r_if_le B dL_law_1148 (tgt := 1155) (by decide) (by omega) (fun c1148 => ?_) (fun c1148 => ?_)
          · refine r_iconst B dL_law_1155 ?_
            exact r_lv (lvLe_s rfl (lvLe_s rfl (lvLe_s rfl (lvLe_s rfl (lvLe_s rfl (lvLe_s rfl (lvLe_s rfl (lvLe_s rfl (lvLe_s rfl (lvLe_s rfl (lvLe_s rfl (lvLe_s rfl (lvLe_s rfl (lvLe_s rfl (lvLe_s rfl (lvLe_s rfl (lvLe_s rfl (lvLe_s rfl (lvLe_s rfl (lvLe_s rfl (lvLe_s rfl (lvLe_s rfl (lvLe_n (lvLe_s rfl (lvLe_s rfl (lvLe_s rfl (lvLe_s rfl (lvLe_n (lvLe_n lvLe_nil))))))))))))))))))))))))))))) (join1156 0 (bI_f (by omega)).symm)
          · refine r_iconst B dL_law_1151 ?_
            refine r_goto B dL_law_1152 (tgt := 1156) (by decide) ?_
            exact r_lv (lvLe_s rfl (lvLe_s rfl (lvLe_s rfl (lvLe_s rfl (lvLe_s rfl (lvLe_s rfl (lvLe_s rfl (lvLe_s rfl (lvLe_s rfl (lvLe_s rfl (lvLe_s rfl (lvLe_s rfl (lvLe_s rfl (lvLe_s rfl (lvLe_s rfl (lvLe_s rfl (lvLe_s rfl (lvLe_s rfl (lvLe_s rfl (lvLe_s rfl (lvLe_s rfl (lvLe_s rfl (lvLe_n (lvLe_s rfl (lvLe_s rfl (lvLe_s rfl (lvLe_s rfl (lvLe_n (lvLe_n lvLe_nil))))))))))))))))))))))))))))) (join1156 1 (bI_t (by omega)).symm)
    refine r_widen (k := (cells + (0 : Int).toNat * 5)) (n := (slots + (0 : Int).toNat * 30)) (by show cells ≤ (cells + (0 : Int).toNat * 5); omega) (by show slots ≤ (slots + (0 : Int).toNat * 30); omega) ?_
    exact r_lv (lvLe_s rfl (lvLe_s rfl (lvLe_s rfl (lvLe_s rfl (lvLe_s rfl (lvLe_s rfl (lvLe_s rfl (lvLe_s rfl (lvLe_s rfl (lvLe_s rfl (lvLe_s rfl (lvLe_s rfl (lvLe_s rfl (lvLe_s rfl (lvLe_s rfl (lvLe_s rfl (lvLe_s rfl (lvLe_s rfl (lvLe_s rfl (lvLe_s rfl (lvLe_s rfl (lvLe_s rfl (lvLe_s rfl (lvLe_s rfl (lvLe_s rfl (lvLe_s rfl (lvLe_n (lvLe_n (lvLe_n lvLe_nil))))))))))))))))))))))))))))) (loop1118 _ 0 _ ⟨hT, _, hAR, DN.z D mdata msize mnights⟩ (by omega) (Nat.lt_succ_self _))
