abbrev rmL_isFile : Room := { frames := 11, cells := 220, slots := 1300, locals := 214 }
set_option maxHeartbeats 8000000 in
set_option maxRecDepth 100000 in
theorem ct_L_isFile (l : Launch) (g : GG) (sz0 : Nat) {A : Nat → Nat} {Z : Nat → Prop} (hA : AOK A) {hZ : AH} {mnights mbits mleast mmost mroom mreserve mmount mspeed : Int} {mdata msize mends mmany mkind mchain mholds mbid mbound mcheap mpromised mcoin mpaid mowed : Int → Int} (hT : ST g A Z hZ mdata msize mends mmany mkind mchain mholds mnights mbits mleast mmost mroom mreserve mmount mspeed mbid mbound mcheap mpromised mcoin mpaid mowed hZ) (hG : RGm mnights mbits mleast mmost mroom mreserve mmount mspeed msize mbid mbound mcheap mpromised mcoin mpaid mowed) (x : Int) (x0 : 0 ≤ x ∧ x ≤ 3) (hl0 : l.stackTraces = false)  : CT l yL_isFile wsL_isFile rmL_isFile g sz0 [.ref (A 0), .int (iI x), .int (iI mleast), .int (iI mmost)] hZ (fun v h' => v = some (.int (iI 1)) ∧ ST g A Z hZ mdata msize mends mmany mkind mchain mholds mnights mbits mleast mmost mroom mreserve mmount mspeed mbid mbound mcheap mpromised mcoin mpaid mowed h') := by
  obtain ⟨fs0, hro⟩ := hT.ro
  have hsz := hG.2.2.2.2.2 (240 + x) (by omega) (by omega)
  have hmk := hG.2.1
  have hFO := file_ok (rowF mdata (240 + x)) (b := mbits) (ls := mleast) (ms := mmost) hsz.1 hsz.2 hmk.2.2.1 (by omega)
  have hEO := (cutR_ok (rowF mdata (240 + x)) (b := mbits) (ls := mleast) (ms := mmost) hsz.1 hsz.2).2.2
  have hbs := base_le (G := rowF mdata (240 + x)) hFO.1.1 hEO hFO.2.2.1
  have hdf := dif_le (G := rowF mdata (240 + x)) (P := inCh mdata mends mmany mkind mchain mholds mnights x) hEO
  have hdn := dfN_neg (K := colF mkind x) (n := mnights.toNat)
  have hdr := dfN_rng (colF mkind x) mnights.toNat
  have hNr := hG.1
  obtain ⟨E9, hE9⟩ : ∃ E9 : Int → Int, E9 = (cutR (rowF mdata (240 + x)) (msize (240 + x)) mbits mleast mmost).2.2 := ⟨_, rfl⟩
  obtain ⟨N9, hN9⟩ : ∃ N9 : Int, N9 = (cutR (rowF mdata (240 + x)) (msize (240 + x)) mbits mleast mmost).2.1 := ⟨_, rfl⟩
  rw [← hE9, ← hN9] at hFO hEO hbs hdf
  obtain ⟨b9, hb9⟩ : ∃ b9 : Int, b9 = baseB (rowF mdata (240 + x)) E9 N9 := ⟨_, rfl⟩
  rw [← hb9] at hbs hdf
  obtain ⟨v9, hv9⟩ : ∃ v9 : Int, v9 = (if ltN (colF mkind x) mnights.toNat = -1 then -13 else difB (rowF mdata (240 + x)) E9 N9 (inCh mdata mends mmany mkind mchain mholds mnights x)) := ⟨_, rfl⟩
  have hv8 : (v9 = -13 ∧ dfN (colF mkind x) mnights.toNat = -1) ∨ (0 ≤ dfN (colF mkind x) mnights.toNat ∧ N9 ≤ v9 ∧ v9 ≤ b9) := by
    rw [hv9]
    split
    · rename_i w
      exact Or.inl ⟨rfl, hdn.mpr w⟩
    · rename_i w
      refine Or.inr ⟨?_, hdf⟩
      have w2 : ¬ dfN (colF mkind x) mnights.toNat = -1 := fun u => w (hdn.mp u)
      omega
  obtain ⟨hF1, hF2, hF3, hF4⟩ := hFO
  refine CT.of (by decide +kernel) rfl [some (.ref (A 0)), some (.int (iI x)), some (.int (iI mleast)), some (.int (iI mmost)), none, none, none, none, none, none, none, none] rfl (Nat.le_of_ble_eq_true rfl) ?_
  intro p e s m args below meth c B hr hlk hnm
  refine r_aload_n B dL_isFile_0 rfl rfl ?_
  refine r_iload_n B dL_isFile_1 rfl ?_
  refine r_callVX (n := 1) B dL_isFile_2 (ct_X9_chunks l g sz0 hA hT.base hG (x) hl0 (by omega)) gL_isFile_X9_chunks rfl (by decide +kernel) ⟨Nat.le_of_ble_eq_true rfl, Nat.le_of_ble_eq_true rfl⟩ hro rfl rfl rfl (Nat.le_of_ble_eq_true rfl) (by show 0 + 1 ≤ 220; omega) (by show 0 + 6 ≤ 1300; omega) (fun E h' hp => False.elim ?_) (fun v h hp => ?_)
  · obtain ⟨hp, -⟩ := hp
    have e9 := hp.2
    unfold tCl at e9; (repeat' (split at e9)) <;> omega
  obtain ⟨ht0, hv, hST⟩ := hp
  subst v
  have hT := ST.tr hT.fr hST
  obtain ⟨fs0, hro⟩ := hT.ro
  dsimp only [Option.toList, List.cons_append, List.nil_append]
  rw [← hN9]
  refine r_istore B dL_isFile_5 (by decide) (lcat_v rfl rfl) ?_
  refine r_aload_n B dL_isFile_7 rfl rfl ?_
  refine r_iload_n B dL_isFile_8 rfl ?_
  refine r_callVX (n := 1) B dL_isFile_9 (ct_X9_length l g sz0 hA hT.base hG (x) hl0 (by omega)) gL_isFile_X9_length rfl (by decide +kernel) ⟨Nat.le_of_ble_eq_true rfl, Nat.le_of_ble_eq_true rfl⟩ hro rfl rfl rfl (Nat.le_of_ble_eq_true rfl) (by show 0 + 1 + 1 ≤ 220; omega) (by show 0 + 6 + 6 ≤ 1300; omega) (fun E h' hp => False.elim ?_) (fun v h hp => ?_)
  · obtain ⟨hp, -⟩ := hp
    have e9 := hp.2
    unfold tCl at e9; (repeat' (split at e9)) <;> omega
  obtain ⟨ht0, hv, hST⟩ := hp
  subst v
  have hT := ST.tr hT.fr hST
  obtain ⟨fs0, hro⟩ := hT.ro
  dsimp only [Option.toList, List.cons_append, List.nil_append]
  refine r_istore B dL_isFile_12 (by decide) (lcat_v rfl rfl) ?_
  refine r_iconst B dL_isFile_14 ?_
  refine r_istore B dL_isFile_15 (by decide) (lcat_v rfl rfl) ?_
  refine r_iload B dL_isFile_17 rfl ?_
  refine r_bipush B dL_isFile_19 (by decide) ?_
  refine r_icmp_gt B dL_isFile_21 (tgt := 51) (by decide) (by omega) (by omega) (fun c21 => ?_) (fun c21 => ?_)
  · exfalso; omega
  · have join47 : WA p l e rmL_isFile s m args below meth c g sz0 12 (MQ below (QQ g sz0 (fun v h' => v = some (.int (iI 1)) ∧ ST g A Z hZ mdata msize mends mmany mkind mchain mholds mnights mbits mleast mmost mroom mreserve mmount mspeed mbid mbound mcheap mpromised mcoin mpaid mowed h')) args s rmL_isFile.cells rmL_isFile.slots (A0 sz0)) h (0 + 1 + 1) (0 + 6 + 6) [some (.ref (A 0)), some (.int (iI x)), some (.int (iI mleast)), some (.int (iI mmost)), some (.int (iI N9)), some (.int (iI (msize (240 + x)))), some (.int (iI 0)), none, none, none, none, none] 47 [] := by
      refine r_iconst B dL_isFile_47 ?_
      refine r_goto B dL_isFile_48 (tgt := 52) (by decide) ?_
      refine r_istore B dL_isFile_52 (by decide) (lcat_v rfl rfl) ?_
      refine r_iconst B dL_isFile_54 ?_
      refine r_istore B dL_isFile_55 (by decide) (lcat_v rfl rfl) ?_
      have loop57 : ∀ (nn : Nat) (q : Int) (h : AH), ST g A Z hZ mdata msize mends mmany mkind mchain mholds mnights mbits mleast mmost mroom mreserve mmount mspeed mbid mbound mcheap mpromised mcoin mpaid mowed h → (0 ≤ q ∧ q ≤ N9) → (N9 - q).toNat < nn → WA p l e rmL_isFile s m args below meth c g sz0 12 (MQ below (QQ g sz0 (fun v h' => v = some (.int (iI 1)) ∧ ST g A Z hZ mdata msize mends mmany mkind mchain mholds mnights mbits mleast mmost mroom mreserve mmount mspeed mbid mbound mcheap mpromised mcoin mpaid mowed h')) args s rmL_isFile.cells rmL_isFile.slots (A0 sz0)) h (0 + 1 + 1 + q.toNat * 2) (0 + 6 + 6 + q.toNat * 12) [some (.ref (A 0)), some (.int (iI x)), some (.int (iI mleast)), some (.int (iI mmost)), some (.int (iI N9)), some (.int (iI (msize (240 + x)))), some (.int (iI (bgF E9 q))), some (.int (iI 1)), some (.int (iI q)), none, none, none] 57 [] := by
        intro nn
        induction nn with
        | zero => intro q h hT i1 hn; exact absurd hn (Nat.not_lt_zero _)
        | succ nn ih =>
          intro q h hT i1 hn
          refine r_iload B dL_isFile_57 rfl ?_
          refine r_iload B dL_isFile_59 rfl ?_
          refine r_icmp_ge B dL_isFile_61 (tgt := 129) (by decide) (by omega) (by omega) (fun c61 => ?_) (fun c61 => ?_)
          · have hq9 : bgF E9 q = msize (240 + x) := by rw [show q = N9 by omega]; exact hF3
            refine r_lconst B dL_isFile_129 rfl ?_
            refine r_lstore B dL_isFile_130 (by decide) (lcat_v rfl rfl) ?_
            refine r_iconst B dL_isFile_132 ?_
            refine r_istore B dL_isFile_133 (by decide) (lcat_n rfl) ?_
            have loop135 : ∀ (nn : Nat) (p1 : Int) (h : AH), ST g A Z hZ mdata msize mends mmany mkind mchain mholds mnights mbits mleast mmost mroom mreserve mmount mspeed mbid mbound mcheap mpromised mcoin mpaid mowed h → (0 ≤ p1 ∧ p1 ≤ msize (240 + x)) → (msize (240 + x) - p1).toNat < nn → WA p l e rmL_isFile s m args below meth c g sz0 12 (MQ below (QQ g sz0 (fun v h' => v = some (.int (iI 1)) ∧ ST g A Z hZ mdata msize mends mmany mkind mchain mholds mnights mbits mleast mmost mroom mreserve mmount mspeed mbid mbound mcheap mpromised mcoin mpaid mowed h')) args s rmL_isFile.cells rmL_isFile.slots (A0 sz0)) h (100 + p1.toNat * 2) (600 + p1.toNat * 12) [some (.ref (A 0)), some (.int (iI x)), some (.int (iI mleast)), some (.int (iI mmost)), some (.int (iI N9)), some (.int (iI (msize (240 + x)))), some (.int (iI (bgF E9 q))), some (.int (iI 1)), some (.long (dig (rowF mdata (240 + x)) p1.toNat)), none, some (.int (iI p1)), none] 135 [] := by
              intro nn
              induction nn with
              | zero => intro p1 h hT i2 hn; exact absurd hn (Nat.not_lt_zero _)
              | succ nn ih2 =>
                intro p1 h hT i2 hn
                refine r_iload B dL_isFile_135 rfl ?_
                refine r_iload B dL_isFile_137 rfl ?_
                refine r_icmp_ge B dL_isFile_139 (tgt := 169) (by decide) (by omega) (by omega) (fun c139 => ?_) (fun c139 => ?_)
                · obtain ⟨fs0, hro⟩ := hT.ro
                  have hp1 : p1 = msize (240 + x) := by omega
                  refine r_aload_n B dL_isFile_169 rfl rfl ?_
                  refine r_iload_n B dL_isFile_170 rfl ?_
                  refine r_callVX (n := 1) B dL_isFile_171 (ct_X9_forBase l g sz0 hA hT.base hG (x) hl0 (by omega)) gL_isFile_X9_forBase rfl (by decide +kernel) ⟨Nat.le_of_ble_eq_true rfl, Nat.le_of_ble_eq_true rfl⟩ hro rfl rfl rfl (Nat.le_of_ble_eq_true rfl) (by show (100 + p1.toNat * 2) + 1 ≤ 220; omega) (by show (600 + p1.toNat * 12) + 6 ≤ 1300; omega) (fun E h' hp => False.elim ?_) (fun v h hp => ?_)
                  · obtain ⟨hp, -⟩ := hp
                    have e9 := hp.2
                    unfold tCl at e9; (repeat' (split at e9)) <;> omega
                  obtain ⟨ht0, hv, hST⟩ := hp
                  subst v
                  have hT := ST.tr hT.fr hST
                  obtain ⟨fs0, hro⟩ := hT.ro
                  dsimp only [Option.toList, List.cons_append, List.nil_append]
                  rw [← hE9, ← hN9, ← hb9]
                  refine r_istore B dL_isFile_174 (by decide) (lcat_n rfl) ?_
                  refine r_aload_n B dL_isFile_176 rfl rfl ?_
                  refine r_iconst B dL_isFile_177 ?_
                  refine r_iload_n B dL_isFile_178 rfl ?_
                  refine r_iconst B dL_isFile_179 ?_
                  refine r_callSW (n := 4) B dL_isFile_180 (ct_L_on_0 l g sz0 hA hT.base hG (x) (0) hl0 (by omega) (by omega) x0) gL_isFile_L_on rfl (by decide +kernel) ⟨Nat.le_of_ble_eq_true rfl, Nat.le_of_ble_eq_true rfl⟩ rfl rfl (Nat.le_of_ble_eq_true rfl) (by show (100 + p1.toNat * 2) + 1 + 3 ≤ 220; omega) (by show (600 + p1.toNat * 12) + 6 + 18 ≤ 1300; omega) (fun v h hp => ?_)
                  obtain ⟨hv, hST⟩ := hp
                  subst v
                  have hT := ST.tr hT.fr hST
                  obtain ⟨fs0, hro⟩ := hT.ro
                  dsimp only [Option.toList, List.cons_append, List.nil_append]
                  rw [← hE9, ← hN9, ← hv9]
                  refine r_istore B dL_isFile_183 (by decide) (lcat_v rfl rfl) ?_
                  refine r_iload B dL_isFile_185 rfl ?_
                  refine r_if_eq B dL_isFile_187 (tgt := 270) (by decide) (by omega) (fun c187 => ?_) (fun c187 => ?_)
                  · exact absurd c187 (by decide)
                  · refine r_iload B dL_isFile_190 rfl ?_
                    refine r_iload B dL_isFile_192 rfl ?_
                    refine r_icmp_ne B dL_isFile_194 (tgt := 270) (by decide) (by omega) (by omega) (fun c194 => ?_) (fun c194 => ?_)
                    · exact absurd hq9 c194
                    · refine r_aload_n B dL_isFile_197 rfl rfl ?_
                      refine r_iload_n B dL_isFile_198 rfl ?_
                      refine r_callVX (n := 1) B dL_isFile_199 (ct_X9_digest l g sz0 hA hT.base hG (x) hl0 (by omega)) gL_isFile_X9_digest rfl (by decide +kernel) ⟨Nat.le_of_ble_eq_true rfl, Nat.le_of_ble_eq_true rfl⟩ hro rfl rfl rfl (Nat.le_of_ble_eq_true rfl) (by show (100 + p1.toNat * 2) + 1 + 3 + 1 ≤ 220; omega) (by show (600 + p1.toNat * 12) + 6 + 18 + 6 ≤ 1300; omega) (fun E h' hp => False.elim ?_) (fun v h hp => ?_)
                      · obtain ⟨hp, -⟩ := hp
                        have e9 := hp.2
                        unfold tCl at e9; (repeat' (split at e9)) <;> omega
                      obtain ⟨ht0, hv, hST⟩ := hp
                      subst v
                      have hT := ST.tr hT.fr hST
                      obtain ⟨fs0, hro⟩ := hT.ro
                      dsimp only [Option.toList, List.cons_append, List.nil_append]
                      refine r_lload B dL_isFile_202 rfl ?_
                      refine r_lcmp B dL_isFile_204 ?_
                      refine r_ifr_ne B dL_isFile_205 (tgt := 270) (by decide) (fun c205 => ?_) (fun c205 => ?_)
                      · exact absurd (lcmp_same (by rw [hp1])) c205
                      · refine r_iload B dL_isFile_208 rfl ?_
                        refine r_iload B dL_isFile_210 rfl ?_
                        refine r_icmp_lt B dL_isFile_212 (tgt := 270) (by decide) (by omega) (by omega) (fun c212 => ?_) (fun c212 => ?_)
                        · exfalso; omega
                        · refine r_iload B dL_isFile_215 rfl ?_
                          refine r_iload B dL_isFile_217 rfl ?_
                          refine r_iload B dL_isFile_219 rfl ?_
                          refine r_iadd B dL_isFile_221 ?_
                          refine r_icmp_gt B dL_isFile_222 (tgt := 270) (by decide) (by omega) (by omega) (fun c222 => ?_) (fun c222 => ?_)
                          · exfalso; omega
                          · refine r_iload B dL_isFile_225 rfl ?_
                            refine r_bipush B dL_isFile_227 (by decide) ?_
                            refine r_icmp_ne B dL_isFile_229 (tgt := 244) (by decide) (by omega) (by omega) (fun c229 => ?_) (fun c229 => ?_)
                            · refine r_aload_n B dL_isFile_244 rfl rfl ?_
                              refine r_iload_n B dL_isFile_245 rfl ?_
                              refine r_callVX (n := 1) B dL_isFile_246 (ct_X9_chain l g sz0 hA hT.base hG (x) hl0 (by omega)) gL_isFile_X9_chain rfl (by decide +kernel) ⟨Nat.le_of_ble_eq_true rfl, Nat.le_of_ble_eq_true rfl⟩ hro rfl rfl rfl (Nat.le_of_ble_eq_true rfl) (by show (100 + p1.toNat * 2) + 1 + 3 + 1 + 1 ≤ 220; omega) (by show (600 + p1.toNat * 12) + 6 + 18 + 6 + 6 ≤ 1300; omega) (fun E h' hp => False.elim ?_) (fun v h hp => ?_)
                              · obtain ⟨hp, -⟩ := hp
                                have e9 := hp.2
                                unfold tCl at e9; (repeat' (split at e9)) <;> omega
                              obtain ⟨ht0, hv, hST⟩ := hp
                              subst v
                              have hT := ST.tr hT.fr hST
                              obtain ⟨fs0, hro⟩ := hT.ro
                              dsimp only [Option.toList, List.cons_append, List.nil_append]
                              refine r_if_lt B dL_isFile_249 (tgt := 270) (by decide) (by omega) (fun c249 => ?_) (fun c249 => ?_)
                              · exfalso; omega
                              · refine r_iload B dL_isFile_252 rfl ?_
                                refine r_iload B dL_isFile_254 rfl ?_
                                refine r_icmp_lt B dL_isFile_256 (tgt := 270) (by decide) (by omega) (by omega) (fun c256 => ?_) (fun c256 => ?_)
                                · exfalso; omega
                                · refine r_iload B dL_isFile_259 rfl ?_
                                  refine r_iload B dL_isFile_261 rfl ?_
                                  refine r_icmp_gt B dL_isFile_263 (tgt := 270) (by decide) (by omega) (by omega) (fun c263 => ?_) (fun c263 => ?_)
                                  · exfalso; omega
                                  · refine r_iconst B dL_isFile_266 ?_
                                    refine r_goto B dL_isFile_267 (tgt := 271) (by decide) ?_
                                    exact r_zret B hr hlk dL_isFile_271 (by show (100 + p1.toNat * 2) + 1 + 3 + 1 + 1 ≤ 220; omega) (by show (600 + p1.toNat * 12) + 6 + 18 + 6 + 6 ≤ 1300; omega) (by first | exact nar_0 | exact nar_1 | exact nar_bI _) ⟨rfl, hT⟩
                            · refine r_aload_n B dL_isFile_232 rfl rfl ?_
                              refine r_iload_n B dL_isFile_233 rfl ?_
                              refine r_callVX (n := 1) B dL_isFile_234 (ct_X9_chain l g sz0 hA hT.base hG (x) hl0 (by omega)) gL_isFile_X9_chain rfl (by decide +kernel) ⟨Nat.le_of_ble_eq_true rfl, Nat.le_of_ble_eq_true rfl⟩ hro rfl rfl rfl (Nat.le_of_ble_eq_true rfl) (by show (100 + p1.toNat * 2) + 1 + 3 + 1 + 1 ≤ 220; omega) (by show (600 + p1.toNat * 12) + 6 + 18 + 6 + 6 ≤ 1300; omega) (fun E h' hp => False.elim ?_) (fun v h hp => ?_)
                              · obtain ⟨hp, -⟩ := hp
                                have e9 := hp.2
                                unfold tCl at e9; (repeat' (split at e9)) <;> omega
                              obtain ⟨ht0, hv, hST⟩ := hp
                              subst v
                              have hT := ST.tr hT.fr hST
                              obtain ⟨fs0, hro⟩ := hT.ro
                              dsimp only [Option.toList, List.cons_append, List.nil_append]
                              refine r_iconst B dL_isFile_237 ?_
                              refine r_icmp_ne B dL_isFile_238 (tgt := 270) (by decide) (by omega) (by omega) (fun c238 => ?_) (fun c238 => ?_)
                              · exfalso; omega
                              · refine r_goto B dL_isFile_241 (tgt := 266) (by decide) ?_
                                refine r_iconst B dL_isFile_266 ?_
                                refine r_goto B dL_isFile_267 (tgt := 271) (by decide) ?_
                                exact r_zret B hr hlk dL_isFile_271 (by show (100 + p1.toNat * 2) + 1 + 3 + 1 + 1 ≤ 220; omega) (by show (600 + p1.toNat * 12) + 6 + 18 + 6 + 6 ≤ 1300; omega) (by first | exact nar_0 | exact nar_1 | exact nar_bI _) ⟨rfl, hT⟩
                · refine r_lload B dL_isFile_142 rfl ?_
                  refine r_iconst B dL_isFile_144 ?_
                  refine r_lshl B dL_isFile_145 rfl ?_
                  refine r_lload B dL_isFile_146 rfl ?_
                  refine r_bipush B dL_isFile_148 (by decide) ?_
                  refine r_lushr B dL_isFile_150 rfl ?_
                  refine r_lor B dL_isFile_151 ?_
                  obtain ⟨fs0, hro⟩ := hT.ro
                  refine r_aload_n B dL_isFile_152 rfl rfl ?_
                  refine r_iload_n B dL_isFile_153 rfl ?_
                  refine r_iload B dL_isFile_154 rfl ?_
                  refine r_callVX (n := 2) B dL_isFile_156 (ct_X9_at l g sz0 hA hT.base hG (x) (p1) hl0 (by omega) (by omega)) gL_isFile_X9_at rfl (by decide +kernel) ⟨Nat.le_of_ble_eq_true rfl, Nat.le_of_ble_eq_true rfl⟩ hro rfl rfl rfl (Nat.le_of_ble_eq_true rfl) (by show (100 + p1.toNat * 2) + 2 ≤ 220; omega) (by show (600 + p1.toNat * 12) + 12 ≤ 1300; omega) (fun E h' hp => False.elim ?_) (fun v h hp => ?_)
                  · obtain ⟨hp, -⟩ := hp
                    rcases hp with ⟨-, e9⟩ | ⟨-, e9⟩
                    · unfold tAt at e9; (repeat' (split at e9)) <;> omega
                    · unfold tAt at e9; (repeat' (split at e9)) <;> omega
                  obtain ⟨ht0, hv, hST⟩ := hp
                  subst v
                  have hT := ST.tr hT.fr hST
                  obtain ⟨fs0, hro⟩ := hT.ro
                  dsimp only [Option.toList, List.cons_append, List.nil_append]
                  refine r_i2l B dL_isFile_159 ?_
                  refine r_lxor B dL_isFile_160 ?_
                  refine r_topL (dig_succ (rowF mdata (240 + x)) i2.1).symm ?_
                  refine r_lstore B dL_isFile_161 (by decide) (lcat_v rfl rfl) ?_
                  refine r_iinc B dL_isFile_163 rfl (by decide) (lcat_n rfl) ?_
                  refine r_goto B dL_isFile_166 (tgt := 135) (by decide) ?_
                  refine r_widen (k := (100 + (p1 + 1).toNat * 2)) (n := (600 + (p1 + 1).toNat * 12)) (by show _ ≤ (100 + (p1 + 1).toNat * 2); first | exact Nat.le_of_ble_eq_true rfl | omega) (by show _ ≤ (600 + (p1 + 1).toNat * 12); first | exact Nat.le_of_ble_eq_true rfl | omega) ?_
                  exact r_lv (lvLe_s rfl (lvLe_s rfl (lvLe_s rfl (lvLe_s rfl (lvLe_s rfl (lvLe_s rfl (lvLe_s rfl (lvLe_s rfl (lvLe_s rfl (lvLe_n (lvLe_s rfl (lvLe_n lvLe_nil)))))))))))) (ih2 (p1 + 1) h hT (by omega) (by omega))
            refine r_widen (k := (100 + (0 : Int).toNat * 2)) (n := (600 + (0 : Int).toNat * 12)) (by show _ ≤ (100 + (0 : Int).toNat * 2); first | exact Nat.le_of_ble_eq_true rfl | omega) (by show _ ≤ (600 + (0 : Int).toNat * 12); first | exact Nat.le_of_ble_eq_true rfl | omega) ?_
            exact r_lv (lvLe_s rfl (lvLe_s rfl (lvLe_s rfl (lvLe_s rfl (lvLe_s rfl (lvLe_s rfl (lvLe_s rfl (lvLe_s rfl (lvLe_s rfl (lvLe_n (lvLe_s rfl (lvLe_n lvLe_nil)))))))))))) (loop135 _ 0 h hT (by omega) (Nat.lt_succ_self _))
          · refine r_iload B dL_isFile_64 rfl ?_
            refine r_if_eq B dL_isFile_66 (tgt := 129) (by decide) (by omega) (fun c66 => ?_) (fun c66 => ?_)
            · exact absurd c66 (by decide)
            · have hk := hF4 q i1.1 (by omega)
              obtain ⟨fs0, hro⟩ := hT.ro
              refine r_aload_n B dL_isFile_69 rfl rfl ?_
              refine r_iload_n B dL_isFile_70 rfl ?_
              refine r_iload B dL_isFile_71 rfl ?_
              refine r_callVX (n := 2) B dL_isFile_73 (ct_X9_end l g sz0 hA hT.base hG (x) (q) hl0 (by omega) (by omega)) gL_isFile_X9_end rfl (by decide +kernel) ⟨Nat.le_of_ble_eq_true rfl, Nat.le_of_ble_eq_true rfl⟩ hro rfl rfl rfl (Nat.le_of_ble_eq_true rfl) (by show (0 + 1 + 1 + q.toNat * 2) + 2 ≤ 220; omega) (by show (0 + 6 + 6 + q.toNat * 12) + 12 ≤ 1300; omega) (fun E h' hp => False.elim ?_) (fun v h hp => ?_)
              · rw [← hN9] at hp
                obtain ⟨hp, -⟩ := hp
                rcases hp with ⟨-, e9⟩ | ⟨-, e9⟩
                · unfold tNi at e9; (repeat' (split at e9)) <;> omega
                · unfold tNi at e9; (repeat' (split at e9)) <;> omega
              obtain ⟨ht0, hv, hST⟩ := hp
              subst v
              have hT := ST.tr hT.fr hST
              obtain ⟨fs0, hro⟩ := hT.ro
              dsimp only [Option.toList, List.cons_append, List.nil_append]
              rw [← hE9]
              refine r_istore B dL_isFile_76 (by decide) (lcat_v rfl rfl) ?_
              refine r_iload B dL_isFile_78 rfl ?_
              refine r_iload B dL_isFile_80 rfl ?_
              refine r_icmp_le B dL_isFile_82 (tgt := 116) (by decide) (by omega) (by omega) (fun c82 => ?_) (fun c82 => ?_)
              · exfalso; omega
              · refine r_iload B dL_isFile_85 rfl ?_
                refine r_iload B dL_isFile_87 rfl ?_
                refine r_isub B dL_isFile_89 ?_
                refine r_iload_n B dL_isFile_90 rfl ?_
                refine r_icmp_gt B dL_isFile_91 (tgt := 116) (by decide) (by omega) (by omega) (fun c91 => ?_) (fun c91 => ?_)
                · exfalso; omega
                · refine r_iload B dL_isFile_94 rfl ?_
                  refine r_iload B dL_isFile_96 rfl ?_
                  refine r_iconst B dL_isFile_98 ?_
                  refine r_isub B dL_isFile_99 ?_
                  refine r_icmp_eq B dL_isFile_100 (tgt := 112) (by decide) (by omega) (by omega) (fun c100 => ?_) (fun c100 => ?_)
                  · refine r_iconst B dL_isFile_112 ?_
                    refine r_goto B dL_isFile_113 (tgt := 117) (by decide) ?_
                    refine r_istore B dL_isFile_117 (by decide) (lcat_v rfl rfl) ?_
                    refine r_iload B dL_isFile_119 rfl ?_
                    refine r_topz (show E9 q = bgF E9 (q + 1) by unfold bgF; rw [if_neg (by omega), show q + 1 - 1 = q by omega]) ?_
                    refine r_istore B dL_isFile_121 (by decide) (lcat_v rfl rfl) ?_
                    refine r_iinc B dL_isFile_123 rfl (by decide) (lcat_v rfl rfl) ?_
                    refine r_goto B dL_isFile_126 (tgt := 57) (by decide) ?_
                    refine r_widen (k := (0 + 1 + 1 + (q + 1).toNat * 2)) (n := (0 + 6 + 6 + (q + 1).toNat * 12)) (by show _ ≤ (0 + 1 + 1 + (q + 1).toNat * 2); first | exact Nat.le_of_ble_eq_true rfl | omega) (by show _ ≤ (0 + 6 + 6 + (q + 1).toNat * 12); first | exact Nat.le_of_ble_eq_true rfl | omega) ?_
                    exact r_lv (lvLe_s rfl (lvLe_s rfl (lvLe_s rfl (lvLe_s rfl (lvLe_s rfl (lvLe_s rfl (lvLe_s rfl (lvLe_s rfl (lvLe_s rfl (lvLe_n (lvLe_n (lvLe_n lvLe_nil)))))))))))) (ih (q + 1) h hT (by omega) (by omega))
                  · refine r_iload B dL_isFile_103 rfl ?_
                    refine r_iload B dL_isFile_105 rfl ?_
                    refine r_isub B dL_isFile_107 ?_
                    refine r_iload_n B dL_isFile_108 rfl ?_
                    refine r_icmp_lt B dL_isFile_109 (tgt := 116) (by decide) (by omega) (by omega) (fun c109 => ?_) (fun c109 => ?_)
                    · exfalso; omega
                    · refine r_iconst B dL_isFile_112 ?_
                      refine r_goto B dL_isFile_113 (tgt := 117) (by decide) ?_
                      refine r_istore B dL_isFile_117 (by decide) (lcat_v rfl rfl) ?_
                      refine r_iload B dL_isFile_119 rfl ?_
                      refine r_topz (show E9 q = bgF E9 (q + 1) by unfold bgF; rw [if_neg (by omega), show q + 1 - 1 = q by omega]) ?_
                      refine r_istore B dL_isFile_121 (by decide) (lcat_v rfl rfl) ?_
                      refine r_iinc B dL_isFile_123 rfl (by decide) (lcat_v rfl rfl) ?_
                      refine r_goto B dL_isFile_126 (tgt := 57) (by decide) ?_
                      refine r_widen (k := (0 + 1 + 1 + (q + 1).toNat * 2)) (n := (0 + 6 + 6 + (q + 1).toNat * 12)) (by show _ ≤ (0 + 1 + 1 + (q + 1).toNat * 2); first | exact Nat.le_of_ble_eq_true rfl | omega) (by show _ ≤ (0 + 6 + 6 + (q + 1).toNat * 12); first | exact Nat.le_of_ble_eq_true rfl | omega) ?_
                      exact r_lv (lvLe_s rfl (lvLe_s rfl (lvLe_s rfl (lvLe_s rfl (lvLe_s rfl (lvLe_s rfl (lvLe_s rfl (lvLe_s rfl (lvLe_s rfl (lvLe_n (lvLe_n (lvLe_n lvLe_nil)))))))))))) (ih (q + 1) h hT (by omega) (by omega))
      refine r_widen (k := (0 + 1 + 1 + (0 : Int).toNat * 2)) (n := (0 + 6 + 6 + (0 : Int).toNat * 12)) (by show _ ≤ (0 + 1 + 1 + (0 : Int).toNat * 2); first | exact Nat.le_of_ble_eq_true rfl | omega) (by show _ ≤ (0 + 6 + 6 + (0 : Int).toNat * 12); first | exact Nat.le_of_ble_eq_true rfl | omega) ?_
      exact r_lv (lvLe_s rfl (lvLe_s rfl (lvLe_s rfl (lvLe_s rfl (lvLe_s rfl (lvLe_s rfl (lvLe_s rfl (lvLe_s rfl (lvLe_s rfl (lvLe_n (lvLe_n (lvLe_n lvLe_nil)))))))))))) (loop57 _ 0 h hT (by omega) (Nat.lt_succ_self _))
    refine r_iload B dL_isFile_24 rfl ?_
    refine r_if_ne B dL_isFile_26 (tgt := 33) (by decide) (by omega) (fun c26 => ?_) (fun c26 => ?_)
    · refine r_iconst B dL_isFile_33 ?_
      refine r_iload B dL_isFile_34 rfl ?_
      refine r_if_ne B dL_isFile_36 (tgt := 43) (by decide) (by omega) (fun c36 => ?_) (fun c36 => ?_)
      · refine r_iconst B dL_isFile_43 ?_
        refine r_icmp_ne B dL_isFile_44 (tgt := 51) (by decide) (by omega) (by omega) (fun c44 => ?_) (fun c44 => ?_)
        · exact absurd c44 (by decide)
        · exact r_lv (lvLe_s rfl (lvLe_s rfl (lvLe_s rfl (lvLe_s rfl (lvLe_s rfl (lvLe_s rfl (lvLe_s rfl (lvLe_n (lvLe_n (lvLe_n (lvLe_n (lvLe_n lvLe_nil)))))))))))) (join47)
      · exfalso; omega
    · refine r_iconst B dL_isFile_29 ?_
      refine r_goto B dL_isFile_30 (tgt := 34) (by decide) ?_
      refine r_iload B dL_isFile_34 rfl ?_
      refine r_if_ne B dL_isFile_36 (tgt := 43) (by decide) (by omega) (fun c36 => ?_) (fun c36 => ?_)
      · exfalso; omega
      · refine r_iconst B dL_isFile_39 ?_
        refine r_goto B dL_isFile_40 (tgt := 44) (by decide) ?_
        refine r_icmp_ne B dL_isFile_44 (tgt := 51) (by decide) (by omega) (by omega) (fun c44 => ?_) (fun c44 => ?_)
        · exact absurd c44 (by decide)
        · exact r_lv (lvLe_s rfl (lvLe_s rfl (lvLe_s rfl (lvLe_s rfl (lvLe_s rfl (lvLe_s rfl (lvLe_s rfl (lvLe_n (lvLe_n (lvLe_n (lvLe_n (lvLe_n lvLe_nil)))))))))))) (join47)
