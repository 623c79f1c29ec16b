abbrev rmL_isDay : Room := { frames := 11, cells := 60, slots := 360, locals := 215 }
theorem w_L_isDay_cf88 : Cond.constantFloat RL 88 1119879168 ∈ wsL_isDay := by decide +kernel
set_option maxHeartbeats 8000000 in
set_option maxRecDepth 100000 in
theorem ct_L_isDay (l : Launch) (g : GG) (sz0 : Nat) {A : Nat → Nat} {Z : Nat → Prop} (hA : AOK A) {hZ : AH} {mnights mbits mleast mmost mroom mreserve mmount mspeed : Int} {mdata msize mends mmany mkind mchain mholds mbid mbound mcheap mpromised mcoin mpaid mowed : Int → Int} (hT : ST g A Z hZ mdata msize mends mmany mkind mchain mholds mnights mbits mleast mmost mroom mreserve mmount mspeed mbid mbound mcheap mpromised mcoin mpaid mowed hZ) (hG : RGm mnights mbits mleast mmost mroom mreserve mmount mspeed msize mbid mbound mcheap mpromised mcoin mpaid mowed) (x k : Int) (x0 : 0 ≤ x ∧ x ≤ 3) (k0 : 0 ≤ k ∧ k < mnights) (hn16 : mnights ≤ 16) {od : Nat} {D : Nat → Int64} (hO : hZ od = some (lE g 64 D)) (hAo : ∀ i : Nat, i < 27 → od ≠ A i) (hD : DGI D mdata msize mkind mnights) (hl0 : l.stackTraces = false)  : CT l yL_isDay wsL_isDay rmL_isDay g sz0 [.ref (A 0), .int (iI x), .int (iI k), .ref od, .int (iI mmount), .int (iI mspeed)] hZ (fun v h' => v = some (.int (iI 1)) ∧ ST g A Z hZ mdata msize mends mmany mkind mchain mholds mnights mbits mleast mmost mroom mreserve mmount mspeed mbid mbound mcheap mpromised mcoin mpaid mowed h') := by
  obtain ⟨fs0, hro⟩ := hT.ro
  have hO1 := hO
  have hNr := hG.1
  have hsp := hG.2.2.2.1
  have hsz := hG.2.2.2.2.2 (60 * x + k) (by omega) (by omega)
  have hdy : ¬ mkind (60 * x + k) = 0 → DayOK mdata msize mends mmany mkind mchain mholds mnights x k := fun z => hT.day hNr x0 k0 z
  have hkr : 0 ≤ mkind (60 * x + k) ∧ mkind (60 * x + k) ≤ 2 := by
    by_cases z : mkind (60 * x + k) = 0
    · omega
    · have := (hdy z).1
      omega
  have r1 := ltN_rng (colF mkind x) (k + 1).toNat
  have r2 := ltN_rng (colF mkind x) (k - 1 + 1).toNat
  have hz : mkind (60 * x + k) = 0 → ltN (colF mkind x) (k + 1).toNat = ltN (colF mkind x) (k - 1 + 1).toNat := fun z => by
    rw [show k - 1 + 1 = k by omega]
    exact ltN_z (colF mkind x) k0.1 z
  have hz0 : mkind (60 * x + k) = 0 → k = 0 → ltN (colF mkind x) (k + 1).toNat = -1 := fun z w => by
    rw [ltN_z (colF mkind x) k0.1 z, w]
    rfl
  have hz2 : ¬ mkind (60 * x + k) = 0 → ltN (colF mkind x) (k + 1).toNat = k := fun z => ltN_nz (colF mkind x) k0.1 z
  obtain ⟨y9, hy9⟩ : ∃ y9 : Int, y9 = (if mkind (60 * x + k) = 0 then -13 else (mmany (60 * x + k) + sumZ (fun j => bI (rowF mholds (60 * x + k) j ≠ 0) * lnF (rowF mends (60 * x + k)) j) (mmany (60 * x + k)).toNat)) := ⟨_, rfl⟩
  refine CT.of (by decide +kernel) rfl [some (.ref (A 0)), some (.int (iI x)), some (.int (iI k)), some (.ref od), some (.int (iI mmount)), some (.int (iI mspeed)), none, none, none, none, none, none] rfl (Nat.le_of_ble_eq_true rfl) ?_
  intro p e s m args below meth c B hr hlk hnm
  refine r_aload_n B dL_isDay_0 rfl rfl ?_
  refine r_iload_n B dL_isDay_1 rfl ?_
  refine r_iload_n B dL_isDay_2 rfl ?_
  refine r_callVX (n := 2) B dL_isDay_3 (ct_X9_got l g sz0 hA hT.base hG (x) (k) hl0 (by omega) (by omega)) gL_isDay_X9_got rfl (by decide +kernel) ⟨Nat.le_of_ble_eq_true rfl, Nat.le_of_ble_eq_true rfl⟩ hro rfl rfl rfl (Nat.le_of_ble_eq_true rfl) (by show 0 + 2 ≤ 60; omega) (by show 0 + 12 ≤ 360; omega) (fun E h' hp => False.elim ?_) (fun v h hp => ?_)
  · obtain ⟨hp, -⟩ := hp
    rcases hp with ⟨-, e9⟩ | ⟨-, e9⟩
    · unfold tNi at e9; (repeat' (split at e9)) <;> omega
    · unfold tNi at e9; (repeat' (split at e9)) <;> omega
  obtain ⟨ht0, hv, hST⟩ := hp
  subst v
  have hT := ST.tr hT.fr hST
  obtain ⟨fs0, hro⟩ := hT.ro
  have hO1 := (hT.fr od (sm_ne hO) hAo).trans hO
  dsimp only [Option.toList, List.cons_append, List.nil_append]
  refine r_istore B dL_isDay_6 (by decide) (lcat_v rfl rfl) ?_
  refine r_aload_n B dL_isDay_8 rfl rfl ?_
  refine r_iconst B dL_isDay_9 ?_
  refine r_iload_n B dL_isDay_10 rfl ?_
  refine r_iload_n B dL_isDay_11 rfl ?_
  refine r_callSW (n := 4) B dL_isDay_12 (ct_L_on_1 l g sz0 hA hT.base hG (x) (k) hl0 (by omega) (by omega) x0 k0) gL_isDay_L_on rfl (by decide +kernel) ⟨Nat.le_of_ble_eq_true rfl, Nat.le_of_ble_eq_true rfl⟩ rfl rfl (Nat.le_of_ble_eq_true rfl) (by show 0 + 2 + 3 ≤ 60; omega) (by show 0 + 12 + 18 ≤ 360; omega) (fun v h hp => ?_)
  obtain ⟨hv, hST⟩ := hp
  subst v
  have hT := ST.tr hT.fr hST
  obtain ⟨fs0, hro⟩ := hT.ro
  have hO1 := (hT.fr od (sm_ne hO) hAo).trans hO
  dsimp only [Option.toList, List.cons_append, List.nil_append]
  rw [← hy9]
  refine r_istore B dL_isDay_15 (by decide) (lcat_v rfl rfl) ?_
  refine r_iload B dL_isDay_17 rfl ?_
  refine r_if_ne B dL_isDay_19 (tgt := 96) (by decide) (by omega) (fun c19 => ?_) (fun c19 => ?_)
  · have z19 : ¬ mkind (60 * x + k) = 0 := by omega
    rw [if_neg z19] at hy9
    obtain ⟨d1, d2, d3, d4, d5⟩ := hdy z19
    have hbr := row_bytes_rng (Hd := rowF mholds (60 * x + k)) d2.1.1 d2.2 d3
    have hbl := base_le (G := rowF mdata (60 * x + k)) d2.1.1 d2.2 d3
    have hmm : 0 ≤ mmount * (mntM mdata mends mmany mkind mchain mholds mnights x k) ∧ mmount * (mntM mdata mends mmany mkind mchain mholds mnights x k) ≤ 900 := ⟨Int.mul_nonneg hsp.1.1 (by omega), Int.le_trans (Int.mul_le_mul hsp.1.2 (show (mntM mdata mends mmany mkind mchain mholds mnights x k) ≤ 30 by omega) (by omega) (by decide)) (by decide)⟩
    have hl2 := hz2 z19
    have hkm : mkind (60 * x + k) = 2 ∨ (mntM mdata mends mmany mkind mchain mholds mnights x k) = 1 := d1.elim (fun w => Or.inr (d5 w)) (fun w => Or.inl w)
    obtain ⟨b9, hb9⟩ : ∃ b9 : Int, b9 = baseB (rowF mdata (60 * x + k)) (rowF mends (60 * x + k)) (mmany (60 * x + k)) := ⟨_, rfl⟩
    rw [← hb9] at hbl
    refine r_aload_n B dL_isDay_96 rfl rfl ?_
    refine r_iconst B dL_isDay_97 ?_
    refine r_iload_n B dL_isDay_98 rfl ?_
    refine r_iload_n B dL_isDay_99 rfl ?_
    refine r_callSW (n := 4) B dL_isDay_100 (ct_L_on_4 l g sz0 hA hT.base hG (x) (k) hl0 (by omega) (by omega) x0 k0) gL_isDay_L_on rfl (by decide +kernel) ⟨Nat.le_of_ble_eq_true rfl, Nat.le_of_ble_eq_true rfl⟩ rfl rfl (Nat.le_of_ble_eq_true rfl) (by show 0 + 2 + 3 + 3 ≤ 60; omega) (by show 0 + 12 + 18 + 18 ≤ 360; omega) (fun v h hp => ?_)
    obtain ⟨hv, hST⟩ := hp
    subst v
    have hT := ST.tr hT.fr hST
    obtain ⟨fs0, hro⟩ := hT.ro
    have hO1 := (hT.fr od (sm_ne hO) hAo).trans hO
    dsimp only [Option.toList, List.cons_append, List.nil_append]
    rw [if_neg z19]
    refine r_istore B dL_isDay_103 (by decide) (lcat_v rfl rfl) ?_
    refine r_aload_n B dL_isDay_105 rfl rfl ?_
    refine r_iconst B dL_isDay_106 ?_
    refine r_iload_n B dL_isDay_107 rfl ?_
    refine r_iload_n B dL_isDay_108 rfl ?_
    refine r_callSW (n := 4) B dL_isDay_109 (ct_L_on_2 l g sz0 hA hT.base hG (x) (k) hl0 (by omega) (by omega) x0 k0) gL_isDay_L_on rfl (by decide +kernel) ⟨Nat.le_of_ble_eq_true rfl, Nat.le_of_ble_eq_true rfl⟩ rfl rfl (Nat.le_of_ble_eq_true rfl) (by show 0 + 2 + 3 + 3 + 3 ≤ 60; omega) (by show 0 + 12 + 18 + 18 + 18 ≤ 360; omega) (fun v h hp => ?_)
    obtain ⟨hv, hST⟩ := hp
    subst v
    have hT := ST.tr hT.fr hST
    obtain ⟨fs0, hro⟩ := hT.ro
    have hO1 := (hT.fr od (sm_ne hO) hAo).trans hO
    dsimp only [Option.toList, List.cons_append, List.nil_append]
    rw [if_neg z19]
    refine r_istore B dL_isDay_112 (by decide) (lcat_v rfl rfl) ?_
    refine r_iload B dL_isDay_114 rfl ?_
    refine r_iload B dL_isDay_116 rfl ?_
    refine r_imul B dL_isDay_118 ?_
    refine r_i2f B dL_isDay_119 ?_
    refine r_fstore B dL_isDay_120 (by decide) (lcat_v rfl rfl) ?_
    refine r_aload_n B dL_isDay_122 rfl rfl ?_
    refine r_iload_n B dL_isDay_123 rfl ?_
    refine r_iload_n B dL_isDay_124 rfl ?_
    refine r_callVX (n := 2) B dL_isDay_125 (ct_X9_dayOf l g sz0 hA hT.base hG (x) (k) hl0 (by omega) (by omega)) gL_isDay_X9_dayOf rfl (by decide +kernel) ⟨Nat.le_of_ble_eq_true rfl, Nat.le_of_ble_eq_true rfl⟩ hro rfl rfl rfl (Nat.le_of_ble_eq_true rfl) (by show 0 + 2 + 3 + 3 + 3 + 2 ≤ 60; omega) (by show 0 + 12 + 18 + 18 + 18 + 12 ≤ 360; omega) (fun E h' hp => False.elim ?_) (fun v h hp => ?_)
    · obtain ⟨hp, -⟩ := hp
      rcases hp with ⟨-, e9⟩ | ⟨-, e9⟩
      · unfold tNi at e9; (repeat' (split at e9)) <;> omega
      · unfold tNi at e9; (repeat' (split at e9)) <;> omega
    obtain ⟨ht0, hv, hST⟩ := hp
    subst v
    have hT := ST.tr hT.fr hST
    obtain ⟨fs0, hro⟩ := hT.ro
    have hO1 := (hT.fr od (sm_ne hO) hAo).trans hO
    dsimp only [Option.toList, List.cons_append, List.nil_append]
    refine r_iload_n B dL_isDay_128 rfl ?_
    refine r_icmp_ne B dL_isDay_129 (tgt := 215) (by decide) (by omega) (by omega) (fun c129 => ?_) (fun c129 => ?_)
    · exfalso; omega
    · refine r_iload B dL_isDay_132 rfl ?_
      refine r_if_lt B dL_isDay_134 (tgt := 215) (by decide) (by omega) (fun c134 => ?_) (fun c134 => ?_)
      · exfalso; omega
      · refine r_iload B dL_isDay_137 rfl ?_
        refine r_if_lt B dL_isDay_139 (tgt := 215) (by decide) (by omega) (fun c139 => ?_) (fun c139 => ?_)
        · exfalso; omega
        · refine r_iload B dL_isDay_142 rfl ?_
          refine r_iload B dL_isDay_144 rfl ?_
          refine r_icmp_gt B dL_isDay_146 (tgt := 215) (by decide) (by omega) (by omega) (fun c146 => ?_) (fun c146 => ?_)
          · exfalso; omega
          · refine r_aload_n B dL_isDay_149 rfl rfl ?_
            refine r_iload_n B dL_isDay_150 rfl ?_
            refine r_iload_n B dL_isDay_151 rfl ?_
            refine r_callVX (n := 2) B dL_isDay_152 (ct_X9_digestOf l g sz0 hA hT.base hG (x) (k) hl0 (by omega) (by omega)) gL_isDay_X9_digestOf rfl (by decide +kernel) ⟨Nat.le_of_ble_eq_true rfl, Nat.le_of_ble_eq_true rfl⟩ hro rfl rfl rfl (Nat.le_of_ble_eq_true rfl) (by show 0 + 2 + 3 + 3 + 3 + 2 + 3 ≤ 60; omega) (by show 0 + 12 + 18 + 18 + 18 + 12 + 18 ≤ 360; omega) (fun E h' hp => False.elim ?_) (fun v h hp => ?_)
            · obtain ⟨hp, -⟩ := hp
              rcases hp with ⟨-, e9⟩ | ⟨-, e9⟩ | ⟨-, e9⟩
              · unfold tAsk at e9; (repeat' (split at e9)) <;> omega
              · unfold tAsk at e9; (repeat' (split at e9)) <;> omega
              · unfold tAsk at e9; (repeat' (split at e9)) <;> omega
            obtain ⟨ht0, hv, hST⟩ := hp
            subst v
            have hT := ST.tr hT.fr hST
            obtain ⟨fs0, hro⟩ := hT.ro
            have hO1 := (hT.fr od (sm_ne hO) hAo).trans hO
            dsimp only [Option.toList, List.cons_append, List.nil_append]
            refine r_aload_n B dL_isDay_155 rfl rfl ?_
            refine r_bipush B dL_isDay_156 (by decide) ?_
            refine r_iload_n B dL_isDay_158 rfl ?_
            refine r_imul B dL_isDay_159 ?_
            refine r_iload_n B dL_isDay_160 rfl ?_
            refine r_iadd B dL_isDay_161 ?_
            refine r_lald B dL_isDay_162 hO1 (by decide) (by omega) (by show 16 * x + k < 64; omega) ?_
            refine r_lcmp B dL_isDay_163 ?_
            refine r_ifr_ne B dL_isDay_164 (tgt := 215) (by decide) (fun c164 => ?_) (fun c164 => ?_)
            · exact absurd (lcmp_same (hD x k x0 k0 z19).symm) c164
            · refine r_aload_n B dL_isDay_167 rfl rfl ?_
              refine r_iload_n B dL_isDay_168 rfl ?_
              refine r_iload_n B dL_isDay_169 rfl ?_
              refine r_callVX (n := 2) B dL_isDay_170 (ct_X9_digestByChunks l g sz0 hA hT.base hG (x) (k) hl0 (by omega) (by omega)) gL_isDay_X9_digestByChunks rfl (by decide +kernel) ⟨Nat.le_of_ble_eq_true rfl, Nat.le_of_ble_eq_true rfl⟩ hro rfl rfl rfl (Nat.le_of_ble_eq_true rfl) (by show 0 + 2 + 3 + 3 + 3 + 2 + 3 + 3 ≤ 60; omega) (by show 0 + 12 + 18 + 18 + 18 + 12 + 18 + 18 ≤ 360; omega) (fun E h' hp => False.elim ?_) (fun v h hp => ?_)
              · obtain ⟨hp, -⟩ := hp
                rcases hp with ⟨-, e9⟩ | ⟨-, e9⟩ | ⟨-, e9⟩
                · unfold tAsk at e9; (repeat' (split at e9)) <;> omega
                · unfold tAsk at e9; (repeat' (split at e9)) <;> omega
                · unfold tAsk at e9; (repeat' (split at e9)) <;> omega
              obtain ⟨ht0, hv, hST⟩ := hp
              subst v
              have hT := ST.tr hT.fr hST
              obtain ⟨fs0, hro⟩ := hT.ro
              have hO1 := (hT.fr od (sm_ne hO) hAo).trans hO
              dsimp only [Option.toList, List.cons_append, List.nil_append]
              refine r_aload_n B dL_isDay_173 rfl rfl ?_
              refine r_bipush B dL_isDay_174 (by decide) ?_
              refine r_iload_n B dL_isDay_176 rfl ?_
              refine r_imul B dL_isDay_177 ?_
              refine r_iload_n B dL_isDay_178 rfl ?_
              refine r_iadd B dL_isDay_179 ?_
              refine r_lald B dL_isDay_180 hO1 (by decide) (by omega) (by show 16 * x + k < 64; omega) ?_
              refine r_lcmp B dL_isDay_181 ?_
              refine r_ifr_ne B dL_isDay_182 (tgt := 215) (by decide) (fun c182 => ?_) (fun c182 => ?_)
              · exact absurd (lcmp_same (hD x k x0 k0 z19).symm) c182
              · refine r_iload B dL_isDay_185 rfl ?_
                refine r_iconst B dL_isDay_187 ?_
                refine r_icmp_eq B dL_isDay_188 (tgt := 197) (by decide) (by omega) (by omega) (fun c188 => ?_) (fun c188 => ?_)
                · refine r_iload B dL_isDay_197 rfl ?_
                  refine r_iconst B dL_isDay_199 ?_
                  refine r_icmp_lt B dL_isDay_200 (tgt := 215) (by decide) (by omega) (by omega) (fun c200 => ?_) (fun c200 => ?_)
                  · exfalso; omega
                  · refine r_iload B dL_isDay_203 rfl ?_
                    refine r_iload_n B dL_isDay_205 rfl ?_
                    refine r_iconst B dL_isDay_206 ?_
                    refine r_iadd B dL_isDay_207 ?_
                    refine r_icmp_gt B dL_isDay_208 (tgt := 215) (by decide) (by omega) (by omega) (fun c208 => ?_) (fun c208 => ?_)
                    · exfalso; omega
                    · refine r_iconst B dL_isDay_211 ?_
                      refine r_goto B dL_isDay_212 (tgt := 216) (by decide) ?_
                      refine r_istore B dL_isDay_216 (by decide) (lcat_v rfl rfl) ?_
                      refine r_iload B dL_isDay_218 rfl ?_
                      refine r_if_eq B dL_isDay_220 (tgt := 273) (by decide) (by omega) (fun c220 => ?_) (fun c220 => ?_)
                      · exact absurd c220 (by decide)
                      · refine r_aload_n B dL_isDay_223 rfl rfl ?_
                        refine r_iload_n B dL_isDay_224 rfl ?_
                        refine r_iload_n B dL_isDay_225 rfl ?_
                        refine r_callVX (n := 2) B dL_isDay_226 (ct_X9_minutes l g sz0 hA hT.base hG (x) (k) hl0 (by omega) (by omega)) gL_isDay_X9_minutes rfl (by decide +kernel) ⟨Nat.le_of_ble_eq_true rfl, Nat.le_of_ble_eq_true rfl⟩ hro rfl rfl rfl (Nat.le_of_ble_eq_true rfl) (by show 0 + 2 + 3 + 3 + 3 + 2 + 3 + 3 + 3 ≤ 60; omega) (by show 0 + 12 + 18 + 18 + 18 + 12 + 18 + 18 + 18 ≤ 360; omega) (fun E h' hp => False.elim ?_) (fun v h hp => ?_)
                        · obtain ⟨hp, -⟩ := hp
                          rcases hp with ⟨-, e9⟩ | ⟨-, e9⟩ | ⟨-, e9⟩
                          · unfold tAsk at e9; (repeat' (split at e9)) <;> omega
                          · unfold tAsk at e9; (repeat' (split at e9)) <;> omega
                          · unfold tAsk at e9; (repeat' (split at e9)) <;> omega
                        obtain ⟨ht0, hv, hST⟩ := hp
                        subst v
                        have hT := ST.tr hT.fr hST
                        obtain ⟨fs0, hro⟩ := hT.ro
                        have hO1 := (hT.fr od (sm_ne hO) hAo).trans hO
                        dsimp only [Option.toList, List.cons_append, List.nil_append]
                        rw [← hb9]
                        refine r_fload B dL_isDay_229 rfl ?_
                        refine r_fcmp B dL_isDay_231 ?_
                        refine r_if_lt B dL_isDay_232 (tgt := 273) (by decide) (i32z_rng _) (fun c232 => ?_) (fun c232 => ?_)
                        · exact absurd c232 (cmp_lo (by omega) (by omega) (by omega))
                        · refine r_aload_n B dL_isDay_235 rfl rfl ?_
                          refine r_iload_n B dL_isDay_236 rfl ?_
                          refine r_iload_n B dL_isDay_237 rfl ?_
                          refine r_callVX (n := 2) B dL_isDay_238 (ct_X9_minutes l g sz0 hA hT.base hG (x) (k) hl0 (by omega) (by omega)) gL_isDay_X9_minutes rfl (by decide +kernel) ⟨Nat.le_of_ble_eq_true rfl, Nat.le_of_ble_eq_true rfl⟩ hro rfl rfl rfl (Nat.le_of_ble_eq_true rfl) (by show 0 + 2 + 3 + 3 + 3 + 2 + 3 + 3 + 3 + 3 ≤ 60; omega) (by show 0 + 12 + 18 + 18 + 18 + 12 + 18 + 18 + 18 + 18 ≤ 360; omega) (fun E h' hp => False.elim ?_) (fun v h hp => ?_)
                          · obtain ⟨hp, -⟩ := hp
                            rcases hp with ⟨-, e9⟩ | ⟨-, e9⟩ | ⟨-, e9⟩
                            · unfold tAsk at e9; (repeat' (split at e9)) <;> omega
                            · unfold tAsk at e9; (repeat' (split at e9)) <;> omega
                            · unfold tAsk at e9; (repeat' (split at e9)) <;> omega
                          obtain ⟨ht0, hv, hST⟩ := hp
                          subst v
                          have hT := ST.tr hT.fr hST
                          obtain ⟨fs0, hro⟩ := hT.ro
                          have hO1 := (hT.fr od (sm_ne hO) hAo).trans hO
                          dsimp only [Option.toList, List.cons_append, List.nil_append]
                          rw [← hb9]
                          refine r_fload B dL_isDay_241 rfl ?_
                          refine r_ldcf B dL_isDay_243 w_L_isDay_cf88 ?_
                          refine r_topf f96 ?_
                          refine r_iload B dL_isDay_245 rfl ?_
                          refine r_i2f B dL_isDay_247 ?_
                          refine r_fdiv B dL_isDay_248 (vf_of (dv_ok (by omega))) ?_
                          refine r_fadd B dL_isDay_249 (vf_of (mn_ok (by omega))) ?_
                          refine r_fcmp B dL_isDay_250 ?_
                          refine r_if_gt B dL_isDay_251 (tgt := 273) (by decide) (i32z_rng _) (fun c251 => ?_) (fun c251 => ?_)
                          · exact absurd c251 (cmp_hi (by omega) (by omega) (by omega))
                          · refine r_aload_n B dL_isDay_254 rfl rfl ?_
                            refine r_iconst B dL_isDay_255 ?_
                            refine r_iload_n B dL_isDay_256 rfl ?_
                            refine r_iload_n B dL_isDay_257 rfl ?_
                            refine r_callSW (n := 4) B dL_isDay_258 (ct_L_on_3 l g sz0 hA hT.base hG (x) (k) hl0 (by omega) (by omega) x0 k0) gL_isDay_L_on rfl (by decide +kernel) ⟨Nat.le_of_ble_eq_true rfl, Nat.le_of_ble_eq_true rfl⟩ rfl rfl (Nat.le_of_ble_eq_true rfl) (by show 0 + 2 + 3 + 3 + 3 + 2 + 3 + 3 + 3 + 3 + 3 ≤ 60; omega) (by show 0 + 12 + 18 + 18 + 18 + 12 + 18 + 18 + 18 + 18 + 18 ≤ 360; omega) (fun v h hp => ?_)
                            obtain ⟨hv, hST⟩ := hp
                            subst v
                            have hT := ST.tr hT.fr hST
                            obtain ⟨fs0, hro⟩ := hT.ro
                            have hO1 := (hT.fr od (sm_ne hO) hAo).trans hO
                            dsimp only [Option.toList, List.cons_append, List.nil_append]
                            rw [if_neg z19]
                            refine r_if_gt B dL_isDay_261 (tgt := 269) (by decide) (by omega) (fun c261 => ?_) (fun c261 => ?_)
                            · refine r_iconst B dL_isDay_269 ?_
                              refine r_goto B dL_isDay_270 (tgt := 274) (by decide) ?_
                              exact r_zret B hr hlk dL_isDay_274 (by show 0 + 2 + 3 + 3 + 3 + 2 + 3 + 3 + 3 + 3 + 3 ≤ 60; omega) (by show 0 + 12 + 18 + 18 + 18 + 12 + 18 + 18 + 18 + 18 + 18 ≤ 360; omega) (by first | exact nar_0 | exact nar_1 | exact nar_bI _) ⟨rfl, hT⟩
                            · refine r_iload B dL_isDay_264 rfl ?_
                              refine r_if_ne B dL_isDay_266 (tgt := 273) (by decide) (by omega) (fun c266 => ?_) (fun c266 => ?_)
                              · exfalso; omega
                              · refine r_iconst B dL_isDay_269 ?_
                                refine r_goto B dL_isDay_270 (tgt := 274) (by decide) ?_
                                exact r_zret B hr hlk dL_isDay_274 (by show 0 + 2 + 3 + 3 + 3 + 2 + 3 + 3 + 3 + 3 + 3 ≤ 60; omega) (by show 0 + 12 + 18 + 18 + 18 + 12 + 18 + 18 + 18 + 18 + 18 ≤ 360; omega) (by first | exact nar_0 | exact nar_1 | exact nar_bI _) ⟨rfl, hT⟩
                · refine r_iload B dL_isDay_191 rfl ?_
                  refine r_iconst B dL_isDay_193 ?_
                  refine r_icmp_ne B dL_isDay_194 (tgt := 215) (by decide) (by omega) (by omega) (fun c194 => ?_) (fun c194 => ?_)
                  · exfalso; omega
                  · refine r_iload B dL_isDay_197 rfl ?_
                    refine r_iconst B dL_isDay_199 ?_
                    refine r_icmp_lt B dL_isDay_200 (tgt := 215) (by decide) (by omega) (by omega) (fun c200 => ?_) (fun c200 => ?_)
                    · exfalso; omega
                    · refine r_iload B dL_isDay_203 rfl ?_
                      refine r_iload_n B dL_isDay_205 rfl ?_
                      refine r_iconst B dL_isDay_206 ?_
                      refine r_iadd B dL_isDay_207 ?_
                      refine r_icmp_gt B dL_isDay_208 (tgt := 215) (by decide) (by omega) (by omega) (fun c208 => ?_) (fun c208 => ?_)
                      · exfalso; omega
                      · refine r_iconst B dL_isDay_211 ?_
                        refine r_goto B dL_isDay_212 (tgt := 216) (by decide) ?_
                        refine r_istore B dL_isDay_216 (by decide) (lcat_v rfl rfl) ?_
                        refine r_iload B dL_isDay_218 rfl ?_
                        refine r_if_eq B dL_isDay_220 (tgt := 273) (by decide) (by omega) (fun c220 => ?_) (fun c220 => ?_)
                        · exact absurd c220 (by decide)
                        · refine r_aload_n B dL_isDay_223 rfl rfl ?_
                          refine r_iload_n B dL_isDay_224 rfl ?_
                          refine r_iload_n B dL_isDay_225 rfl ?_
                          refine r_callVX (n := 2) B dL_isDay_226 (ct_X9_minutes l g sz0 hA hT.base hG (x) (k) hl0 (by omega) (by omega)) gL_isDay_X9_minutes rfl (by decide +kernel) ⟨Nat.le_of_ble_eq_true rfl, Nat.le_of_ble_eq_true rfl⟩ hro rfl rfl rfl (Nat.le_of_ble_eq_true rfl) (by show 0 + 2 + 3 + 3 + 3 + 2 + 3 + 3 + 3 ≤ 60; omega) (by show 0 + 12 + 18 + 18 + 18 + 12 + 18 + 18 + 18 ≤ 360; omega) (fun E h' hp => False.elim ?_) (fun v h hp => ?_)
                          · obtain ⟨hp, -⟩ := hp
                            rcases hp with ⟨-, e9⟩ | ⟨-, e9⟩ | ⟨-, e9⟩
                            · unfold tAsk at e9; (repeat' (split at e9)) <;> omega
                            · unfold tAsk at e9; (repeat' (split at e9)) <;> omega
                            · unfold tAsk at e9; (repeat' (split at e9)) <;> omega
                          obtain ⟨ht0, hv, hST⟩ := hp
                          subst v
                          have hT := ST.tr hT.fr hST
                          obtain ⟨fs0, hro⟩ := hT.ro
                          have hO1 := (hT.fr od (sm_ne hO) hAo).trans hO
                          dsimp only [Option.toList, List.cons_append, List.nil_append]
                          rw [← hb9]
                          refine r_fload B dL_isDay_229 rfl ?_
                          refine r_fcmp B dL_isDay_231 ?_
                          refine r_if_lt B dL_isDay_232 (tgt := 273) (by decide) (i32z_rng _) (fun c232 => ?_) (fun c232 => ?_)
                          · exact absurd c232 (cmp_lo (by omega) (by omega) (by omega))
                          · refine r_aload_n B dL_isDay_235 rfl rfl ?_
                            refine r_iload_n B dL_isDay_236 rfl ?_
                            refine r_iload_n B dL_isDay_237 rfl ?_
                            refine r_callVX (n := 2) B dL_isDay_238 (ct_X9_minutes l g sz0 hA hT.base hG (x) (k) hl0 (by omega) (by omega)) gL_isDay_X9_minutes rfl (by decide +kernel) ⟨Nat.le_of_ble_eq_true rfl, Nat.le_of_ble_eq_true rfl⟩ hro rfl rfl rfl (Nat.le_of_ble_eq_true rfl) (by show 0 + 2 + 3 + 3 + 3 + 2 + 3 + 3 + 3 + 3 ≤ 60; omega) (by show 0 + 12 + 18 + 18 + 18 + 12 + 18 + 18 + 18 + 18 ≤ 360; omega) (fun E h' hp => False.elim ?_) (fun v h hp => ?_)
                            · obtain ⟨hp, -⟩ := hp
                              rcases hp with ⟨-, e9⟩ | ⟨-, e9⟩ | ⟨-, e9⟩
                              · unfold tAsk at e9; (repeat' (split at e9)) <;> omega
                              · unfold tAsk at e9; (repeat' (split at e9)) <;> omega
                              · unfold tAsk at e9; (repeat' (split at e9)) <;> omega
                            obtain ⟨ht0, hv, hST⟩ := hp
                            subst v
                            have hT := ST.tr hT.fr hST
                            obtain ⟨fs0, hro⟩ := hT.ro
                            have hO1 := (hT.fr od (sm_ne hO) hAo).trans hO
                            dsimp only [Option.toList, List.cons_append, List.nil_append]
                            rw [← hb9]
                            refine r_fload B dL_isDay_241 rfl ?_
                            refine r_ldcf B dL_isDay_243 w_L_isDay_cf88 ?_
                            refine r_topf f96 ?_
                            refine r_iload B dL_isDay_245 rfl ?_
                            refine r_i2f B dL_isDay_247 ?_
                            refine r_fdiv B dL_isDay_248 (vf_of (dv_ok (by omega))) ?_
                            refine r_fadd B dL_isDay_249 (vf_of (mn_ok (by omega))) ?_
                            refine r_fcmp B dL_isDay_250 ?_
                            refine r_if_gt B dL_isDay_251 (tgt := 273) (by decide) (i32z_rng _) (fun c251 => ?_) (fun c251 => ?_)
                            · exact absurd c251 (cmp_hi (by omega) (by omega) (by omega))
                            · refine r_aload_n B dL_isDay_254 rfl rfl ?_
                              refine r_iconst B dL_isDay_255 ?_
                              refine r_iload_n B dL_isDay_256 rfl ?_
                              refine r_iload_n B dL_isDay_257 rfl ?_
                              refine r_callSW (n := 4) B dL_isDay_258 (ct_L_on_3 l g sz0 hA hT.base hG (x) (k) hl0 (by omega) (by omega) x0 k0) gL_isDay_L_on rfl (by decide +kernel) ⟨Nat.le_of_ble_eq_true rfl, Nat.le_of_ble_eq_true rfl⟩ rfl rfl (Nat.le_of_ble_eq_true rfl) (by show 0 + 2 + 3 + 3 + 3 + 2 + 3 + 3 + 3 + 3 + 3 ≤ 60; omega) (by show 0 + 12 + 18 + 18 + 18 + 12 + 18 + 18 + 18 + 18 + 18 ≤ 360; omega) (fun v h hp => ?_)
                              obtain ⟨hv, hST⟩ := hp
                              subst v
                              have hT := ST.tr hT.fr hST
                              obtain ⟨fs0, hro⟩ := hT.ro
                              have hO1 := (hT.fr od (sm_ne hO) hAo).trans hO
                              dsimp only [Option.toList, List.cons_append, List.nil_append]
                              rw [if_neg z19]
                              refine r_if_gt B dL_isDay_261 (tgt := 269) (by decide) (by omega) (fun c261 => ?_) (fun c261 => ?_)
                              · refine r_iconst B dL_isDay_269 ?_
                                refine r_goto B dL_isDay_270 (tgt := 274) (by decide) ?_
                                exact r_zret B hr hlk dL_isDay_274 (by show 0 + 2 + 3 + 3 + 3 + 2 + 3 + 3 + 3 + 3 + 3 ≤ 60; omega) (by show 0 + 12 + 18 + 18 + 18 + 12 + 18 + 18 + 18 + 18 + 18 ≤ 360; omega) (by first | exact nar_0 | exact nar_1 | exact nar_bI _) ⟨rfl, hT⟩
                              · refine r_iload B dL_isDay_264 rfl ?_
                                refine r_if_ne B dL_isDay_266 (tgt := 273) (by decide) (by omega) (fun c266 => ?_) (fun c266 => ?_)
                                · exfalso; omega
                                · refine r_iconst B dL_isDay_269 ?_
                                  refine r_goto B dL_isDay_270 (tgt := 274) (by decide) ?_
                                  exact r_zret B hr hlk dL_isDay_274 (by show 0 + 2 + 3 + 3 + 3 + 2 + 3 + 3 + 3 + 3 + 3 ≤ 60; omega) (by show 0 + 12 + 18 + 18 + 18 + 12 + 18 + 18 + 18 + 18 + 18 ≤ 360; omega) (by first | exact nar_0 | exact nar_1 | exact nar_bI _) ⟨rfl, hT⟩
  · have z19 : mkind (60 * x + k) = 0 := by omega
    rw [if_pos z19] at hy9
    have hl1 := hz z19
    have hlz := hz0 z19
    refine r_iload B dL_isDay_22 rfl ?_
    refine r_bipush B dL_isDay_24 (by decide) ?_
    refine r_icmp_ne B dL_isDay_26 (tgt := 94) (by decide) (by omega) (by omega) (fun c26 => ?_) (fun c26 => ?_)
    · exfalso; omega
    · refine r_aload_n B dL_isDay_29 rfl rfl ?_
      refine r_iconst B dL_isDay_30 ?_
      refine r_iload_n B dL_isDay_31 rfl ?_
      refine r_iload_n B dL_isDay_32 rfl ?_
      refine r_callSW (n := 4) B dL_isDay_33 (ct_L_on_2 l g sz0 hA hT.base hG (x) (k) hl0 (by omega) (by omega) x0 k0) gL_isDay_L_on rfl (by decide +kernel) ⟨Nat.le_of_ble_eq_true rfl, Nat.le_of_ble_eq_true rfl⟩ rfl rfl (Nat.le_of_ble_eq_true rfl) (by show 0 + 2 + 3 + 3 ≤ 60; omega) (by show 0 + 12 + 18 + 18 ≤ 360; omega) (fun v h hp => ?_)
      obtain ⟨hv, hST⟩ := hp
      subst v
      have hT := ST.tr hT.fr hST
      obtain ⟨fs0, hro⟩ := hT.ro
      have hO1 := (hT.fr od (sm_ne hO) hAo).trans hO
      dsimp only [Option.toList, List.cons_append, List.nil_append]
      rw [if_pos z19]
      refine r_bipush B dL_isDay_36 (by decide) ?_
      refine r_icmp_ne B dL_isDay_38 (tgt := 94) (by decide) (by omega) (by omega) (fun c38 => ?_) (fun c38 => ?_)
      · exact absurd rfl c38
      · refine r_aload_n B dL_isDay_41 rfl rfl ?_
        refine r_iconst B dL_isDay_42 ?_
        refine r_iload_n B dL_isDay_43 rfl ?_
        refine r_iload_n B dL_isDay_44 rfl ?_
        refine r_callSW (n := 4) B dL_isDay_45 (ct_L_on_3 l g sz0 hA hT.base hG (x) (k) hl0 (by omega) (by omega) x0 k0) gL_isDay_L_on rfl (by decide +kernel) ⟨Nat.le_of_ble_eq_true rfl, Nat.le_of_ble_eq_true rfl⟩ rfl rfl (Nat.le_of_ble_eq_true rfl) (by show 0 + 2 + 3 + 3 + 3 ≤ 60; omega) (by show 0 + 12 + 18 + 18 + 18 ≤ 360; omega) (fun v h hp => ?_)
        obtain ⟨hv, hST⟩ := hp
        subst v
        have hT := ST.tr hT.fr hST
        obtain ⟨fs0, hro⟩ := hT.ro
        have hO1 := (hT.fr od (sm_ne hO) hAo).trans hO
        dsimp only [Option.toList, List.cons_append, List.nil_append]
        rw [if_pos z19]
        refine r_bipush B dL_isDay_48 (by decide) ?_
        refine r_icmp_ne B dL_isDay_50 (tgt := 94) (by decide) (by omega) (by omega) (fun c50 => ?_) (fun c50 => ?_)
        · exact absurd rfl c50
        · refine r_aload_n B dL_isDay_53 rfl rfl ?_
          refine r_iconst B dL_isDay_54 ?_
          refine r_iload_n B dL_isDay_55 rfl ?_
          refine r_iload_n B dL_isDay_56 rfl ?_
          refine r_callSW (n := 4) B dL_isDay_57 (ct_L_on_4 l g sz0 hA hT.base hG (x) (k) hl0 (by omega) (by omega) x0 k0) gL_isDay_L_on rfl (by decide +kernel) ⟨Nat.le_of_ble_eq_true rfl, Nat.le_of_ble_eq_true rfl⟩ rfl rfl (Nat.le_of_ble_eq_true rfl) (by show 0 + 2 + 3 + 3 + 3 + 3 ≤ 60; omega) (by show 0 + 12 + 18 + 18 + 18 + 18 ≤ 360; omega) (fun v h hp => ?_)
          obtain ⟨hv, hST⟩ := hp
          subst v
          have hT := ST.tr hT.fr hST
          obtain ⟨fs0, hro⟩ := hT.ro
          have hO1 := (hT.fr od (sm_ne hO) hAo).trans hO
          dsimp only [Option.toList, List.cons_append, List.nil_append]
          rw [if_pos z19]
          refine r_bipush B dL_isDay_60 (by decide) ?_
          refine r_icmp_ne B dL_isDay_62 (tgt := 94) (by decide) (by omega) (by omega) (fun c62 => ?_) (fun c62 => ?_)
          · exact absurd rfl c62
          · refine r_aload_n B dL_isDay_65 rfl rfl ?_
            refine r_iload_n B dL_isDay_66 rfl ?_
            refine r_iload_n B dL_isDay_67 rfl ?_
            refine r_callVX (n := 2) B dL_isDay_68 (ct_X9_dayOf l g sz0 hA hT.base hG (x) (k) hl0 (by omega) (by omega)) gL_isDay_X9_dayOf rfl (by decide +kernel) ⟨Nat.le_of_ble_eq_true rfl, Nat.le_of_ble_eq_true rfl⟩ hro rfl rfl rfl (Nat.le_of_ble_eq_true rfl) (by show 0 + 2 + 3 + 3 + 3 + 3 + 2 ≤ 60; omega) (by show 0 + 12 + 18 + 18 + 18 + 18 + 12 ≤ 360; omega) (fun E h' hp => False.elim ?_) (fun v h hp => ?_)
            · obtain ⟨hp, -⟩ := hp
              rcases hp with ⟨-, e9⟩ | ⟨-, e9⟩
              · unfold tNi at e9; (repeat' (split at e9)) <;> omega
              · unfold tNi at e9; (repeat' (split at e9)) <;> omega
            obtain ⟨ht0, hv, hST⟩ := hp
            subst v
            have hT := ST.tr hT.fr hST
            obtain ⟨fs0, hro⟩ := hT.ro
            have hO1 := (hT.fr od (sm_ne hO) hAo).trans hO
            dsimp only [Option.toList, List.cons_append, List.nil_append]
            refine r_iload_n B dL_isDay_71 rfl ?_
            refine r_if_ne B dL_isDay_72 (tgt := 79) (by decide) (by omega) (fun c72 => ?_) (fun c72 => ?_)
            · refine r_aload_n B dL_isDay_79 rfl rfl ?_
              refine r_iload_n B dL_isDay_80 rfl ?_
              refine r_iload_n B dL_isDay_81 rfl ?_
              refine r_iconst B dL_isDay_82 ?_
              refine r_isub B dL_isDay_83 ?_
              refine r_callVX (n := 2) B dL_isDay_84 (ct_X9_dayOf l g sz0 hA hT.base hG (x) (k - 1) hl0 (by omega) (by omega)) gL_isDay_X9_dayOf rfl (by decide +kernel) ⟨Nat.le_of_ble_eq_true rfl, Nat.le_of_ble_eq_true rfl⟩ hro rfl rfl rfl (Nat.le_of_ble_eq_true rfl) (by show 0 + 2 + 3 + 3 + 3 + 3 + 2 + 2 ≤ 60; omega) (by show 0 + 12 + 18 + 18 + 18 + 18 + 12 + 12 ≤ 360; omega) (fun E h' hp => False.elim ?_) (fun v h hp => ?_)
              · obtain ⟨hp, -⟩ := hp
                rcases hp with ⟨-, e9⟩ | ⟨-, e9⟩
                · unfold tNi at e9; (repeat' (split at e9)) <;> omega
                · unfold tNi at e9; (repeat' (split at e9)) <;> omega
              obtain ⟨ht0, hv, hST⟩ := hp
              subst v
              have hT := ST.tr hT.fr hST
              obtain ⟨fs0, hro⟩ := hT.ro
              have hO1 := (hT.fr od (sm_ne hO) hAo).trans hO
              dsimp only [Option.toList, List.cons_append, List.nil_append]
              refine r_icmp_ne B dL_isDay_87 (tgt := 94) (by decide) (by omega) (by omega) (fun c87 => ?_) (fun c87 => ?_)
              · exfalso; omega
              · refine r_iconst B dL_isDay_90 ?_
                refine r_goto B dL_isDay_91 (tgt := 95) (by decide) ?_
                exact r_zret B hr hlk dL_isDay_95 (by show 0 + 2 + 3 + 3 + 3 + 3 + 2 + 2 ≤ 60; omega) (by show 0 + 12 + 18 + 18 + 18 + 18 + 12 + 12 ≤ 360; omega) (by first | exact nar_0 | exact nar_1 | exact nar_bI _) ⟨rfl, hT⟩
            · refine r_iconst B dL_isDay_75 ?_
              refine r_goto B dL_isDay_76 (tgt := 87) (by decide) ?_
              refine r_icmp_ne B dL_isDay_87 (tgt := 94) (by decide) (by omega) (by omega) (fun c87 => ?_) (fun c87 => ?_)
              · exfalso; omega
              · refine r_iconst B dL_isDay_90 ?_
                refine r_goto B dL_isDay_91 (tgt := 95) (by decide) ?_
                exact r_zret B hr hlk dL_isDay_95 (by show 0 + 2 + 3 + 3 + 3 + 3 + 2 ≤ 60; omega) (by show 0 + 12 + 18 + 18 + 18 + 18 + 12 ≤ 360; omega) (by first | exact nar_0 | exact nar_1 | exact nar_bI _) ⟨rfl, hT⟩
