abbrev rmL_drill : Room := { frames := 8, cells := 2, slots := 12, locals := 145 }
theorem w_L_drill_kl13 : Cond.classLink RL 13 "java/lang/IllegalArgumentException" ∈ wsL_drill := by decide +kernel
theorem w_L_drill_kl17 : Cond.classLink RL 17 "java/lang/IllegalStateException" ∈ wsL_drill := by decide +kernel
set_option maxHeartbeats 4000000 in
set_option maxRecDepth 100000 in
theorem ct_L_drill (l : Launch) (g : GG) (sz0 : Nat) {A : Nat → Nat} {Z : Nat → Prop} (hA : AOK A) {h : AH} {mnights mbits mleast mmost mroom mreserve mmount mspeed : Int} {mdata msize mends mmany mkind mchain mholds mbid mbound mcheap mpromised mcoin mpaid mowed : Int → Int} (hT : ST g A Z h mdata msize mends mmany mkind mchain mholds mnights mbits mleast mmost mroom mreserve mmount mspeed mbid mbound mcheap mpromised mcoin mpaid mowed h) (hG : RGm mnights mbits mleast mmost mroom mreserve mmount mspeed msize mbid mbound mcheap mpromised mcoin mpaid mowed) (x : Int) (hl0 : l.stackTraces = false) (qx : -2147483648 ≤ x ∧ x < 2147483648) {o1 : Nat} {F : Nat → Int64} (hO : h o1 = some (lE g 1 F)) (hZo : Z o1) (hAo : ∀ i : Nat, i < 27 → o1 ≠ A i) : CTX l yL_drill wsL_drill rmL_drill g sz0 [.ref (A 0), .int (iI (x)), .ref o1] h (fun v h' => v = some (.int (iI (tDif x (ltN (colF mkind x) mnights.toNat)))) ∧ (∀ q : Nat, h q ≠ none → (∀ i : Nat, i < 27 → q ≠ A i) → q ≠ o1 → h' q = h q) ∧ ∃ F1 : Nat → Int64, h' o1 = some (lE g 1 F1) ∧ (tDif x (ltN (colF mkind x) mnights.toNat) = 0 → F1 0 = (iI (amtF (FP.fsub (mnF (mmount * (mntM mdata mends mmany mkind mchain mholds mnights x (ltN (colF mkind x) mnights.toNat))) (baseB (rowF mdata (60 * x + (ltN (colF mkind x) mnights.toNat))) (rowF mends (60 * x + (ltN (colF mkind x) mnights.toNat))) (mmany (60 * x + (ltN (colF mkind x) mnights.toNat)))) mspeed) (FP.i2f (iI (mpromised x)))) (mcoin x))).toInt64 ∧ ST g A Z h' mdata msize mends mmany mkind mchain mholds mnights mbits mleast mmost mroom mreserve mmount mspeed mbid mbound mcheap mpromised mcoin mpaid (upZ mowed x (i32z (iI (mowed x + (amtF (FP.fsub (mnF (mmount * (mntM mdata mends mmany mkind mchain mholds mnights x (ltN (colF mkind x) mnights.toNat))) (baseB (rowF mdata (60 * x + (ltN (colF mkind x) mnights.toNat))) (rowF mends (60 * x + (ltN (colF mkind x) mnights.toNat))) (mmany (60 * x + (ltN (colF mkind x) mnights.toNat)))) mspeed) (FP.i2f (iI (mpromised x)))) (mcoin x)))))) h') ∧ (¬ tDif x (ltN (colF mkind x) mnights.toNat) = 0 → ST g A Z h' mdata msize mends mmany mkind mchain mholds mnights mbits mleast mmost mroom mreserve mmount mspeed mbid mbound mcheap mpromised mcoin mpaid mowed h')) (fun _ _ => False) := by
  obtain ⟨fs0, hro⟩ := hT.ro
  refine CTX.ofH (by decide +kernel) rfl [some (.ref (A 0)), some (.int (iI (x))), some (.ref o1), none] rfl (Nat.le_of_ble_eq_true rfl) ?_
  intro p e s m args below meth c B hr hlk htab
  refine r_aload_n B dL_drill_0 rfl rfl ?_
  refine r_iconst B dL_drill_1 ?_
  refine r_aload_n B dL_drill_2 rfl rfl ?_
  refine r_iload_n B dL_drill_3 rfl ?_
  refine r_callVX (n := 1) B dL_drill_4 (ct_X9_drill l g sz0 hA hT hG _ hl0 (by omega)) gL_drill_X9_drill rfl (by decide +kernel) ⟨Nat.le_of_ble_eq_true rfl, Nat.le_of_ble_eq_true rfl⟩ hro rfl rfl rfl (Nat.le_of_ble_eq_true rfl) (Nat.le_of_ble_eq_true rfl) (Nat.le_of_ble_eq_true rfl) (fun E h1 hp => ?_) (fun v h1 hp => ?_)
  · obtain ⟨hE, hST⟩ := hp
    rcases hE with ⟨e1, e2⟩ | ⟨e1, e2⟩
    · subst e1
      refine r_catch B htab [] ⟨0, 9, 12, 13⟩ [⟨0, 9, 15, 17⟩] rfl List.mem_cons_self (fun z hz => absurd hz List.not_mem_nil) (by decide) (by decide) w_L_drill_kl13 (fun q9 => ?_)
      refine r_astore_n B dL_drill_12 rfl rfl (by decide) (lcat_v rfl rfl) ?_
      refine r_iconst B dL_drill_13 ?_
      exact x_ret (r_iret B hr hlk dL_drill_14 (Nat.le_of_ble_eq_true rfl) (Nat.le_of_ble_eq_true rfl) ⟨by rw [e2], fun q q0 q1 _ => hST.fr q q0 q1, F, (hST.fr o1 (sm_ne hO) hAo).trans hO, fun y => absurd (e2.symm.trans y) (by decide), fun _ => hST.base⟩)
    · subst e1
      refine r_catch B htab [⟨0, 9, 12, 13⟩] ⟨0, 9, 15, 17⟩ [] rfl (List.mem_cons_of_mem _ (List.mem_cons_of_mem _ List.mem_cons_self)) (fun z hz => by rw [List.mem_singleton.mp hz]; exact ⟨by decide, xIA, List.mem_cons_self, by decide, w_L_drill_kl13⟩) (by decide) (by decide) w_L_drill_kl17 (fun q9 => ?_)
      refine r_astore_n B dL_drill_15 rfl rfl (by decide) (lcat_v rfl rfl) ?_
      refine r_iconst B dL_drill_16 ?_
      exact x_ret (r_iret B hr hlk dL_drill_17 (Nat.le_of_ble_eq_true rfl) (Nat.le_of_ble_eq_true rfl) ⟨by rw [e2], fun q q0 q1 _ => hST.fr q q0 q1, F, (hST.fr o1 (sm_ne hO) hAo).trans hO, fun y => absurd (e2.symm.trans y) (by decide), fun _ => hST.base⟩)
  obtain ⟨ht0, hv, hST⟩ := hp
  subst v
  dsimp only [Option.toList, List.cons_append, List.nil_append]
  have hO1 := (hST.fr o1 (sm_ne hO) hAo).trans hO
  refine r_i2l B dL_drill_7 ?_
  refine r_last B dL_drill_8 hO1 (by decide) (by omega) (by omega) ?_
  refine r_goto B dL_drill_9 (tgt := 18) (by decide) ?_
  refine r_iconst B dL_drill_18 ?_
  exact x_ret (r_iret B hr hlk dL_drill_19 (Nat.le_of_ble_eq_true rfl) (Nat.le_of_ble_eq_true rfl) ⟨by rw [ht0], fun q q0 q1 q2 => (if_neg q2).trans (hST.fr q q0 q1), _, if_pos rfl, fun _ => ⟨rfl, hST.out hZo hAo⟩, fun y => absurd ht0 y⟩)
