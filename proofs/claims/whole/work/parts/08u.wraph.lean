abbrev rmL_hourBits : Room := { frames := 9, cells := 3, slots := 18, locals := 168 }
theorem w_L_hourBits_kl13 : Cond.classLink RL 13 "java/lang/IllegalArgumentException" ∈ wsL_hourBits := by decide +kernel
theorem w_L_hourBits_kl15 : Cond.classLink RL 15 "java/lang/IndexOutOfBoundsException" ∈ wsL_hourBits := by decide +kernel
theorem w_L_hourBits_kl17 : Cond.classLink RL 17 "java/lang/IllegalStateException" ∈ wsL_hourBits := by decide +kernel
set_option maxHeartbeats 4000000 in
set_option maxRecDepth 100000 in
theorem ct_L_hourBits (l : Launch) (g : GG) (sz0 : Nat) {A : Nat → Nat} {Z : Nat → Prop} (hA : AOK A) {h : AH} {mnights mbits mleast mmost mroom mreserve mmount mspeed : Int} {mdata msize mends mmany mkind mchain mholds mbid mbound mcheap mpromised mcoin mpaid mowed : Int → Int} (hT : ST g A Z h mdata msize mends mmany mkind mchain mholds mnights mbits mleast mmost mroom mreserve mmount mspeed mbid mbound mcheap mpromised mcoin mpaid mowed h) (hG : RGm mnights mbits mleast mmost mroom mreserve mmount mspeed msize mbid mbound mcheap mpromised mcoin mpaid mowed) (x k : Int) (hl0 : l.stackTraces = false) (qx : -2147483648 ≤ x ∧ x < 2147483648) (qk : -2147483648 ≤ k ∧ k < 2147483648) {o1 : Nat} {F : Nat → Int64} (hO : h o1 = some (lE g 1 F)) (hZo : Z o1) (hAo : ∀ i : Nat, i < 27 → o1 ≠ A i) : CTX l yL_hourBits wsL_hourBits rmL_hourBits g sz0 [.ref (A 0), .int (iI (x)), .int (iI (k)), .ref o1] h (fun v h' => v = some (.int (iI (tAsk x k mnights (mkind (60 * x + k))))) ∧ (∀ q : Nat, h q ≠ none → (∀ i : Nat, i < 27 → q ≠ A i) → q ≠ o1 → h' q = h q) ∧ ∃ F1 : Nat → Int64, h' o1 = some (lE g 1 F1) ∧ (tAsk x k mnights (mkind (60 * x + k)) = 0 → F1 0 = (iI (i32z (FP.fdiv (mnF (mmount * (mntM mdata mends mmany mkind mchain mholds mnights x k)) (baseB (rowF mdata (60 * x + k)) (rowF mends (60 * x + k)) (mmany (60 * x + k))) mspeed) 1114636288).toInt32)).toInt64 ∧ ST g A Z h' mdata msize mends mmany mkind mchain mholds mnights mbits mleast mmost mroom mreserve mmount mspeed mbid mbound mcheap mpromised mcoin mpaid mowed h') ∧ (¬ tAsk x k mnights (mkind (60 * x + k)) = 0 → ST g A Z h' mdata msize mends mmany mkind mchain mholds mnights mbits mleast mmost mroom mreserve mmount mspeed mbid mbound mcheap mpromised mcoin mpaid mowed h')) (fun _ _ => False) := by
  obtain ⟨fs0, hro⟩ := hT.ro
  refine CTX.ofH (by decide +kernel) rfl [some (.ref (A 0)), some (.int (iI (x))), some (.int (iI (k))), some (.ref o1), none] rfl (Nat.le_of_ble_eq_true rfl) ?_
  intro p e s m args below meth c B hr hlk htab
  refine r_aload_n B dL_hourBits_0 rfl rfl ?_
  refine r_iconst B dL_hourBits_1 ?_
  refine r_aload_n B dL_hourBits_2 rfl rfl ?_
  refine r_iload_n B dL_hourBits_3 rfl ?_
  refine r_iload_n B dL_hourBits_4 rfl ?_
  refine r_callVX (n := 2) B dL_hourBits_5 (ct_X9_hourBits l g sz0 hA hT hG _ _ hl0 (by omega) (by omega)) gL_hourBits_X9_hourBits rfl (by decide +kernel) ⟨Nat.le_of_ble_eq_true rfl, Nat.le_of_ble_eq_true rfl⟩ hro rfl rfl rfl (Nat.le_of_ble_eq_true rfl) (Nat.le_of_ble_eq_true rfl) (Nat.le_of_ble_eq_true rfl) (fun E h1 hp => ?_) (fun v h1 hp => ?_)
  · obtain ⟨hE, hST⟩ := hp
    rcases hE with ⟨e1, e2⟩ | ⟨e1, e2⟩ | ⟨e1, e2⟩
    · subst e1
      refine r_catch B htab [] ⟨0, 10, 13, 13⟩ [⟨0, 10, 17, 15⟩, ⟨0, 10, 21, 17⟩] rfl List.mem_cons_self (fun z hz => absurd hz List.not_mem_nil) (by decide) (by decide) w_L_hourBits_kl13 (fun q9 => ?_)
      refine r_astore B dL_hourBits_13 rfl (by decide) (lcat_v rfl rfl) ?_
      refine r_iconst B dL_hourBits_15 ?_
      exact x_ret (r_iret B hr hlk dL_hourBits_16 (Nat.le_of_ble_eq_true rfl) (Nat.le_of_ble_eq_true rfl) ⟨by rw [e2], fun q q0 q1 _ => hST.fr q q0 q1, F, (hST.fr o1 (sm_ne hO) hAo).trans hO, fun y => absurd (e2.symm.trans y) (by decide), fun _ => hST.base⟩)
    · subst e1
      refine r_catch B htab [⟨0, 10, 13, 13⟩] ⟨0, 10, 17, 15⟩ [⟨0, 10, 21, 17⟩] rfl (List.mem_cons_of_mem _ List.mem_cons_self) (fun z hz => by rw [List.mem_singleton.mp hz]; exact ⟨by decide, xIA, List.mem_cons_self, by decide, w_L_hourBits_kl13⟩) (by decide) (by decide) w_L_hourBits_kl15 (fun q9 => ?_)
      refine r_astore B dL_hourBits_17 rfl (by decide) (lcat_v rfl rfl) ?_
      refine r_iconst B dL_hourBits_19 ?_
      exact x_ret (r_iret B hr hlk dL_hourBits_20 (Nat.le_of_ble_eq_true rfl) (Nat.le_of_ble_eq_true rfl) ⟨by rw [e2], fun q q0 q1 _ => hST.fr q q0 q1, F, (hST.fr o1 (sm_ne hO) hAo).trans hO, fun y => absurd (e2.symm.trans y) (by decide), fun _ => hST.base⟩)
    · subst e1
      refine r_catch B htab [⟨0, 10, 13, 13⟩, ⟨0, 10, 17, 15⟩] ⟨0, 10, 21, 17⟩ [] rfl (List.mem_cons_of_mem _ (List.mem_cons_of_mem _ List.mem_cons_self)) (fun z hz => by
          rcases List.mem_cons.mp hz with y | y
          · rw [y]; exact ⟨by decide, xIA, List.mem_cons_self, by decide, w_L_hourBits_kl13⟩
          · rw [List.mem_singleton.mp y]; exact ⟨by decide, xIO, (List.mem_cons_of_mem _ List.mem_cons_self), by decide, w_L_hourBits_kl15⟩) (by decide) (by decide) w_L_hourBits_kl17 (fun q9 => ?_)
      refine r_astore B dL_hourBits_21 rfl (by decide) (lcat_v rfl rfl) ?_
      refine r_iconst B dL_hourBits_23 ?_
      exact x_ret (r_iret B hr hlk dL_hourBits_24 (Nat.le_of_ble_eq_true rfl) (Nat.le_of_ble_eq_true rfl) ⟨by rw [e2], fun q q0 q1 _ => hST.fr q q0 q1, F, (hST.fr o1 (sm_ne hO) hAo).trans hO, fun y => absurd (e2.symm.trans y) (by decide), fun _ => hST.base⟩)
  obtain ⟨ht0, hv, hST⟩ := hp
  subst v
  dsimp only [Option.toList, List.cons_append, List.nil_append]
  have hO1 := (hST.fr o1 (sm_ne hO) hAo).trans hO
  refine r_i2l B dL_hourBits_8 ?_
  refine r_last B dL_hourBits_9 hO1 (by decide) (by omega) (by omega) ?_
  refine r_goto B dL_hourBits_10 (tgt := 25) (by decide) ?_
  refine r_iconst B dL_hourBits_25 ?_
  exact x_ret (r_iret B hr hlk dL_hourBits_26 (Nat.le_of_ble_eq_true rfl) (Nat.le_of_ble_eq_true rfl) ⟨by rw [ht0], fun q q0 q1 q2 => (if_neg q2).trans (hST.fr q q0 q1), _, if_pos rfl, fun _ => ⟨rfl, hST.out hZo hAo⟩, fun y => absurd ht0 y⟩)
