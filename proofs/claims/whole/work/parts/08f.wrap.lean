abbrev rmL_put : Room := { frames := 8, cells := 4, slots := 24, locals := 146 }
theorem w_L_put_kl13 : Cond.classLink RL 13 "java/lang/IllegalArgumentException" ∈ wsL_put := by decide +kernel
theorem w_L_put_kl15 : Cond.classLink RL 15 "java/lang/IndexOutOfBoundsException" ∈ wsL_put := by decide +kernel
theorem w_L_put_kl17 : Cond.classLink RL 17 "java/lang/IllegalStateException" ∈ wsL_put := by decide +kernel
set_option maxHeartbeats 4000000 in
set_option maxRecDepth 100000 in
theorem ct_L_put (l : Launch) (g : GG) (sz0 : Nat) {A : Nat → Nat} {Z : Nat → Prop} (hA : AOK A) {h : AH} {mnights mbits mleast mmost mroom mreserve mmount mspeed : Int} {mdata msize mends mmany mkind mchain mholds mbid mbound mcheap mpromised mcoin mpaid mowed : Int → Int} (hT : ST g A Z h mdata msize mends mmany mkind mchain mholds mnights mbits mleast mmost mroom mreserve mmount mspeed mbid mbound mcheap mpromised mcoin mpaid mowed h) (hG : RGm mnights mbits mleast mmost mroom mreserve mmount mspeed msize mbid mbound mcheap mpromised mcoin mpaid mowed) (x k b : Int) (hl0 : l.stackTraces = false) (qx : -2147483648 ≤ x ∧ x < 2147483648) (qk : -2147483648 ≤ k ∧ k < 2147483648) (qb : -2147483648 ≤ b ∧ b < 2147483648) {o1 : Nat} {F : Nat → Int64} (hO : h o1 = some (lE g 1 F)) (hZo : Z o1) (hAo : ∀ i : Nat, i < 27 → o1 ≠ A i) : CTX l yL_put wsL_put rmL_put g sz0 [.ref (A 0), .int (iI (x)), .int (iI (k)), .int (iI (b)), .ref o1] h (fun v h' => v = some (.int (iI (tPut x k b (msize (240 + x))))) ∧ (∀ q : Nat, h q ≠ none → (∀ i : Nat, i < 27 → q ≠ A i) → q ≠ o1 → h' q = h q) ∧ ∃ F1 : Nat → Int64, h' o1 = some (lE g 1 F1) ∧ (tPut x k b (msize (240 + x)) = 0 → F1 0 = (iI (msize (240 + x) + 1)).toInt64 ∧ ST g A Z h' (insF mdata (48 * (240 + x)) (msize (240 + x)) k b) (upZ msize (240 + x) (msize (240 + x) + 1)) mends mmany mkind mchain mholds mnights mbits mleast mmost mroom mreserve mmount mspeed mbid mbound mcheap mpromised mcoin mpaid mowed h') ∧ (¬ tPut x k b (msize (240 + x)) = 0 → ST g A Z h' mdata msize mends mmany mkind mchain mholds mnights mbits mleast mmost mroom mreserve mmount mspeed mbid mbound mcheap mpromised mcoin mpaid mowed h')) (fun _ _ => False) := by
  obtain ⟨fs0, hro⟩ := hT.ro
  refine CTX.ofH (by decide +kernel) rfl [some (.ref (A 0)), some (.int (iI (x))), some (.int (iI (k))), some (.int (iI (b))), some (.ref o1), none] rfl (Nat.le_of_ble_eq_true rfl) ?_
  intro p e s m args below meth c B hr hlk htab
  refine r_aload B dL_put_0 rfl rfl ?_
  refine r_iconst B dL_put_2 ?_
  refine r_aload_n B dL_put_3 rfl rfl ?_
  refine r_iload_n B dL_put_4 rfl ?_
  refine r_iload_n B dL_put_5 rfl ?_
  refine r_iload_n B dL_put_6 rfl ?_
  refine r_callVX (n := 3) B dL_put_7 (ct_X9_put l g sz0 hA hT hG _ _ _ hl0 (by omega) (by omega) (by omega)) gL_put_X9_put rfl (by decide +kernel) ⟨Nat.le_of_ble_eq_true rfl, Nat.le_of_ble_eq_true rfl⟩ hro rfl rfl rfl (Nat.le_of_ble_eq_true rfl) (Nat.le_of_ble_eq_true rfl) (Nat.le_of_ble_eq_true rfl) (fun E h1 hp => ?_) (fun v h1 hp => ?_)
  · obtain ⟨hE, hST⟩ := hp
    rcases hE with ⟨e1, e2⟩ | ⟨e1, e2⟩ | ⟨e1, e2⟩
    · subst e1
      refine r_catch B htab [] ⟨0, 12, 15, 13⟩ [⟨0, 12, 19, 15⟩, ⟨0, 12, 23, 17⟩] rfl List.mem_cons_self (fun z hz => absurd hz List.not_mem_nil) (by decide) (by decide) w_L_put_kl13 (fun q9 => ?_)
      refine r_astore B dL_put_15 rfl (by decide) (lcat_v rfl rfl) ?_
      refine r_iconst B dL_put_17 ?_
      exact x_ret (r_iret B hr hlk dL_put_18 (Nat.le_of_ble_eq_true rfl) (Nat.le_of_ble_eq_true rfl) ⟨by rw [e2], fun q q0 q1 _ => hST.fr q q0 q1, F, (hST.fr o1 (sm_ne hO) hAo).trans hO, fun y => absurd (e2.symm.trans y) (by decide), fun _ => hST.base⟩)
    · subst e1
      refine r_catch B htab [⟨0, 12, 15, 13⟩] ⟨0, 12, 19, 15⟩ [⟨0, 12, 23, 17⟩] rfl (List.mem_cons_of_mem _ List.mem_cons_self) (fun z hz => by rw [List.mem_singleton.mp hz]; exact ⟨by decide, xIA, List.mem_cons_self, by decide, w_L_put_kl13⟩) (by decide) (by decide) w_L_put_kl15 (fun q9 => ?_)
      refine r_astore B dL_put_19 rfl (by decide) (lcat_v rfl rfl) ?_
      refine r_iconst B dL_put_21 ?_
      exact x_ret (r_iret B hr hlk dL_put_22 (Nat.le_of_ble_eq_true rfl) (Nat.le_of_ble_eq_true rfl) ⟨by rw [e2], fun q q0 q1 _ => hST.fr q q0 q1, F, (hST.fr o1 (sm_ne hO) hAo).trans hO, fun y => absurd (e2.symm.trans y) (by decide), fun _ => hST.base⟩)
    · subst e1
      refine r_catch B htab [⟨0, 12, 15, 13⟩, ⟨0, 12, 19, 15⟩] ⟨0, 12, 23, 17⟩ [] rfl (List.mem_cons_of_mem _ (List.mem_cons_of_mem _ List.mem_cons_self)) (fun z hz => by
          rcases List.mem_cons.mp hz with y | y
          · rw [y]; exact ⟨by decide, xIA, List.mem_cons_self, by decide, w_L_put_kl13⟩
          · rw [List.mem_singleton.mp y]; exact ⟨by decide, xIO, (List.mem_cons_of_mem _ List.mem_cons_self), by decide, w_L_put_kl15⟩) (by decide) (by decide) w_L_put_kl17 (fun q9 => ?_)
      refine r_astore B dL_put_23 rfl (by decide) (lcat_v rfl rfl) ?_
      refine r_iconst B dL_put_25 ?_
      exact x_ret (r_iret B hr hlk dL_put_26 (Nat.le_of_ble_eq_true rfl) (Nat.le_of_ble_eq_true rfl) ⟨by rw [e2], fun q q0 q1 _ => hST.fr q q0 q1, F, (hST.fr o1 (sm_ne hO) hAo).trans hO, fun y => absurd (e2.symm.trans y) (by decide), fun _ => hST.base⟩)
  obtain ⟨ht0, hv, hST⟩ := hp
  subst v
  dsimp only [Option.toList, List.cons_append, List.nil_append]
  have hO1 := (hST.fr o1 (sm_ne hO) hAo).trans hO
  refine r_i2l B dL_put_10 ?_
  refine r_last B dL_put_11 hO1 (by decide) (by omega) (by omega) ?_
  refine r_goto B dL_put_12 (tgt := 27) (by decide) ?_
  refine r_iconst B dL_put_27 ?_
  exact x_ret (r_iret B hr hlk dL_put_28 (Nat.le_of_ble_eq_true rfl) (Nat.le_of_ble_eq_true rfl) ⟨by rw [ht0], fun q q0 q1 q2 => (if_neg q2).trans (hST.fr q q0 q1), _, if_pos rfl, fun _ => ⟨rfl, hST.out hZo hAo⟩, fun y => absurd ht0 y⟩)
abbrev rmL_setMarks : Room := { frames := 8, cells := 3, slots := 18, locals := 145 }
theorem w_L_setMarks_kl13 : Cond.classLink RL 13 "java/lang/IllegalArgumentException" ∈ wsL_setMarks := by decide +kernel
set_option maxHeartbeats 4000000 in
set_option maxRecDepth 100000 in
theorem ct_L_setMarks (l : Launch) (g : GG) (sz0 : Nat) {A : Nat → Nat} {Z : Nat → Prop} (hA : AOK A) {h : AH} {mnights mbits mleast mmost mroom mreserve mmount mspeed : Int} {mdata msize mends mmany mkind mchain mholds mbid mbound mcheap mpromised mcoin mpaid mowed : Int → Int} (hT : ST g A Z h mdata msize mends mmany mkind mchain mholds mnights mbits mleast mmost mroom mreserve mmount mspeed mbid mbound mcheap mpromised mcoin mpaid mowed h) (hG : RGm mnights mbits mleast mmost mroom mreserve mmount mspeed msize mbid mbound mcheap mpromised mcoin mpaid mowed) (x y z : Int) (hl0 : l.stackTraces = false) (qx : -2147483648 ≤ x ∧ x < 2147483648) (qy : -2147483648 ≤ y ∧ y < 2147483648) (qz : -2147483648 ≤ z ∧ z < 2147483648) : CTX l yL_setMarks wsL_setMarks rmL_setMarks g sz0 [.ref (A 0), .int (iI (x)), .int (iI (y)), .int (iI (z))] h (fun v h' => v = some (.int (iI (tB ((0 ≤ x ∧ x ≤ 8) ∧ (1 ≤ y ∧ y ≤ 16) ∧ (y ≤ z ∧ z ≤ 24))))) ∧ (∀ q : Nat, h q ≠ none → (∀ i : Nat, i < 27 → q ≠ A i) → h' q = h q) ∧ (tB ((0 ≤ x ∧ x ≤ 8) ∧ (1 ≤ y ∧ y ≤ 16) ∧ (y ≤ z ∧ z ≤ 24)) = 0 → ST g A Z h' mdata msize mends mmany mkind mchain mholds mnights x y z mroom mreserve mmount mspeed mbid mbound mcheap mpromised mcoin mpaid mowed h') ∧ (¬ tB ((0 ≤ x ∧ x ≤ 8) ∧ (1 ≤ y ∧ y ≤ 16) ∧ (y ≤ z ∧ z ≤ 24)) = 0 → ST g A Z h' mdata msize mends mmany mkind mchain mholds mnights mbits mleast mmost mroom mreserve mmount mspeed mbid mbound mcheap mpromised mcoin mpaid mowed h')) (fun _ _ => False) := by
  obtain ⟨fs0, hro⟩ := hT.ro
  refine CTX.ofH (by decide +kernel) rfl [some (.ref (A 0)), some (.int (iI (x))), some (.int (iI (y))), some (.int (iI (z))), none] rfl (Nat.le_of_ble_eq_true rfl) ?_
  intro p e s m args below meth c B hr hlk htab
  refine r_aload_n B dL_setMarks_0 rfl rfl ?_
  refine r_iload_n B dL_setMarks_1 rfl ?_
  refine r_iload_n B dL_setMarks_2 rfl ?_
  refine r_iload_n B dL_setMarks_3 rfl ?_
  refine r_callVX (n := 3) B dL_setMarks_4 (ct_X9_setMarks l g sz0 hA hT hG _ _ _ hl0 (by omega) (by omega) (by omega)) gL_setMarks_X9_setMarks rfl (by decide +kernel) ⟨Nat.le_of_ble_eq_true rfl, Nat.le_of_ble_eq_true rfl⟩ hro rfl rfl rfl (Nat.le_of_ble_eq_true rfl) (Nat.le_of_ble_eq_true rfl) (Nat.le_of_ble_eq_true rfl) (fun E h1 hp => ?_) (fun v h1 hp => ?_)
  · obtain ⟨hE, hST⟩ := hp
    obtain ⟨e1, e2⟩ := hE
    subst e1
    refine r_catch B htab [] ⟨0, 7, 10, 13⟩ [] rfl List.mem_cons_self (fun z hz => absurd hz List.not_mem_nil) (by decide) (by decide) w_L_setMarks_kl13 (fun q9 => ?_)
    refine r_astore B dL_setMarks_10 rfl (by decide) (lcat_v rfl rfl) ?_
    refine r_iconst B dL_setMarks_12 ?_
    exact x_ret (r_iret B hr hlk dL_setMarks_13 (Nat.le_of_ble_eq_true rfl) (Nat.le_of_ble_eq_true rfl) ⟨by rw [e2], hST.fr, fun y => absurd (e2.symm.trans y) (by decide), fun _ => hST.base⟩)
  obtain ⟨ht0, hv, hST⟩ := hp
  subst v
  dsimp only [Option.toList, List.cons_append, List.nil_append]
  refine r_goto B dL_setMarks_7 (tgt := 14) (by decide) ?_
  refine r_iconst B dL_setMarks_14 ?_
  exact x_ret (r_iret B hr hlk dL_setMarks_15 (Nat.le_of_ble_eq_true rfl) (Nat.le_of_ble_eq_true rfl) ⟨by rw [ht0], hST.fr, fun _ => hST.base, fun y => absurd ht0 y⟩)
abbrev rmL_at : Room := { frames := 8, cells := 2, slots := 12, locals := 145 }
theorem w_L_at_kl13 : Cond.classLink RL 13 "java/lang/IllegalArgumentException" ∈ wsL_at := by decide +kernel
theorem w_L_at_kl15 : Cond.classLink RL 15 "java/lang/IndexOutOfBoundsException" ∈ wsL_at := by decide +kernel
set_option maxHeartbeats 4000000 in
set_option maxRecDepth 100000 in
theorem ct_L_at (l : Launch) (g : GG) (sz0 : Nat) {A : Nat → Nat} {Z : Nat → Prop} (hA : AOK A) {h : AH} {mnights mbits mleast mmost mroom mreserve mmount mspeed : Int} {mdata msize mends mmany mkind mchain mholds mbid mbound mcheap mpromised mcoin mpaid mowed : Int → Int} (hT : ST g A Z h mdata msize mends mmany mkind mchain mholds mnights mbits mleast mmost mroom mreserve mmount mspeed mbid mbound mcheap mpromised mcoin mpaid mowed h) (hG : RGm mnights mbits mleast mmost mroom mreserve mmount mspeed msize mbid mbound mcheap mpromised mcoin mpaid mowed) (x k : Int) (hl0 : l.stackTraces = false) (qx : -2147483648 ≤ x ∧ x < 2147483648) (qk : -2147483648 ≤ k ∧ k < 2147483648) {o1 : Nat} {F : Nat → Int64} (hO : h o1 = some (lE g 1 F)) (hZo : Z o1) (hAo : ∀ i : Nat, i < 27 → o1 ≠ A i) : CTX l yL_at wsL_at rmL_at g sz0 [.ref (A 0), .int (iI (x)), .int (iI (k)), .ref o1] h (fun v h' => v = some (.int (iI (tAt x k (msize (240 + x))))) ∧ (∀ q : Nat, h q ≠ none → (∀ i : Nat, i < 27 → q ≠ A i) → q ≠ o1 → h' q = h q) ∧ ∃ F1 : Nat → Int64, h' o1 = some (lE g 1 F1) ∧ (tAt x k (msize (240 + x)) = 0 → F1 0 = (iI (mdata (48 * (240 + x) + k))).toInt64 ∧ ST g A Z h' mdata msize mends mmany mkind mchain mholds mnights mbits mleast mmost mroom mreserve mmount mspeed mbid mbound mcheap mpromised mcoin mpaid mowed h') ∧ (¬ tAt x k (msize (240 + x)) = 0 → ST g A Z h' mdata msize mends mmany mkind mchain mholds mnights mbits mleast mmost mroom mreserve mmount mspeed mbid mbound mcheap mpromised mcoin mpaid mowed h')) (fun _ _ => False) := by
  obtain ⟨fs0, hro⟩ := hT.ro
  refine CTX.ofH (by decide +kernel) rfl [some (.ref (A 0)), some (.int (iI (x))), some (.int (iI (k))), some (.ref o1), none] rfl (Nat.le_of_ble_eq_true rfl) ?_
  intro p e s m args below meth c B hr hlk htab
  refine r_aload_n B dL_at_0 rfl rfl ?_
  refine r_iconst B dL_at_1 ?_
  refine r_aload_n B dL_at_2 rfl rfl ?_
  refine r_iload_n B dL_at_3 rfl ?_
  refine r_iload_n B dL_at_4 rfl ?_
  refine r_callVX (n := 2) B dL_at_5 (ct_X9_at l g sz0 hA hT hG _ _ hl0 (by omega) (by omega)) gL_at_X9_at rfl (by decide +kernel) ⟨Nat.le_of_ble_eq_true rfl, Nat.le_of_ble_eq_true rfl⟩ hro rfl rfl rfl (Nat.le_of_ble_eq_true rfl) (Nat.le_of_ble_eq_true rfl) (Nat.le_of_ble_eq_true rfl) (fun E h1 hp => ?_) (fun v h1 hp => ?_)
  · obtain ⟨hE, hST⟩ := hp
    rcases hE with ⟨e1, e2⟩ | ⟨e1, e2⟩
    · subst e1
      refine r_catch B htab [] ⟨0, 10, 13, 13⟩ [⟨0, 10, 17, 15⟩] rfl List.mem_cons_self (fun z hz => absurd hz List.not_mem_nil) (by decide) (by decide) w_L_at_kl13 (fun q9 => ?_)
      refine r_astore B dL_at_13 rfl (by decide) (lcat_v rfl rfl) ?_
      refine r_iconst B dL_at_15 ?_
      exact x_ret (r_iret B hr hlk dL_at_16 (Nat.le_of_ble_eq_true rfl) (Nat.le_of_ble_eq_true rfl) ⟨by rw [e2], fun q q0 q1 _ => hST.fr q q0 q1, F, (hST.fr o1 (sm_ne hO) hAo).trans hO, fun y => absurd (e2.symm.trans y) (by decide), fun _ => hST.base⟩)
    · subst e1
      refine r_catch B htab [⟨0, 10, 13, 13⟩] ⟨0, 10, 17, 15⟩ [] rfl (List.mem_cons_of_mem _ List.mem_cons_self) (fun z hz => by rw [List.mem_singleton.mp hz]; exact ⟨by decide, xIA, List.mem_cons_self, by decide, w_L_at_kl13⟩) (by decide) (by decide) w_L_at_kl15 (fun q9 => ?_)
      refine r_astore B dL_at_17 rfl (by decide) (lcat_v rfl rfl) ?_
      refine r_iconst B dL_at_19 ?_
      exact x_ret (r_iret B hr hlk dL_at_20 (Nat.le_of_ble_eq_true rfl) (Nat.le_of_ble_eq_true rfl) ⟨by rw [e2], fun q q0 q1 _ => hST.fr q q0 q1, F, (hST.fr o1 (sm_ne hO) hAo).trans hO, fun y => absurd (e2.symm.trans y) (by decide), fun _ => hST.base⟩)
  obtain ⟨ht0, hv, hST⟩ := hp
  subst v
  dsimp only [Option.toList, List.cons_append, List.nil_append]
  have hO1 := (hST.fr o1 (sm_ne hO) hAo).trans hO
  refine r_i2l B dL_at_8 ?_
  refine r_last B dL_at_9 hO1 (by decide) (by omega) (by omega) ?_
  refine r_goto B dL_at_10 (tgt := 21) (by decide) ?_
  refine r_iconst B dL_at_21 ?_
  exact x_ret (r_iret B hr hlk dL_at_22 (Nat.le_of_ble_eq_true rfl) (Nat.le_of_ble_eq_true rfl) ⟨by rw [ht0], fun q q0 q1 q2 => (if_neg q2).trans (hST.fr q q0 q1), _, if_pos rfl, fun _ => ⟨rfl, hST.out hZo hAo⟩, fun y => absurd ht0 y⟩)
