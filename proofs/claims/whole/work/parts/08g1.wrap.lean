abbrev rmL_paid : Room := { frames := 8, cells := 1, slots := 6, locals := 143 }
theorem w_L_paid_kl13 : Cond.classLink RL 13 "java/lang/IllegalArgumentException" ∈ wsL_paid := by decide +kernel
set_option maxHeartbeats 4000000 in
set_option maxRecDepth 100000 in
theorem ct_L_paid (l : Launch) (g : GG) (sz0 : Nat) {A : Nat → Nat} {Z : Nat → Prop} (hA : AOK A) {h : AH} {mnights mbits mleast mmost mroom mreserve mmount mspeed : Int} {mdata msize mends mmany mkind mchain mholds mbid mbound mcheap mpromised mcoin mpaid mowed : Int → Int} (hT : ST g A Z h mdata msize mends mmany mkind mchain mholds mnights mbits mleast mmost mroom mreserve mmount mspeed mbid mbound mcheap mpromised mcoin mpaid mowed h) (hG : RGm mnights mbits mleast mmost mroom mreserve mmount mspeed msize mbid mbound mcheap mpromised mcoin mpaid mowed) (x : Int) (hl0 : l.stackTraces = false) (qx : -2147483648 ≤ x ∧ x < 2147483648) {o1 : Nat} {F : Nat → Int64} (hO : h o1 = some (lE g 1 F)) (hZo : Z o1) (hAo : ∀ i : Nat, i < 27 → o1 ≠ A i) : CTX l yL_paid wsL_paid rmL_paid g sz0 [.ref (A 0), .int (iI (x)), .ref o1] h (fun v h' => v = some (.int (iI (tCl x))) ∧ (∀ q : Nat, h q ≠ none → (∀ i : Nat, i < 27 → q ≠ A i) → q ≠ o1 → h' q = h q) ∧ ∃ F1 : Nat → Int64, h' o1 = some (lE g 1 F1) ∧ (tCl x = 0 → F1 0 = (iI (mpaid x)).toInt64 ∧ ST g A Z h' mdata msize mends mmany mkind mchain mholds mnights mbits mleast mmost mroom mreserve mmount mspeed mbid mbound mcheap mpromised mcoin mpaid mowed h') ∧ (¬ tCl x = 0 → ST g A Z h' mdata msize mends mmany mkind mchain mholds mnights mbits mleast mmost mroom mreserve mmount mspeed mbid mbound mcheap mpromised mcoin mpaid mowed h')) (fun _ _ => False) := by
  obtain ⟨fs0, hro⟩ := hT.ro
  refine CTX.ofH (by decide +kernel) rfl [some (.ref (A 0)), some (.int (iI (x))), some (.ref o1), none] rfl (Nat.le_of_ble_eq_true rfl) ?_
  intro p e s m args below meth c B hr hlk htab
  refine r_aload_n B dL_paid_0 rfl rfl ?_
  refine r_iconst B dL_paid_1 ?_
  refine r_aload_n B dL_paid_2 rfl rfl ?_
  refine r_iload_n B dL_paid_3 rfl ?_
  refine r_callVX (n := 1) B dL_paid_4 (ct_X9_paid l g sz0 hA hT hG _ hl0 (by omega)) gL_paid_X9_paid rfl (by decide +kernel) ⟨Nat.le_of_ble_eq_true rfl, Nat.le_of_ble_eq_true rfl⟩ hro rfl rfl rfl (Nat.le_of_ble_eq_true rfl) (Nat.le_of_ble_eq_true rfl) (Nat.le_of_ble_eq_true rfl) (fun E h1 hp => ?_) (fun v h1 hp => ?_)
  · obtain ⟨hE, hST⟩ := hp
    obtain ⟨e1, e2⟩ := hE
    subst e1
    refine r_catch B htab [] ⟨0, 9, 12, 13⟩ [] rfl List.mem_cons_self (fun z hz => absurd hz List.not_mem_nil) (by decide) (by decide) w_L_paid_kl13 (fun q9 => ?_)
    refine r_astore_n B dL_paid_12 rfl rfl (by decide) (lcat_v rfl rfl) ?_
    refine r_iconst B dL_paid_13 ?_
    exact x_ret (r_iret B hr hlk dL_paid_14 (Nat.le_of_ble_eq_true rfl) (Nat.le_of_ble_eq_true rfl) ⟨by rw [e2], fun q q0 q1 _ => hST.fr q q0 q1, F, (hST.fr o1 (sm_ne hO) hAo).trans hO, fun y => absurd (e2.symm.trans y) (by decide), fun _ => hST.base⟩)
  obtain ⟨ht0, hv, hST⟩ := hp
  subst v
  dsimp only [Option.toList, List.cons_append, List.nil_append]
  have hO1 := (hST.fr o1 (sm_ne hO) hAo).trans hO
  refine r_i2l B dL_paid_7 ?_
  refine r_last B dL_paid_8 hO1 (by decide) (by omega) (by omega) ?_
  refine r_goto B dL_paid_9 (tgt := 15) (by decide) ?_
  refine r_iconst B dL_paid_15 ?_
  exact x_ret (r_iret B hr hlk dL_paid_16 (Nat.le_of_ble_eq_true rfl) (Nat.le_of_ble_eq_true rfl) ⟨by rw [ht0], fun q q0 q1 q2 => (if_neg q2).trans (hST.fr q q0 q1), _, if_pos rfl, fun _ => ⟨rfl, hST.out hZo hAo⟩, fun y => absurd ht0 y⟩)
abbrev rmL_mark : Room := { frames := 8, cells := 2, slots := 12, locals := 145 }
theorem w_L_mark_kl13 : Cond.classLink RL 13 "java/lang/IllegalArgumentException" ∈ wsL_mark := by decide +kernel
theorem w_L_mark_kl15 : Cond.classLink RL 15 "java/lang/IndexOutOfBoundsException" ∈ wsL_mark := by decide +kernel
set_option maxHeartbeats 4000000 in
set_option maxRecDepth 100000 in
theorem ct_L_mark (l : Launch) (g : GG) (sz0 : Nat) {A : Nat → Nat} {Z : Nat → Prop} (hA : AOK A) {h : AH} {mnights mbits mleast mmost mroom mreserve mmount mspeed : Int} {mdata msize mends mmany mkind mchain mholds mbid mbound mcheap mpromised mcoin mpaid mowed : Int → Int} (hT : ST g A Z h mdata msize mends mmany mkind mchain mholds mnights mbits mleast mmost mroom mreserve mmount mspeed mbid mbound mcheap mpromised mcoin mpaid mowed h) (hG : RGm mnights mbits mleast mmost mroom mreserve mmount mspeed msize mbid mbound mcheap mpromised mcoin mpaid mowed) (x k : Int) (hl0 : l.stackTraces = false) (qx : -2147483648 ≤ x ∧ x < 2147483648) (qk : -2147483648 ≤ k ∧ k < 2147483648) {o1 : Nat} {F : Nat → Int64} (hO : h o1 = some (lE g 1 F)) (hZo : Z o1) (hAo : ∀ i : Nat, i < 27 → o1 ≠ A i) : CTX l yL_mark wsL_mark rmL_mark g sz0 [.ref (A 0), .int (iI (x)), .int (iI (k)), .ref o1] h (fun v h' => v = some (.int (iI (tAt x k (msize (240 + x))))) ∧ (∀ q : Nat, h q ≠ none → (∀ i : Nat, i < 27 → q ≠ A i) → q ≠ o1 → h' q = h q) ∧ ∃ F1 : Nat → Int64, h' o1 = some (lE g 1 F1) ∧ (tAt x k (msize (240 + x)) = 0 → F1 0 = (mkv (rowF mdata (240 + x)) k).toInt64 ∧ ST g A Z h' mdata msize mends mmany mkind mchain mholds mnights mbits mleast mmost mroom mreserve mmount mspeed mbid mbound mcheap mpromised mcoin mpaid mowed h') ∧ (¬ tAt x k (msize (240 + x)) = 0 → ST g A Z h' mdata msize mends mmany mkind mchain mholds mnights mbits mleast mmost mroom mreserve mmount mspeed mbid mbound mcheap mpromised mcoin mpaid mowed h')) (fun _ _ => False) := by
  obtain ⟨fs0, hro⟩ := hT.ro
  refine CTX.ofH (by decide +kernel) rfl [some (.ref (A 0)), some (.int (iI (x))), some (.int (iI (k))), some (.ref o1), none] rfl (Nat.le_of_ble_eq_true rfl) ?_
  intro p e s m args below meth c B hr hlk htab
  refine r_aload_n B dL_mark_0 rfl rfl ?_
  refine r_iconst B dL_mark_1 ?_
  refine r_aload_n B dL_mark_2 rfl rfl ?_
  refine r_iload_n B dL_mark_3 rfl ?_
  refine r_iload_n B dL_mark_4 rfl ?_
  refine r_callVX (n := 2) B dL_mark_5 (ct_X9_mark l g sz0 hA hT hG _ _ hl0 (by omega) (by omega)) gL_mark_X9_mark rfl (by decide +kernel) ⟨Nat.le_of_ble_eq_true rfl, Nat.le_of_ble_eq_true rfl⟩ hro rfl rfl rfl (Nat.le_of_ble_eq_true rfl) (Nat.le_of_ble_eq_true rfl) (Nat.le_of_ble_eq_true rfl) (fun E h1 hp => ?_) (fun v h1 hp => ?_)
  · obtain ⟨hE, hST⟩ := hp
    rcases hE with ⟨e1, e2⟩ | ⟨e1, e2⟩
    · subst e1
      refine r_catch B htab [] ⟨0, 10, 13, 13⟩ [⟨0, 10, 17, 15⟩] rfl List.mem_cons_self (fun z hz => absurd hz List.not_mem_nil) (by decide) (by decide) w_L_mark_kl13 (fun q9 => ?_)
      refine r_astore B dL_mark_13 rfl (by decide) (lcat_v rfl rfl) ?_
      refine r_iconst B dL_mark_15 ?_
      exact x_ret (r_iret B hr hlk dL_mark_16 (Nat.le_of_ble_eq_true rfl) (Nat.le_of_ble_eq_true rfl) ⟨by rw [e2], fun q q0 q1 _ => hST.fr q q0 q1, F, (hST.fr o1 (sm_ne hO) hAo).trans hO, fun y => absurd (e2.symm.trans y) (by decide), fun _ => hST.base⟩)
    · subst e1
      refine r_catch B htab [⟨0, 10, 13, 13⟩] ⟨0, 10, 17, 15⟩ [] rfl (List.mem_cons_of_mem _ List.mem_cons_self) (fun z hz => by rw [List.mem_singleton.mp hz]; exact ⟨by decide, xIA, List.mem_cons_self, by decide, w_L_mark_kl13⟩) (by decide) (by decide) w_L_mark_kl15 (fun q9 => ?_)
      refine r_astore B dL_mark_17 rfl (by decide) (lcat_v rfl rfl) ?_
      refine r_iconst B dL_mark_19 ?_
      exact x_ret (r_iret B hr hlk dL_mark_20 (Nat.le_of_ble_eq_true rfl) (Nat.le_of_ble_eq_true rfl) ⟨by rw [e2], fun q q0 q1 _ => hST.fr q q0 q1, F, (hST.fr o1 (sm_ne hO) hAo).trans hO, fun y => absurd (e2.symm.trans y) (by decide), fun _ => hST.base⟩)
  obtain ⟨ht0, hv, hST⟩ := hp
  subst v
  dsimp only [Option.toList, List.cons_append, List.nil_append]
  have hO1 := (hST.fr o1 (sm_ne hO) hAo).trans hO
  refine r_i2l B dL_mark_8 ?_
  refine r_last B dL_mark_9 hO1 (by decide) (by omega) (by omega) ?_
  refine r_goto B dL_mark_10 (tgt := 21) (by decide) ?_
  refine r_iconst B dL_mark_21 ?_
  exact x_ret (r_iret B hr hlk dL_mark_22 (Nat.le_of_ble_eq_true rfl) (Nat.le_of_ble_eq_true rfl) ⟨by rw [ht0], fun q q0 q1 q2 => (if_neg q2).trans (hST.fr q q0 q1), _, if_pos rfl, fun _ => ⟨rfl, hST.out hZo hAo⟩, fun y => absurd ht0 y⟩)
abbrev rmL_lengthOf : Room := { frames := 9, cells := 3, slots := 18, locals := 168 }
theorem w_L_lengthOf_kl13 : Cond.classLink RL 13 "java/lang/IllegalArgumentException" ∈ wsL_lengthOf := by decide +kernel
theorem w_L_lengthOf_kl15 : Cond.classLink RL 15 "java/lang/IndexOutOfBoundsException" ∈ wsL_lengthOf := by decide +kernel
theorem w_L_lengthOf_kl17 : Cond.classLink RL 17 "java/lang/IllegalStateException" ∈ wsL_lengthOf := by decide +kernel
set_option maxHeartbeats 4000000 in
set_option maxRecDepth 100000 in
theorem ct_L_lengthOf (l : Launch) (g : GG) (sz0 : Nat) {A : Nat → Nat} {Z : Nat → Prop} (hA : AOK A) {h : AH} {mnights mbits mleast mmost mroom mreserve mmount mspeed : Int} {mdata msize mends mmany mkind mchain mholds mbid mbound mcheap mpromised mcoin mpaid mowed : Int → Int} (hT : ST g A Z h mdata msize mends mmany mkind mchain mholds mnights mbits mleast mmost mroom mreserve mmount mspeed mbid mbound mcheap mpromised mcoin mpaid mowed h) (hG : RGm mnights mbits mleast mmost mroom mreserve mmount mspeed msize mbid mbound mcheap mpromised mcoin mpaid mowed) (x k : Int) (hl0 : l.stackTraces = false) (qx : -2147483648 ≤ x ∧ x < 2147483648) (qk : -2147483648 ≤ k ∧ k < 2147483648) {o1 : Nat} {F : Nat → Int64} (hO : h o1 = some (lE g 1 F)) (hZo : Z o1) (hAo : ∀ i : Nat, i < 27 → o1 ≠ A i) : CTX l yL_lengthOf wsL_lengthOf rmL_lengthOf g sz0 [.ref (A 0), .int (iI (x)), .int (iI (k)), .ref o1] h (fun v h' => v = some (.int (iI (tAsk x k mnights (mkind (60 * x + k))))) ∧ (∀ q : Nat, h q ≠ none → (∀ i : Nat, i < 27 → q ≠ A i) → q ≠ o1 → h' q = h q) ∧ ∃ F1 : Nat → Int64, h' o1 = some (lE g 1 F1) ∧ (tAsk x k mnights (mkind (60 * x + k)) = 0 → F1 0 = (iI (msize (60 * x + k))).toInt64 ∧ ST g A Z h' mdata msize mends mmany mkind mchain mholds mnights mbits mleast mmost mroom mreserve mmount mspeed mbid mbound mcheap mpromised mcoin mpaid mowed h') ∧ (¬ tAsk x k mnights (mkind (60 * x + k)) = 0 → ST g A Z h' mdata msize mends mmany mkind mchain mholds mnights mbits mleast mmost mroom mreserve mmount mspeed mbid mbound mcheap mpromised mcoin mpaid mowed h')) (fun _ _ => False) := by
  obtain ⟨fs0, hro⟩ := hT.ro
  refine CTX.ofH (by decide +kernel) rfl [some (.ref (A 0)), some (.int (iI (x))), some (.int (iI (k))), some (.ref o1), none] rfl (Nat.le_of_ble_eq_true rfl) ?_
  intro p e s m args below meth c B hr hlk htab
  refine r_aload_n B dL_lengthOf_0 rfl rfl ?_
  refine r_iconst B dL_lengthOf_1 ?_
  refine r_aload_n B dL_lengthOf_2 rfl rfl ?_
  refine r_iload_n B dL_lengthOf_3 rfl ?_
  refine r_iload_n B dL_lengthOf_4 rfl ?_
  refine r_callVX (n := 2) B dL_lengthOf_5 (ct_X9_lengthOf l g sz0 hA hT hG _ _ hl0 (by omega) (by omega)) gL_lengthOf_X9_lengthOf rfl (by decide +kernel) ⟨Nat.le_of_ble_eq_true rfl, Nat.le_of_ble_eq_true rfl⟩ hro rfl rfl rfl (Nat.le_of_ble_eq_true rfl) (Nat.le_of_ble_eq_true rfl) (Nat.le_of_ble_eq_true rfl) (fun E h1 hp => ?_) (fun v h1 hp => ?_)
  · obtain ⟨hE, hST⟩ := hp
    rcases hE with ⟨e1, e2⟩ | ⟨e1, e2⟩ | ⟨e1, e2⟩
    · subst e1
      refine r_catch B htab [] ⟨0, 10, 13, 13⟩ [⟨0, 10, 17, 15⟩, ⟨0, 10, 21, 17⟩] rfl List.mem_cons_self (fun z hz => absurd hz List.not_mem_nil) (by decide) (by decide) w_L_lengthOf_kl13 (fun q9 => ?_)
      refine r_astore B dL_lengthOf_13 rfl (by decide) (lcat_v rfl rfl) ?_
      refine r_iconst B dL_lengthOf_15 ?_
      exact x_ret (r_iret B hr hlk dL_lengthOf_16 (Nat.le_of_ble_eq_true rfl) (Nat.le_of_ble_eq_true rfl) ⟨by rw [e2], fun q q0 q1 _ => hST.fr q q0 q1, F, (hST.fr o1 (sm_ne hO) hAo).trans hO, fun y => absurd (e2.symm.trans y) (by decide), fun _ => hST.base⟩)
    · subst e1
      refine r_catch B htab [⟨0, 10, 13, 13⟩] ⟨0, 10, 17, 15⟩ [⟨0, 10, 21, 17⟩] rfl (List.mem_cons_of_mem _ List.mem_cons_self) (fun z hz => by rw [List.mem_singleton.mp hz]; exact ⟨by decide, xIA, List.mem_cons_self, by decide, w_L_lengthOf_kl13⟩) (by decide) (by decide) w_L_lengthOf_kl15 (fun q9 => ?_)
      refine r_astore B dL_lengthOf_17 rfl (by decide) (lcat_v rfl rfl) ?_
      refine r_iconst B dL_lengthOf_19 ?_
      exact x_ret (r_iret B hr hlk dL_lengthOf_20 (Nat.le_of_ble_eq_true rfl) (Nat.le_of_ble_eq_true rfl) ⟨by rw [e2], fun q q0 q1 _ => hST.fr q q0 q1, F, (hST.fr o1 (sm_ne hO) hAo).trans hO, fun y => absurd (e2.symm.trans y) (by decide), fun _ => hST.base⟩)
    · subst e1
      refine r_catch B htab [⟨0, 10, 13, 13⟩, ⟨0, 10, 17, 15⟩] ⟨0, 10, 21, 17⟩ [] rfl (List.mem_cons_of_mem _ (List.mem_cons_of_mem _ List.mem_cons_self)) (fun z hz => by
          rcases List.mem_cons.mp hz with y | y
          · rw [y]; exact ⟨by decide, xIA, List.mem_cons_self, by decide, w_L_lengthOf_kl13⟩
          · rw [List.mem_singleton.mp y]; exact ⟨by decide, xIO, (List.mem_cons_of_mem _ List.mem_cons_self), by decide, w_L_lengthOf_kl15⟩) (by decide) (by decide) w_L_lengthOf_kl17 (fun q9 => ?_)
      refine r_astore B dL_lengthOf_21 rfl (by decide) (lcat_v rfl rfl) ?_
      refine r_iconst B dL_lengthOf_23 ?_
      exact x_ret (r_iret B hr hlk dL_lengthOf_24 (Nat.le_of_ble_eq_true rfl) (Nat.le_of_ble_eq_true rfl) ⟨by rw [e2], fun q q0 q1 _ => hST.fr q q0 q1, F, (hST.fr o1 (sm_ne hO) hAo).trans hO, fun y => absurd (e2.symm.trans y) (by decide), fun _ => hST.base⟩)
  obtain ⟨ht0, hv, hST⟩ := hp
  subst v
  dsimp only [Option.toList, List.cons_append, List.nil_append]
  have hO1 := (hST.fr o1 (sm_ne hO) hAo).trans hO
  refine r_i2l B dL_lengthOf_8 ?_
  refine r_last B dL_lengthOf_9 hO1 (by decide) (by omega) (by omega) ?_
  refine r_goto B dL_lengthOf_10 (tgt := 25) (by decide) ?_
  refine r_iconst B dL_lengthOf_25 ?_
  exact x_ret (r_iret B hr hlk dL_lengthOf_26 (Nat.le_of_ble_eq_true rfl) (Nat.le_of_ble_eq_true rfl) ⟨by rw [ht0], fun q q0 q1 q2 => (if_neg q2).trans (hST.fr q q0 q1), _, if_pos rfl, fun _ => ⟨rfl, hST.out hZo hAo⟩, fun y => absurd ht0 y⟩)
abbrev rmL_mounts : Room := { frames := 9, cells := 3, slots := 18, locals := 168 }
theorem w_L_mounts_kl13 : Cond.classLink RL 13 "java/lang/IllegalArgumentException" ∈ wsL_mounts := by decide +kernel
theorem w_L_mounts_kl15 : Cond.classLink RL 15 "java/lang/IndexOutOfBoundsException" ∈ wsL_mounts := by decide +kernel
theorem w_L_mounts_kl17 : Cond.classLink RL 17 "java/lang/IllegalStateException" ∈ wsL_mounts := by decide +kernel
set_option maxHeartbeats 4000000 in
set_option maxRecDepth 100000 in
theorem ct_L_mounts (l : Launch) (g : GG) (sz0 : Nat) {A : Nat → Nat} {Z : Nat → Prop} (hA : AOK A) {h : AH} {mnights mbits mleast mmost mroom mreserve mmount mspeed : Int} {mdata msize mends mmany mkind mchain mholds mbid mbound mcheap mpromised mcoin mpaid mowed : Int → Int} (hT : ST g A Z h mdata msize mends mmany mkind mchain mholds mnights mbits mleast mmost mroom mreserve mmount mspeed mbid mbound mcheap mpromised mcoin mpaid mowed h) (hG : RGm mnights mbits mleast mmost mroom mreserve mmount mspeed msize mbid mbound mcheap mpromised mcoin mpaid mowed) (x k : Int) (hl0 : l.stackTraces = false) (qx : -2147483648 ≤ x ∧ x < 2147483648) (qk : -2147483648 ≤ k ∧ k < 2147483648) {o1 : Nat} {F : Nat → Int64} (hO : h o1 = some (lE g 1 F)) (hZo : Z o1) (hAo : ∀ i : Nat, i < 27 → o1 ≠ A i) : CTX l yL_mounts wsL_mounts rmL_mounts g sz0 [.ref (A 0), .int (iI (x)), .int (iI (k)), .ref o1] h (fun v h' => v = some (.int (iI (tAsk x k mnights (mkind (60 * x + k))))) ∧ (∀ q : Nat, h q ≠ none → (∀ i : Nat, i < 27 → q ≠ A i) → q ≠ o1 → h' q = h q) ∧ ∃ F1 : Nat → Int64, h' o1 = some (lE g 1 F1) ∧ (tAsk x k mnights (mkind (60 * x + k)) = 0 → F1 0 = (iI (mntM mdata mends mmany mkind mchain mholds mnights x k)).toInt64 ∧ ST g A Z h' mdata msize mends mmany mkind mchain mholds mnights mbits mleast mmost mroom mreserve mmount mspeed mbid mbound mcheap mpromised mcoin mpaid mowed h') ∧ (¬ tAsk x k mnights (mkind (60 * x + k)) = 0 → ST g A Z h' mdata msize mends mmany mkind mchain mholds mnights mbits mleast mmost mroom mreserve mmount mspeed mbid mbound mcheap mpromised mcoin mpaid mowed h')) (fun _ _ => False) := by
  obtain ⟨fs0, hro⟩ := hT.ro
  refine CTX.ofH (by decide +kernel) rfl [some (.ref (A 0)), some (.int (iI (x))), some (.int (iI (k))), some (.ref o1), none] rfl (Nat.le_of_ble_eq_true rfl) ?_
  intro p e s m args below meth c B hr hlk htab
  refine r_aload_n B dL_mounts_0 rfl rfl ?_
  refine r_iconst B dL_mounts_1 ?_
  refine r_aload_n B dL_mounts_2 rfl rfl ?_
  refine r_iload_n B dL_mounts_3 rfl ?_
  refine r_iload_n B dL_mounts_4 rfl ?_
  refine r_callVX (n := 2) B dL_mounts_5 (ct_X9_mounts l g sz0 hA hT hG _ _ hl0 (by omega) (by omega)) gL_mounts_X9_mounts rfl (by decide +kernel) ⟨Nat.le_of_ble_eq_true rfl, Nat.le_of_ble_eq_true rfl⟩ hro rfl rfl rfl (Nat.le_of_ble_eq_true rfl) (Nat.le_of_ble_eq_true rfl) (Nat.le_of_ble_eq_true rfl) (fun E h1 hp => ?_) (fun v h1 hp => ?_)
  · obtain ⟨hE, hST⟩ := hp
    rcases hE with ⟨e1, e2⟩ | ⟨e1, e2⟩ | ⟨e1, e2⟩
    · subst e1
      refine r_catch B htab [] ⟨0, 10, 13, 13⟩ [⟨0, 10, 17, 15⟩, ⟨0, 10, 21, 17⟩] rfl List.mem_cons_self (fun z hz => absurd hz List.not_mem_nil) (by decide) (by decide) w_L_mounts_kl13 (fun q9 => ?_)
      refine r_astore B dL_mounts_13 rfl (by decide) (lcat_v rfl rfl) ?_
      refine r_iconst B dL_mounts_15 ?_
      exact x_ret (r_iret B hr hlk dL_mounts_16 (Nat.le_of_ble_eq_true rfl) (Nat.le_of_ble_eq_true rfl) ⟨by rw [e2], fun q q0 q1 _ => hST.fr q q0 q1, F, (hST.fr o1 (sm_ne hO) hAo).trans hO, fun y => absurd (e2.symm.trans y) (by decide), fun _ => hST.base⟩)
    · subst e1
      refine r_catch B htab [⟨0, 10, 13, 13⟩] ⟨0, 10, 17, 15⟩ [⟨0, 10, 21, 17⟩] rfl (List.mem_cons_of_mem _ List.mem_cons_self) (fun z hz => by rw [List.mem_singleton.mp hz]; exact ⟨by decide, xIA, List.mem_cons_self, by decide, w_L_mounts_kl13⟩) (by decide) (by decide) w_L_mounts_kl15 (fun q9 => ?_)
      refine r_astore B dL_mounts_17 rfl (by decide) (lcat_v rfl rfl) ?_
      refine r_iconst B dL_mounts_19 ?_
      exact x_ret (r_iret B hr hlk dL_mounts_20 (Nat.le_of_ble_eq_true rfl) (Nat.le_of_ble_eq_true rfl) ⟨by rw [e2], fun q q0 q1 _ => hST.fr q q0 q1, F, (hST.fr o1 (sm_ne hO) hAo).trans hO, fun y => absurd (e2.symm.trans y) (by decide), fun _ => hST.base⟩)
    · subst e1
      refine r_catch B htab [⟨0, 10, 13, 13⟩, ⟨0, 10, 17, 15⟩] ⟨0, 10, 21, 17⟩ [] rfl (List.mem_cons_of_mem _ (List.mem_cons_of_mem _ List.mem_cons_self)) (fun z hz => by
          rcases List.mem_cons.mp hz with y | y
          · rw [y]; exact ⟨by decide, xIA, List.mem_cons_self, by decide, w_L_mounts_kl13⟩
          · rw [List.mem_singleton.mp y]; exact ⟨by decide, xIO, (List.mem_cons_of_mem _ List.mem_cons_self), by decide, w_L_mounts_kl15⟩) (by decide) (by decide) w_L_mounts_kl17 (fun q9 => ?_)
      refine r_astore B dL_mounts_21 rfl (by decide) (lcat_v rfl rfl) ?_
      refine r_iconst B dL_mounts_23 ?_
      exact x_ret (r_iret B hr hlk dL_mounts_24 (Nat.le_of_ble_eq_true rfl) (Nat.le_of_ble_eq_true rfl) ⟨by rw [e2], fun q q0 q1 _ => hST.fr q q0 q1, F, (hST.fr o1 (sm_ne hO) hAo).trans hO, fun y => absurd (e2.symm.trans y) (by decide), fun _ => hST.base⟩)
  obtain ⟨ht0, hv, hST⟩ := hp
  subst v
  dsimp only [Option.toList, List.cons_append, List.nil_append]
  have hO1 := (hST.fr o1 (sm_ne hO) hAo).trans hO
  refine r_i2l B dL_mounts_8 ?_
  refine r_last B dL_mounts_9 hO1 (by decide) (by omega) (by omega) ?_
  refine r_goto B dL_mounts_10 (tgt := 25) (by decide) ?_
  refine r_iconst B dL_mounts_25 ?_
  exact x_ret (r_iret B hr hlk dL_mounts_26 (Nat.le_of_ble_eq_true rfl) (Nat.le_of_ble_eq_true rfl) ⟨by rw [ht0], fun q q0 q1 q2 => (if_neg q2).trans (hST.fr q q0 q1), _, if_pos rfl, fun _ => ⟨rfl, hST.out hZo hAo⟩, fun y => absurd ht0 y⟩)
abbrev rmL_got : Room := { frames := 8, cells := 2, slots := 12, locals := 146 }
theorem w_L_got_kl13 : Cond.classLink RL 13 "java/lang/IllegalArgumentException" ∈ wsL_got := by decide +kernel
theorem w_L_got_kl15 : Cond.classLink RL 15 "java/lang/IndexOutOfBoundsException" ∈ wsL_got := by decide +kernel
set_option maxHeartbeats 4000000 in
set_option maxRecDepth 100000 in
theorem ct_L_got (l : Launch) (g : GG) (sz0 : Nat) {A : Nat → Nat} {Z : Nat → Prop} (hA : AOK A) {h : AH} {mnights mbits mleast mmost mroom mreserve mmount mspeed : Int} {mdata msize mends mmany mkind mchain mholds mbid mbound mcheap mpromised mcoin mpaid mowed : Int → Int} (hT : ST g A Z h mdata msize mends mmany mkind mchain mholds mnights mbits mleast mmost mroom mreserve mmount mspeed mbid mbound mcheap mpromised mcoin mpaid mowed h) (hG : RGm mnights mbits mleast mmost mroom mreserve mmount mspeed msize mbid mbound mcheap mpromised mcoin mpaid mowed) (x k : Int) (hl0 : l.stackTraces = false) (qx : -2147483648 ≤ x ∧ x < 2147483648) (qk : -2147483648 ≤ k ∧ k < 2147483648) {o1 : Nat} {F : Nat → Int64} (hO : h o1 = some (lE g 1 F)) (hZo : Z o1) (hAo : ∀ i : Nat, i < 27 → o1 ≠ A i) : CTX l yL_got wsL_got rmL_got g sz0 [.ref (A 0), .int (iI (x)), .int (iI (k)), .ref o1] h (fun v h' => v = some (.int (iI (tNi x k mnights))) ∧ (∀ q : Nat, h q ≠ none → (∀ i : Nat, i < 27 → q ≠ A i) → q ≠ o1 → h' q = h q) ∧ ∃ F1 : Nat → Int64, h' o1 = some (lE g 1 F1) ∧ (tNi x k mnights = 0 → F1 0 = (iI (mkind (60 * x + k))).toInt64 ∧ ST g A Z h' mdata msize mends mmany mkind mchain mholds mnights mbits mleast mmost mroom mreserve mmount mspeed mbid mbound mcheap mpromised mcoin mpaid mowed h') ∧ (¬ tNi x k mnights = 0 → ST g A Z h' mdata msize mends mmany mkind mchain mholds mnights mbits mleast mmost mroom mreserve mmount mspeed mbid mbound mcheap mpromised mcoin mpaid mowed h')) (fun _ _ => False) := by
  obtain ⟨fs0, hro⟩ := hT.ro
  refine CTX.ofH (by decide +kernel) rfl [some (.ref (A 0)), some (.int (iI (x))), some (.int (iI (k))), some (.ref o1), none] rfl (Nat.le_of_ble_eq_true rfl) ?_
  intro p e s m args below meth c B hr hlk htab
  refine r_aload_n B dL_got_0 rfl rfl ?_
  refine r_iconst B dL_got_1 ?_
  refine r_aload_n B dL_got_2 rfl rfl ?_
  refine r_iload_n B dL_got_3 rfl ?_
  refine r_iload_n B dL_got_4 rfl ?_
  refine r_callVX (n := 2) B dL_got_5 (ct_X9_got l g sz0 hA hT hG _ _ hl0 (by omega) (by omega)) gL_got_X9_got rfl (by decide +kernel) ⟨Nat.le_of_ble_eq_true rfl, Nat.le_of_ble_eq_true rfl⟩ hro rfl rfl rfl (Nat.le_of_ble_eq_true rfl) (Nat.le_of_ble_eq_true rfl) (Nat.le_of_ble_eq_true rfl) (fun E h1 hp => ?_) (fun v h1 hp => ?_)
  · obtain ⟨hE, hST⟩ := hp
    rcases hE with ⟨e1, e2⟩ | ⟨e1, e2⟩
    · subst e1
      refine r_catch B htab [] ⟨0, 10, 13, 13⟩ [⟨0, 10, 17, 15⟩] rfl List.mem_cons_self (fun z hz => absurd hz List.not_mem_nil) (by decide) (by decide) w_L_got_kl13 (fun q9 => ?_)
      refine r_astore B dL_got_13 rfl (by decide) (lcat_v rfl rfl) ?_
      refine r_iconst B dL_got_15 ?_
      exact x_ret (r_iret B hr hlk dL_got_16 (Nat.le_of_ble_eq_true rfl) (Nat.le_of_ble_eq_true rfl) ⟨by rw [e2], fun q q0 q1 _ => hST.fr q q0 q1, F, (hST.fr o1 (sm_ne hO) hAo).trans hO, fun y => absurd (e2.symm.trans y) (by decide), fun _ => hST.base⟩)
    · subst e1
      refine r_catch B htab [⟨0, 10, 13, 13⟩] ⟨0, 10, 17, 15⟩ [] rfl (List.mem_cons_of_mem _ List.mem_cons_self) (fun z hz => by rw [List.mem_singleton.mp hz]; exact ⟨by decide, xIA, List.mem_cons_self, by decide, w_L_got_kl13⟩) (by decide) (by decide) w_L_got_kl15 (fun q9 => ?_)
      refine r_astore B dL_got_17 rfl (by decide) (lcat_v rfl rfl) ?_
      refine r_iconst B dL_got_19 ?_
      exact x_ret (r_iret B hr hlk dL_got_20 (Nat.le_of_ble_eq_true rfl) (Nat.le_of_ble_eq_true rfl) ⟨by rw [e2], fun q q0 q1 _ => hST.fr q q0 q1, F, (hST.fr o1 (sm_ne hO) hAo).trans hO, fun y => absurd (e2.symm.trans y) (by decide), fun _ => hST.base⟩)
  obtain ⟨ht0, hv, hST⟩ := hp
  subst v
  dsimp only [Option.toList, List.cons_append, List.nil_append]
  have hO1 := (hST.fr o1 (sm_ne hO) hAo).trans hO
  refine r_i2l B dL_got_8 ?_
  refine r_last B dL_got_9 hO1 (by decide) (by omega) (by omega) ?_
  refine r_goto B dL_got_10 (tgt := 21) (by decide) ?_
  refine r_iconst B dL_got_21 ?_
  exact x_ret (r_iret B hr hlk dL_got_22 (Nat.le_of_ble_eq_true rfl) (Nat.le_of_ble_eq_true rfl) ⟨by rw [ht0], fun q q0 q1 q2 => (if_neg q2).trans (hST.fr q q0 q1), _, if_pos rfl, fun _ => ⟨rfl, hST.out hZo hAo⟩, fun y => absurd ht0 y⟩)
abbrev rmL_setSpeed : Room := { frames := 8, cells := 2, slots := 12, locals := 144 }
theorem w_L_setSpeed_kl13 : Cond.classLink RL 13 "java/lang/IllegalArgumentException" ∈ wsL_setSpeed := by decide +kernel
set_option maxHeartbeats 4000000 in
set_option maxRecDepth 100000 in
theorem ct_L_setSpeed (l : Launch) (g : GG) (sz0 : Nat) {A : Nat → Nat} {Z : Nat → Prop} (hA : AOK A) {h : AH} {mnights mbits mleast mmost mroom mreserve mmount mspeed : Int} {mdata msize mends mmany mkind mchain mholds mbid mbound mcheap mpromised mcoin mpaid mowed : Int → Int} (hT : ST g A Z h mdata msize mends mmany mkind mchain mholds mnights mbits mleast mmost mroom mreserve mmount mspeed mbid mbound mcheap mpromised mcoin mpaid mowed h) (hG : RGm mnights mbits mleast mmost mroom mreserve mmount mspeed msize mbid mbound mcheap mpromised mcoin mpaid mowed) (x y : Int) (hl0 : l.stackTraces = false) (qx : -2147483648 ≤ x ∧ x < 2147483648) (qy : -2147483648 ≤ y ∧ y < 2147483648) : CTX l yL_setSpeed wsL_setSpeed rmL_setSpeed g sz0 [.ref (A 0), .int (iI (x)), .int (iI (y))] h (fun v h' => v = some (.int (iI (tB ((0 ≤ x ∧ x ≤ 30) ∧ (1 ≤ y ∧ y ≤ 50))))) ∧ (∀ q : Nat, h q ≠ none → (∀ i : Nat, i < 27 → q ≠ A i) → h' q = h q) ∧ (tB ((0 ≤ x ∧ x ≤ 30) ∧ (1 ≤ y ∧ y ≤ 50)) = 0 → ST g A Z h' mdata msize mends mmany mkind mchain mholds mnights mbits mleast mmost mroom mreserve x y mbid mbound mcheap mpromised mcoin mpaid mowed h') ∧ (¬ tB ((0 ≤ x ∧ x ≤ 30) ∧ (1 ≤ y ∧ y ≤ 50)) = 0 → ST g A Z h' mdata msize mends mmany mkind mchain mholds mnights mbits mleast mmost mroom mreserve mmount mspeed mbid mbound mcheap mpromised mcoin mpaid mowed h')) (fun _ _ => False) := by
  obtain ⟨fs0, hro⟩ := hT.ro
  refine CTX.ofH (by decide +kernel) rfl [some (.ref (A 0)), some (.int (iI (x))), some (.int (iI (y))), none] rfl (Nat.le_of_ble_eq_true rfl) ?_
  intro p e s m args below meth c B hr hlk htab
  refine r_aload_n B dL_setSpeed_0 rfl rfl ?_
  refine r_iload_n B dL_setSpeed_1 rfl ?_
  refine r_iload_n B dL_setSpeed_2 rfl ?_
  refine r_callVX (n := 2) B dL_setSpeed_3 (ct_X9_setSpeed l g sz0 hA hT hG _ _ hl0 (by omega) (by omega)) gL_setSpeed_X9_setSpeed rfl (by decide +kernel) ⟨Nat.le_of_ble_eq_true rfl, Nat.le_of_ble_eq_true rfl⟩ hro rfl rfl rfl (Nat.le_of_ble_eq_true rfl) (Nat.le_of_ble_eq_true rfl) (Nat.le_of_ble_eq_true rfl) (fun E h1 hp => ?_) (fun v h1 hp => ?_)
  · obtain ⟨hE, hST⟩ := hp
    obtain ⟨e1, e2⟩ := hE
    subst e1
    refine r_catch B htab [] ⟨0, 6, 9, 13⟩ [] rfl List.mem_cons_self (fun z hz => absurd hz List.not_mem_nil) (by decide) (by decide) w_L_setSpeed_kl13 (fun q9 => ?_)
    refine r_astore_n B dL_setSpeed_9 rfl rfl (by decide) (lcat_v rfl rfl) ?_
    refine r_iconst B dL_setSpeed_10 ?_
    exact x_ret (r_iret B hr hlk dL_setSpeed_11 (Nat.le_of_ble_eq_true rfl) (Nat.le_of_ble_eq_true rfl) ⟨by rw [e2], hST.fr, fun y => absurd (e2.symm.trans y) (by decide), fun _ => hST.base⟩)
  obtain ⟨ht0, hv, hST⟩ := hp
  subst v
  dsimp only [Option.toList, List.cons_append, List.nil_append]
  refine r_goto B dL_setSpeed_6 (tgt := 12) (by decide) ?_
  refine r_iconst B dL_setSpeed_12 ?_
  exact x_ret (r_iret B hr hlk dL_setSpeed_13 (Nat.le_of_ble_eq_true rfl) (Nat.le_of_ble_eq_true rfl) ⟨by rw [ht0], hST.fr, fun _ => hST.base, fun y => absurd ht0 y⟩)
abbrev rmL_promise : Room := { frames := 8, cells := 3, slots := 18, locals := 146 }
theorem w_L_promise_kl13 : Cond.classLink RL 13 "java/lang/IllegalArgumentException" ∈ wsL_promise := by decide +kernel
set_option maxHeartbeats 4000000 in
set_option maxRecDepth 100000 in
theorem ct_L_promise (l : Launch) (g : GG) (sz0 : Nat) {A : Nat → Nat} {Z : Nat → Prop} (hA : AOK A) {h : AH} {mnights mbits mleast mmost mroom mreserve mmount mspeed : Int} {mdata msize mends mmany mkind mchain mholds mbid mbound mcheap mpromised mcoin mpaid mowed : Int → Int} (hT : ST g A Z h mdata msize mends mmany mkind mchain mholds mnights mbits mleast mmost mroom mreserve mmount mspeed mbid mbound mcheap mpromised mcoin mpaid mowed h) (hG : RGm mnights mbits mleast mmost mroom mreserve mmount mspeed msize mbid mbound mcheap mpromised mcoin mpaid mowed) (x y z : Int) (hl0 : l.stackTraces = false) (qx : -2147483648 ≤ x ∧ x < 2147483648) (qy : -2147483648 ≤ y ∧ y < 2147483648) (qz : -2147483648 ≤ z ∧ z < 2147483648) : CTX l yL_promise wsL_promise rmL_promise g sz0 [.ref (A 0), .int (iI (x)), .int (iI (y)), .int (iI (z))] h (fun v h' => v = some (.int (iI (tB ((0 ≤ x ∧ x ≤ 3) ∧ (0 ≤ y ∧ y ≤ 600) ∧ (0 ≤ z ∧ z ≤ 100))))) ∧ (∀ q : Nat, h q ≠ none → (∀ i : Nat, i < 27 → q ≠ A i) → h' q = h q) ∧ (tB ((0 ≤ x ∧ x ≤ 3) ∧ (0 ≤ y ∧ y ≤ 600) ∧ (0 ≤ z ∧ z ≤ 100)) = 0 → ST g A Z h' mdata msize mends mmany mkind mchain mholds mnights mbits mleast mmost mroom mreserve mmount mspeed mbid mbound mcheap (upZ mpromised x y) (upZ mcoin x z) mpaid mowed h') ∧ (¬ tB ((0 ≤ x ∧ x ≤ 3) ∧ (0 ≤ y ∧ y ≤ 600) ∧ (0 ≤ z ∧ z ≤ 100)) = 0 → ST g A Z h' mdata msize mends mmany mkind mchain mholds mnights mbits mleast mmost mroom mreserve mmount mspeed mbid mbound mcheap mpromised mcoin mpaid mowed h')) (fun _ _ => False) := by
  obtain ⟨fs0, hro⟩ := hT.ro
  refine CTX.ofH (by decide +kernel) rfl [some (.ref (A 0)), some (.int (iI (x))), some (.int (iI (y))), some (.int (iI (z))), none] rfl (Nat.le_of_ble_eq_true rfl) ?_
  intro p e s m args below meth c B hr hlk htab
  refine r_aload_n B dL_promise_0 rfl rfl ?_
  refine r_iload_n B dL_promise_1 rfl ?_
  refine r_iload_n B dL_promise_2 rfl ?_
  refine r_iload_n B dL_promise_3 rfl ?_
  refine r_callVX (n := 3) B dL_promise_4 (ct_X9_promise l g sz0 hA hT hG _ _ _ hl0 (by omega) (by omega) (by omega)) gL_promise_X9_promise rfl (by decide +kernel) ⟨Nat.le_of_ble_eq_true rfl, Nat.le_of_ble_eq_true rfl⟩ hro rfl rfl rfl (Nat.le_of_ble_eq_true rfl) (Nat.le_of_ble_eq_true rfl) (Nat.le_of_ble_eq_true rfl) (fun E h1 hp => ?_) (fun v h1 hp => ?_)
  · obtain ⟨hE, hST⟩ := hp
    obtain ⟨e1, e2⟩ := hE
    subst e1
    refine r_catch B htab [] ⟨0, 7, 10, 13⟩ [] rfl List.mem_cons_self (fun z hz => absurd hz List.not_mem_nil) (by decide) (by decide) w_L_promise_kl13 (fun q9 => ?_)
    refine r_astore B dL_promise_10 rfl (by decide) (lcat_v rfl rfl) ?_
    refine r_iconst B dL_promise_12 ?_
    exact x_ret (r_iret B hr hlk dL_promise_13 (Nat.le_of_ble_eq_true rfl) (Nat.le_of_ble_eq_true rfl) ⟨by rw [e2], hST.fr, fun y => absurd (e2.symm.trans y) (by decide), fun _ => hST.base⟩)
  obtain ⟨ht0, hv, hST⟩ := hp
  subst v
  dsimp only [Option.toList, List.cons_append, List.nil_append]
  refine r_goto B dL_promise_7 (tgt := 14) (by decide) ?_
  refine r_iconst B dL_promise_14 ?_
  exact x_ret (r_iret B hr hlk dL_promise_15 (Nat.le_of_ble_eq_true rfl) (Nat.le_of_ble_eq_true rfl) ⟨by rw [ht0], hST.fr, fun _ => hST.base, fun y => absurd ht0 y⟩)
abbrev rmL_copy : Room := { frames := 8, cells := 4, slots := 24, locals := 148 }
theorem w_L_copy_kl13 : Cond.classLink RL 13 "java/lang/IllegalArgumentException" ∈ wsL_copy := by decide +kernel
theorem w_L_copy_kl15 : Cond.classLink RL 15 "java/lang/IndexOutOfBoundsException" ∈ wsL_copy := by decide +kernel
theorem w_L_copy_kl17 : Cond.classLink RL 17 "java/lang/IllegalStateException" ∈ wsL_copy := by decide +kernel
set_option maxHeartbeats 4000000 in
set_option maxRecDepth 100000 in
theorem ct_L_copy (l : Launch) (g : GG) (sz0 : Nat) {A : Nat → Nat} {Z : Nat → Prop} (hA : AOK A) {h : AH} {mnights mbits mleast mmost mroom mreserve mmount mspeed : Int} {mdata msize mends mmany mkind mchain mholds mbid mbound mcheap mpromised mcoin mpaid mowed : Int → Int} (hT : ST g A Z h mdata msize mends mmany mkind mchain mholds mnights mbits mleast mmost mroom mreserve mmount mspeed mbid mbound mcheap mpromised mcoin mpaid mowed h) (hG : RGm mnights mbits mleast mmost mroom mreserve mmount mspeed msize mbid mbound mcheap mpromised mcoin mpaid mowed) (x k w y : Int) (hl0 : l.stackTraces = false) (qx : -2147483648 ≤ x ∧ x < 2147483648) (qk : -2147483648 ≤ k ∧ k < 2147483648) (qw : -2147483648 ≤ w ∧ w < 2147483648) (qy : -2147483648 ≤ y ∧ y < 2147483648) {o1 : Nat} {F : Nat → Int64} (hO : h o1 = some (lE g 1 F)) (hZo : Z o1) (hAo : ∀ i : Nat, i < 27 → o1 ≠ A i) : CTX l yL_copy wsL_copy rmL_copy g sz0 [.ref (A 0), .int (iI (x)), .int (iI (k)), .int (iI (w)), .int (iI (y)), .ref o1] h (fun v h' => v = some (.int (iI (tCopy x k w y (msize (240 + x)) (msize (240 + y))))) ∧ (∀ q : Nat, h q ≠ none → (∀ i : Nat, i < 27 → q ≠ A i) → q ≠ o1 → h' q = h q) ∧ ∃ F1 : Nat → Int64, h' o1 = some (lE g 1 F1) ∧ (tCopy x k w y (msize (240 + x)) (msize (240 + y)) = 0 → F1 0 = (iI (msize (240 + y) + w)).toInt64 ∧ ST g A Z h' (cpyF mdata (48 * (240 + y) + msize (240 + y)) (48 * (240 + x) + k) w) (upZ msize (240 + y) (msize (240 + y) + w)) mends mmany mkind mchain mholds mnights mbits mleast mmost mroom mreserve mmount mspeed mbid mbound mcheap mpromised mcoin mpaid mowed h') ∧ (¬ tCopy x k w y (msize (240 + x)) (msize (240 + y)) = 0 → ST g A Z h' mdata msize mends mmany mkind mchain mholds mnights mbits mleast mmost mroom mreserve mmount mspeed mbid mbound mcheap mpromised mcoin mpaid mowed h')) (fun _ _ => False) := by
  obtain ⟨fs0, hro⟩ := hT.ro
  refine CTX.ofH (by decide +kernel) rfl [some (.ref (A 0)), some (.int (iI (x))), some (.int (iI (k))), some (.int (iI (w))), some (.int (iI (y))), some (.ref o1), none] rfl (Nat.le_of_ble_eq_true rfl) ?_
  intro p e s m args below meth c B hr hlk htab
  refine r_aload B dL_copy_0 rfl rfl ?_
  refine r_iconst B dL_copy_2 ?_
  refine r_aload_n B dL_copy_3 rfl rfl ?_
  refine r_iload_n B dL_copy_4 rfl ?_
  refine r_iload_n B dL_copy_5 rfl ?_
  refine r_iload_n B dL_copy_6 rfl ?_
  refine r_iload B dL_copy_7 rfl ?_
  refine r_callVX (n := 4) B dL_copy_9 (ct_X9_copy l g sz0 hA hT hG _ _ _ _ hl0 (by omega) (by omega) (by omega) (by omega)) gL_copy_X9_copy rfl (by decide +kernel) ⟨Nat.le_of_ble_eq_true rfl, Nat.le_of_ble_eq_true rfl⟩ hro rfl rfl rfl (Nat.le_of_ble_eq_true rfl) (Nat.le_of_ble_eq_true rfl) (Nat.le_of_ble_eq_true rfl) (fun E h1 hp => ?_) (fun v h1 hp => ?_)
  · obtain ⟨hE, hST⟩ := hp
    rcases hE with ⟨e1, e2⟩ | ⟨e1, e2⟩ | ⟨e1, e2⟩
    · subst e1
      refine r_catch B htab [] ⟨0, 14, 17, 13⟩ [⟨0, 14, 21, 15⟩, ⟨0, 14, 25, 17⟩] rfl List.mem_cons_self (fun z hz => absurd hz List.not_mem_nil) (by decide) (by decide) w_L_copy_kl13 (fun q9 => ?_)
      refine r_astore B dL_copy_17 rfl (by decide) (lcat_v rfl rfl) ?_
      refine r_iconst B dL_copy_19 ?_
      exact x_ret (r_iret B hr hlk dL_copy_20 (Nat.le_of_ble_eq_true rfl) (Nat.le_of_ble_eq_true rfl) ⟨by rw [e2], fun q q0 q1 _ => hST.fr q q0 q1, F, (hST.fr o1 (sm_ne hO) hAo).trans hO, fun y => absurd (e2.symm.trans y) (by decide), fun _ => hST.base⟩)
    · subst e1
      refine r_catch B htab [⟨0, 14, 17, 13⟩] ⟨0, 14, 21, 15⟩ [⟨0, 14, 25, 17⟩] rfl (List.mem_cons_of_mem _ List.mem_cons_self) (fun z hz => by rw [List.mem_singleton.mp hz]; exact ⟨by decide, xIA, List.mem_cons_self, by decide, w_L_copy_kl13⟩) (by decide) (by decide) w_L_copy_kl15 (fun q9 => ?_)
      refine r_astore B dL_copy_21 rfl (by decide) (lcat_v rfl rfl) ?_
      refine r_iconst B dL_copy_23 ?_
      exact x_ret (r_iret B hr hlk dL_copy_24 (Nat.le_of_ble_eq_true rfl) (Nat.le_of_ble_eq_true rfl) ⟨by rw [e2], fun q q0 q1 _ => hST.fr q q0 q1, F, (hST.fr o1 (sm_ne hO) hAo).trans hO, fun y => absurd (e2.symm.trans y) (by decide), fun _ => hST.base⟩)
    · subst e1
      refine r_catch B htab [⟨0, 14, 17, 13⟩, ⟨0, 14, 21, 15⟩] ⟨0, 14, 25, 17⟩ [] rfl (List.mem_cons_of_mem _ (List.mem_cons_of_mem _ List.mem_cons_self)) (fun z hz => by
          rcases List.mem_cons.mp hz with y | y
          · rw [y]; exact ⟨by decide, xIA, List.mem_cons_self, by decide, w_L_copy_kl13⟩
          · rw [List.mem_singleton.mp y]; exact ⟨by decide, xIO, (List.mem_cons_of_mem _ List.mem_cons_self), by decide, w_L_copy_kl15⟩) (by decide) (by decide) w_L_copy_kl17 (fun q9 => ?_)
      refine r_astore B dL_copy_25 rfl (by decide) (lcat_v rfl rfl) ?_
      refine r_iconst B dL_copy_27 ?_
      exact x_ret (r_iret B hr hlk dL_copy_28 (Nat.le_of_ble_eq_true rfl) (Nat.le_of_ble_eq_true rfl) ⟨by rw [e2], fun q q0 q1 _ => hST.fr q q0 q1, F, (hST.fr o1 (sm_ne hO) hAo).trans hO, fun y => absurd (e2.symm.trans y) (by decide), fun _ => hST.base⟩)
  obtain ⟨ht0, hv, hST⟩ := hp
  subst v
  dsimp only [Option.toList, List.cons_append, List.nil_append]
  have hO1 := (hST.fr o1 (sm_ne hO) hAo).trans hO
  refine r_i2l B dL_copy_12 ?_
  refine r_last B dL_copy_13 hO1 (by decide) (by omega) (by omega) ?_
  refine r_goto B dL_copy_14 (tgt := 29) (by decide) ?_
  refine r_iconst B dL_copy_29 ?_
  exact x_ret (r_iret B hr hlk dL_copy_30 (Nat.le_of_ble_eq_true rfl) (Nat.le_of_ble_eq_true rfl) ⟨by rw [ht0], fun q q0 q1 q2 => (if_neg q2).trans (hST.fr q q0 q1), _, if_pos rfl, fun _ => ⟨rfl, hST.out hZo hAo⟩, fun y => absurd ht0 y⟩)
abbrev rmL_end : Room := { frames := 9, cells := 2, slots := 12, locals := 167 }
theorem w_L_end_kl13 : Cond.classLink RL 13 "java/lang/IllegalArgumentException" ∈ wsL_end := by decide +kernel
theorem w_L_end_kl15 : Cond.classLink RL 15 "java/lang/IndexOutOfBoundsException" ∈ wsL_end := by decide +kernel
set_option maxHeartbeats 4000000 in
set_option maxRecDepth 100000 in
theorem ct_L_end (l : Launch) (g : GG) (sz0 : Nat) {A : Nat → Nat} {Z : Nat → Prop} (hA : AOK A) {h : AH} {mnights mbits mleast mmost mroom mreserve mmount mspeed : Int} {mdata msize mends mmany mkind mchain mholds mbid mbound mcheap mpromised mcoin mpaid mowed : Int → Int} (hT : ST g A Z h mdata msize mends mmany mkind mchain mholds mnights mbits mleast mmost mroom mreserve mmount mspeed mbid mbound mcheap mpromised mcoin mpaid mowed h) (hG : RGm mnights mbits mleast mmost mroom mreserve mmount mspeed msize mbid mbound mcheap mpromised mcoin mpaid mowed) (x y : Int) (hl0 : l.stackTraces = false) (qx : -2147483648 ≤ x ∧ x < 2147483648) (qy : -2147483648 ≤ y ∧ y < 2147483648) {o1 : Nat} {F : Nat → Int64} (hO : h o1 = some (lE g 1 F)) (hZo : Z o1) (hAo : ∀ i : Nat, i < 27 → o1 ≠ A i) : CTX l yL_end wsL_end rmL_end g sz0 [.ref (A 0), .int (iI (x)), .int (iI (y)), .ref o1] h (fun v h' => v = some (.int (iI (tNi x y (cutR (rowF mdata (240 + x)) (msize (240 + x)) mbits mleast mmost).2.1))) ∧ (∀ q : Nat, h q ≠ none → (∀ i : Nat, i < 27 → q ≠ A i) → q ≠ o1 → h' q = h q) ∧ ∃ F1 : Nat → Int64, h' o1 = some (lE g 1 F1) ∧ (tNi x y (cutR (rowF mdata (240 + x)) (msize (240 + x)) mbits mleast mmost).2.1 = 0 → F1 0 = (iI ((cutR (rowF mdata (240 + x)) (msize (240 + x)) mbits mleast mmost).2.2 y)).toInt64 ∧ ST g A Z h' mdata msize mends mmany mkind mchain mholds mnights mbits mleast mmost mroom mreserve mmount mspeed mbid mbound mcheap mpromised mcoin mpaid mowed h') ∧ (¬ tNi x y (cutR (rowF mdata (240 + x)) (msize (240 + x)) mbits mleast mmost).2.1 = 0 → ST g A Z h' mdata msize mends mmany mkind mchain mholds mnights mbits mleast mmost mroom mreserve mmount mspeed mbid mbound mcheap mpromised mcoin mpaid mowed h')) (fun _ _ => False) := by
  obtain ⟨fs0, hro⟩ := hT.ro
  refine CTX.ofH (by decide +kernel) rfl [some (.ref (A 0)), some (.int (iI (x))), some (.int (iI (y))), some (.ref o1), none] rfl (Nat.le_of_ble_eq_true rfl) ?_
  intro p e s m args below meth c B hr hlk htab
  refine r_aload_n B dL_end_0 rfl rfl ?_
  refine r_iconst B dL_end_1 ?_
  refine r_aload_n B dL_end_2 rfl rfl ?_
  refine r_iload_n B dL_end_3 rfl ?_
  refine r_iload_n B dL_end_4 rfl ?_
  refine r_callVX (n := 2) B dL_end_5 (ct_X9_end l g sz0 hA hT hG _ _ hl0 (by omega) (by omega)) gL_end_X9_end rfl (by decide +kernel) ⟨Nat.le_of_ble_eq_true rfl, Nat.le_of_ble_eq_true rfl⟩ hro rfl rfl rfl (Nat.le_of_ble_eq_true rfl) (Nat.le_of_ble_eq_true rfl) (Nat.le_of_ble_eq_true rfl) (fun E h1 hp => ?_) (fun v h1 hp => ?_)
  · obtain ⟨hE, hST⟩ := hp
    rcases hE with ⟨e1, e2⟩ | ⟨e1, e2⟩
    · subst e1
      refine r_catch B htab [] ⟨0, 10, 13, 13⟩ [⟨0, 10, 17, 15⟩] rfl List.mem_cons_self (fun z hz => absurd hz List.not_mem_nil) (by decide) (by decide) w_L_end_kl13 (fun q9 => ?_)
      refine r_astore B dL_end_13 rfl (by decide) (lcat_v rfl rfl) ?_
      refine r_iconst B dL_end_15 ?_
      exact x_ret (r_iret B hr hlk dL_end_16 (Nat.le_of_ble_eq_true rfl) (Nat.le_of_ble_eq_true rfl) ⟨by rw [e2], fun q q0 q1 _ => hST.fr q q0 q1, F, (hST.fr o1 (sm_ne hO) hAo).trans hO, fun y => absurd (e2.symm.trans y) (by decide), fun _ => hST.base⟩)
    · subst e1
      refine r_catch B htab [⟨0, 10, 13, 13⟩] ⟨0, 10, 17, 15⟩ [] rfl (List.mem_cons_of_mem _ List.mem_cons_self) (fun z hz => by rw [List.mem_singleton.mp hz]; exact ⟨by decide, xIA, List.mem_cons_self, by decide, w_L_end_kl13⟩) (by decide) (by decide) w_L_end_kl15 (fun q9 => ?_)
      refine r_astore B dL_end_17 rfl (by decide) (lcat_v rfl rfl) ?_
      refine r_iconst B dL_end_19 ?_
      exact x_ret (r_iret B hr hlk dL_end_20 (Nat.le_of_ble_eq_true rfl) (Nat.le_of_ble_eq_true rfl) ⟨by rw [e2], fun q q0 q1 _ => hST.fr q q0 q1, F, (hST.fr o1 (sm_ne hO) hAo).trans hO, fun y => absurd (e2.symm.trans y) (by decide), fun _ => hST.base⟩)
  obtain ⟨ht0, hv, hST⟩ := hp
  subst v
  dsimp only [Option.toList, List.cons_append, List.nil_append]
  have hO1 := (hST.fr o1 (sm_ne hO) hAo).trans hO
  refine r_i2l B dL_end_8 ?_
  refine r_last B dL_end_9 hO1 (by decide) (by omega) (by omega) ?_
  refine r_goto B dL_end_10 (tgt := 21) (by decide) ?_
  refine r_iconst B dL_end_21 ?_
  exact x_ret (r_iret B hr hlk dL_end_22 (Nat.le_of_ble_eq_true rfl) (Nat.le_of_ble_eq_true rfl) ⟨by rw [ht0], fun q q0 q1 q2 => (if_neg q2).trans (hST.fr q q0 q1), _, if_pos rfl, fun _ => ⟨rfl, hST.out hZo hAo⟩, fun y => absurd ht0 y⟩)
abbrev rmL_would : Room := { frames := 8, cells := 1, slots := 6, locals := 169 }
theorem w_L_would_kl13 : Cond.classLink RL 13 "java/lang/IllegalArgumentException" ∈ wsL_would := by decide +kernel
set_option maxHeartbeats 4000000 in
set_option maxRecDepth 100000 in
theorem ct_L_would (l : Launch) (g : GG) (sz0 : Nat) {A : Nat → Nat} {Z : Nat → Prop} (hA : AOK A) {h : AH} {mnights mbits mleast mmost mroom mreserve mmount mspeed : Int} {mdata msize mends mmany mkind mchain mholds mbid mbound mcheap mpromised mcoin mpaid mowed : Int → Int} (hT : ST g A Z h mdata msize mends mmany mkind mchain mholds mnights mbits mleast mmost mroom mreserve mmount mspeed mbid mbound mcheap mpromised mcoin mpaid mowed h) (hG : RGm mnights mbits mleast mmost mroom mreserve mmount mspeed msize mbid mbound mcheap mpromised mcoin mpaid mowed) (x : Int) (hl0 : l.stackTraces = false) (qx : -2147483648 ≤ x ∧ x < 2147483648) {o1 : Nat} {F : Nat → Int64} (hO : h o1 = some (lE g 1 F)) (hZo : Z o1) (hAo : ∀ i : Nat, i < 27 → o1 ≠ A i) : CTX l yL_would wsL_would rmL_would g sz0 [.ref (A 0), .int (iI (x)), .ref o1] h (fun v h' => v = some (.int (iI (tCl x))) ∧ (∀ q : Nat, h q ≠ none → (∀ i : Nat, i < 27 → q ≠ A i) → q ≠ o1 → h' q = h q) ∧ ∃ F1 : Nat → Int64, h' o1 = some (lE g 1 F1) ∧ (tCl x = 0 → F1 0 = (iI (gtS (wbP mkind mbound mcheap mnights mreserve) (mNC mkind mnights) (mOT mdata msize mends mmany mkind mnights mbits mleast mmost) (mAK mdata msize mends mmany mkind mbid mbound mcheap mnights mreserve mbits mleast mmost) (mBS mdata msize mbits mleast mmost) (mDF mdata msize mends mmany mkind mchain mholds mnights mbits mleast mmost) mroom mbid x)).toInt64 ∧ ST g A Z h' mdata msize mends mmany mkind mchain mholds mnights mbits mleast mmost mroom mreserve mmount mspeed mbid mbound mcheap mpromised mcoin mpaid mowed h') ∧ (¬ tCl x = 0 → ST g A Z h' mdata msize mends mmany mkind mchain mholds mnights mbits mleast mmost mroom mreserve mmount mspeed mbid mbound mcheap mpromised mcoin mpaid mowed h')) (fun _ _ => False) := by
  obtain ⟨fs0, hro⟩ := hT.ro
  refine CTX.ofH (by decide +kernel) rfl [some (.ref (A 0)), some (.int (iI (x))), some (.ref o1), none] rfl (Nat.le_of_ble_eq_true rfl) ?_
  intro p e s m args below meth c B hr hlk htab
  refine r_aload_n B dL_would_0 rfl rfl ?_
  refine r_iconst B dL_would_1 ?_
  refine r_aload_n B dL_would_2 rfl rfl ?_
  refine r_iload_n B dL_would_3 rfl ?_
  refine r_callVX (n := 1) B dL_would_4 (ct_X9_would l g sz0 hA hT hG _ hl0 (by omega)) gL_would_X9_would rfl (by decide +kernel) ⟨Nat.le_of_ble_eq_true rfl, Nat.le_of_ble_eq_true rfl⟩ hro rfl rfl rfl (Nat.le_of_ble_eq_true rfl) (Nat.le_of_ble_eq_true rfl) (Nat.le_of_ble_eq_true rfl) (fun E h1 hp => ?_) (fun v h1 hp => ?_)
  · obtain ⟨hE, hST⟩ := hp
    obtain ⟨e1, e2⟩ := hE
    subst e1
    refine r_catch B htab [] ⟨0, 9, 12, 13⟩ [] rfl List.mem_cons_self (fun z hz => absurd hz List.not_mem_nil) (by decide) (by decide) w_L_would_kl13 (fun q9 => ?_)
    refine r_astore_n B dL_would_12 rfl rfl (by decide) (lcat_v rfl rfl) ?_
    refine r_iconst B dL_would_13 ?_
    exact x_ret (r_iret B hr hlk dL_would_14 (Nat.le_of_ble_eq_true rfl) (Nat.le_of_ble_eq_true rfl) ⟨by rw [e2], fun q q0 q1 _ => hST.fr q q0 q1, F, (hST.fr o1 (sm_ne hO) hAo).trans hO, fun y => absurd (e2.symm.trans y) (by decide), fun _ => hST.base⟩)
  obtain ⟨ht0, hv, hST⟩ := hp
  subst v
  dsimp only [Option.toList, List.cons_append, List.nil_append]
  have hO1 := (hST.fr o1 (sm_ne hO) hAo).trans hO
  refine r_i2l B dL_would_7 ?_
  refine r_last B dL_would_8 hO1 (by decide) (by omega) (by omega) ?_
  refine r_goto B dL_would_9 (tgt := 15) (by decide) ?_
  refine r_iconst B dL_would_15 ?_
  exact x_ret (r_iret B hr hlk dL_would_16 (Nat.le_of_ble_eq_true rfl) (Nat.le_of_ble_eq_true rfl) ⟨by rw [ht0], fun q q0 q1 q2 => (if_neg q2).trans (hST.fr q q0 q1), _, if_pos rfl, fun _ => ⟨rfl, hST.out hZo hAo⟩, fun y => absurd ht0 y⟩)
