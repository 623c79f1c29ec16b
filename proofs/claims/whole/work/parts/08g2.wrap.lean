abbrev rmL_owed : Room := { frames := 8, cells := 1, slots := 6, locals := 143 }
theorem w_L_owed_kl13 : Cond.classLink RL 13 "java/lang/IllegalArgumentException" ∈ wsL_owed := by decide +kernel
set_option maxHeartbeats 4000000 in
set_option maxRecDepth 100000 in
theorem ct_L_owed (l : Launch) (g : GG) (sz0 : Nat) {A : Nat → Nat} {Z : Nat → Prop} (hA : AOK A) {h : AH} {mnights mbits mleast mmost mroom mreserve mmount mspeed : Int} {mdata msize mends mmany mkind mchain mholds mbid mbound mcheap mpromised mcoin mpaid mowed : Int → Int} (hT : ST g A Z h mdata msize mends mmany mkind mchain mholds mnights mbits mleast mmost mroom mreserve mmount mspeed mbid mbound mcheap mpromised mcoin mpaid mowed h) (hG : RGm mnights mbits mleast mmost mroom mreserve mmount mspeed msize mbid mbound mcheap mpromised mcoin mpaid mowed) (x : Int) (hl0 : l.stackTraces = false) (qx : -2147483648 ≤ x ∧ x < 2147483648) {o1 : Nat} {F : Nat → Int64} (hO : h o1 = some (lE g 1 F)) (hZo : Z o1) (hAo : ∀ i : Nat, i < 27 → o1 ≠ A i) : CTX l yL_owed wsL_owed rmL_owed g sz0 [.ref (A 0), .int (iI (x)), .ref o1] h (fun v h' => v = some (.int (iI (tCl x))) ∧ (∀ q : Nat, h q ≠ none → (∀ i : Nat, i < 27 → q ≠ A i) → q ≠ o1 → h' q = h q) ∧ ∃ F1 : Nat → Int64, h' o1 = some (lE g 1 F1) ∧ (tCl x = 0 → F1 0 = (iI (mowed x)).toInt64 ∧ ST g A Z h' mdata msize mends mmany mkind mchain mholds mnights mbits mleast mmost mroom mreserve mmount mspeed mbid mbound mcheap mpromised mcoin mpaid mowed h') ∧ (¬ tCl x = 0 → ST g A Z h' mdata msize mends mmany mkind mchain mholds mnights mbits mleast mmost mroom mreserve mmount mspeed mbid mbound mcheap mpromised mcoin mpaid mowed h')) (fun _ _ => False) := by
  obtain ⟨fs0, hro⟩ := hT.ro
  refine CTX.ofH (by decide +kernel) rfl [some (.ref (A 0)), some (.int (iI (x))), some (.ref o1), none] rfl (Nat.le_of_ble_eq_true rfl) ?_
  intro p e s m args below meth c B hr hlk htab
  refine r_aload_n B dL_owed_0 rfl rfl ?_
  refine r_iconst B dL_owed_1 ?_
  refine r_aload_n B dL_owed_2 rfl rfl ?_
  refine r_iload_n B dL_owed_3 rfl ?_
  refine r_callVX (n := 1) B dL_owed_4 (ct_X9_owed l g sz0 hA hT hG _ hl0 (by omega)) gL_owed_X9_owed rfl (by decide +kernel) ⟨Nat.le_of_ble_eq_true rfl, Nat.le_of_ble_eq_true rfl⟩ hro rfl rfl rfl (Nat.le_of_ble_eq_true rfl) (Nat.le_of_ble_eq_true rfl) (Nat.le_of_ble_eq_true rfl) (fun E h1 hp => ?_) (fun v h1 hp => ?_)
  · obtain ⟨hE, hST⟩ := hp
    obtain ⟨e1, e2⟩ := hE
    subst e1
    refine r_catch B htab [] ⟨0, 9, 12, 13⟩ [] rfl List.mem_cons_self (fun z hz => absurd hz List.not_mem_nil) (by decide) (by decide) w_L_owed_kl13 (fun q9 => ?_)
    refine r_astore_n B dL_owed_12 rfl rfl (by decide) (lcat_v rfl rfl) ?_
    refine r_iconst B dL_owed_13 ?_
    exact x_ret (r_iret B hr hlk dL_owed_14 (Nat.le_of_ble_eq_true rfl) (Nat.le_of_ble_eq_true rfl) ⟨by rw [e2], fun q q0 q1 _ => hST.fr q q0 q1, F, (hST.fr o1 (sm_ne hO) hAo).trans hO, fun y => absurd (e2.symm.trans y) (by decide), fun _ => hST.base⟩)
  obtain ⟨ht0, hv, hST⟩ := hp
  subst v
  dsimp only [Option.toList, List.cons_append, List.nil_append]
  have hO1 := (hST.fr o1 (sm_ne hO) hAo).trans hO
  refine r_i2l B dL_owed_7 ?_
  refine r_last B dL_owed_8 hO1 (by decide) (by omega) (by omega) ?_
  refine r_goto B dL_owed_9 (tgt := 15) (by decide) ?_
  refine r_iconst B dL_owed_15 ?_
  exact x_ret (r_iret B hr hlk dL_owed_16 (Nat.le_of_ble_eq_true rfl) (Nat.le_of_ble_eq_true rfl) ⟨by rw [ht0], fun q q0 q1 q2 => (if_neg q2).trans (hST.fr q q0 q1), _, if_pos rfl, fun _ => ⟨rfl, hST.out hZo hAo⟩, fun y => absurd ht0 y⟩)
abbrev rmL_bytes : Room := { frames := 9, cells := 3, slots := 18, locals := 168 }
theorem w_L_bytes_kl13 : Cond.classLink RL 13 "java/lang/IllegalArgumentException" ∈ wsL_bytes := by decide +kernel
theorem w_L_bytes_kl15 : Cond.classLink RL 15 "java/lang/IndexOutOfBoundsException" ∈ wsL_bytes := by decide +kernel
theorem w_L_bytes_kl17 : Cond.classLink RL 17 "java/lang/IllegalStateException" ∈ wsL_bytes := by decide +kernel
set_option maxHeartbeats 4000000 in
set_option maxRecDepth 100000 in
theorem ct_L_bytes (l : Launch) (g : GG) (sz0 : Nat) {A : Nat → Nat} {Z : Nat → Prop} (hA : AOK A) {h : AH} {mnights mbits mleast mmost mroom mreserve mmount mspeed : Int} {mdata msize mends mmany mkind mchain mholds mbid mbound mcheap mpromised mcoin mpaid mowed : Int → Int} (hT : ST g A Z h mdata msize mends mmany mkind mchain mholds mnights mbits mleast mmost mroom mreserve mmount mspeed mbid mbound mcheap mpromised mcoin mpaid mowed h) (hG : RGm mnights mbits mleast mmost mroom mreserve mmount mspeed msize mbid mbound mcheap mpromised mcoin mpaid mowed) (x k : Int) (hl0 : l.stackTraces = false) (qx : -2147483648 ≤ x ∧ x < 2147483648) (qk : -2147483648 ≤ k ∧ k < 2147483648) {o1 : Nat} {F : Nat → Int64} (hO : h o1 = some (lE g 1 F)) (hZo : Z o1) (hAo : ∀ i : Nat, i < 27 → o1 ≠ A i) : CTX l yL_bytes wsL_bytes rmL_bytes g sz0 [.ref (A 0), .int (iI (x)), .int (iI (k)), .ref o1] h (fun v h' => v = some (.int (iI (tAsk x k mnights (mkind (60 * x + k))))) ∧ (∀ q : Nat, h q ≠ none → (∀ i : Nat, i < 27 → q ≠ A i) → q ≠ o1 → h' q = h q) ∧ ∃ F1 : Nat → Int64, h' o1 = some (lE g 1 F1) ∧ (tAsk x k mnights (mkind (60 * x + k)) = 0 → F1 0 = (iI (mmany (60 * x + k) + sumZ (fun j => bI (rowF mholds (60 * x + k) j ≠ 0) * lnF (rowF mends (60 * x + k)) j) (mmany (60 * x + k)).toNat)).toInt64 ∧ ST g A Z h' mdata msize mends mmany mkind mchain mholds mnights mbits mleast mmost mroom mreserve mmount mspeed mbid mbound mcheap mpromised mcoin mpaid mowed h') ∧ (¬ tAsk x k mnights (mkind (60 * x + k)) = 0 → ST g A Z h' mdata msize mends mmany mkind mchain mholds mnights mbits mleast mmost mroom mreserve mmount mspeed mbid mbound mcheap mpromised mcoin mpaid mowed h')) (fun _ _ => False) := by
  obtain ⟨fs0, hro⟩ := hT.ro
  refine CTX.ofH (by decide +kernel) rfl [some (.ref (A 0)), some (.int (iI (x))), some (.int (iI (k))), some (.ref o1), none] rfl (Nat.le_of_ble_eq_true rfl) ?_
  intro p e s m args below meth c B hr hlk htab
  refine r_aload_n B dL_bytes_0 rfl rfl ?_
  refine r_iconst B dL_bytes_1 ?_
  refine r_aload_n B dL_bytes_2 rfl rfl ?_
  refine r_iload_n B dL_bytes_3 rfl ?_
  refine r_iload_n B dL_bytes_4 rfl ?_
  refine r_callVX (n := 2) B dL_bytes_5 (ct_X9_bytes l g sz0 hA hT hG _ _ hl0 (by omega) (by omega)) gL_bytes_X9_bytes rfl (by decide +kernel) ⟨Nat.le_of_ble_eq_true rfl, Nat.le_of_ble_eq_true rfl⟩ hro rfl rfl rfl (Nat.le_of_ble_eq_true rfl) (Nat.le_of_ble_eq_true rfl) (Nat.le_of_ble_eq_true rfl) (fun E h1 hp => ?_) (fun v h1 hp => ?_)
  · obtain ⟨hE, hST⟩ := hp
    rcases hE with ⟨e1, e2⟩ | ⟨e1, e2⟩ | ⟨e1, e2⟩
    · subst e1
      refine r_catch B htab [] ⟨0, 10, 13, 13⟩ [⟨0, 10, 17, 15⟩, ⟨0, 10, 21, 17⟩] rfl List.mem_cons_self (fun z hz => absurd hz List.not_mem_nil) (by decide) (by decide) w_L_bytes_kl13 (fun q9 => ?_)
      refine r_astore B dL_bytes_13 rfl (by decide) (lcat_v rfl rfl) ?_
      refine r_iconst B dL_bytes_15 ?_
      exact x_ret (r_iret B hr hlk dL_bytes_16 (Nat.le_of_ble_eq_true rfl) (Nat.le_of_ble_eq_true rfl) ⟨by rw [e2], fun q q0 q1 _ => hST.fr q q0 q1, F, (hST.fr o1 (sm_ne hO) hAo).trans hO, fun y => absurd (e2.symm.trans y) (by decide), fun _ => hST.base⟩)
    · subst e1
      refine r_catch B htab [⟨0, 10, 13, 13⟩] ⟨0, 10, 17, 15⟩ [⟨0, 10, 21, 17⟩] rfl (List.mem_cons_of_mem _ List.mem_cons_self) (fun z hz => by rw [List.mem_singleton.mp hz]; exact ⟨by decide, xIA, List.mem_cons_self, by decide, w_L_bytes_kl13⟩) (by decide) (by decide) w_L_bytes_kl15 (fun q9 => ?_)
      refine r_astore B dL_bytes_17 rfl (by decide) (lcat_v rfl rfl) ?_
      refine r_iconst B dL_bytes_19 ?_
      exact x_ret (r_iret B hr hlk dL_bytes_20 (Nat.le_of_ble_eq_true rfl) (Nat.le_of_ble_eq_true rfl) ⟨by rw [e2], fun q q0 q1 _ => hST.fr q q0 q1, F, (hST.fr o1 (sm_ne hO) hAo).trans hO, fun y => absurd (e2.symm.trans y) (by decide), fun _ => hST.base⟩)
    · subst e1
      refine r_catch B htab [⟨0, 10, 13, 13⟩, ⟨0, 10, 17, 15⟩] ⟨0, 10, 21, 17⟩ [] rfl (List.mem_cons_of_mem _ (List.mem_cons_of_mem _ List.mem_cons_self)) (fun z hz => by
          rcases List.mem_cons.mp hz with y | y
          · rw [y]; exact ⟨by decide, xIA, List.mem_cons_self, by decide, w_L_bytes_kl13⟩
          · rw [List.mem_singleton.mp y]; exact ⟨by decide, xIO, (List.mem_cons_of_mem _ List.mem_cons_self), by decide, w_L_bytes_kl15⟩) (by decide) (by decide) w_L_bytes_kl17 (fun q9 => ?_)
      refine r_astore B dL_bytes_21 rfl (by decide) (lcat_v rfl rfl) ?_
      refine r_iconst B dL_bytes_23 ?_
      exact x_ret (r_iret B hr hlk dL_bytes_24 (Nat.le_of_ble_eq_true rfl) (Nat.le_of_ble_eq_true rfl) ⟨by rw [e2], fun q q0 q1 _ => hST.fr q q0 q1, F, (hST.fr o1 (sm_ne hO) hAo).trans hO, fun y => absurd (e2.symm.trans y) (by decide), fun _ => hST.base⟩)
  obtain ⟨ht0, hv, hST⟩ := hp
  subst v
  dsimp only [Option.toList, List.cons_append, List.nil_append]
  have hO1 := (hST.fr o1 (sm_ne hO) hAo).trans hO
  refine r_i2l B dL_bytes_8 ?_
  refine r_last B dL_bytes_9 hO1 (by decide) (by omega) (by omega) ?_
  refine r_goto B dL_bytes_10 (tgt := 25) (by decide) ?_
  refine r_iconst B dL_bytes_25 ?_
  exact x_ret (r_iret B hr hlk dL_bytes_26 (Nat.le_of_ble_eq_true rfl) (Nat.le_of_ble_eq_true rfl) ⟨by rw [ht0], fun q q0 q1 q2 => (if_neg q2).trans (hST.fr q q0 q1), _, if_pos rfl, fun _ => ⟨rfl, hST.out hZo hAo⟩, fun y => absurd ht0 y⟩)
abbrev rmL_digestOf : Room := { frames := 9, cells := 3, slots := 18, locals := 168 }
theorem w_L_digestOf_kl13 : Cond.classLink RL 13 "java/lang/IllegalArgumentException" ∈ wsL_digestOf := by decide +kernel
theorem w_L_digestOf_kl15 : Cond.classLink RL 15 "java/lang/IndexOutOfBoundsException" ∈ wsL_digestOf := by decide +kernel
theorem w_L_digestOf_kl17 : Cond.classLink RL 17 "java/lang/IllegalStateException" ∈ wsL_digestOf := by decide +kernel
set_option maxHeartbeats 4000000 in
set_option maxRecDepth 100000 in
theorem ct_L_digestOf (l : Launch) (g : GG) (sz0 : Nat) {A : Nat → Nat} {Z : Nat → Prop} (hA : AOK A) {h : AH} {mnights mbits mleast mmost mroom mreserve mmount mspeed : Int} {mdata msize mends mmany mkind mchain mholds mbid mbound mcheap mpromised mcoin mpaid mowed : Int → Int} (hT : ST g A Z h mdata msize mends mmany mkind mchain mholds mnights mbits mleast mmost mroom mreserve mmount mspeed mbid mbound mcheap mpromised mcoin mpaid mowed h) (hG : RGm mnights mbits mleast mmost mroom mreserve mmount mspeed msize mbid mbound mcheap mpromised mcoin mpaid mowed) (x k : Int) (hl0 : l.stackTraces = false) (qx : -2147483648 ≤ x ∧ x < 2147483648) (qk : -2147483648 ≤ k ∧ k < 2147483648) {o1 : Nat} {F : Nat → Int64} (hO : h o1 = some (lE g 1 F)) (hZo : Z o1) (hAo : ∀ i : Nat, i < 27 → o1 ≠ A i) : CTX l yL_digestOf wsL_digestOf rmL_digestOf g sz0 [.ref (A 0), .int (iI (x)), .int (iI (k)), .ref o1] h (fun v h' => v = some (.int (iI (tAsk x k mnights (mkind (60 * x + k))))) ∧ (∀ q : Nat, h q ≠ none → (∀ i : Nat, i < 27 → q ≠ A i) → q ≠ o1 → h' q = h q) ∧ ∃ F1 : Nat → Int64, h' o1 = some (lE g 1 F1) ∧ (tAsk x k mnights (mkind (60 * x + k)) = 0 → F1 0 = (dig (rowF mdata (60 * x + k)) (msize (60 * x + k)).toNat) ∧ ST g A Z h' mdata msize mends mmany mkind mchain mholds mnights mbits mleast mmost mroom mreserve mmount mspeed mbid mbound mcheap mpromised mcoin mpaid mowed h') ∧ (¬ tAsk x k mnights (mkind (60 * x + k)) = 0 → ST g A Z h' mdata msize mends mmany mkind mchain mholds mnights mbits mleast mmost mroom mreserve mmount mspeed mbid mbound mcheap mpromised mcoin mpaid mowed h')) (fun _ _ => False) := by
  obtain ⟨fs0, hro⟩ := hT.ro
  refine CTX.ofH (by decide +kernel) rfl [some (.ref (A 0)), some (.int (iI (x))), some (.int (iI (k))), some (.ref o1), none] rfl (Nat.le_of_ble_eq_true rfl) ?_
  intro p e s m args below meth c B hr hlk htab
  refine r_aload_n B dL_digestOf_0 rfl rfl ?_
  refine r_iconst B dL_digestOf_1 ?_
  refine r_aload_n B dL_digestOf_2 rfl rfl ?_
  refine r_iload_n B dL_digestOf_3 rfl ?_
  refine r_iload_n B dL_digestOf_4 rfl ?_
  refine r_callVX (n := 2) B dL_digestOf_5 (ct_X9_digestOf l g sz0 hA hT hG _ _ hl0 (by omega) (by omega)) gL_digestOf_X9_digestOf rfl (by decide +kernel) ⟨Nat.le_of_ble_eq_true rfl, Nat.le_of_ble_eq_true rfl⟩ hro rfl rfl rfl (Nat.le_of_ble_eq_true rfl) (Nat.le_of_ble_eq_true rfl) (Nat.le_of_ble_eq_true rfl) (fun E h1 hp => ?_) (fun v h1 hp => ?_)
  · obtain ⟨hE, hST⟩ := hp
    rcases hE with ⟨e1, e2⟩ | ⟨e1, e2⟩ | ⟨e1, e2⟩
    · subst e1
      refine r_catch B htab [] ⟨0, 9, 12, 13⟩ [⟨0, 9, 16, 15⟩, ⟨0, 9, 20, 17⟩] rfl List.mem_cons_self (fun z hz => absurd hz List.not_mem_nil) (by decide) (by decide) w_L_digestOf_kl13 (fun q9 => ?_)
      refine r_astore B dL_digestOf_12 rfl (by decide) (lcat_v rfl rfl) ?_
      refine r_iconst B dL_digestOf_14 ?_
      exact x_ret (r_iret B hr hlk dL_digestOf_15 (Nat.le_of_ble_eq_true rfl) (Nat.le_of_ble_eq_true rfl) ⟨by rw [e2], fun q q0 q1 _ => hST.fr q q0 q1, F, (hST.fr o1 (sm_ne hO) hAo).trans hO, fun y => absurd (e2.symm.trans y) (by decide), fun _ => hST.base⟩)
    · subst e1
      refine r_catch B htab [⟨0, 9, 12, 13⟩] ⟨0, 9, 16, 15⟩ [⟨0, 9, 20, 17⟩] rfl (List.mem_cons_of_mem _ List.mem_cons_self) (fun z hz => by rw [List.mem_singleton.mp hz]; exact ⟨by decide, xIA, List.mem_cons_self, by decide, w_L_digestOf_kl13⟩) (by decide) (by decide) w_L_digestOf_kl15 (fun q9 => ?_)
      refine r_astore B dL_digestOf_16 rfl (by decide) (lcat_v rfl rfl) ?_
      refine r_iconst B dL_digestOf_18 ?_
      exact x_ret (r_iret B hr hlk dL_digestOf_19 (Nat.le_of_ble_eq_true rfl) (Nat.le_of_ble_eq_true rfl) ⟨by rw [e2], fun q q0 q1 _ => hST.fr q q0 q1, F, (hST.fr o1 (sm_ne hO) hAo).trans hO, fun y => absurd (e2.symm.trans y) (by decide), fun _ => hST.base⟩)
    · subst e1
      refine r_catch B htab [⟨0, 9, 12, 13⟩, ⟨0, 9, 16, 15⟩] ⟨0, 9, 20, 17⟩ [] rfl (List.mem_cons_of_mem _ (List.mem_cons_of_mem _ List.mem_cons_self)) (fun z hz => by
          rcases List.mem_cons.mp hz with y | y
          · rw [y]; exact ⟨by decide, xIA, List.mem_cons_self, by decide, w_L_digestOf_kl13⟩
          · rw [List.mem_singleton.mp y]; exact ⟨by decide, xIO, (List.mem_cons_of_mem _ List.mem_cons_self), by decide, w_L_digestOf_kl15⟩) (by decide) (by decide) w_L_digestOf_kl17 (fun q9 => ?_)
      refine r_astore B dL_digestOf_20 rfl (by decide) (lcat_v rfl rfl) ?_
      refine r_iconst B dL_digestOf_22 ?_
      exact x_ret (r_iret B hr hlk dL_digestOf_23 (Nat.le_of_ble_eq_true rfl) (Nat.le_of_ble_eq_true rfl) ⟨by rw [e2], fun q q0 q1 _ => hST.fr q q0 q1, F, (hST.fr o1 (sm_ne hO) hAo).trans hO, fun y => absurd (e2.symm.trans y) (by decide), fun _ => hST.base⟩)
  obtain ⟨ht0, hv, hST⟩ := hp
  subst v
  dsimp only [Option.toList, List.cons_append, List.nil_append]
  have hO1 := (hST.fr o1 (sm_ne hO) hAo).trans hO
  refine r_last B dL_digestOf_8 hO1 (by decide) (by omega) (by omega) ?_
  refine r_goto B dL_digestOf_9 (tgt := 24) (by decide) ?_
  refine r_iconst B dL_digestOf_24 ?_
  exact x_ret (r_iret B hr hlk dL_digestOf_25 (Nat.le_of_ble_eq_true rfl) (Nat.le_of_ble_eq_true rfl) ⟨by rw [ht0], fun q q0 q1 q2 => (if_neg q2).trans (hST.fr q q0 q1), _, if_pos rfl, fun _ => ⟨rfl, hST.out hZo hAo⟩, fun y => absurd ht0 y⟩)
abbrev rmL_minutes : Room := { frames := 9, cells := 3, slots := 18, locals := 168 }
theorem w_L_minutes_kl13 : Cond.classLink RL 13 "java/lang/IllegalArgumentException" ∈ wsL_minutes := by decide +kernel
theorem w_L_minutes_kl15 : Cond.classLink RL 15 "java/lang/IndexOutOfBoundsException" ∈ wsL_minutes := by decide +kernel
theorem w_L_minutes_kl17 : Cond.classLink RL 17 "java/lang/IllegalStateException" ∈ wsL_minutes := by decide +kernel
set_option maxHeartbeats 4000000 in
set_option maxRecDepth 100000 in
theorem ct_L_minutes (l : Launch) (g : GG) (sz0 : Nat) {A : Nat → Nat} {Z : Nat → Prop} (hA : AOK A) {h : AH} {mnights mbits mleast mmost mroom mreserve mmount mspeed : Int} {mdata msize mends mmany mkind mchain mholds mbid mbound mcheap mpromised mcoin mpaid mowed : Int → Int} (hT : ST g A Z h mdata msize mends mmany mkind mchain mholds mnights mbits mleast mmost mroom mreserve mmount mspeed mbid mbound mcheap mpromised mcoin mpaid mowed h) (hG : RGm mnights mbits mleast mmost mroom mreserve mmount mspeed msize mbid mbound mcheap mpromised mcoin mpaid mowed) (x k : Int) (hl0 : l.stackTraces = false) (qx : -2147483648 ≤ x ∧ x < 2147483648) (qk : -2147483648 ≤ k ∧ k < 2147483648) {o1 : Nat} {F : Nat → UInt64} (hO : h o1 = some (dE g 1 F)) (hZo : Z o1) (hAo : ∀ i : Nat, i < 27 → o1 ≠ A i) : CTX l yL_minutes wsL_minutes rmL_minutes g sz0 [.ref (A 0), .int (iI (x)), .int (iI (k)), .ref o1] h (fun v h' => v = some (.int (iI (tAsk x k mnights (mkind (60 * x + k))))) ∧ (∀ q : Nat, h q ≠ none → (∀ i : Nat, i < 27 → q ≠ A i) → q ≠ o1 → h' q = h q) ∧ ∃ F1 : Nat → UInt64, h' o1 = some (dE g 1 F1) ∧ (tAsk x k mnights (mkind (60 * x + k)) = 0 → F1 0 = (FP.f2d (mnF (mmount * (mntM mdata mends mmany mkind mchain mholds mnights x k)) (baseB (rowF mdata (60 * x + k)) (rowF mends (60 * x + k)) (mmany (60 * x + k))) mspeed)) ∧ ST g A Z h' mdata msize mends mmany mkind mchain mholds mnights mbits mleast mmost mroom mreserve mmount mspeed mbid mbound mcheap mpromised mcoin mpaid mowed h') ∧ (¬ tAsk x k mnights (mkind (60 * x + k)) = 0 → ST g A Z h' mdata msize mends mmany mkind mchain mholds mnights mbits mleast mmost mroom mreserve mmount mspeed mbid mbound mcheap mpromised mcoin mpaid mowed h')) (fun _ _ => False) := by
  obtain ⟨fs0, hro⟩ := hT.ro
  refine CTX.ofH (by decide +kernel) rfl [some (.ref (A 0)), some (.int (iI (x))), some (.int (iI (k))), some (.ref o1), none] rfl (Nat.le_of_ble_eq_true rfl) ?_
  intro p e s m args below meth c B hr hlk htab
  refine r_aload_n B dL_minutes_0 rfl rfl ?_
  refine r_iconst B dL_minutes_1 ?_
  refine r_aload_n B dL_minutes_2 rfl rfl ?_
  refine r_iload_n B dL_minutes_3 rfl ?_
  refine r_iload_n B dL_minutes_4 rfl ?_
  refine r_callVX (n := 2) B dL_minutes_5 (ct_X9_minutes l g sz0 hA hT hG _ _ hl0 (by omega) (by omega)) gL_minutes_X9_minutes rfl (by decide +kernel) ⟨Nat.le_of_ble_eq_true rfl, Nat.le_of_ble_eq_true rfl⟩ hro rfl rfl rfl (Nat.le_of_ble_eq_true rfl) (Nat.le_of_ble_eq_true rfl) (Nat.le_of_ble_eq_true rfl) (fun E h1 hp => ?_) (fun v h1 hp => ?_)
  · obtain ⟨hE, hST⟩ := hp
    rcases hE with ⟨e1, e2⟩ | ⟨e1, e2⟩ | ⟨e1, e2⟩
    · subst e1
      refine r_catch B htab [] ⟨0, 10, 13, 13⟩ [⟨0, 10, 17, 15⟩, ⟨0, 10, 21, 17⟩] rfl List.mem_cons_self (fun z hz => absurd hz List.not_mem_nil) (by decide) (by decide) w_L_minutes_kl13 (fun q9 => ?_)
      refine r_astore B dL_minutes_13 rfl (by decide) (lcat_v rfl rfl) ?_
      refine r_iconst B dL_minutes_15 ?_
      exact x_ret (r_iret B hr hlk dL_minutes_16 (Nat.le_of_ble_eq_true rfl) (Nat.le_of_ble_eq_true rfl) ⟨by rw [e2], fun q q0 q1 _ => hST.fr q q0 q1, F, (hST.fr o1 (sm_ne hO) hAo).trans hO, fun y => absurd (e2.symm.trans y) (by decide), fun _ => hST.base⟩)
    · subst e1
      refine r_catch B htab [⟨0, 10, 13, 13⟩] ⟨0, 10, 17, 15⟩ [⟨0, 10, 21, 17⟩] rfl (List.mem_cons_of_mem _ List.mem_cons_self) (fun z hz => by rw [List.mem_singleton.mp hz]; exact ⟨by decide, xIA, List.mem_cons_self, by decide, w_L_minutes_kl13⟩) (by decide) (by decide) w_L_minutes_kl15 (fun q9 => ?_)
      refine r_astore B dL_minutes_17 rfl (by decide) (lcat_v rfl rfl) ?_
      refine r_iconst B dL_minutes_19 ?_
      exact x_ret (r_iret B hr hlk dL_minutes_20 (Nat.le_of_ble_eq_true rfl) (Nat.le_of_ble_eq_true rfl) ⟨by rw [e2], fun q q0 q1 _ => hST.fr q q0 q1, F, (hST.fr o1 (sm_ne hO) hAo).trans hO, fun y => absurd (e2.symm.trans y) (by decide), fun _ => hST.base⟩)
    · subst e1
      refine r_catch B htab [⟨0, 10, 13, 13⟩, ⟨0, 10, 17, 15⟩] ⟨0, 10, 21, 17⟩ [] rfl (List.mem_cons_of_mem _ (List.mem_cons_of_mem _ List.mem_cons_self)) (fun z hz => by
          rcases List.mem_cons.mp hz with y | y
          · rw [y]; exact ⟨by decide, xIA, List.mem_cons_self, by decide, w_L_minutes_kl13⟩
          · rw [List.mem_singleton.mp y]; exact ⟨by decide, xIO, (List.mem_cons_of_mem _ List.mem_cons_self), by decide, w_L_minutes_kl15⟩) (by decide) (by decide) w_L_minutes_kl17 (fun q9 => ?_)
      refine r_astore B dL_minutes_21 rfl (by decide) (lcat_v rfl rfl) ?_
      refine r_iconst B dL_minutes_23 ?_
      exact x_ret (r_iret B hr hlk dL_minutes_24 (Nat.le_of_ble_eq_true rfl) (Nat.le_of_ble_eq_true rfl) ⟨by rw [e2], fun q q0 q1 _ => hST.fr q q0 q1, F, (hST.fr o1 (sm_ne hO) hAo).trans hO, fun y => absurd (e2.symm.trans y) (by decide), fun _ => hST.base⟩)
  obtain ⟨ht0, hv, hST⟩ := hp
  subst v
  dsimp only [Option.toList, List.cons_append, List.nil_append]
  have hO1 := (hST.fr o1 (sm_ne hO) hAo).trans hO
  refine r_f2d B dL_minutes_8 (mn_ok (by have := hG.2.2.2.1; omega)) ?_
  refine r_dast B dL_minutes_9 hO1 (by decide) (by omega) (by omega) ?_
  refine r_goto B dL_minutes_10 (tgt := 25) (by decide) ?_
  refine r_iconst B dL_minutes_25 ?_
  exact x_ret (r_iret B hr hlk dL_minutes_26 (Nat.le_of_ble_eq_true rfl) (Nat.le_of_ble_eq_true rfl) ⟨by rw [ht0], fun q q0 q1 q2 => (if_neg q2).trans (hST.fr q q0 q1), _, if_pos rfl, fun _ => ⟨rfl, hST.out hZo hAo⟩, fun y => absurd ht0 y⟩)
abbrev rmL_chain : Room := { frames := 8, cells := 1, slots := 6, locals := 144 }
theorem w_L_chain_kl13 : Cond.classLink RL 13 "java/lang/IllegalArgumentException" ∈ wsL_chain := by decide +kernel
set_option maxHeartbeats 4000000 in
set_option maxRecDepth 100000 in
theorem ct_L_chain (l : Launch) (g : GG) (sz0 : Nat) {A : Nat → Nat} {Z : Nat → Prop} (hA : AOK A) {h : AH} {mnights mbits mleast mmost mroom mreserve mmount mspeed : Int} {mdata msize mends mmany mkind mchain mholds mbid mbound mcheap mpromised mcoin mpaid mowed : Int → Int} (hT : ST g A Z h mdata msize mends mmany mkind mchain mholds mnights mbits mleast mmost mroom mreserve mmount mspeed mbid mbound mcheap mpromised mcoin mpaid mowed h) (hG : RGm mnights mbits mleast mmost mroom mreserve mmount mspeed msize mbid mbound mcheap mpromised mcoin mpaid mowed) (x : Int) (hl0 : l.stackTraces = false) (qx : -2147483648 ≤ x ∧ x < 2147483648) {o1 : Nat} {F : Nat → Int64} (hO : h o1 = some (lE g 1 F)) (hZo : Z o1) (hAo : ∀ i : Nat, i < 27 → o1 ≠ A i) : CTX l yL_chain wsL_chain rmL_chain g sz0 [.ref (A 0), .int (iI (x)), .ref o1] h (fun v h' => v = some (.int (iI (tCl x))) ∧ (∀ q : Nat, h q ≠ none → (∀ i : Nat, i < 27 → q ≠ A i) → q ≠ o1 → h' q = h q) ∧ ∃ F1 : Nat → Int64, h' o1 = some (lE g 1 F1) ∧ (tCl x = 0 → F1 0 = (iI (dfN (colF mkind x) mnights.toNat)).toInt64 ∧ ST g A Z h' mdata msize mends mmany mkind mchain mholds mnights mbits mleast mmost mroom mreserve mmount mspeed mbid mbound mcheap mpromised mcoin mpaid mowed h') ∧ (¬ tCl x = 0 → ST g A Z h' mdata msize mends mmany mkind mchain mholds mnights mbits mleast mmost mroom mreserve mmount mspeed mbid mbound mcheap mpromised mcoin mpaid mowed h')) (fun _ _ => False) := by
  obtain ⟨fs0, hro⟩ := hT.ro
  refine CTX.ofH (by decide +kernel) rfl [some (.ref (A 0)), some (.int (iI (x))), some (.ref o1), none] rfl (Nat.le_of_ble_eq_true rfl) ?_
  intro p e s m args below meth c B hr hlk htab
  refine r_aload_n B dL_chain_0 rfl rfl ?_
  refine r_iconst B dL_chain_1 ?_
  refine r_aload_n B dL_chain_2 rfl rfl ?_
  refine r_iload_n B dL_chain_3 rfl ?_
  refine r_callVX (n := 1) B dL_chain_4 (ct_X9_chain l g sz0 hA hT hG _ hl0 (by omega)) gL_chain_X9_chain rfl (by decide +kernel) ⟨Nat.le_of_ble_eq_true rfl, Nat.le_of_ble_eq_true rfl⟩ hro rfl rfl rfl (Nat.le_of_ble_eq_true rfl) (Nat.le_of_ble_eq_true rfl) (Nat.le_of_ble_eq_true rfl) (fun E h1 hp => ?_) (fun v h1 hp => ?_)
  · obtain ⟨hE, hST⟩ := hp
    obtain ⟨e1, e2⟩ := hE
    subst e1
    refine r_catch B htab [] ⟨0, 9, 12, 13⟩ [] rfl List.mem_cons_self (fun z hz => absurd hz List.not_mem_nil) (by decide) (by decide) w_L_chain_kl13 (fun q9 => ?_)
    refine r_astore_n B dL_chain_12 rfl rfl (by decide) (lcat_v rfl rfl) ?_
    refine r_iconst B dL_chain_13 ?_
    exact x_ret (r_iret B hr hlk dL_chain_14 (Nat.le_of_ble_eq_true rfl) (Nat.le_of_ble_eq_true rfl) ⟨by rw [e2], fun q q0 q1 _ => hST.fr q q0 q1, F, (hST.fr o1 (sm_ne hO) hAo).trans hO, fun y => absurd (e2.symm.trans y) (by decide), fun _ => hST.base⟩)
  obtain ⟨ht0, hv, hST⟩ := hp
  subst v
  dsimp only [Option.toList, List.cons_append, List.nil_append]
  have hO1 := (hST.fr o1 (sm_ne hO) hAo).trans hO
  refine r_i2l B dL_chain_7 ?_
  refine r_last B dL_chain_8 hO1 (by decide) (by omega) (by omega) ?_
  refine r_goto B dL_chain_9 (tgt := 15) (by decide) ?_
  refine r_iconst B dL_chain_15 ?_
  exact x_ret (r_iret B hr hlk dL_chain_16 (Nat.le_of_ble_eq_true rfl) (Nat.le_of_ble_eq_true rfl) ⟨by rw [ht0], fun q q0 q1 q2 => (if_neg q2).trans (hST.fr q q0 q1), _, if_pos rfl, fun _ => ⟨rfl, hST.out hZo hAo⟩, fun y => absurd ht0 y⟩)
abbrev rmL_bid : Room := { frames := 8, cells := 2, slots := 12, locals := 146 }
theorem w_L_bid_kl13 : Cond.classLink RL 13 "java/lang/IllegalArgumentException" ∈ wsL_bid := by decide +kernel
set_option maxHeartbeats 4000000 in
set_option maxRecDepth 100000 in
theorem ct_L_bid (l : Launch) (g : GG) (sz0 : Nat) {A : Nat → Nat} {Z : Nat → Prop} (hA : AOK A) {h : AH} {mnights mbits mleast mmost mroom mreserve mmount mspeed : Int} {mdata msize mends mmany mkind mchain mholds mbid mbound mcheap mpromised mcoin mpaid mowed : Int → Int} (hT : ST g A Z h mdata msize mends mmany mkind mchain mholds mnights mbits mleast mmost mroom mreserve mmount mspeed mbid mbound mcheap mpromised mcoin mpaid mowed h) (hG : RGm mnights mbits mleast mmost mroom mreserve mmount mspeed msize mbid mbound mcheap mpromised mcoin mpaid mowed) (x y : Int) (hl0 : l.stackTraces = false) (qx : -2147483648 ≤ x ∧ x < 2147483648) (qy : -2147483648 ≤ y ∧ y < 2147483648) {o1 : Nat} {F : Nat → Int64} (hO : h o1 = some (lE g 1 F)) (hZo : Z o1) (hAo : ∀ i : Nat, i < 27 → o1 ≠ A i) : CTX l yL_bid wsL_bid rmL_bid g sz0 [.ref (A 0), .int (iI (x)), .int (iI (y)), .ref o1] h (fun v h' => v = some (.int (iI (tB ((0 ≤ x ∧ x ≤ 3) ∧ (0 ≤ y ∧ y ≤ 100))))) ∧ (∀ q : Nat, h q ≠ none → (∀ i : Nat, i < 27 → q ≠ A i) → q ≠ o1 → h' q = h q) ∧ ∃ F1 : Nat → Int64, h' o1 = some (lE g 1 F1) ∧ (tB ((0 ≤ x ∧ x ≤ 3) ∧ (0 ≤ y ∧ y ≤ 100)) = 0 → F1 0 = (iI (mbid x)).toInt64 ∧ ST g A Z h' mdata msize mends mmany mkind mchain mholds mnights mbits mleast mmost mroom mreserve mmount mspeed (upZ mbid x y) mbound mcheap mpromised mcoin mpaid mowed h') ∧ (¬ tB ((0 ≤ x ∧ x ≤ 3) ∧ (0 ≤ y ∧ y ≤ 100)) = 0 → ST g A Z h' mdata msize mends mmany mkind mchain mholds mnights mbits mleast mmost mroom mreserve mmount mspeed mbid mbound mcheap mpromised mcoin mpaid mowed h')) (fun _ _ => False) := by
  obtain ⟨fs0, hro⟩ := hT.ro
  refine CTX.ofH (by decide +kernel) rfl [some (.ref (A 0)), some (.int (iI (x))), some (.int (iI (y))), some (.ref o1), none] rfl (Nat.le_of_ble_eq_true rfl) ?_
  intro p e s m args below meth c B hr hlk htab
  refine r_aload_n B dL_bid_0 rfl rfl ?_
  refine r_iconst B dL_bid_1 ?_
  refine r_aload_n B dL_bid_2 rfl rfl ?_
  refine r_iload_n B dL_bid_3 rfl ?_
  refine r_iload_n B dL_bid_4 rfl ?_
  refine r_callVX (n := 2) B dL_bid_5 (ct_X9_bid l g sz0 hA hT hG _ _ hl0 (by omega) (by omega)) gL_bid_X9_bid rfl (by decide +kernel) ⟨Nat.le_of_ble_eq_true rfl, Nat.le_of_ble_eq_true rfl⟩ hro rfl rfl rfl (Nat.le_of_ble_eq_true rfl) (Nat.le_of_ble_eq_true rfl) (Nat.le_of_ble_eq_true rfl) (fun E h1 hp => ?_) (fun v h1 hp => ?_)
  · obtain ⟨hE, hST⟩ := hp
    obtain ⟨e1, e2⟩ := hE
    subst e1
    refine r_catch B htab [] ⟨0, 10, 13, 13⟩ [] rfl List.mem_cons_self (fun z hz => absurd hz List.not_mem_nil) (by decide) (by decide) w_L_bid_kl13 (fun q9 => ?_)
    refine r_astore B dL_bid_13 rfl (by decide) (lcat_v rfl rfl) ?_
    refine r_iconst B dL_bid_15 ?_
    exact x_ret (r_iret B hr hlk dL_bid_16 (Nat.le_of_ble_eq_true rfl) (Nat.le_of_ble_eq_true rfl) ⟨by rw [e2], fun q q0 q1 _ => hST.fr q q0 q1, F, (hST.fr o1 (sm_ne hO) hAo).trans hO, fun y => absurd (e2.symm.trans y) (by decide), fun _ => hST.base⟩)
  obtain ⟨ht0, hv, hST⟩ := hp
  subst v
  dsimp only [Option.toList, List.cons_append, List.nil_append]
  have hO1 := (hST.fr o1 (sm_ne hO) hAo).trans hO
  refine r_i2l B dL_bid_8 ?_
  refine r_last B dL_bid_9 hO1 (by decide) (by omega) (by omega) ?_
  refine r_goto B dL_bid_10 (tgt := 17) (by decide) ?_
  refine r_iconst B dL_bid_17 ?_
  exact x_ret (r_iret B hr hlk dL_bid_18 (Nat.le_of_ble_eq_true rfl) (Nat.le_of_ble_eq_true rfl) ⟨by rw [ht0], fun q q0 q1 q2 => (if_neg q2).trans (hST.fr q q0 q1), _, if_pos rfl, fun _ => ⟨rfl, hST.out hZo hAo⟩, fun y => absurd ht0 y⟩)
abbrev rmL_set : Room := { frames := 8, cells := 3, slots := 18, locals := 146 }
theorem w_L_set_kl13 : Cond.classLink RL 13 "java/lang/IllegalArgumentException" ∈ wsL_set := by decide +kernel
theorem w_L_set_kl15 : Cond.classLink RL 15 "java/lang/IndexOutOfBoundsException" ∈ wsL_set := by decide +kernel
set_option maxHeartbeats 4000000 in
set_option maxRecDepth 100000 in
theorem ct_L_set (l : Launch) (g : GG) (sz0 : Nat) {A : Nat → Nat} {Z : Nat → Prop} (hA : AOK A) {h : AH} {mnights mbits mleast mmost mroom mreserve mmount mspeed : Int} {mdata msize mends mmany mkind mchain mholds mbid mbound mcheap mpromised mcoin mpaid mowed : Int → Int} (hT : ST g A Z h mdata msize mends mmany mkind mchain mholds mnights mbits mleast mmost mroom mreserve mmount mspeed mbid mbound mcheap mpromised mcoin mpaid mowed h) (hG : RGm mnights mbits mleast mmost mroom mreserve mmount mspeed msize mbid mbound mcheap mpromised mcoin mpaid mowed) (x k b : Int) (hl0 : l.stackTraces = false) (qx : -2147483648 ≤ x ∧ x < 2147483648) (qk : -2147483648 ≤ k ∧ k < 2147483648) (qb : -2147483648 ≤ b ∧ b < 2147483648) {o1 : Nat} {F : Nat → Int64} (hO : h o1 = some (lE g 1 F)) (hZo : Z o1) (hAo : ∀ i : Nat, i < 27 → o1 ≠ A i) : CTX l yL_set wsL_set rmL_set g sz0 [.ref (A 0), .int (iI (x)), .int (iI (k)), .int (iI (b)), .ref o1] h (fun v h' => v = some (.int (iI (tSet x k b (msize (240 + x))))) ∧ (∀ q : Nat, h q ≠ none → (∀ i : Nat, i < 27 → q ≠ A i) → q ≠ o1 → h' q = h q) ∧ ∃ F1 : Nat → Int64, h' o1 = some (lE g 1 F1) ∧ (tSet x k b (msize (240 + x)) = 0 → F1 0 = (iI (mdata (48 * (240 + x) + k))).toInt64 ∧ ST g A Z h' (upZ mdata (48 * (240 + x) + k) b) msize mends mmany mkind mchain mholds mnights mbits mleast mmost mroom mreserve mmount mspeed mbid mbound mcheap mpromised mcoin mpaid mowed h') ∧ (¬ tSet x k b (msize (240 + x)) = 0 → ST g A Z h' mdata msize mends mmany mkind mchain mholds mnights mbits mleast mmost mroom mreserve mmount mspeed mbid mbound mcheap mpromised mcoin mpaid mowed h')) (fun _ _ => False) := by
  obtain ⟨fs0, hro⟩ := hT.ro
  refine CTX.ofH (by decide +kernel) rfl [some (.ref (A 0)), some (.int (iI (x))), some (.int (iI (k))), some (.int (iI (b))), some (.ref o1), none] rfl (Nat.le_of_ble_eq_true rfl) ?_
  intro p e s m args below meth c B hr hlk htab
  refine r_aload B dL_set_0 rfl rfl ?_
  refine r_iconst B dL_set_2 ?_
  refine r_aload_n B dL_set_3 rfl rfl ?_
  refine r_iload_n B dL_set_4 rfl ?_
  refine r_iload_n B dL_set_5 rfl ?_
  refine r_iload_n B dL_set_6 rfl ?_
  refine r_callVX (n := 3) B dL_set_7 (ct_X9_set l g sz0 hA hT hG _ _ _ hl0 (by omega) (by omega) (by omega)) gL_set_X9_set rfl (by decide +kernel) ⟨Nat.le_of_ble_eq_true rfl, Nat.le_of_ble_eq_true rfl⟩ hro rfl rfl rfl (Nat.le_of_ble_eq_true rfl) (Nat.le_of_ble_eq_true rfl) (Nat.le_of_ble_eq_true rfl) (fun E h1 hp => ?_) (fun v h1 hp => ?_)
  · obtain ⟨hE, hST⟩ := hp
    rcases hE with ⟨e1, e2⟩ | ⟨e1, e2⟩
    · subst e1
      refine r_catch B htab [] ⟨0, 12, 15, 13⟩ [⟨0, 12, 19, 15⟩] rfl List.mem_cons_self (fun z hz => absurd hz List.not_mem_nil) (by decide) (by decide) w_L_set_kl13 (fun q9 => ?_)
      refine r_astore B dL_set_15 rfl (by decide) (lcat_v rfl rfl) ?_
      refine r_iconst B dL_set_17 ?_
      exact x_ret (r_iret B hr hlk dL_set_18 (Nat.le_of_ble_eq_true rfl) (Nat.le_of_ble_eq_true rfl) ⟨by rw [e2], fun q q0 q1 _ => hST.fr q q0 q1, F, (hST.fr o1 (sm_ne hO) hAo).trans hO, fun y => absurd (e2.symm.trans y) (by decide), fun _ => hST.base⟩)
    · subst e1
      refine r_catch B htab [⟨0, 12, 15, 13⟩] ⟨0, 12, 19, 15⟩ [] rfl (List.mem_cons_of_mem _ List.mem_cons_self) (fun z hz => by rw [List.mem_singleton.mp hz]; exact ⟨by decide, xIA, List.mem_cons_self, by decide, w_L_set_kl13⟩) (by decide) (by decide) w_L_set_kl15 (fun q9 => ?_)
      refine r_astore B dL_set_19 rfl (by decide) (lcat_v rfl rfl) ?_
      refine r_iconst B dL_set_21 ?_
      exact x_ret (r_iret B hr hlk dL_set_22 (Nat.le_of_ble_eq_true rfl) (Nat.le_of_ble_eq_true rfl) ⟨by rw [e2], fun q q0 q1 _ => hST.fr q q0 q1, F, (hST.fr o1 (sm_ne hO) hAo).trans hO, fun y => absurd (e2.symm.trans y) (by decide), fun _ => hST.base⟩)
  obtain ⟨ht0, hv, hST⟩ := hp
  subst v
  dsimp only [Option.toList, List.cons_append, List.nil_append]
  have hO1 := (hST.fr o1 (sm_ne hO) hAo).trans hO
  refine r_i2l B dL_set_10 ?_
  refine r_last B dL_set_11 hO1 (by decide) (by omega) (by omega) ?_
  refine r_goto B dL_set_12 (tgt := 23) (by decide) ?_
  refine r_iconst B dL_set_23 ?_
  exact x_ret (r_iret B hr hlk dL_set_24 (Nat.le_of_ble_eq_true rfl) (Nat.le_of_ble_eq_true rfl) ⟨by rw [ht0], fun q q0 q1 q2 => (if_neg q2).trans (hST.fr q q0 q1), _, if_pos rfl, fun _ => ⟨rfl, hST.out hZo hAo⟩, fun y => absurd ht0 y⟩)
abbrev rmL_restore : Room := { frames := 9, cells := 4, slots := 24, locals := 169 }
theorem w_L_restore_kl13 : Cond.classLink RL 13 "java/lang/IllegalArgumentException" ∈ wsL_restore := by decide +kernel
theorem w_L_restore_kl15 : Cond.classLink RL 15 "java/lang/IndexOutOfBoundsException" ∈ wsL_restore := by decide +kernel
theorem w_L_restore_kl17 : Cond.classLink RL 17 "java/lang/IllegalStateException" ∈ wsL_restore := by decide +kernel
set_option maxHeartbeats 4000000 in
set_option maxRecDepth 100000 in
theorem ct_L_restore (l : Launch) (g : GG) (sz0 : Nat) {A : Nat → Nat} {Z : Nat → Prop} (hA : AOK A) {h : AH} {mnights mbits mleast mmost mroom mreserve mmount mspeed : Int} {mdata msize mends mmany mkind mchain mholds mbid mbound mcheap mpromised mcoin mpaid mowed : Int → Int} (hT : ST g A Z h mdata msize mends mmany mkind mchain mholds mnights mbits mleast mmost mroom mreserve mmount mspeed mbid mbound mcheap mpromised mcoin mpaid mowed h) (hG : RGm mnights mbits mleast mmost mroom mreserve mmount mspeed msize mbid mbound mcheap mpromised mcoin mpaid mowed) (x k : Int) (hl0 : l.stackTraces = false) (qx : -2147483648 ≤ x ∧ x < 2147483648) (qk : -2147483648 ≤ k ∧ k < 2147483648) {o1 : Nat} {F : Nat → Int64} (hO : h o1 = some (lE g 1 F)) (hZo : Z o1) (hAo : ∀ i : Nat, i < 27 → o1 ≠ A i) : CTX l yL_restore wsL_restore rmL_restore g sz0 [.ref (A 0), .int (iI (x)), .int (iI (k)), .ref o1] h (fun v h' => v = some (.int (iI (tAsk x k mnights (mkind (60 * x + k))))) ∧ (∀ q : Nat, h q ≠ none → (∀ i : Nat, i < 27 → q ≠ A i) → q ≠ o1 → h' q = h q) ∧ ∃ F1 : Nat → Int64, h' o1 = some (lE g 1 F1) ∧ (tAsk x k mnights (mkind (60 * x + k)) = 0 → F1 0 = (iI (sumZ (fun j => bI (((j < msize (240 + x)) ↔ ¬ (j < msize (60 * x + k))) ∨ (j < msize (60 * x + k) ∧ ¬ mdata (48 * (240 + x) + j) = mdata (48 * (60 * x + k) + j)))) 48)).toInt64 ∧ ST g A Z h' (cpyF mdata (48 * (240 + x)) (48 * (60 * x + k)) (msize (60 * x + k))) (upZ msize (240 + x) (msize (60 * x + k))) mends mmany mkind mchain mholds mnights mbits mleast mmost mroom mreserve mmount mspeed mbid mbound mcheap mpromised mcoin mpaid mowed h') ∧ (¬ tAsk x k mnights (mkind (60 * x + k)) = 0 → ST g A Z h' mdata msize mends mmany mkind mchain mholds mnights mbits mleast mmost mroom mreserve mmount mspeed mbid mbound mcheap mpromised mcoin mpaid mowed h')) (fun _ _ => False) := by
  obtain ⟨fs0, hro⟩ := hT.ro
  refine CTX.ofH (by decide +kernel) rfl [some (.ref (A 0)), some (.int (iI (x))), some (.int (iI (k))), some (.ref o1), none] rfl (Nat.le_of_ble_eq_true rfl) ?_
  intro p e s m args below meth c B hr hlk htab
  refine r_aload_n B dL_restore_0 rfl rfl ?_
  refine r_iconst B dL_restore_1 ?_
  refine r_aload_n B dL_restore_2 rfl rfl ?_
  refine r_iload_n B dL_restore_3 rfl ?_
  refine r_iload_n B dL_restore_4 rfl ?_
  refine r_callVX (n := 2) B dL_restore_5 (ct_X9_restore l g sz0 hA hT hG _ _ hl0 (by omega) (by omega)) gL_restore_X9_restore rfl (by decide +kernel) ⟨Nat.le_of_ble_eq_true rfl, Nat.le_of_ble_eq_true rfl⟩ hro rfl rfl rfl (Nat.le_of_ble_eq_true rfl) (Nat.le_of_ble_eq_true rfl) (Nat.le_of_ble_eq_true rfl) (fun E h1 hp => ?_) (fun v h1 hp => ?_)
  · obtain ⟨hE, hST⟩ := hp
    rcases hE with ⟨e1, e2⟩ | ⟨e1, e2⟩ | ⟨e1, e2⟩
    · subst e1
      refine r_catch B htab [] ⟨0, 10, 13, 13⟩ [⟨0, 10, 17, 15⟩, ⟨0, 10, 21, 17⟩] rfl List.mem_cons_self (fun z hz => absurd hz List.not_mem_nil) (by decide) (by decide) w_L_restore_kl13 (fun q9 => ?_)
      refine r_astore B dL_restore_13 rfl (by decide) (lcat_v rfl rfl) ?_
      refine r_iconst B dL_restore_15 ?_
      exact x_ret (r_iret B hr hlk dL_restore_16 (Nat.le_of_ble_eq_true rfl) (Nat.le_of_ble_eq_true rfl) ⟨by rw [e2], fun q q0 q1 _ => hST.fr q q0 q1, F, (hST.fr o1 (sm_ne hO) hAo).trans hO, fun y => absurd (e2.symm.trans y) (by decide), fun _ => hST.base⟩)
    · subst e1
      refine r_catch B htab [⟨0, 10, 13, 13⟩] ⟨0, 10, 17, 15⟩ [⟨0, 10, 21, 17⟩] rfl (List.mem_cons_of_mem _ List.mem_cons_self) (fun z hz => by rw [List.mem_singleton.mp hz]; exact ⟨by decide, xIA, List.mem_cons_self, by decide, w_L_restore_kl13⟩) (by decide) (by decide) w_L_restore_kl15 (fun q9 => ?_)
      refine r_astore B dL_restore_17 rfl (by decide) (lcat_v rfl rfl) ?_
      refine r_iconst B dL_restore_19 ?_
      exact x_ret (r_iret B hr hlk dL_restore_20 (Nat.le_of_ble_eq_true rfl) (Nat.le_of_ble_eq_true rfl) ⟨by rw [e2], fun q q0 q1 _ => hST.fr q q0 q1, F, (hST.fr o1 (sm_ne hO) hAo).trans hO, fun y => absurd (e2.symm.trans y) (by decide), fun _ => hST.base⟩)
    · subst e1
      refine r_catch B htab [⟨0, 10, 13, 13⟩, ⟨0, 10, 17, 15⟩] ⟨0, 10, 21, 17⟩ [] rfl (List.mem_cons_of_mem _ (List.mem_cons_of_mem _ List.mem_cons_self)) (fun z hz => by
          rcases List.mem_cons.mp hz with y | y
          · rw [y]; exact ⟨by decide, xIA, List.mem_cons_self, by decide, w_L_restore_kl13⟩
          · rw [List.mem_singleton.mp y]; exact ⟨by decide, xIO, (List.mem_cons_of_mem _ List.mem_cons_self), by decide, w_L_restore_kl15⟩) (by decide) (by decide) w_L_restore_kl17 (fun q9 => ?_)
      refine r_astore B dL_restore_21 rfl (by decide) (lcat_v rfl rfl) ?_
      refine r_iconst B dL_restore_23 ?_
      exact x_ret (r_iret B hr hlk dL_restore_24 (Nat.le_of_ble_eq_true rfl) (Nat.le_of_ble_eq_true rfl) ⟨by rw [e2], fun q q0 q1 _ => hST.fr q q0 q1, F, (hST.fr o1 (sm_ne hO) hAo).trans hO, fun y => absurd (e2.symm.trans y) (by decide), fun _ => hST.base⟩)
  obtain ⟨ht0, hv, hST⟩ := hp
  subst v
  dsimp only [Option.toList, List.cons_append, List.nil_append]
  have hO1 := (hST.fr o1 (sm_ne hO) hAo).trans hO
  refine r_i2l B dL_restore_8 ?_
  refine r_last B dL_restore_9 hO1 (by decide) (by omega) (by omega) ?_
  refine r_goto B dL_restore_10 (tgt := 25) (by decide) ?_
  refine r_iconst B dL_restore_25 ?_
  exact x_ret (r_iret B hr hlk dL_restore_26 (Nat.le_of_ble_eq_true rfl) (Nat.le_of_ble_eq_true rfl) ⟨by rw [ht0], fun q q0 q1 q2 => (if_neg q2).trans (hST.fr q q0 q1), _, if_pos rfl, fun _ => ⟨rfl, hST.out hZo hAo⟩, fun y => absurd ht0 y⟩)
abbrev rmL_forBase : Room := { frames := 9, cells := 1, slots := 6, locals := 165 }
theorem w_L_forBase_kl13 : Cond.classLink RL 13 "java/lang/IllegalArgumentException" ∈ wsL_forBase := by decide +kernel
set_option maxHeartbeats 4000000 in
set_option maxRecDepth 100000 in
theorem ct_L_forBase (l : Launch) (g : GG) (sz0 : Nat) {A : Nat → Nat} {Z : Nat → Prop} (hA : AOK A) {h : AH} {mnights mbits mleast mmost mroom mreserve mmount mspeed : Int} {mdata msize mends mmany mkind mchain mholds mbid mbound mcheap mpromised mcoin mpaid mowed : Int → Int} (hT : ST g A Z h mdata msize mends mmany mkind mchain mholds mnights mbits mleast mmost mroom mreserve mmount mspeed mbid mbound mcheap mpromised mcoin mpaid mowed h) (hG : RGm mnights mbits mleast mmost mroom mreserve mmount mspeed msize mbid mbound mcheap mpromised mcoin mpaid mowed) (x : Int) (hl0 : l.stackTraces = false) (qx : -2147483648 ≤ x ∧ x < 2147483648) {o1 : Nat} {F : Nat → Int64} (hO : h o1 = some (lE g 1 F)) (hZo : Z o1) (hAo : ∀ i : Nat, i < 27 → o1 ≠ A i) : CTX l yL_forBase wsL_forBase rmL_forBase g sz0 [.ref (A 0), .int (iI (x)), .ref o1] h (fun v h' => v = some (.int (iI (tCl x))) ∧ (∀ q : Nat, h q ≠ none → (∀ i : Nat, i < 27 → q ≠ A i) → q ≠ o1 → h' q = h q) ∧ ∃ F1 : Nat → Int64, h' o1 = some (lE g 1 F1) ∧ (tCl x = 0 → F1 0 = (iI (baseB (rowF mdata (240 + x)) (cutR (rowF mdata (240 + x)) (msize (240 + x)) mbits mleast mmost).2.2 (cutR (rowF mdata (240 + x)) (msize (240 + x)) mbits mleast mmost).2.1)).toInt64 ∧ ST g A Z h' mdata msize mends mmany mkind mchain mholds mnights mbits mleast mmost mroom mreserve mmount mspeed mbid mbound mcheap mpromised mcoin mpaid mowed h') ∧ (¬ tCl x = 0 → ST g A Z h' mdata msize mends mmany mkind mchain mholds mnights mbits mleast mmost mroom mreserve mmount mspeed mbid mbound mcheap mpromised mcoin mpaid mowed h')) (fun _ _ => False) := by
  obtain ⟨fs0, hro⟩ := hT.ro
  refine CTX.ofH (by decide +kernel) rfl [some (.ref (A 0)), some (.int (iI (x))), some (.ref o1), none] rfl (Nat.le_of_ble_eq_true rfl) ?_
  intro p e s m args below meth c B hr hlk htab
  refine r_aload_n B dL_forBase_0 rfl rfl ?_
  refine r_iconst B dL_forBase_1 ?_
  refine r_aload_n B dL_forBase_2 rfl rfl ?_
  refine r_iload_n B dL_forBase_3 rfl ?_
  refine r_callVX (n := 1) B dL_forBase_4 (ct_X9_forBase l g sz0 hA hT hG _ hl0 (by omega)) gL_forBase_X9_forBase rfl (by decide +kernel) ⟨Nat.le_of_ble_eq_true rfl, Nat.le_of_ble_eq_true rfl⟩ hro rfl rfl rfl (Nat.le_of_ble_eq_true rfl) (Nat.le_of_ble_eq_true rfl) (Nat.le_of_ble_eq_true rfl) (fun E h1 hp => ?_) (fun v h1 hp => ?_)
  · obtain ⟨hE, hST⟩ := hp
    obtain ⟨e1, e2⟩ := hE
    subst e1
    refine r_catch B htab [] ⟨0, 9, 12, 13⟩ [] rfl List.mem_cons_self (fun z hz => absurd hz List.not_mem_nil) (by decide) (by decide) w_L_forBase_kl13 (fun q9 => ?_)
    refine r_astore_n B dL_forBase_12 rfl rfl (by decide) (lcat_v rfl rfl) ?_
    refine r_iconst B dL_forBase_13 ?_
    exact x_ret (r_iret B hr hlk dL_forBase_14 (Nat.le_of_ble_eq_true rfl) (Nat.le_of_ble_eq_true rfl) ⟨by rw [e2], fun q q0 q1 _ => hST.fr q q0 q1, F, (hST.fr o1 (sm_ne hO) hAo).trans hO, fun y => absurd (e2.symm.trans y) (by decide), fun _ => hST.base⟩)
  obtain ⟨ht0, hv, hST⟩ := hp
  subst v
  dsimp only [Option.toList, List.cons_append, List.nil_append]
  have hO1 := (hST.fr o1 (sm_ne hO) hAo).trans hO
  refine r_i2l B dL_forBase_7 ?_
  refine r_last B dL_forBase_8 hO1 (by decide) (by omega) (by omega) ?_
  refine r_goto B dL_forBase_9 (tgt := 15) (by decide) ?_
  refine r_iconst B dL_forBase_15 ?_
  exact x_ret (r_iret B hr hlk dL_forBase_16 (Nat.le_of_ble_eq_true rfl) (Nat.le_of_ble_eq_true rfl) ⟨by rw [ht0], fun q q0 q1 q2 => (if_neg q2).trans (hST.fr q q0 q1), _, if_pos rfl, fun _ => ⟨rfl, hST.out hZo hAo⟩, fun y => absurd ht0 y⟩)
abbrev rmL_night : Room := { frames := 7, cells := 421, slots := 10406, locals := 170 }
theorem w_L_night_kl17 : Cond.classLink RL 17 "java/lang/IllegalStateException" ∈ wsL_night := by decide +kernel
set_option maxHeartbeats 4000000 in
set_option maxRecDepth 100000 in
theorem ct_L_night (l : Launch) (g : GG) (sz0 : Nat) {A : Nat → Nat} {Z : Nat → Prop} (hA : AOK A) {h : AH} {mnights mbits mleast mmost mroom mreserve mmount mspeed : Int} {mdata msize mends mmany mkind mchain mholds mbid mbound mcheap mpromised mcoin mpaid mowed : Int → Int} (hT : ST g A Z h mdata msize mends mmany mkind mchain mholds mnights mbits mleast mmost mroom mreserve mmount mspeed mbid mbound mcheap mpromised mcoin mpaid mowed h) (hG : RGm mnights mbits mleast mmost mroom mreserve mmount mspeed msize mbid mbound mcheap mpromised mcoin mpaid mowed) (hl0 : l.stackTraces = false)  (hZs : ∀ q : Nat, Z q → h q ≠ none) {o1 : Nat} {F : Nat → Int64} (hO : h o1 = some (lE g 1 F)) (hZo : Z o1) (hAo : ∀ i : Nat, i < 27 → o1 ≠ A i) : CTX l yL_night wsL_night rmL_night g sz0 [.ref (A 0), .ref o1] h (fun v h' => v = some (.int (iI (tNg mnights))) ∧ (∀ q : Nat, h q ≠ none → (∀ i : Nat, i < 27 → q ≠ A i) → q ≠ o1 → h' q = h q) ∧ ∃ F1 : Nat → Int64, h' o1 = some (lE g 1 F1) ∧ (tNg mnights = 0 → ∃ n : Int, F1 0 = (iI n).toInt64 ∧ (∀ tt AS WT CS SV dd ss ee mm kk cc hh pp : Int → Int, turnOK mbid tt → gI (wbP mkind mbound mcheap mnights mreserve) (mNC mkind mnights) (mOT mdata msize mends mmany mkind mnights mbits mleast mmost) (mAK mdata msize mends mmany mkind mbid mbound mcheap mnights mreserve mbits mleast mmost) (mBS mdata msize mbits mleast mmost) (mDF mdata msize mends mmany mkind mchain mholds mnights mbits mleast mmost) mroom tt AS WT CS SV 4 → (∀ y : Int, 0 ≤ y → y ≤ 3 → nwC mdata msize mends mmany mkind mchain mholds mnights mbits mleast mmost (WT y) (SV y) dd ss ee mm kk cc hh y) → (∀ y : Int, 0 ≤ y → y ≤ 3 → pp y = mpaid y + payF mbid tt AS SV CS mreserve (4 : Int) y) → LKo ee mm → n = sumZ (fun j => SV (tt j)) 4 ∧ ST g A Z h' dd ss ee mm kk cc hh (mnights + 1) mbits mleast mmost mroom mreserve mmount mspeed mbid mbound mcheap mpromised mcoin pp mowed h')) ∧ (¬ tNg mnights = 0 → ST g A Z h' mdata msize mends mmany mkind mchain mholds mnights mbits mleast mmost mroom mreserve mmount mspeed mbid mbound mcheap mpromised mcoin mpaid mowed h')) (fun _ _ => False) := by
  obtain ⟨fs0, hro⟩ := hT.ro
  refine CTX.ofH (by decide +kernel) rfl [some (.ref (A 0)), some (.ref o1), none] rfl (Nat.le_of_ble_eq_true rfl) ?_
  intro p e s m args below meth c B hr hlk htab
  refine r_aload_n B dL_night_0 rfl rfl ?_
  refine r_iconst B dL_night_1 ?_
  refine r_aload_n B dL_night_2 rfl rfl ?_
  refine r_callVX (n := 0) B dL_night_3 (ct_X9_night2 l g sz0 hA hT hG hl0 hZs) gL_night_X9_night rfl (by decide +kernel) ⟨Nat.le_of_ble_eq_true rfl, Nat.le_of_ble_eq_true rfl⟩ hro rfl rfl rfl (Nat.le_of_ble_eq_true rfl) (Nat.le_of_ble_eq_true rfl) (Nat.le_of_ble_eq_true rfl) (fun E h1 hp => ?_) (fun v h1 hp => ?_)
  · obtain ⟨hE, hST⟩ := hp
    obtain ⟨e1, e2⟩ := hE
    subst e1
    refine r_catch B htab [] ⟨0, 8, 11, 17⟩ [] rfl (List.mem_cons_of_mem _ (List.mem_cons_of_mem _ List.mem_cons_self)) (fun z hz => absurd hz List.not_mem_nil) (by decide) (by decide) w_L_night_kl17 (fun q9 => ?_)
    refine r_astore_n B dL_night_11 rfl rfl (by decide) (lcat_v rfl rfl) ?_
    refine r_iconst B dL_night_12 ?_
    exact x_ret (r_iret B hr hlk dL_night_13 (Nat.le_of_ble_eq_true rfl) (Nat.le_of_ble_eq_true rfl) ⟨by rw [e2], fun q q0 q1 _ => hST.fr q q0 q1, F, (hST.fr o1 (sm_ne hO) hAo).trans hO, fun y => absurd (e2.symm.trans y) (by decide), fun _ => hST.base⟩)
  obtain ⟨ht0, hfr9, nn9, hv, hfin⟩ := hp
  subst v
  dsimp only [Option.toList, List.cons_append, List.nil_append]
  have hO1 := (hfr9 o1 (sm_ne hO) hAo).trans hO
  refine r_i2l B dL_night_6 ?_
  refine r_last B dL_night_7 hO1 (by decide) (by omega) (by omega) ?_
  refine r_goto B dL_night_8 (tgt := 14) (by decide) ?_
  refine r_iconst B dL_night_14 ?_
  exact x_ret (r_iret B hr hlk dL_night_15 (Nat.le_of_ble_eq_true rfl) (Nat.le_of_ble_eq_true rfl) ⟨by rw [ht0], fun q q0 q1 q2 => (if_neg q2).trans (hfr9 q q0 q1), _, if_pos rfl, fun _ => ⟨nn9, rfl, fun tt AS WT CS SV dd ss ee mm kk cc hh pp z1 z2 z3 z4 z5 => ⟨(hfin tt AS WT CS SV dd ss ee mm kk cc hh pp z1 z2 z3 z4 z5).1, (hfin tt AS WT CS SV dd ss ee mm kk cc hh pp z1 z2 z3 z4 z5).2.out hZo hAo⟩⟩, fun y => absurd ht0 y⟩)
