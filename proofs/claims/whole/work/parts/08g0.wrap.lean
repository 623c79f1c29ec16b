abbrev rmL_length : Room := { frames := 8, cells := 1, slots := 6, locals := 143 }
theorem w_L_length_kl13 : Cond.classLink RL 13 "java/lang/IllegalArgumentException" ∈ wsL_length := by decide +kernel
set_option maxHeartbeats 4000000 in
set_option maxRecDepth 100000 in
theorem ct_L_length (l : Launch) (g : GG) (sz0 : Nat) {A : Nat → Nat} {Z : Nat → Prop} (hA : AOK A) {h : AH} {mnights mbits mleast mmost mroom mreserve mmount mspeed : Int} {mdata msize mends mmany mkind mchain mholds mbid mbound mcheap mpromised mcoin mpaid mowed : Int → Int} (hT : ST g A Z h mdata msize mends mmany mkind mchain mholds mnights mbits mleast mmost mroom mreserve mmount mspeed mbid mbound mcheap mpromised mcoin mpaid mowed h) (hG : RGm mnights mbits mleast mmost mroom mreserve mmount mspeed msize mbid mbound mcheap mpromised mcoin mpaid mowed) (x : Int) (hl0 : l.stackTraces = false) (qx : -2147483648 ≤ x ∧ x < 2147483648) {o1 : Nat} {F : Nat → Int64} (hO : h o1 = some (lE g 1 F)) (hZo : Z o1) (hAo : ∀ i : Nat, i < 27 → o1 ≠ A i) : CTX l yL_length wsL_length rmL_length g sz0 [.ref (A 0), .int (iI (x)), .ref o1] h (fun v h' => v = some (.int (iI (tCl x))) ∧ (∀ q : Nat, h q ≠ none → (∀ i : Nat, i < 27 → q ≠ A i) → q ≠ o1 → h' q = h q) ∧ ∃ F1 : Nat → Int64, h' o1 = some (lE g 1 F1) ∧ (tCl x = 0 → F1 0 = (iI (msize (240 + x))).toInt64 ∧ ST g A Z h' mdata msize mends mmany mkind mchain mholds mnights mbits mleast mmost mroom mreserve mmount mspeed mbid mbound mcheap mpromised mcoin mpaid mowed h') ∧ (¬ tCl x = 0 → ST g A Z h' mdata msize mends mmany mkind mchain mholds mnights mbits mleast mmost mroom mreserve mmount mspeed mbid mbound mcheap mpromised mcoin mpaid mowed h')) (fun _ _ => False) := by
  obtain ⟨fs0, hro⟩ := hT.ro
  refine CTX.ofH (by decide +kernel) rfl [some (.ref (A 0)), some (.int (iI (x))), some (.ref o1), none] rfl (Nat.le_of_ble_eq_true rfl) ?_
  intro p e s m args below meth c B hr hlk htab
  refine r_aload_n B dL_length_0 rfl rfl ?_
  refine r_iconst B dL_length_1 ?_
  refine r_aload_n B dL_length_2 rfl rfl ?_
  refine r_iload_n B dL_length_3 rfl ?_
  refine r_callVX (n := 1) B dL_length_4 (ct_X9_length l g sz0 hA hT hG _ hl0 (by omega)) gL_length_X9_length rfl (by decide +kernel) ⟨Nat.le_of_ble_eq_true rfl, Nat.le_of_ble_eq_true rfl⟩ hro rfl rfl rfl (Nat.le_of_ble_eq_true rfl) (Nat.le_of_ble_eq_true rfl) (Nat.le_of_ble_eq_true rfl) (fun E h1 hp => ?_) (fun v h1 hp => ?_)
  · obtain ⟨hE, hST⟩ := hp
    obtain ⟨e1, e2⟩ := hE
    subst e1
    refine r_catch B htab [] ⟨0, 9, 12, 13⟩ [] rfl List.mem_cons_self (fun z hz => absurd hz List.not_mem_nil) (by decide) (by decide) w_L_length_kl13 (fun q9 => ?_)
    refine r_astore_n B dL_length_12 rfl rfl (by decide) (lcat_v rfl rfl) ?_
    refine r_iconst B dL_length_13 ?_
    exact x_ret (r_iret B hr hlk dL_length_14 (Nat.le_of_ble_eq_true rfl) (Nat.le_of_ble_eq_true rfl) ⟨by rw [e2], fun q q0 q1 _ => hST.fr q q0 q1, F, (hST.fr o1 (sm_ne hO) hAo).trans hO, fun y => absurd (e2.symm.trans y) (by decide), fun _ => hST.base⟩)
  obtain ⟨ht0, hv, hST⟩ := hp
  subst v
  dsimp only [Option.toList, List.cons_append, List.nil_append]
  have hO1 := (hST.fr o1 (sm_ne hO) hAo).trans hO
  refine r_i2l B dL_length_7 ?_
  refine r_last B dL_length_8 hO1 (by decide) (by omega) (by omega) ?_
  refine r_goto B dL_length_9 (tgt := 15) (by decide) ?_
  refine r_iconst B dL_length_15 ?_
  exact x_ret (r_iret B hr hlk dL_length_16 (Nat.le_of_ble_eq_true rfl) (Nat.le_of_ble_eq_true rfl) ⟨by rw [ht0], fun q q0 q1 q2 => (if_neg q2).trans (hST.fr q q0 q1), _, if_pos rfl, fun _ => ⟨rfl, hST.out hZo hAo⟩, fun y => absurd ht0 y⟩)
abbrev rmL_digest : Room := { frames := 8, cells := 1, slots := 6, locals := 143 }
theorem w_L_digest_kl13 : Cond.classLink RL 13 "java/lang/IllegalArgumentException" ∈ wsL_digest := by decide +kernel
set_option maxHeartbeats 4000000 in
set_option maxRecDepth 100000 in
theorem ct_L_digest (l : Launch) (g : GG) (sz0 : Nat) {A : Nat → Nat} {Z : Nat → Prop} (hA : AOK A) {h : AH} {mnights mbits mleast mmost mroom mreserve mmount mspeed : Int} {mdata msize mends mmany mkind mchain mholds mbid mbound mcheap mpromised mcoin mpaid mowed : Int → Int} (hT : ST g A Z h mdata msize mends mmany mkind mchain mholds mnights mbits mleast mmost mroom mreserve mmount mspeed mbid mbound mcheap mpromised mcoin mpaid mowed h) (hG : RGm mnights mbits mleast mmost mroom mreserve mmount mspeed msize mbid mbound mcheap mpromised mcoin mpaid mowed) (x : Int) (hl0 : l.stackTraces = false) (qx : -2147483648 ≤ x ∧ x < 2147483648) {o1 : Nat} {F : Nat → Int64} (hO : h o1 = some (lE g 1 F)) (hZo : Z o1) (hAo : ∀ i : Nat, i < 27 → o1 ≠ A i) : CTX l yL_digest wsL_digest rmL_digest g sz0 [.ref (A 0), .int (iI (x)), .ref o1] h (fun v h' => v = some (.int (iI (tCl x))) ∧ (∀ q : Nat, h q ≠ none → (∀ i : Nat, i < 27 → q ≠ A i) → q ≠ o1 → h' q = h q) ∧ ∃ F1 : Nat → Int64, h' o1 = some (lE g 1 F1) ∧ (tCl x = 0 → F1 0 = (dig (rowF mdata (240 + x)) (msize (240 + x)).toNat) ∧ ST g A Z h' mdata msize mends mmany mkind mchain mholds mnights mbits mleast mmost mroom mreserve mmount mspeed mbid mbound mcheap mpromised mcoin mpaid mowed h') ∧ (¬ tCl x = 0 → ST g A Z h' mdata msize mends mmany mkind mchain mholds mnights mbits mleast mmost mroom mreserve mmount mspeed mbid mbound mcheap mpromised mcoin mpaid mowed h')) (fun _ _ => False) := by
  obtain ⟨fs0, hro⟩ := hT.ro
  refine CTX.ofH (by decide +kernel) rfl [some (.ref (A 0)), some (.int (iI (x))), some (.ref o1), none] rfl (Nat.le_of_ble_eq_true rfl) ?_
  intro p e s m args below meth c B hr hlk htab
  refine r_aload_n B dL_digest_0 rfl rfl ?_
  refine r_iconst B dL_digest_1 ?_
  refine r_aload_n B dL_digest_2 rfl rfl ?_
  refine r_iload_n B dL_digest_3 rfl ?_
  refine r_callVX (n := 1) B dL_digest_4 (ct_X9_digest l g sz0 hA hT hG _ hl0 (by omega)) gL_digest_X9_digest rfl (by decide +kernel) ⟨Nat.le_of_ble_eq_true rfl, Nat.le_of_ble_eq_true rfl⟩ hro rfl rfl rfl (Nat.le_of_ble_eq_true rfl) (Nat.le_of_ble_eq_true rfl) (Nat.le_of_ble_eq_true rfl) (fun E h1 hp => ?_) (fun v h1 hp => ?_)
  · obtain ⟨hE, hST⟩ := hp
    obtain ⟨e1, e2⟩ := hE
    subst e1
    refine r_catch B htab [] ⟨0, 8, 11, 13⟩ [] rfl List.mem_cons_self (fun z hz => absurd hz List.not_mem_nil) (by decide) (by decide) w_L_digest_kl13 (fun q9 => ?_)
    refine r_astore_n B dL_digest_11 rfl rfl (by decide) (lcat_v rfl rfl) ?_
    refine r_iconst B dL_digest_12 ?_
    exact x_ret (r_iret B hr hlk dL_digest_13 (Nat.le_of_ble_eq_true rfl) (Nat.le_of_ble_eq_true rfl) ⟨by rw [e2], fun q q0 q1 _ => hST.fr q q0 q1, F, (hST.fr o1 (sm_ne hO) hAo).trans hO, fun y => absurd (e2.symm.trans y) (by decide), fun _ => hST.base⟩)
  obtain ⟨ht0, hv, hST⟩ := hp
  subst v
  dsimp only [Option.toList, List.cons_append, List.nil_append]
  have hO1 := (hST.fr o1 (sm_ne hO) hAo).trans hO
  refine r_last B dL_digest_7 hO1 (by decide) (by omega) (by omega) ?_
  refine r_goto B dL_digest_8 (tgt := 14) (by decide) ?_
  refine r_iconst B dL_digest_14 ?_
  exact x_ret (r_iret B hr hlk dL_digest_15 (Nat.le_of_ble_eq_true rfl) (Nat.le_of_ble_eq_true rfl) ⟨by rw [ht0], fun q q0 q1 q2 => (if_neg q2).trans (hST.fr q q0 q1), _, if_pos rfl, fun _ => ⟨rfl, hST.out hZo hAo⟩, fun y => absurd ht0 y⟩)
abbrev rmL_held : Room := { frames := 9, cells := 3, slots := 18, locals := 168 }
theorem w_L_held_kl13 : Cond.classLink RL 13 "java/lang/IllegalArgumentException" ∈ wsL_held := by decide +kernel
theorem w_L_held_kl15 : Cond.classLink RL 15 "java/lang/IndexOutOfBoundsException" ∈ wsL_held := by decide +kernel
theorem w_L_held_kl17 : Cond.classLink RL 17 "java/lang/IllegalStateException" ∈ wsL_held := by decide +kernel
set_option maxHeartbeats 4000000 in
set_option maxRecDepth 100000 in
theorem ct_L_held (l : Launch) (g : GG) (sz0 : Nat) {A : Nat → Nat} {Z : Nat → Prop} (hA : AOK A) {h : AH} {mnights mbits mleast mmost mroom mreserve mmount mspeed : Int} {mdata msize mends mmany mkind mchain mholds mbid mbound mcheap mpromised mcoin mpaid mowed : Int → Int} (hT : ST g A Z h mdata msize mends mmany mkind mchain mholds mnights mbits mleast mmost mroom mreserve mmount mspeed mbid mbound mcheap mpromised mcoin mpaid mowed h) (hG : RGm mnights mbits mleast mmost mroom mreserve mmount mspeed msize mbid mbound mcheap mpromised mcoin mpaid mowed) (x k : Int) (hl0 : l.stackTraces = false) (qx : -2147483648 ≤ x ∧ x < 2147483648) (qk : -2147483648 ≤ k ∧ k < 2147483648) {o1 : Nat} {F : Nat → Int64} (hO : h o1 = some (lE g 1 F)) (hZo : Z o1) (hAo : ∀ i : Nat, i < 27 → o1 ≠ A i) : CTX l yL_held wsL_held rmL_held g sz0 [.ref (A 0), .int (iI (x)), .int (iI (k)), .ref o1] h (fun v h' => v = some (.int (iI (tAsk x k mnights (mkind (60 * x + k))))) ∧ (∀ q : Nat, h q ≠ none → (∀ i : Nat, i < 27 → q ≠ A i) → q ≠ o1 → h' q = h q) ∧ ∃ F1 : Nat → Int64, h' o1 = some (lE g 1 F1) ∧ (tAsk x k mnights (mkind (60 * x + k)) = 0 → F1 0 = (iI (sumZ (fun j => bI (rowF mholds (60 * x + k) j ≠ 0)) (mmany (60 * x + k)).toNat)).toInt64 ∧ ST g A Z h' mdata msize mends mmany mkind mchain mholds mnights mbits mleast mmost mroom mreserve mmount mspeed mbid mbound mcheap mpromised mcoin mpaid mowed h') ∧ (¬ tAsk x k mnights (mkind (60 * x + k)) = 0 → ST g A Z h' mdata msize mends mmany mkind mchain mholds mnights mbits mleast mmost mroom mreserve mmount mspeed mbid mbound mcheap mpromised mcoin mpaid mowed h')) (fun _ _ => False) := by
  obtain ⟨fs0, hro⟩ := hT.ro
  refine CTX.ofH (by decide +kernel) rfl [some (.ref (A 0)), some (.int (iI (x))), some (.int (iI (k))), some (.ref o1), none] rfl (Nat.le_of_ble_eq_true rfl) ?_
  intro p e s m args below meth c B hr hlk htab
  refine r_aload_n B dL_held_0 rfl rfl ?_
  refine r_iconst B dL_held_1 ?_
  refine r_aload_n B dL_held_2 rfl rfl ?_
  refine r_iload_n B dL_held_3 rfl ?_
  refine r_iload_n B dL_held_4 rfl ?_
  refine r_callVX (n := 2) B dL_held_5 (ct_X9_held l g sz0 hA hT hG _ _ hl0 (by omega) (by omega)) gL_held_X9_held rfl (by decide +kernel) ⟨Nat.le_of_ble_eq_true rfl, Nat.le_of_ble_eq_true rfl⟩ hro rfl rfl rfl (Nat.le_of_ble_eq_true rfl) (Nat.le_of_ble_eq_true rfl) (Nat.le_of_ble_eq_true rfl) (fun E h1 hp => ?_) (fun v h1 hp => ?_)
  · obtain ⟨hE, hST⟩ := hp
    rcases hE with ⟨e1, e2⟩ | ⟨e1, e2⟩ | ⟨e1, e2⟩
    · subst e1
      refine r_catch B htab [] ⟨0, 10, 13, 13⟩ [⟨0, 10, 17, 15⟩, ⟨0, 10, 21, 17⟩] rfl List.mem_cons_self (fun z hz => absurd hz List.not_mem_nil) (by decide) (by decide) w_L_held_kl13 (fun q9 => ?_)
      refine r_astore B dL_held_13 rfl (by decide) (lcat_v rfl rfl) ?_
      refine r_iconst B dL_held_15 ?_
      exact x_ret (r_iret B hr hlk dL_held_16 (Nat.le_of_ble_eq_true rfl) (Nat.le_of_ble_eq_true rfl) ⟨by rw [e2], fun q q0 q1 _ => hST.fr q q0 q1, F, (hST.fr o1 (sm_ne hO) hAo).trans hO, fun y => absurd (e2.symm.trans y) (by decide), fun _ => hST.base⟩)
    · subst e1
      refine r_catch B htab [⟨0, 10, 13, 13⟩] ⟨0, 10, 17, 15⟩ [⟨0, 10, 21, 17⟩] rfl (List.mem_cons_of_mem _ List.mem_cons_self) (fun z hz => by rw [List.mem_singleton.mp hz]; exact ⟨by decide, xIA, List.mem_cons_self, by decide, w_L_held_kl13⟩) (by decide) (by decide) w_L_held_kl15 (fun q9 => ?_)
      refine r_astore B dL_held_17 rfl (by decide) (lcat_v rfl rfl) ?_
      refine r_iconst B dL_held_19 ?_
      exact x_ret (r_iret B hr hlk dL_held_20 (Nat.le_of_ble_eq_true rfl) (Nat.le_of_ble_eq_true rfl) ⟨by rw [e2], fun q q0 q1 _ => hST.fr q q0 q1, F, (hST.fr o1 (sm_ne hO) hAo).trans hO, fun y => absurd (e2.symm.trans y) (by decide), fun _ => hST.base⟩)
    · subst e1
      refine r_catch B htab [⟨0, 10, 13, 13⟩, ⟨0, 10, 17, 15⟩] ⟨0, 10, 21, 17⟩ [] rfl (List.mem_cons_of_mem _ (List.mem_cons_of_mem _ List.mem_cons_self)) (fun z hz => by
          rcases List.mem_cons.mp hz with y | y
          · rw [y]; exact ⟨by decide, xIA, List.mem_cons_self, by decide, w_L_held_kl13⟩
          · rw [List.mem_singleton.mp y]; exact ⟨by decide, xIO, (List.mem_cons_of_mem _ List.mem_cons_self), by decide, w_L_held_kl15⟩) (by decide) (by decide) w_L_held_kl17 (fun q9 => ?_)
      refine r_astore B dL_held_21 rfl (by decide) (lcat_v rfl rfl) ?_
      refine r_iconst B dL_held_23 ?_
      exact x_ret (r_iret B hr hlk dL_held_24 (Nat.le_of_ble_eq_true rfl) (Nat.le_of_ble_eq_true rfl) ⟨by rw [e2], fun q q0 q1 _ => hST.fr q q0 q1, F, (hST.fr o1 (sm_ne hO) hAo).trans hO, fun y => absurd (e2.symm.trans y) (by decide), fun _ => hST.base⟩)
  obtain ⟨ht0, hv, hST⟩ := hp
  subst v
  dsimp only [Option.toList, List.cons_append, List.nil_append]
  have hO1 := (hST.fr o1 (sm_ne hO) hAo).trans hO
  refine r_i2l B dL_held_8 ?_
  refine r_last B dL_held_9 hO1 (by decide) (by omega) (by omega) ?_
  refine r_goto B dL_held_10 (tgt := 25) (by decide) ?_
  refine r_iconst B dL_held_25 ?_
  exact x_ret (r_iret B hr hlk dL_held_26 (Nat.le_of_ble_eq_true rfl) (Nat.le_of_ble_eq_true rfl) ⟨by rw [ht0], fun q q0 q1 q2 => (if_neg q2).trans (hST.fr q q0 q1), _, if_pos rfl, fun _ => ⟨rfl, hST.out hZo hAo⟩, fun y => absurd ht0 y⟩)
abbrev rmL_digestByChunks : Room := { frames := 9, cells := 3, slots := 18, locals := 168 }
theorem w_L_digestByChunks_kl13 : Cond.classLink RL 13 "java/lang/IllegalArgumentException" ∈ wsL_digestByChunks := by decide +kernel
theorem w_L_digestByChunks_kl15 : Cond.classLink RL 15 "java/lang/IndexOutOfBoundsException" ∈ wsL_digestByChunks := by decide +kernel
theorem w_L_digestByChunks_kl17 : Cond.classLink RL 17 "java/lang/IllegalStateException" ∈ wsL_digestByChunks := by decide +kernel
set_option maxHeartbeats 4000000 in
set_option maxRecDepth 100000 in
theorem ct_L_digestByChunks (l : Launch) (g : GG) (sz0 : Nat) {A : Nat → Nat} {Z : Nat → Prop} (hA : AOK A) {h : AH} {mnights mbits mleast mmost mroom mreserve mmount mspeed : Int} {mdata msize mends mmany mkind mchain mholds mbid mbound mcheap mpromised mcoin mpaid mowed : Int → Int} (hT : ST g A Z h mdata msize mends mmany mkind mchain mholds mnights mbits mleast mmost mroom mreserve mmount mspeed mbid mbound mcheap mpromised mcoin mpaid mowed h) (hG : RGm mnights mbits mleast mmost mroom mreserve mmount mspeed msize mbid mbound mcheap mpromised mcoin mpaid mowed) (x k : Int) (hl0 : l.stackTraces = false) (qx : -2147483648 ≤ x ∧ x < 2147483648) (qk : -2147483648 ≤ k ∧ k < 2147483648) {o1 : Nat} {F : Nat → Int64} (hO : h o1 = some (lE g 1 F)) (hZo : Z o1) (hAo : ∀ i : Nat, i < 27 → o1 ≠ A i) : CTX l yL_digestByChunks wsL_digestByChunks rmL_digestByChunks g sz0 [.ref (A 0), .int (iI (x)), .int (iI (k)), .ref o1] h (fun v h' => v = some (.int (iI (tAsk x k mnights (mkind (60 * x + k))))) ∧ (∀ q : Nat, h q ≠ none → (∀ i : Nat, i < 27 → q ≠ A i) → q ≠ o1 → h' q = h q) ∧ ∃ F1 : Nat → Int64, h' o1 = some (lE g 1 F1) ∧ (tAsk x k mnights (mkind (60 * x + k)) = 0 → F1 0 = (dig (rowF mdata (60 * x + k)) (msize (60 * x + k)).toNat) ∧ ST g A Z h' mdata msize mends mmany mkind mchain mholds mnights mbits mleast mmost mroom mreserve mmount mspeed mbid mbound mcheap mpromised mcoin mpaid mowed h') ∧ (¬ tAsk x k mnights (mkind (60 * x + k)) = 0 → ST g A Z h' mdata msize mends mmany mkind mchain mholds mnights mbits mleast mmost mroom mreserve mmount mspeed mbid mbound mcheap mpromised mcoin mpaid mowed h')) (fun _ _ => False) := by
  obtain ⟨fs0, hro⟩ := hT.ro
  refine CTX.ofH (by decide +kernel) rfl [some (.ref (A 0)), some (.int (iI (x))), some (.int (iI (k))), some (.ref o1), none] rfl (Nat.le_of_ble_eq_true rfl) ?_
  intro p e s m args below meth c B hr hlk htab
  refine r_aload_n B dL_digestByChunks_0 rfl rfl ?_
  refine r_iconst B dL_digestByChunks_1 ?_
  refine r_aload_n B dL_digestByChunks_2 rfl rfl ?_
  refine r_iload_n B dL_digestByChunks_3 rfl ?_
  refine r_iload_n B dL_digestByChunks_4 rfl ?_
  refine r_callVX (n := 2) B dL_digestByChunks_5 (ct_X9_digestByChunks l g sz0 hA hT hG _ _ hl0 (by omega) (by omega)) gL_digestByChunks_X9_digestByChunks rfl (by decide +kernel) ⟨Nat.le_of_ble_eq_true rfl, Nat.le_of_ble_eq_true rfl⟩ hro rfl rfl rfl (Nat.le_of_ble_eq_true rfl) (Nat.le_of_ble_eq_true rfl) (Nat.le_of_ble_eq_true rfl) (fun E h1 hp => ?_) (fun v h1 hp => ?_)
  · obtain ⟨hE, hST⟩ := hp
    rcases hE with ⟨e1, e2⟩ | ⟨e1, e2⟩ | ⟨e1, e2⟩
    · subst e1
      refine r_catch B htab [] ⟨0, 9, 12, 13⟩ [⟨0, 9, 16, 15⟩, ⟨0, 9, 20, 17⟩] rfl List.mem_cons_self (fun z hz => absurd hz List.not_mem_nil) (by decide) (by decide) w_L_digestByChunks_kl13 (fun q9 => ?_)
      refine r_astore B dL_digestByChunks_12 rfl (by decide) (lcat_v rfl rfl) ?_
      refine r_iconst B dL_digestByChunks_14 ?_
      exact x_ret (r_iret B hr hlk dL_digestByChunks_15 (Nat.le_of_ble_eq_true rfl) (Nat.le_of_ble_eq_true rfl) ⟨by rw [e2], fun q q0 q1 _ => hST.fr q q0 q1, F, (hST.fr o1 (sm_ne hO) hAo).trans hO, fun y => absurd (e2.symm.trans y) (by decide), fun _ => hST.base⟩)
    · subst e1
      refine r_catch B htab [⟨0, 9, 12, 13⟩] ⟨0, 9, 16, 15⟩ [⟨0, 9, 20, 17⟩] rfl (List.mem_cons_of_mem _ List.mem_cons_self) (fun z hz => by rw [List.mem_singleton.mp hz]; exact ⟨by decide, xIA, List.mem_cons_self, by decide, w_L_digestByChunks_kl13⟩) (by decide) (by decide) w_L_digestByChunks_kl15 (fun q9 => ?_)
      refine r_astore B dL_digestByChunks_16 rfl (by decide) (lcat_v rfl rfl) ?_
      refine r_iconst B dL_digestByChunks_18 ?_
      exact x_ret (r_iret B hr hlk dL_digestByChunks_19 (Nat.le_of_ble_eq_true rfl) (Nat.le_of_ble_eq_true rfl) ⟨by rw [e2], fun q q0 q1 _ => hST.fr q q0 q1, F, (hST.fr o1 (sm_ne hO) hAo).trans hO, fun y => absurd (e2.symm.trans y) (by decide), fun _ => hST.base⟩)
    · subst e1
      refine r_catch B htab [⟨0, 9, 12, 13⟩, ⟨0, 9, 16, 15⟩] ⟨0, 9, 20, 17⟩ [] rfl (List.mem_cons_of_mem _ (List.mem_cons_of_mem _ List.mem_cons_self)) (fun z hz => by
          rcases List.mem_cons.mp hz with y | y
          · rw [y]; exact ⟨by decide, xIA, List.mem_cons_self, by decide, w_L_digestByChunks_kl13⟩
          · rw [List.mem_singleton.mp y]; exact ⟨by decide, xIO, (List.mem_cons_of_mem _ List.mem_cons_self), by decide, w_L_digestByChunks_kl15⟩) (by decide) (by decide) w_L_digestByChunks_kl17 (fun q9 => ?_)
      refine r_astore B dL_digestByChunks_20 rfl (by decide) (lcat_v rfl rfl) ?_
      refine r_iconst B dL_digestByChunks_22 ?_
      exact x_ret (r_iret B hr hlk dL_digestByChunks_23 (Nat.le_of_ble_eq_true rfl) (Nat.le_of_ble_eq_true rfl) ⟨by rw [e2], fun q q0 q1 _ => hST.fr q q0 q1, F, (hST.fr o1 (sm_ne hO) hAo).trans hO, fun y => absurd (e2.symm.trans y) (by decide), fun _ => hST.base⟩)
  obtain ⟨ht0, hv, hST⟩ := hp
  subst v
  dsimp only [Option.toList, List.cons_append, List.nil_append]
  have hO1 := (hST.fr o1 (sm_ne hO) hAo).trans hO
  refine r_last B dL_digestByChunks_8 hO1 (by decide) (by omega) (by omega) ?_
  refine r_goto B dL_digestByChunks_9 (tgt := 24) (by decide) ?_
  refine r_iconst B dL_digestByChunks_24 ?_
  exact x_ret (r_iret B hr hlk dL_digestByChunks_25 (Nat.le_of_ble_eq_true rfl) (Nat.le_of_ble_eq_true rfl) ⟨by rw [ht0], fun q q0 q1 q2 => (if_neg q2).trans (hST.fr q q0 q1), _, if_pos rfl, fun _ => ⟨rfl, hST.out hZo hAo⟩, fun y => absurd ht0 y⟩)
abbrev rmL_dayOf : Room := { frames := 8, cells := 2, slots := 12, locals := 145 }
theorem w_L_dayOf_kl13 : Cond.classLink RL 13 "java/lang/IllegalArgumentException" ∈ wsL_dayOf := by decide +kernel
theorem w_L_dayOf_kl15 : Cond.classLink RL 15 "java/lang/IndexOutOfBoundsException" ∈ wsL_dayOf := by decide +kernel
set_option maxHeartbeats 4000000 in
set_option maxRecDepth 100000 in
theorem ct_L_dayOf (l : Launch) (g : GG) (sz0 : Nat) {A : Nat → Nat} {Z : Nat → Prop} (hA : AOK A) {h : AH} {mnights mbits mleast mmost mroom mreserve mmount mspeed : Int} {mdata msize mends mmany mkind mchain mholds mbid mbound mcheap mpromised mcoin mpaid mowed : Int → Int} (hT : ST g A Z h mdata msize mends mmany mkind mchain mholds mnights mbits mleast mmost mroom mreserve mmount mspeed mbid mbound mcheap mpromised mcoin mpaid mowed h) (hG : RGm mnights mbits mleast mmost mroom mreserve mmount mspeed msize mbid mbound mcheap mpromised mcoin mpaid mowed) (x k : Int) (hl0 : l.stackTraces = false) (qx : -2147483648 ≤ x ∧ x < 2147483648) (qk : -2147483648 ≤ k ∧ k < 2147483648) {o1 : Nat} {F : Nat → Int64} (hO : h o1 = some (lE g 1 F)) (hZo : Z o1) (hAo : ∀ i : Nat, i < 27 → o1 ≠ A i) : CTX l yL_dayOf wsL_dayOf rmL_dayOf g sz0 [.ref (A 0), .int (iI (x)), .int (iI (k)), .ref o1] h (fun v h' => v = some (.int (iI (tNi x k mnights))) ∧ (∀ q : Nat, h q ≠ none → (∀ i : Nat, i < 27 → q ≠ A i) → q ≠ o1 → h' q = h q) ∧ ∃ F1 : Nat → Int64, h' o1 = some (lE g 1 F1) ∧ (tNi x k mnights = 0 → F1 0 = (iI (ltN (colF mkind x) (k + 1).toNat)).toInt64 ∧ ST g A Z h' mdata msize mends mmany mkind mchain mholds mnights mbits mleast mmost mroom mreserve mmount mspeed mbid mbound mcheap mpromised mcoin mpaid mowed h') ∧ (¬ tNi x k mnights = 0 → ST g A Z h' mdata msize mends mmany mkind mchain mholds mnights mbits mleast mmost mroom mreserve mmount mspeed mbid mbound mcheap mpromised mcoin mpaid mowed h')) (fun _ _ => False) := by
  obtain ⟨fs0, hro⟩ := hT.ro
  refine CTX.ofH (by decide +kernel) rfl [some (.ref (A 0)), some (.int (iI (x))), some (.int (iI (k))), some (.ref o1), none] rfl (Nat.le_of_ble_eq_true rfl) ?_
  intro p e s m args below meth c B hr hlk htab
  refine r_aload_n B dL_dayOf_0 rfl rfl ?_
  refine r_iconst B dL_dayOf_1 ?_
  refine r_aload_n B dL_dayOf_2 rfl rfl ?_
  refine r_iload_n B dL_dayOf_3 rfl ?_
  refine r_iload_n B dL_dayOf_4 rfl ?_
  refine r_callVX (n := 2) B dL_dayOf_5 (ct_X9_dayOf l g sz0 hA hT hG _ _ hl0 (by omega) (by omega)) gL_dayOf_X9_dayOf rfl (by decide +kernel) ⟨Nat.le_of_ble_eq_true rfl, Nat.le_of_ble_eq_true rfl⟩ hro rfl rfl rfl (Nat.le_of_ble_eq_true rfl) (Nat.le_of_ble_eq_true rfl) (Nat.le_of_ble_eq_true rfl) (fun E h1 hp => ?_) (fun v h1 hp => ?_)
  · obtain ⟨hE, hST⟩ := hp
    rcases hE with ⟨e1, e2⟩ | ⟨e1, e2⟩
    · subst e1
      refine r_catch B htab [] ⟨0, 10, 13, 13⟩ [⟨0, 10, 17, 15⟩] rfl List.mem_cons_self (fun z hz => absurd hz List.not_mem_nil) (by decide) (by decide) w_L_dayOf_kl13 (fun q9 => ?_)
      refine r_astore B dL_dayOf_13 rfl (by decide) (lcat_v rfl rfl) ?_
      refine r_iconst B dL_dayOf_15 ?_
      exact x_ret (r_iret B hr hlk dL_dayOf_16 (Nat.le_of_ble_eq_true rfl) (Nat.le_of_ble_eq_true rfl) ⟨by rw [e2], fun q q0 q1 _ => hST.fr q q0 q1, F, (hST.fr o1 (sm_ne hO) hAo).trans hO, fun y => absurd (e2.symm.trans y) (by decide), fun _ => hST.base⟩)
    · subst e1
      refine r_catch B htab [⟨0, 10, 13, 13⟩] ⟨0, 10, 17, 15⟩ [] rfl (List.mem_cons_of_mem _ List.mem_cons_self) (fun z hz => by rw [List.mem_singleton.mp hz]; exact ⟨by decide, xIA, List.mem_cons_self, by decide, w_L_dayOf_kl13⟩) (by decide) (by decide) w_L_dayOf_kl15 (fun q9 => ?_)
      refine r_astore B dL_dayOf_17 rfl (by decide) (lcat_v rfl rfl) ?_
      refine r_iconst B dL_dayOf_19 ?_
      exact x_ret (r_iret B hr hlk dL_dayOf_20 (Nat.le_of_ble_eq_true rfl) (Nat.le_of_ble_eq_true rfl) ⟨by rw [e2], fun q q0 q1 _ => hST.fr q q0 q1, F, (hST.fr o1 (sm_ne hO) hAo).trans hO, fun y => absurd (e2.symm.trans y) (by decide), fun _ => hST.base⟩)
  obtain ⟨ht0, hv, hST⟩ := hp
  subst v
  dsimp only [Option.toList, List.cons_append, List.nil_append]
  have hO1 := (hST.fr o1 (sm_ne hO) hAo).trans hO
  refine r_i2l B dL_dayOf_8 ?_
  refine r_last B dL_dayOf_9 hO1 (by decide) (by omega) (by omega) ?_
  refine r_goto B dL_dayOf_10 (tgt := 21) (by decide) ?_
  refine r_iconst B dL_dayOf_21 ?_
  exact x_ret (r_iret B hr hlk dL_dayOf_22 (Nat.le_of_ble_eq_true rfl) (Nat.le_of_ble_eq_true rfl) ⟨by rw [ht0], fun q q0 q1 q2 => (if_neg q2).trans (hST.fr q q0 q1), _, if_pos rfl, fun _ => ⟨rfl, hST.out hZo hAo⟩, fun y => absurd ht0 y⟩)
abbrev rmL_setNight : Room := { frames := 8, cells := 2, slots := 12, locals := 144 }
theorem w_L_setNight_kl13 : Cond.classLink RL 13 "java/lang/IllegalArgumentException" ∈ wsL_setNight := by decide +kernel
set_option maxHeartbeats 4000000 in
set_option maxRecDepth 100000 in
theorem ct_L_setNight (l : Launch) (g : GG) (sz0 : Nat) {A : Nat → Nat} {Z : Nat → Prop} (hA : AOK A) {h : AH} {mnights mbits mleast mmost mroom mreserve mmount mspeed : Int} {mdata msize mends mmany mkind mchain mholds mbid mbound mcheap mpromised mcoin mpaid mowed : Int → Int} (hT : ST g A Z h mdata msize mends mmany mkind mchain mholds mnights mbits mleast mmost mroom mreserve mmount mspeed mbid mbound mcheap mpromised mcoin mpaid mowed h) (hG : RGm mnights mbits mleast mmost mroom mreserve mmount mspeed msize mbid mbound mcheap mpromised mcoin mpaid mowed) (x y : Int) (hl0 : l.stackTraces = false) (qx : -2147483648 ≤ x ∧ x < 2147483648) (qy : -2147483648 ≤ y ∧ y < 2147483648) : CTX l yL_setNight wsL_setNight rmL_setNight g sz0 [.ref (A 0), .int (iI (x)), .int (iI (y))] h (fun v h' => v = some (.int (iI (tB ((0 ≤ x ∧ x ≤ 500) ∧ (0 ≤ y ∧ y ≤ 50))))) ∧ (∀ q : Nat, h q ≠ none → (∀ i : Nat, i < 27 → q ≠ A i) → h' q = h q) ∧ (tB ((0 ≤ x ∧ x ≤ 500) ∧ (0 ≤ y ∧ y ≤ 50)) = 0 → ST g A Z h' mdata msize mends mmany mkind mchain mholds mnights mbits mleast mmost x y mmount mspeed mbid mbound mcheap mpromised mcoin mpaid mowed h') ∧ (¬ tB ((0 ≤ x ∧ x ≤ 500) ∧ (0 ≤ y ∧ y ≤ 50)) = 0 → ST g A Z h' mdata msize mends mmany mkind mchain mholds mnights mbits mleast mmost mroom mreserve mmount mspeed mbid mbound mcheap mpromised mcoin mpaid mowed h')) (fun _ _ => False) := by
  obtain ⟨fs0, hro⟩ := hT.ro
  refine CTX.ofH (by decide +kernel) rfl [some (.ref (A 0)), some (.int (iI (x))), some (.int (iI (y))), none] rfl (Nat.le_of_ble_eq_true rfl) ?_
  intro p e s m args below meth c B hr hlk htab
  refine r_aload_n B dL_setNight_0 rfl rfl ?_
  refine r_iload_n B dL_setNight_1 rfl ?_
  refine r_iload_n B dL_setNight_2 rfl ?_
  refine r_callVX (n := 2) B dL_setNight_3 (ct_X9_setNight l g sz0 hA hT hG _ _ hl0 (by omega) (by omega)) gL_setNight_X9_setNight rfl (by decide +kernel) ⟨Nat.le_of_ble_eq_true rfl, Nat.le_of_ble_eq_true rfl⟩ hro rfl rfl rfl (Nat.le_of_ble_eq_true rfl) (Nat.le_of_ble_eq_true rfl) (Nat.le_of_ble_eq_true rfl) (fun E h1 hp => ?_) (fun v h1 hp => ?_)
  · obtain ⟨hE, hST⟩ := hp
    obtain ⟨e1, e2⟩ := hE
    subst e1
    refine r_catch B htab [] ⟨0, 6, 9, 13⟩ [] rfl List.mem_cons_self (fun z hz => absurd hz List.not_mem_nil) (by decide) (by decide) w_L_setNight_kl13 (fun q9 => ?_)
    refine r_astore_n B dL_setNight_9 rfl rfl (by decide) (lcat_v rfl rfl) ?_
    refine r_iconst B dL_setNight_10 ?_
    exact x_ret (r_iret B hr hlk dL_setNight_11 (Nat.le_of_ble_eq_true rfl) (Nat.le_of_ble_eq_true rfl) ⟨by rw [e2], hST.fr, fun y => absurd (e2.symm.trans y) (by decide), fun _ => hST.base⟩)
  obtain ⟨ht0, hv, hST⟩ := hp
  subst v
  dsimp only [Option.toList, List.cons_append, List.nil_append]
  refine r_goto B dL_setNight_6 (tgt := 12) (by decide) ?_
  refine r_iconst B dL_setNight_12 ?_
  exact x_ret (r_iret B hr hlk dL_setNight_13 (Nat.le_of_ble_eq_true rfl) (Nat.le_of_ble_eq_true rfl) ⟨by rw [ht0], hST.fr, fun _ => hST.base, fun y => absurd ht0 y⟩)
abbrev rmL_setChain : Room := { frames := 8, cells := 3, slots := 18, locals := 146 }
theorem w_L_setChain_kl13 : Cond.classLink RL 13 "java/lang/IllegalArgumentException" ∈ wsL_setChain := by decide +kernel
set_option maxHeartbeats 4000000 in
set_option maxRecDepth 100000 in
theorem ct_L_setChain (l : Launch) (g : GG) (sz0 : Nat) {A : Nat → Nat} {Z : Nat → Prop} (hA : AOK A) {h : AH} {mnights mbits mleast mmost mroom mreserve mmount mspeed : Int} {mdata msize mends mmany mkind mchain mholds mbid mbound mcheap mpromised mcoin mpaid mowed : Int → Int} (hT : ST g A Z h mdata msize mends mmany mkind mchain mholds mnights mbits mleast mmost mroom mreserve mmount mspeed mbid mbound mcheap mpromised mcoin mpaid mowed h) (hG : RGm mnights mbits mleast mmost mroom mreserve mmount mspeed msize mbid mbound mcheap mpromised mcoin mpaid mowed) (x y z : Int) (hl0 : l.stackTraces = false) (qx : -2147483648 ≤ x ∧ x < 2147483648) (qy : -2147483648 ≤ y ∧ y < 2147483648) (qz : -2147483648 ≤ z ∧ z < 2147483648) : CTX l yL_setChain wsL_setChain rmL_setChain g sz0 [.ref (A 0), .int (iI (x)), .int (iI (y)), .int (iI (z))] h (fun v h' => v = some (.int (iI (tB ((0 ≤ x ∧ x ≤ 3) ∧ (0 ≤ y ∧ y ≤ 30) ∧ (0 ≤ z ∧ z ≤ 50))))) ∧ (∀ q : Nat, h q ≠ none → (∀ i : Nat, i < 27 → q ≠ A i) → h' q = h q) ∧ (tB ((0 ≤ x ∧ x ≤ 3) ∧ (0 ≤ y ∧ y ≤ 30) ∧ (0 ≤ z ∧ z ≤ 50)) = 0 → ST g A Z h' mdata msize mends mmany mkind mchain mholds mnights mbits mleast mmost mroom mreserve mmount mspeed mbid (upZ mbound x y) (upZ mcheap x z) mpromised mcoin mpaid mowed h') ∧ (¬ tB ((0 ≤ x ∧ x ≤ 3) ∧ (0 ≤ y ∧ y ≤ 30) ∧ (0 ≤ z ∧ z ≤ 50)) = 0 → ST g A Z h' mdata msize mends mmany mkind mchain mholds mnights mbits mleast mmost mroom mreserve mmount mspeed mbid mbound mcheap mpromised mcoin mpaid mowed h')) (fun _ _ => False) := by
  obtain ⟨fs0, hro⟩ := hT.ro
  refine CTX.ofH (by decide +kernel) rfl [some (.ref (A 0)), some (.int (iI (x))), some (.int (iI (y))), some (.int (iI (z))), none] rfl (Nat.le_of_ble_eq_true rfl) ?_
  intro p e s m args below meth c B hr hlk htab
  refine r_aload_n B dL_setChain_0 rfl rfl ?_
  refine r_iload_n B dL_setChain_1 rfl ?_
  refine r_iload_n B dL_setChain_2 rfl ?_
  refine r_iload_n B dL_setChain_3 rfl ?_
  refine r_callVX (n := 3) B dL_setChain_4 (ct_X9_setChain l g sz0 hA hT hG _ _ _ hl0 (by omega) (by omega) (by omega)) gL_setChain_X9_setChain rfl (by decide +kernel) ⟨Nat.le_of_ble_eq_true rfl, Nat.le_of_ble_eq_true rfl⟩ hro rfl rfl rfl (Nat.le_of_ble_eq_true rfl) (Nat.le_of_ble_eq_true rfl) (Nat.le_of_ble_eq_true rfl) (fun E h1 hp => ?_) (fun v h1 hp => ?_)
  · obtain ⟨hE, hST⟩ := hp
    obtain ⟨e1, e2⟩ := hE
    subst e1
    refine r_catch B htab [] ⟨0, 7, 10, 13⟩ [] rfl List.mem_cons_self (fun z hz => absurd hz List.not_mem_nil) (by decide) (by decide) w_L_setChain_kl13 (fun q9 => ?_)
    refine r_astore B dL_setChain_10 rfl (by decide) (lcat_v rfl rfl) ?_
    refine r_iconst B dL_setChain_12 ?_
    exact x_ret (r_iret B hr hlk dL_setChain_13 (Nat.le_of_ble_eq_true rfl) (Nat.le_of_ble_eq_true rfl) ⟨by rw [e2], hST.fr, fun y => absurd (e2.symm.trans y) (by decide), fun _ => hST.base⟩)
  obtain ⟨ht0, hv, hST⟩ := hp
  subst v
  dsimp only [Option.toList, List.cons_append, List.nil_append]
  refine r_goto B dL_setChain_7 (tgt := 14) (by decide) ?_
  refine r_iconst B dL_setChain_14 ?_
  exact x_ret (r_iret B hr hlk dL_setChain_15 (Nat.le_of_ble_eq_true rfl) (Nat.le_of_ble_eq_true rfl) ⟨by rw [ht0], hST.fr, fun _ => hST.base, fun y => absurd ht0 y⟩)
abbrev rmL_cut : Room := { frames := 8, cells := 2, slots := 12, locals := 146 }
theorem w_L_cut_kl13 : Cond.classLink RL 13 "java/lang/IllegalArgumentException" ∈ wsL_cut := by decide +kernel
theorem w_L_cut_kl15 : Cond.classLink RL 15 "java/lang/IndexOutOfBoundsException" ∈ wsL_cut := by decide +kernel
set_option maxHeartbeats 4000000 in
set_option maxRecDepth 100000 in
theorem ct_L_cut (l : Launch) (g : GG) (sz0 : Nat) {A : Nat → Nat} {Z : Nat → Prop} (hA : AOK A) {h : AH} {mnights mbits mleast mmost mroom mreserve mmount mspeed : Int} {mdata msize mends mmany mkind mchain mholds mbid mbound mcheap mpromised mcoin mpaid mowed : Int → Int} (hT : ST g A Z h mdata msize mends mmany mkind mchain mholds mnights mbits mleast mmost mroom mreserve mmount mspeed mbid mbound mcheap mpromised mcoin mpaid mowed h) (hG : RGm mnights mbits mleast mmost mroom mreserve mmount mspeed msize mbid mbound mcheap mpromised mcoin mpaid mowed) (x k w : Int) (hl0 : l.stackTraces = false) (qx : -2147483648 ≤ x ∧ x < 2147483648) (qk : -2147483648 ≤ k ∧ k < 2147483648) (qw : -2147483648 ≤ w ∧ w < 2147483648) {o1 : Nat} {F : Nat → Int64} (hO : h o1 = some (lE g 1 F)) (hZo : Z o1) (hAo : ∀ i : Nat, i < 27 → o1 ≠ A i) : CTX l yL_cut wsL_cut rmL_cut g sz0 [.ref (A 0), .int (iI (x)), .int (iI (k)), .int (iI (w)), .ref o1] h (fun v h' => v = some (.int (iI (tCut x k w (msize (240 + x))))) ∧ (∀ q : Nat, h q ≠ none → (∀ i : Nat, i < 27 → q ≠ A i) → q ≠ o1 → h' q = h q) ∧ ∃ F1 : Nat → Int64, h' o1 = some (lE g 1 F1) ∧ (tCut x k w (msize (240 + x)) = 0 → F1 0 = (iI (msize (240 + x) - w)).toInt64 ∧ ST g A Z h' (cutF mdata (48 * (240 + x)) k w (msize (240 + x) - w)) (upZ msize (240 + x) (msize (240 + x) - w)) mends mmany mkind mchain mholds mnights mbits mleast mmost mroom mreserve mmount mspeed mbid mbound mcheap mpromised mcoin mpaid mowed h') ∧ (¬ tCut x k w (msize (240 + x)) = 0 → ST g A Z h' mdata msize mends mmany mkind mchain mholds mnights mbits mleast mmost mroom mreserve mmount mspeed mbid mbound mcheap mpromised mcoin mpaid mowed h')) (fun _ _ => False) := by
  obtain ⟨fs0, hro⟩ := hT.ro
  refine CTX.ofH (by decide +kernel) rfl [some (.ref (A 0)), some (.int (iI (x))), some (.int (iI (k))), some (.int (iI (w))), some (.ref o1), none] rfl (Nat.le_of_ble_eq_true rfl) ?_
  intro p e s m args below meth c B hr hlk htab
  refine r_aload B dL_cut_0 rfl rfl ?_
  refine r_iconst B dL_cut_2 ?_
  refine r_aload_n B dL_cut_3 rfl rfl ?_
  refine r_iload_n B dL_cut_4 rfl ?_
  refine r_iload_n B dL_cut_5 rfl ?_
  refine r_iload_n B dL_cut_6 rfl ?_
  refine r_callVX (n := 3) B dL_cut_7 (ct_X9_cut l g sz0 hA hT hG _ _ _ hl0 (by omega) (by omega) (by omega)) gL_cut_X9_cut rfl (by decide +kernel) ⟨Nat.le_of_ble_eq_true rfl, Nat.le_of_ble_eq_true rfl⟩ hro rfl rfl rfl (Nat.le_of_ble_eq_true rfl) (Nat.le_of_ble_eq_true rfl) (Nat.le_of_ble_eq_true rfl) (fun E h1 hp => ?_) (fun v h1 hp => ?_)
  · obtain ⟨hE, hST⟩ := hp
    rcases hE with ⟨e1, e2⟩ | ⟨e1, e2⟩
    · subst e1
      refine r_catch B htab [] ⟨0, 12, 15, 13⟩ [⟨0, 12, 19, 15⟩] rfl List.mem_cons_self (fun z hz => absurd hz List.not_mem_nil) (by decide) (by decide) w_L_cut_kl13 (fun q9 => ?_)
      refine r_astore B dL_cut_15 rfl (by decide) (lcat_v rfl rfl) ?_
      refine r_iconst B dL_cut_17 ?_
      exact x_ret (r_iret B hr hlk dL_cut_18 (Nat.le_of_ble_eq_true rfl) (Nat.le_of_ble_eq_true rfl) ⟨by rw [e2], fun q q0 q1 _ => hST.fr q q0 q1, F, (hST.fr o1 (sm_ne hO) hAo).trans hO, fun y => absurd (e2.symm.trans y) (by decide), fun _ => hST.base⟩)
    · subst e1
      refine r_catch B htab [⟨0, 12, 15, 13⟩] ⟨0, 12, 19, 15⟩ [] rfl (List.mem_cons_of_mem _ List.mem_cons_self) (fun z hz => by rw [List.mem_singleton.mp hz]; exact ⟨by decide, xIA, List.mem_cons_self, by decide, w_L_cut_kl13⟩) (by decide) (by decide) w_L_cut_kl15 (fun q9 => ?_)
      refine r_astore B dL_cut_19 rfl (by decide) (lcat_v rfl rfl) ?_
      refine r_iconst B dL_cut_21 ?_
      exact x_ret (r_iret B hr hlk dL_cut_22 (Nat.le_of_ble_eq_true rfl) (Nat.le_of_ble_eq_true rfl) ⟨by rw [e2], fun q q0 q1 _ => hST.fr q q0 q1, F, (hST.fr o1 (sm_ne hO) hAo).trans hO, fun y => absurd (e2.symm.trans y) (by decide), fun _ => hST.base⟩)
  obtain ⟨ht0, hv, hST⟩ := hp
  subst v
  dsimp only [Option.toList, List.cons_append, List.nil_append]
  have hO1 := (hST.fr o1 (sm_ne hO) hAo).trans hO
  refine r_i2l B dL_cut_10 ?_
  refine r_last B dL_cut_11 hO1 (by decide) (by omega) (by omega) ?_
  refine r_goto B dL_cut_12 (tgt := 23) (by decide) ?_
  refine r_iconst B dL_cut_23 ?_
  exact x_ret (r_iret B hr hlk dL_cut_24 (Nat.le_of_ble_eq_true rfl) (Nat.le_of_ble_eq_true rfl) ⟨by rw [ht0], fun q q0 q1 q2 => (if_neg q2).trans (hST.fr q q0 q1), _, if_pos rfl, fun _ => ⟨rfl, hST.out hZo hAo⟩, fun y => absurd ht0 y⟩)
abbrev rmL_chunks : Room := { frames := 9, cells := 1, slots := 6, locals := 165 }
theorem w_L_chunks_kl13 : Cond.classLink RL 13 "java/lang/IllegalArgumentException" ∈ wsL_chunks := by decide +kernel
set_option maxHeartbeats 4000000 in
set_option maxRecDepth 100000 in
theorem ct_L_chunks (l : Launch) (g : GG) (sz0 : Nat) {A : Nat → Nat} {Z : Nat → Prop} (hA : AOK A) {h : AH} {mnights mbits mleast mmost mroom mreserve mmount mspeed : Int} {mdata msize mends mmany mkind mchain mholds mbid mbound mcheap mpromised mcoin mpaid mowed : Int → Int} (hT : ST g A Z h mdata msize mends mmany mkind mchain mholds mnights mbits mleast mmost mroom mreserve mmount mspeed mbid mbound mcheap mpromised mcoin mpaid mowed h) (hG : RGm mnights mbits mleast mmost mroom mreserve mmount mspeed msize mbid mbound mcheap mpromised mcoin mpaid mowed) (x : Int) (hl0 : l.stackTraces = false) (qx : -2147483648 ≤ x ∧ x < 2147483648) {o1 : Nat} {F : Nat → Int64} (hO : h o1 = some (lE g 1 F)) (hZo : Z o1) (hAo : ∀ i : Nat, i < 27 → o1 ≠ A i) : CTX l yL_chunks wsL_chunks rmL_chunks g sz0 [.ref (A 0), .int (iI (x)), .ref o1] h (fun v h' => v = some (.int (iI (tCl x))) ∧ (∀ q : Nat, h q ≠ none → (∀ i : Nat, i < 27 → q ≠ A i) → q ≠ o1 → h' q = h q) ∧ ∃ F1 : Nat → Int64, h' o1 = some (lE g 1 F1) ∧ (tCl x = 0 → F1 0 = (iI ((cutR (rowF mdata (240 + x)) (msize (240 + x)) mbits mleast mmost).2.1)).toInt64 ∧ ST g A Z h' mdata msize mends mmany mkind mchain mholds mnights mbits mleast mmost mroom mreserve mmount mspeed mbid mbound mcheap mpromised mcoin mpaid mowed h') ∧ (¬ tCl x = 0 → ST g A Z h' mdata msize mends mmany mkind mchain mholds mnights mbits mleast mmost mroom mreserve mmount mspeed mbid mbound mcheap mpromised mcoin mpaid mowed h')) (fun _ _ => False) := by
  obtain ⟨fs0, hro⟩ := hT.ro
  refine CTX.ofH (by decide +kernel) rfl [some (.ref (A 0)), some (.int (iI (x))), some (.ref o1), none] rfl (Nat.le_of_ble_eq_true rfl) ?_
  intro p e s m args below meth c B hr hlk htab
  refine r_aload_n B dL_chunks_0 rfl rfl ?_
  refine r_iconst B dL_chunks_1 ?_
  refine r_aload_n B dL_chunks_2 rfl rfl ?_
  refine r_iload_n B dL_chunks_3 rfl ?_
  refine r_callVX (n := 1) B dL_chunks_4 (ct_X9_chunks l g sz0 hA hT hG _ hl0 (by omega)) gL_chunks_X9_chunks rfl (by decide +kernel) ⟨Nat.le_of_ble_eq_true rfl, Nat.le_of_ble_eq_true rfl⟩ hro rfl rfl rfl (Nat.le_of_ble_eq_true rfl) (Nat.le_of_ble_eq_true rfl) (Nat.le_of_ble_eq_true rfl) (fun E h1 hp => ?_) (fun v h1 hp => ?_)
  · obtain ⟨hE, hST⟩ := hp
    obtain ⟨e1, e2⟩ := hE
    subst e1
    refine r_catch B htab [] ⟨0, 9, 12, 13⟩ [] rfl List.mem_cons_self (fun z hz => absurd hz List.not_mem_nil) (by decide) (by decide) w_L_chunks_kl13 (fun q9 => ?_)
    refine r_astore_n B dL_chunks_12 rfl rfl (by decide) (lcat_v rfl rfl) ?_
    refine r_iconst B dL_chunks_13 ?_
    exact x_ret (r_iret B hr hlk dL_chunks_14 (Nat.le_of_ble_eq_true rfl) (Nat.le_of_ble_eq_true rfl) ⟨by rw [e2], fun q q0 q1 _ => hST.fr q q0 q1, F, (hST.fr o1 (sm_ne hO) hAo).trans hO, fun y => absurd (e2.symm.trans y) (by decide), fun _ => hST.base⟩)
  obtain ⟨ht0, hv, hST⟩ := hp
  subst v
  dsimp only [Option.toList, List.cons_append, List.nil_append]
  have hO1 := (hST.fr o1 (sm_ne hO) hAo).trans hO
  refine r_i2l B dL_chunks_7 ?_
  refine r_last B dL_chunks_8 hO1 (by decide) (by omega) (by omega) ?_
  refine r_goto B dL_chunks_9 (tgt := 15) (by decide) ?_
  refine r_iconst B dL_chunks_15 ?_
  exact x_ret (r_iret B hr hlk dL_chunks_16 (Nat.le_of_ble_eq_true rfl) (Nat.le_of_ble_eq_true rfl) ⟨by rw [ht0], fun q q0 q1 q2 => (if_neg q2).trans (hST.fr q q0 q1), _, if_pos rfl, fun _ => ⟨rfl, hST.out hZo hAo⟩, fun y => absurd ht0 y⟩)
abbrev rmL_forDifference : Room := { frames := 9, cells := 3, slots := 18, locals := 167 }
theorem w_L_forDifference_kl13 : Cond.classLink RL 13 "java/lang/IllegalArgumentException" ∈ wsL_forDifference := by decide +kernel
theorem w_L_forDifference_kl17 : Cond.classLink RL 17 "java/lang/IllegalStateException" ∈ wsL_forDifference := by decide +kernel
set_option maxHeartbeats 4000000 in
set_option maxRecDepth 100000 in
theorem ct_L_forDifference (l : Launch) (g : GG) (sz0 : Nat) {A : Nat → Nat} {Z : Nat → Prop} (hA : AOK A) {h : AH} {mnights mbits mleast mmost mroom mreserve mmount mspeed : Int} {mdata msize mends mmany mkind mchain mholds mbid mbound mcheap mpromised mcoin mpaid mowed : Int → Int} (hT : ST g A Z h mdata msize mends mmany mkind mchain mholds mnights mbits mleast mmost mroom mreserve mmount mspeed mbid mbound mcheap mpromised mcoin mpaid mowed h) (hG : RGm mnights mbits mleast mmost mroom mreserve mmount mspeed msize mbid mbound mcheap mpromised mcoin mpaid mowed) (x : Int) (hl0 : l.stackTraces = false) (qx : -2147483648 ≤ x ∧ x < 2147483648) {o1 : Nat} {F : Nat → Int64} (hO : h o1 = some (lE g 1 F)) (hZo : Z o1) (hAo : ∀ i : Nat, i < 27 → o1 ≠ A i) : CTX l yL_forDifference wsL_forDifference rmL_forDifference g sz0 [.ref (A 0), .int (iI (x)), .ref o1] h (fun v h' => v = some (.int (iI (tDif x (ltN (colF mkind x) mnights.toNat)))) ∧ (∀ q : Nat, h q ≠ none → (∀ i : Nat, i < 27 → q ≠ A i) → q ≠ o1 → h' q = h q) ∧ ∃ F1 : Nat → Int64, h' o1 = some (lE g 1 F1) ∧ (tDif x (ltN (colF mkind x) mnights.toNat) = 0 → F1 0 = (iI (difB (rowF mdata (240 + x)) (cutR (rowF mdata (240 + x)) (msize (240 + x)) mbits mleast mmost).2.2 (cutR (rowF mdata (240 + x)) (msize (240 + x)) mbits mleast mmost).2.1 (inCh mdata mends mmany mkind mchain mholds mnights x))).toInt64 ∧ ST g A Z h' mdata msize mends mmany mkind mchain mholds mnights mbits mleast mmost mroom mreserve mmount mspeed mbid mbound mcheap mpromised mcoin mpaid mowed h') ∧ (¬ tDif x (ltN (colF mkind x) mnights.toNat) = 0 → ST g A Z h' mdata msize mends mmany mkind mchain mholds mnights mbits mleast mmost mroom mreserve mmount mspeed mbid mbound mcheap mpromised mcoin mpaid mowed h')) (fun _ _ => False) := by
  obtain ⟨fs0, hro⟩ := hT.ro
  refine CTX.ofH (by decide +kernel) rfl [some (.ref (A 0)), some (.int (iI (x))), some (.ref o1), none] rfl (Nat.le_of_ble_eq_true rfl) ?_
  intro p e s m args below meth c B hr hlk htab
  refine r_aload_n B dL_forDifference_0 rfl rfl ?_
  refine r_iconst B dL_forDifference_1 ?_
  refine r_aload_n B dL_forDifference_2 rfl rfl ?_
  refine r_iload_n B dL_forDifference_3 rfl ?_
  refine r_callVX (n := 1) B dL_forDifference_4 (ct_X9_forDifference l g sz0 hA hT hG _ hl0 (by omega)) gL_forDifference_X9_forDifference rfl (by decide +kernel) ⟨Nat.le_of_ble_eq_true rfl, Nat.le_of_ble_eq_true rfl⟩ hro rfl rfl rfl (Nat.le_of_ble_eq_true rfl) (Nat.le_of_ble_eq_true rfl) (Nat.le_of_ble_eq_true rfl) (fun E h1 hp => ?_) (fun v h1 hp => ?_)
  · obtain ⟨hE, hST⟩ := hp
    rcases hE with ⟨e1, e2⟩ | ⟨e1, e2⟩
    · subst e1
      refine r_catch B htab [] ⟨0, 9, 12, 13⟩ [⟨0, 9, 15, 17⟩] rfl List.mem_cons_self (fun z hz => absurd hz List.not_mem_nil) (by decide) (by decide) w_L_forDifference_kl13 (fun q9 => ?_)
      refine r_astore_n B dL_forDifference_12 rfl rfl (by decide) (lcat_v rfl rfl) ?_
      refine r_iconst B dL_forDifference_13 ?_
      exact x_ret (r_iret B hr hlk dL_forDifference_14 (Nat.le_of_ble_eq_true rfl) (Nat.le_of_ble_eq_true rfl) ⟨by rw [e2], fun q q0 q1 _ => hST.fr q q0 q1, F, (hST.fr o1 (sm_ne hO) hAo).trans hO, fun y => absurd (e2.symm.trans y) (by decide), fun _ => hST.base⟩)
    · subst e1
      refine r_catch B htab [⟨0, 9, 12, 13⟩] ⟨0, 9, 15, 17⟩ [] rfl (List.mem_cons_of_mem _ (List.mem_cons_of_mem _ List.mem_cons_self)) (fun z hz => by rw [List.mem_singleton.mp hz]; exact ⟨by decide, xIA, List.mem_cons_self, by decide, w_L_forDifference_kl13⟩) (by decide) (by decide) w_L_forDifference_kl17 (fun q9 => ?_)
      refine r_astore_n B dL_forDifference_15 rfl rfl (by decide) (lcat_v rfl rfl) ?_
      refine r_iconst B dL_forDifference_16 ?_
      exact x_ret (r_iret B hr hlk dL_forDifference_17 (Nat.le_of_ble_eq_true rfl) (Nat.le_of_ble_eq_true rfl) ⟨by rw [e2], fun q q0 q1 _ => hST.fr q q0 q1, F, (hST.fr o1 (sm_ne hO) hAo).trans hO, fun y => absurd (e2.symm.trans y) (by decide), fun _ => hST.base⟩)
  obtain ⟨ht0, hv, hST⟩ := hp
  subst v
  dsimp only [Option.toList, List.cons_append, List.nil_append]
  have hO1 := (hST.fr o1 (sm_ne hO) hAo).trans hO
  refine r_i2l B dL_forDifference_7 ?_
  refine r_last B dL_forDifference_8 hO1 (by decide) (by omega) (by omega) ?_
  refine r_goto B dL_forDifference_9 (tgt := 18) (by decide) ?_
  refine r_iconst B dL_forDifference_18 ?_
  exact x_ret (r_iret B hr hlk dL_forDifference_19 (Nat.le_of_ble_eq_true rfl) (Nat.le_of_ble_eq_true rfl) ⟨by rw [ht0], fun q q0 q1 q2 => (if_neg q2).trans (hST.fr q q0 q1), _, if_pos rfl, fun _ => ⟨rfl, hST.out hZo hAo⟩, fun y => absurd ht0 y⟩)
