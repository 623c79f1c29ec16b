abbrev rmL_on_0 : Room := { frames := 10, cells := 3, slots := 18, locals := 190 }
theorem w_L_on_kl42 : Cond.classLink RL 42 "java/lang/IndexOutOfBoundsException" ∈ wsL_on := by decide +kernel
theorem w_L_on_kl44 : Cond.classLink RL 44 "java/lang/IllegalStateException" ∈ wsL_on := by decide +kernel
set_option maxHeartbeats 4000000 in
set_option maxRecDepth 100000 in
theorem ct_L_on_0 (l : Launch) (g : GG) (sz0 : Nat) {A : Nat → Nat} {Z : Nat → Prop} (hA : AOK A) {h : AH} {mnights mbits mleast mmost mroom mreserve mmount mspeed : Int} {mdata msize mends mmany mkind mchain mholds mbid mbound mcheap mpromised mcoin mpaid mowed : Int → Int} (hT : ST g A Z h mdata msize mends mmany mkind mchain mholds mnights mbits mleast mmost mroom mreserve mmount mspeed mbid mbound mcheap mpromised mcoin mpaid mowed h) (hG : RGm mnights mbits mleast mmost mroom mreserve mmount mspeed msize mbid mbound mcheap mpromised mcoin mpaid mowed) (x k : Int) (hl0 : l.stackTraces = false) (qx : -2147483648 ≤ x ∧ x < 2147483648) (qk : -2147483648 ≤ k ∧ k < 2147483648) (x0 : 0 ≤ x ∧ x ≤ 3) : CTX l yL_on wsL_on rmL_on_0 g sz0 [.ref (A 0), .int (iI 0), .int (iI x), .int (iI k)] h (fun v h' => v = some (.int (iI (if ltN (colF mkind x) mnights.toNat = -1 then -13 else (difB (rowF mdata (240 + x)) (cutR (rowF mdata (240 + x)) (msize (240 + x)) mbits mleast mmost).2.2 (cutR (rowF mdata (240 + x)) (msize (240 + x)) mbits mleast mmost).2.1 (inCh mdata mends mmany mkind mchain mholds mnights x))))) ∧ ST g A Z h mdata msize mends mmany mkind mchain mholds mnights mbits mleast mmost mroom mreserve mmount mspeed mbid mbound mcheap mpromised mcoin mpaid mowed h') (fun _ _ => False) := by
  obtain ⟨fs0, hro⟩ := hT.ro
  have hN9 := hG.1
  refine CTX.ofH (by decide +kernel) rfl [some (.ref (A 0)), some (.int (iI 0)), some (.int (iI x)), some (.int (iI k)), none] rfl (Nat.le_of_ble_eq_true rfl) ?_
  intro p e s m args below meth c B hr hlk htab
  refine r_aload_n B dL_on_0 rfl rfl ?_
  refine r_iload_n B dL_on_1 rfl ?_
  refine r_iload_n B dL_on_2 rfl ?_
  refine r_iload_n B dL_on_3 rfl ?_
  refine r_callSX (n := 4) B dL_on_4 (ct_L_asks_0 l g sz0 hA hT hG x k hl0 (by omega) (by omega)) gL_on_L_asks rfl (by decide +kernel) ⟨Nat.le_of_ble_eq_true rfl, Nat.le_of_ble_eq_true rfl⟩ rfl rfl (Nat.le_of_ble_eq_true rfl) (by show 0 + 3 ≤ 3; omega) (by show 0 + 18 ≤ 18; omega) (fun E h' hp => ?_) (fun v h hp => ?_)
  · obtain ⟨hE, hST⟩ := hp
    rcases hE with ⟨e1, e2⟩ | ⟨e1, e2⟩
    · exfalso
      unfold tDif at e2
      (repeat' (split at e2)) <;> omega
    · subst e1
      refine r_catch B htab [⟨0, 7, 8, 42⟩] ⟨0, 7, 13, 44⟩ [] rfl (List.mem_cons_of_mem _ (List.mem_cons_of_mem _ List.mem_cons_self)) (fun z hz => by rw [List.mem_singleton.mp hz]; exact ⟨by decide, xIO, List.mem_cons_self, by decide, w_L_on_kl42⟩) (by decide) (by decide) w_L_on_kl44 (fun q9 => ?_)
      refine r_astore B dL_on_13 rfl (by decide) (lcat_v rfl rfl) ?_
      refine r_bipush B dL_on_15 (by decide) ?_
      exact x_ret (r_iret B hr hlk dL_on_17 (Nat.le_of_ble_eq_true rfl) (Nat.le_of_ble_eq_true rfl) ⟨by rw [if_pos (tDif_2 e2)], hST⟩)
  obtain ⟨ht0, hv, hST⟩ := hp
  subst v
  dsimp only [Option.toList, List.cons_append, List.nil_append]
  exact x_ret (r_iret B hr hlk dL_on_7 (by show 0 + 3 ≤ 3; omega) (by show 0 + 18 ≤ 18; omega) ⟨by rw [if_neg (tDif_0 ht0)], hST⟩)
abbrev rmL_on_1 : Room := { frames := 10, cells := 3, slots := 18, locals := 191 }
set_option maxHeartbeats 4000000 in
set_option maxRecDepth 100000 in
theorem ct_L_on_1 (l : Launch) (g : GG) (sz0 : Nat) {A : Nat → Nat} {Z : Nat → Prop} (hA : AOK A) {h : AH} {mnights mbits mleast mmost mroom mreserve mmount mspeed : Int} {mdata msize mends mmany mkind mchain mholds mbid mbound mcheap mpromised mcoin mpaid mowed : Int → Int} (hT : ST g A Z h mdata msize mends mmany mkind mchain mholds mnights mbits mleast mmost mroom mreserve mmount mspeed mbid mbound mcheap mpromised mcoin mpaid mowed h) (hG : RGm mnights mbits mleast mmost mroom mreserve mmount mspeed msize mbid mbound mcheap mpromised mcoin mpaid mowed) (x k : Int) (hl0 : l.stackTraces = false) (qx : -2147483648 ≤ x ∧ x < 2147483648) (qk : -2147483648 ≤ k ∧ k < 2147483648) (x0 : 0 ≤ x ∧ x ≤ 3) (k0 : 0 ≤ k ∧ k < mnights) : CTX l yL_on wsL_on rmL_on_1 g sz0 [.ref (A 0), .int (iI 1), .int (iI x), .int (iI k)] h (fun v h' => v = some (.int (iI (if mkind (60 * x + k) = 0 then -13 else (mmany (60 * x + k) + sumZ (fun j => bI (rowF mholds (60 * x + k) j ≠ 0) * lnF (rowF mends (60 * x + k)) j) (mmany (60 * x + k)).toNat)))) ∧ ST g A Z h mdata msize mends mmany mkind mchain mholds mnights mbits mleast mmost mroom mreserve mmount mspeed mbid mbound mcheap mpromised mcoin mpaid mowed h') (fun _ _ => False) := by
  obtain ⟨fs0, hro⟩ := hT.ro
  have hN9 := hG.1
  refine CTX.ofH (by decide +kernel) rfl [some (.ref (A 0)), some (.int (iI 1)), some (.int (iI x)), some (.int (iI k)), none] rfl (Nat.le_of_ble_eq_true rfl) ?_
  intro p e s m args below meth c B hr hlk htab
  refine r_aload_n B dL_on_0 rfl rfl ?_
  refine r_iload_n B dL_on_1 rfl ?_
  refine r_iload_n B dL_on_2 rfl ?_
  refine r_iload_n B dL_on_3 rfl ?_
  refine r_callSX (n := 4) B dL_on_4 (ct_L_asks_1 l g sz0 hA hT hG x k hl0 (by omega) (by omega)) gL_on_L_asks rfl (by decide +kernel) ⟨Nat.le_of_ble_eq_true rfl, Nat.le_of_ble_eq_true rfl⟩ rfl rfl (Nat.le_of_ble_eq_true rfl) (by show 0 + 3 ≤ 3; omega) (by show 0 + 18 ≤ 18; omega) (fun E h' hp => ?_) (fun v h hp => ?_)
  · obtain ⟨hE, hST⟩ := hp
    rcases hE with ⟨e1, e2⟩ | ⟨e1, e2⟩ | ⟨e1, e2⟩
    · exfalso
      unfold tAsk at e2
      (repeat' (split at e2)) <;> omega
    · exfalso
      unfold tAsk at e2
      (repeat' (split at e2)) <;> omega
    · subst e1
      refine r_catch B htab [⟨0, 7, 8, 42⟩] ⟨0, 7, 13, 44⟩ [] rfl (List.mem_cons_of_mem _ (List.mem_cons_of_mem _ List.mem_cons_self)) (fun z hz => by rw [List.mem_singleton.mp hz]; exact ⟨by decide, xIO, List.mem_cons_self, by decide, w_L_on_kl42⟩) (by decide) (by decide) w_L_on_kl44 (fun q9 => ?_)
      refine r_astore B dL_on_13 rfl (by decide) (lcat_v rfl rfl) ?_
      refine r_bipush B dL_on_15 (by decide) ?_
      exact x_ret (r_iret B hr hlk dL_on_17 (Nat.le_of_ble_eq_true rfl) (Nat.le_of_ble_eq_true rfl) ⟨by rw [if_pos (tAsk_3 e2)], hST⟩)
  obtain ⟨ht0, hv, hST⟩ := hp
  subst v
  dsimp only [Option.toList, List.cons_append, List.nil_append]
  exact x_ret (r_iret B hr hlk dL_on_7 (by show 0 + 3 ≤ 3; omega) (by show 0 + 18 ≤ 18; omega) ⟨by rw [if_neg ((tAsk_0.mp ht0).2.2)], hST⟩)
abbrev rmL_on_2 : Room := { frames := 10, cells := 3, slots := 18, locals := 191 }
set_option maxHeartbeats 4000000 in
set_option maxRecDepth 100000 in
theorem ct_L_on_2 (l : Launch) (g : GG) (sz0 : Nat) {A : Nat → Nat} {Z : Nat → Prop} (hA : AOK A) {h : AH} {mnights mbits mleast mmost mroom mreserve mmount mspeed : Int} {mdata msize mends mmany mkind mchain mholds mbid mbound mcheap mpromised mcoin mpaid mowed : Int → Int} (hT : ST g A Z h mdata msize mends mmany mkind mchain mholds mnights mbits mleast mmost mroom mreserve mmount mspeed mbid mbound mcheap mpromised mcoin mpaid mowed h) (hG : RGm mnights mbits mleast mmost mroom mreserve mmount mspeed msize mbid mbound mcheap mpromised mcoin mpaid mowed) (x k : Int) (hl0 : l.stackTraces = false) (qx : -2147483648 ≤ x ∧ x < 2147483648) (qk : -2147483648 ≤ k ∧ k < 2147483648) (x0 : 0 ≤ x ∧ x ≤ 3) (k0 : 0 ≤ k ∧ k < mnights) : CTX l yL_on wsL_on rmL_on_2 g sz0 [.ref (A 0), .int (iI 2), .int (iI x), .int (iI k)] h (fun v h' => v = some (.int (iI (if mkind (60 * x + k) = 0 then -13 else (sumZ (fun j => bI (rowF mholds (60 * x + k) j ≠ 0)) (mmany (60 * x + k)).toNat)))) ∧ ST g A Z h mdata msize mends mmany mkind mchain mholds mnights mbits mleast mmost mroom mreserve mmount mspeed mbid mbound mcheap mpromised mcoin mpaid mowed h') (fun _ _ => False) := by
  obtain ⟨fs0, hro⟩ := hT.ro
  have hN9 := hG.1
  refine CTX.ofH (by decide +kernel) rfl [some (.ref (A 0)), some (.int (iI 2)), some (.int (iI x)), some (.int (iI k)), none] rfl (Nat.le_of_ble_eq_true rfl) ?_
  intro p e s m args below meth c B hr hlk htab
  refine r_aload_n B dL_on_0 rfl rfl ?_
  refine r_iload_n B dL_on_1 rfl ?_
  refine r_iload_n B dL_on_2 rfl ?_
  refine r_iload_n B dL_on_3 rfl ?_
  refine r_callSX (n := 4) B dL_on_4 (ct_L_asks_2 l g sz0 hA hT hG x k hl0 (by omega) (by omega)) gL_on_L_asks rfl (by decide +kernel) ⟨Nat.le_of_ble_eq_true rfl, Nat.le_of_ble_eq_true rfl⟩ rfl rfl (Nat.le_of_ble_eq_true rfl) (by show 0 + 3 ≤ 3; omega) (by show 0 + 18 ≤ 18; omega) (fun E h' hp => ?_) (fun v h hp => ?_)
  · obtain ⟨hE, hST⟩ := hp
    rcases hE with ⟨e1, e2⟩ | ⟨e1, e2⟩ | ⟨e1, e2⟩
    · exfalso
      unfold tAsk at e2
      (repeat' (split at e2)) <;> omega
    · exfalso
      unfold tAsk at e2
      (repeat' (split at e2)) <;> omega
    · subst e1
      refine r_catch B htab [⟨0, 7, 8, 42⟩] ⟨0, 7, 13, 44⟩ [] rfl (List.mem_cons_of_mem _ (List.mem_cons_of_mem _ List.mem_cons_self)) (fun z hz => by rw [List.mem_singleton.mp hz]; exact ⟨by decide, xIO, List.mem_cons_self, by decide, w_L_on_kl42⟩) (by decide) (by decide) w_L_on_kl44 (fun q9 => ?_)
      refine r_astore B dL_on_13 rfl (by decide) (lcat_v rfl rfl) ?_
      refine r_bipush B dL_on_15 (by decide) ?_
      exact x_ret (r_iret B hr hlk dL_on_17 (Nat.le_of_ble_eq_true rfl) (Nat.le_of_ble_eq_true rfl) ⟨by rw [if_pos (tAsk_3 e2)], hST⟩)
  obtain ⟨ht0, hv, hST⟩ := hp
  subst v
  dsimp only [Option.toList, List.cons_append, List.nil_append]
  exact x_ret (r_iret B hr hlk dL_on_7 (by show 0 + 3 ≤ 3; omega) (by show 0 + 18 ≤ 18; omega) ⟨by rw [if_neg ((tAsk_0.mp ht0).2.2)], hST⟩)
abbrev rmL_on_3 : Room := { frames := 10, cells := 3, slots := 18, locals := 191 }
set_option maxHeartbeats 4000000 in
set_option maxRecDepth 100000 in
theorem ct_L_on_3 (l : Launch) (g : GG) (sz0 : Nat) {A : Nat → Nat} {Z : Nat → Prop} (hA : AOK A) {h : AH} {mnights mbits mleast mmost mroom mreserve mmount mspeed : Int} {mdata msize mends mmany mkind mchain mholds mbid mbound mcheap mpromised mcoin mpaid mowed : Int → Int} (hT : ST g A Z h mdata msize mends mmany mkind mchain mholds mnights mbits mleast mmost mroom mreserve mmount mspeed mbid mbound mcheap mpromised mcoin mpaid mowed h) (hG : RGm mnights mbits mleast mmost mroom mreserve mmount mspeed msize mbid mbound mcheap mpromised mcoin mpaid mowed) (x k : Int) (hl0 : l.stackTraces = false) (qx : -2147483648 ≤ x ∧ x < 2147483648) (qk : -2147483648 ≤ k ∧ k < 2147483648) (x0 : 0 ≤ x ∧ x ≤ 3) (k0 : 0 ≤ k ∧ k < mnights) : CTX l yL_on wsL_on rmL_on_3 g sz0 [.ref (A 0), .int (iI 3), .int (iI x), .int (iI k)] h (fun v h' => v = some (.int (iI (if mkind (60 * x + k) = 0 then -13 else (msize (60 * x + k))))) ∧ ST g A Z h mdata msize mends mmany mkind mchain mholds mnights mbits mleast mmost mroom mreserve mmount mspeed mbid mbound mcheap mpromised mcoin mpaid mowed h') (fun _ _ => False) := by
  obtain ⟨fs0, hro⟩ := hT.ro
  have hN9 := hG.1
  refine CTX.ofH (by decide +kernel) rfl [some (.ref (A 0)), some (.int (iI 3)), some (.int (iI x)), some (.int (iI k)), none] rfl (Nat.le_of_ble_eq_true rfl) ?_
  intro p e s m args below meth c B hr hlk htab
  refine r_aload_n B dL_on_0 rfl rfl ?_
  refine r_iload_n B dL_on_1 rfl ?_
  refine r_iload_n B dL_on_2 rfl ?_
  refine r_iload_n B dL_on_3 rfl ?_
  refine r_callSX (n := 4) B dL_on_4 (ct_L_asks_3 l g sz0 hA hT hG x k hl0 (by omega) (by omega)) gL_on_L_asks rfl (by decide +kernel) ⟨Nat.le_of_ble_eq_true rfl, Nat.le_of_ble_eq_true rfl⟩ rfl rfl (Nat.le_of_ble_eq_true rfl) (by show 0 + 3 ≤ 3; omega) (by show 0 + 18 ≤ 18; omega) (fun E h' hp => ?_) (fun v h hp => ?_)
  · obtain ⟨hE, hST⟩ := hp
    rcases hE with ⟨e1, e2⟩ | ⟨e1, e2⟩ | ⟨e1, e2⟩
    · exfalso
      unfold tAsk at e2
      (repeat' (split at e2)) <;> omega
    · exfalso
      unfold tAsk at e2
      (repeat' (split at e2)) <;> omega
    · subst e1
      refine r_catch B htab [⟨0, 7, 8, 42⟩] ⟨0, 7, 13, 44⟩ [] rfl (List.mem_cons_of_mem _ (List.mem_cons_of_mem _ List.mem_cons_self)) (fun z hz => by rw [List.mem_singleton.mp hz]; exact ⟨by decide, xIO, List.mem_cons_self, by decide, w_L_on_kl42⟩) (by decide) (by decide) w_L_on_kl44 (fun q9 => ?_)
      refine r_astore B dL_on_13 rfl (by decide) (lcat_v rfl rfl) ?_
      refine r_bipush B dL_on_15 (by decide) ?_
      exact x_ret (r_iret B hr hlk dL_on_17 (Nat.le_of_ble_eq_true rfl) (Nat.le_of_ble_eq_true rfl) ⟨by rw [if_pos (tAsk_3 e2)], hST⟩)
  obtain ⟨ht0, hv, hST⟩ := hp
  subst v
  dsimp only [Option.toList, List.cons_append, List.nil_append]
  exact x_ret (r_iret B hr hlk dL_on_7 (by show 0 + 3 ≤ 3; omega) (by show 0 + 18 ≤ 18; omega) ⟨by rw [if_neg ((tAsk_0.mp ht0).2.2)], hST⟩)
abbrev rmL_on_4 : Room := { frames := 10, cells := 3, slots := 18, locals := 191 }
set_option maxHeartbeats 4000000 in
set_option maxRecDepth 100000 in
theorem ct_L_on_4 (l : Launch) (g : GG) (sz0 : Nat) {A : Nat → Nat} {Z : Nat → Prop} (hA : AOK A) {h : AH} {mnights mbits mleast mmost mroom mreserve mmount mspeed : Int} {mdata msize mends mmany mkind mchain mholds mbid mbound mcheap mpromised mcoin mpaid mowed : Int → Int} (hT : ST g A Z h mdata msize mends mmany mkind mchain mholds mnights mbits mleast mmost mroom mreserve mmount mspeed mbid mbound mcheap mpromised mcoin mpaid mowed h) (hG : RGm mnights mbits mleast mmost mroom mreserve mmount mspeed msize mbid mbound mcheap mpromised mcoin mpaid mowed) (x k : Int) (hl0 : l.stackTraces = false) (qx : -2147483648 ≤ x ∧ x < 2147483648) (qk : -2147483648 ≤ k ∧ k < 2147483648) (x0 : 0 ≤ x ∧ x ≤ 3) (k0 : 0 ≤ k ∧ k < mnights) : CTX l yL_on wsL_on rmL_on_4 g sz0 [.ref (A 0), .int (iI 4), .int (iI x), .int (iI k)] h (fun v h' => v = some (.int (iI (if mkind (60 * x + k) = 0 then -13 else (mntM mdata mends mmany mkind mchain mholds mnights x k)))) ∧ ST g A Z h mdata msize mends mmany mkind mchain mholds mnights mbits mleast mmost mroom mreserve mmount mspeed mbid mbound mcheap mpromised mcoin mpaid mowed h') (fun _ _ => False) := by
  obtain ⟨fs0, hro⟩ := hT.ro
  have hN9 := hG.1
  refine CTX.ofH (by decide +kernel) rfl [some (.ref (A 0)), some (.int (iI 4)), some (.int (iI x)), some (.int (iI k)), none] rfl (Nat.le_of_ble_eq_true rfl) ?_
  intro p e s m args below meth c B hr hlk htab
  refine r_aload_n B dL_on_0 rfl rfl ?_
  refine r_iload_n B dL_on_1 rfl ?_
  refine r_iload_n B dL_on_2 rfl ?_
  refine r_iload_n B dL_on_3 rfl ?_
  refine r_callSX (n := 4) B dL_on_4 (ct_L_asks_4 l g sz0 hA hT hG x k hl0 (by omega) (by omega)) gL_on_L_asks rfl (by decide +kernel) ⟨Nat.le_of_ble_eq_true rfl, Nat.le_of_ble_eq_true rfl⟩ rfl rfl (Nat.le_of_ble_eq_true rfl) (by show 0 + 3 ≤ 3; omega) (by show 0 + 18 ≤ 18; omega) (fun E h' hp => ?_) (fun v h hp => ?_)
  · obtain ⟨hE, hST⟩ := hp
    rcases hE with ⟨e1, e2⟩ | ⟨e1, e2⟩ | ⟨e1, e2⟩
    · exfalso
      unfold tAsk at e2
      (repeat' (split at e2)) <;> omega
    · exfalso
      unfold tAsk at e2
      (repeat' (split at e2)) <;> omega
    · subst e1
      refine r_catch B htab [⟨0, 7, 8, 42⟩] ⟨0, 7, 13, 44⟩ [] rfl (List.mem_cons_of_mem _ (List.mem_cons_of_mem _ List.mem_cons_self)) (fun z hz => by rw [List.mem_singleton.mp hz]; exact ⟨by decide, xIO, List.mem_cons_self, by decide, w_L_on_kl42⟩) (by decide) (by decide) w_L_on_kl44 (fun q9 => ?_)
      refine r_astore B dL_on_13 rfl (by decide) (lcat_v rfl rfl) ?_
      refine r_bipush B dL_on_15 (by decide) ?_
      exact x_ret (r_iret B hr hlk dL_on_17 (Nat.le_of_ble_eq_true rfl) (Nat.le_of_ble_eq_true rfl) ⟨by rw [if_pos (tAsk_3 e2)], hST⟩)
  obtain ⟨ht0, hv, hST⟩ := hp
  subst v
  dsimp only [Option.toList, List.cons_append, List.nil_append]
  exact x_ret (r_iret B hr hlk dL_on_7 (by show 0 + 3 ≤ 3; omega) (by show 0 + 18 ≤ 18; omega) ⟨by rw [if_neg ((tAsk_0.mp ht0).2.2)], hST⟩)
abbrev rmL_on_5 : Room := { frames := 10, cells := 4, slots := 24, locals := 192 }
set_option maxHeartbeats 4000000 in
set_option maxRecDepth 100000 in
theorem ct_L_on_5 (l : Launch) (g : GG) (sz0 : Nat) {A : Nat → Nat} {Z : Nat → Prop} (hA : AOK A) {h : AH} {mnights mbits mleast mmost mroom mreserve mmount mspeed : Int} {mdata msize mends mmany mkind mchain mholds mbid mbound mcheap mpromised mcoin mpaid mowed : Int → Int} (hT : ST g A Z h mdata msize mends mmany mkind mchain mholds mnights mbits mleast mmost mroom mreserve mmount mspeed mbid mbound mcheap mpromised mcoin mpaid mowed h) (hG : RGm mnights mbits mleast mmost mroom mreserve mmount mspeed msize mbid mbound mcheap mpromised mcoin mpaid mowed) (x k : Int) (hl0 : l.stackTraces = false) (qx : -2147483648 ≤ x ∧ x < 2147483648) (qk : -2147483648 ≤ k ∧ k < 2147483648) (x0 : 0 ≤ x ∧ x ≤ 3) (k0 : 0 ≤ k ∧ k < mnights) : CTX l yL_on wsL_on rmL_on_5 g sz0 [.ref (A 0), .int (iI 5), .int (iI x), .int (iI k)] h (fun v h' => (mkind (60 * x + k) = 0 ∧ v = some (.int (iI (-13))) ∧ ST g A Z h mdata msize mends mmany mkind mchain mholds mnights mbits mleast mmost mroom mreserve mmount mspeed mbid mbound mcheap mpromised mcoin mpaid mowed h') ∨ (¬ mkind (60 * x + k) = 0 ∧ v = some (.int (iI (sumZ (fun j => bI (((j < msize (240 + x)) ↔ ¬ (j < msize (60 * x + k))) ∨ (j < msize (60 * x + k) ∧ ¬ mdata (48 * (240 + x) + j) = mdata (48 * (60 * x + k) + j)))) 48))) ∧ ST g A Z h (cpyF mdata (48 * (240 + x)) (48 * (60 * x + k)) (msize (60 * x + k))) (upZ msize (240 + x) (msize (60 * x + k))) mends mmany mkind mchain mholds mnights mbits mleast mmost mroom mreserve mmount mspeed mbid mbound mcheap mpromised mcoin mpaid mowed h')) (fun _ _ => False) := by
  obtain ⟨fs0, hro⟩ := hT.ro
  have hN9 := hG.1
  refine CTX.ofH (by decide +kernel) rfl [some (.ref (A 0)), some (.int (iI 5)), some (.int (iI x)), some (.int (iI k)), none] rfl (Nat.le_of_ble_eq_true rfl) ?_
  intro p e s m args below meth c B hr hlk htab
  refine r_aload_n B dL_on_0 rfl rfl ?_
  refine r_iload_n B dL_on_1 rfl ?_
  refine r_iload_n B dL_on_2 rfl ?_
  refine r_iload_n B dL_on_3 rfl ?_
  refine r_callSX (n := 4) B dL_on_4 (ct_L_asks_5 l g sz0 hA hT hG x k hl0 (by omega) (by omega)) gL_on_L_asks rfl (by decide +kernel) ⟨Nat.le_of_ble_eq_true rfl, Nat.le_of_ble_eq_true rfl⟩ rfl rfl (Nat.le_of_ble_eq_true rfl) (by show 0 + 4 ≤ 4; omega) (by show 0 + 24 ≤ 24; omega) (fun E h' hp => ?_) (fun v h hp => ?_)
  · obtain ⟨hE, hST⟩ := hp
    rcases hE with ⟨e1, e2⟩ | ⟨e1, e2⟩ | ⟨e1, e2⟩
    · exfalso
      unfold tAsk at e2
      (repeat' (split at e2)) <;> omega
    · exfalso
      unfold tAsk at e2
      (repeat' (split at e2)) <;> omega
    · subst e1
      refine r_catch B htab [⟨0, 7, 8, 42⟩] ⟨0, 7, 13, 44⟩ [] rfl (List.mem_cons_of_mem _ (List.mem_cons_of_mem _ List.mem_cons_self)) (fun z hz => by rw [List.mem_singleton.mp hz]; exact ⟨by decide, xIO, List.mem_cons_self, by decide, w_L_on_kl42⟩) (by decide) (by decide) w_L_on_kl44 (fun q9 => ?_)
      refine r_astore B dL_on_13 rfl (by decide) (lcat_v rfl rfl) ?_
      refine r_bipush B dL_on_15 (by decide) ?_
      exact x_ret (r_iret B hr hlk dL_on_17 (Nat.le_of_ble_eq_true rfl) (Nat.le_of_ble_eq_true rfl) (Or.inl ⟨tAsk_3 e2, rfl, hST⟩))
  obtain ⟨ht0, hv, hST⟩ := hp
  subst v
  dsimp only [Option.toList, List.cons_append, List.nil_append]
  exact x_ret (r_iret B hr hlk dL_on_7 (by show 0 + 4 ≤ 4; omega) (by show 0 + 24 ≤ 24; omega) (Or.inr ⟨(tAsk_0.mp ht0).2.2, rfl, hST⟩))
abbrev rmL_on_6 : Room := { frames := 9, cells := 2, slots := 12, locals := 168 }
set_option maxHeartbeats 4000000 in
set_option maxRecDepth 100000 in
theorem ct_L_on_6 (l : Launch) (g : GG) (sz0 : Nat) {A : Nat → Nat} {Z : Nat → Prop} (hA : AOK A) {h : AH} {mnights mbits mleast mmost mroom mreserve mmount mspeed : Int} {mdata msize mends mmany mkind mchain mholds mbid mbound mcheap mpromised mcoin mpaid mowed : Int → Int} (hT : ST g A Z h mdata msize mends mmany mkind mchain mholds mnights mbits mleast mmost mroom mreserve mmount mspeed mbid mbound mcheap mpromised mcoin mpaid mowed h) (hG : RGm mnights mbits mleast mmost mroom mreserve mmount mspeed msize mbid mbound mcheap mpromised mcoin mpaid mowed) (x k : Int) (hl0 : l.stackTraces = false) (qx : -2147483648 ≤ x ∧ x < 2147483648) (qk : -2147483648 ≤ k ∧ k < 2147483648) (x0 : 0 ≤ x ∧ x ≤ 3) : CTX l yL_on wsL_on rmL_on_6 g sz0 [.ref (A 0), .int (iI 6), .int (iI x), .int (iI k)] h (fun v h' => (ltN (colF mkind x) mnights.toNat = -1 ∧ v = some (.int (iI (-13))) ∧ ST g A Z h mdata msize mends mmany mkind mchain mholds mnights mbits mleast mmost mroom mreserve mmount mspeed mbid mbound mcheap mpromised mcoin mpaid mowed h') ∨ (¬ ltN (colF mkind x) mnights.toNat = -1 ∧ v = some (.int (iI (amtF (FP.fsub (mnF (mmount * (mntM mdata mends mmany mkind mchain mholds mnights x (ltN (colF mkind x) mnights.toNat))) (baseB (rowF mdata (60 * x + (ltN (colF mkind x) mnights.toNat))) (rowF mends (60 * x + (ltN (colF mkind x) mnights.toNat))) (mmany (60 * x + (ltN (colF mkind x) mnights.toNat)))) mspeed) (FP.i2f (iI (mpromised x)))) (mcoin x)))) ∧ ST g A Z h mdata msize mends mmany mkind mchain mholds mnights mbits mleast mmost mroom mreserve mmount mspeed mbid mbound mcheap mpromised mcoin mpaid (upZ mowed x (i32z (iI (mowed x + (amtF (FP.fsub (mnF (mmount * (mntM mdata mends mmany mkind mchain mholds mnights x (ltN (colF mkind x) mnights.toNat))) (baseB (rowF mdata (60 * x + (ltN (colF mkind x) mnights.toNat))) (rowF mends (60 * x + (ltN (colF mkind x) mnights.toNat))) (mmany (60 * x + (ltN (colF mkind x) mnights.toNat)))) mspeed) (FP.i2f (iI (mpromised x)))) (mcoin x)))))) h')) (fun _ _ => False) := by
  obtain ⟨fs0, hro⟩ := hT.ro
  have hN9 := hG.1
  refine CTX.ofH (by decide +kernel) rfl [some (.ref (A 0)), some (.int (iI 6)), some (.int (iI x)), some (.int (iI k)), none] rfl (Nat.le_of_ble_eq_true rfl) ?_
  intro p e s m args below meth c B hr hlk htab
  refine r_aload_n B dL_on_0 rfl rfl ?_
  refine r_iload_n B dL_on_1 rfl ?_
  refine r_iload_n B dL_on_2 rfl ?_
  refine r_iload_n B dL_on_3 rfl ?_
  refine r_callSX (n := 4) B dL_on_4 (ct_L_asks_6 l g sz0 hA hT hG x k hl0 (by omega) (by omega)) gL_on_L_asks rfl (by decide +kernel) ⟨Nat.le_of_ble_eq_true rfl, Nat.le_of_ble_eq_true rfl⟩ rfl rfl (Nat.le_of_ble_eq_true rfl) (by show 0 + 2 ≤ 2; omega) (by show 0 + 12 ≤ 12; omega) (fun E h' hp => ?_) (fun v h hp => ?_)
  · obtain ⟨hE, hST⟩ := hp
    rcases hE with ⟨e1, e2⟩ | ⟨e1, e2⟩
    · exfalso
      unfold tDif at e2
      (repeat' (split at e2)) <;> omega
    · subst e1
      refine r_catch B htab [⟨0, 7, 8, 42⟩] ⟨0, 7, 13, 44⟩ [] rfl (List.mem_cons_of_mem _ (List.mem_cons_of_mem _ List.mem_cons_self)) (fun z hz => by rw [List.mem_singleton.mp hz]; exact ⟨by decide, xIO, List.mem_cons_self, by decide, w_L_on_kl42⟩) (by decide) (by decide) w_L_on_kl44 (fun q9 => ?_)
      refine r_astore B dL_on_13 rfl (by decide) (lcat_v rfl rfl) ?_
      refine r_bipush B dL_on_15 (by decide) ?_
      exact x_ret (r_iret B hr hlk dL_on_17 (Nat.le_of_ble_eq_true rfl) (Nat.le_of_ble_eq_true rfl) (Or.inl ⟨tDif_2 e2, rfl, hST⟩))
  obtain ⟨ht0, hv, hST⟩ := hp
  subst v
  dsimp only [Option.toList, List.cons_append, List.nil_append]
  exact x_ret (r_iret B hr hlk dL_on_7 (by show 0 + 2 ≤ 2; omega) (by show 0 + 12 ≤ 12; omega) (Or.inr ⟨tDif_0 ht0, rfl, hST⟩))
abbrev rmL_on_7 : Room := { frames := 8, cells := 421, slots := 10406, locals := 193 }
set_option maxHeartbeats 4000000 in
set_option maxRecDepth 100000 in
theorem ct_L_on_7 (l : Launch) (g : GG) (sz0 : Nat) {A : Nat → Nat} {Z : Nat → Prop} (hA : AOK A) {h : AH} {mnights mbits mleast mmost mroom mreserve mmount mspeed : Int} {mdata msize mends mmany mkind mchain mholds mbid mbound mcheap mpromised mcoin mpaid mowed : Int → Int} (hT : ST g A Z h mdata msize mends mmany mkind mchain mholds mnights mbits mleast mmost mroom mreserve mmount mspeed mbid mbound mcheap mpromised mcoin mpaid mowed h) (hG : RGm mnights mbits mleast mmost mroom mreserve mmount mspeed msize mbid mbound mcheap mpromised mcoin mpaid mowed) (x k : Int) (hl0 : l.stackTraces = false) (qx : -2147483648 ≤ x ∧ x < 2147483648) (qk : -2147483648 ≤ k ∧ k < 2147483648) (hn60 : mnights < 60) (hZs : ∀ q : Nat, Z q → h q ≠ none) : CTX l yL_on wsL_on rmL_on_7 g sz0 [.ref (A 0), .int (iI 7), .int (iI x), .int (iI k)] h (fun v h' => (∀ q : Nat, h q ≠ none → (∀ i : Nat, i < 27 → q ≠ A i) → h' q = h q) ∧ ∃ n : Int, v = some (.int (iI n)) ∧ (∀ tt AS WT CS SV dd ss ee mm kk cc hh pp : Int → Int, turnOK mbid tt → gI (wbP mkind mbound mcheap mnights mreserve) (mNC mkind mnights) (mOT mdata msize mends mmany mkind mnights mbits mleast mmost) (mAK mdata msize mends mmany mkind mbid mbound mcheap mnights mreserve mbits mleast mmost) (mBS mdata msize mbits mleast mmost) (mDF mdata msize mends mmany mkind mchain mholds mnights mbits mleast mmost) mroom tt AS WT CS SV 4 → (∀ y : Int, 0 ≤ y → y ≤ 3 → nwC mdata msize mends mmany mkind mchain mholds mnights mbits mleast mmost (WT y) (SV y) dd ss ee mm kk cc hh y) → (∀ y : Int, 0 ≤ y → y ≤ 3 → pp y = mpaid y + payF mbid tt AS SV CS mreserve (4 : Int) y) → LKo ee mm → n = sumZ (fun j => SV (tt j)) 4 ∧ ST g A Z h dd ss ee mm kk cc hh (mnights + 1) mbits mleast mmost mroom mreserve mmount mspeed mbid mbound mcheap mpromised mcoin pp mowed h')) (fun _ _ => False) := by
  obtain ⟨fs0, hro⟩ := hT.ro
  have hN9 := hG.1
  refine CTX.ofH (by decide +kernel) rfl [some (.ref (A 0)), some (.int (iI 7)), some (.int (iI x)), some (.int (iI k)), none] rfl (Nat.le_of_ble_eq_true rfl) ?_
  intro p e s m args below meth c B hr hlk htab
  refine r_aload_n B dL_on_0 rfl rfl ?_
  refine r_iload_n B dL_on_1 rfl ?_
  refine r_iload_n B dL_on_2 rfl ?_
  refine r_iload_n B dL_on_3 rfl ?_
  refine r_callSX (n := 4) B dL_on_4 (ct_L_asks_7 l g sz0 hA hT hG x k hl0 (by omega) (by omega) hZs) gL_on_L_asks rfl (by decide +kernel) ⟨Nat.le_of_ble_eq_true rfl, Nat.le_of_ble_eq_true rfl⟩ rfl rfl (Nat.le_of_ble_eq_true rfl) (by show 0 + 421 ≤ 421; omega) (by show 0 + 10406 ≤ 10406; omega) (fun E h' hp => ?_) (fun v h hp => ?_)
  · obtain ⟨hE, hST⟩ := hp
    obtain ⟨e1, e2⟩ := hE
    exfalso
    unfold tNg at e2
    (repeat' (split at e2)) <;> omega
  obtain ⟨ht0, hfr9, nn9, hv, hfin⟩ := hp
  subst v
  dsimp only [Option.toList, List.cons_append, List.nil_append]
  exact x_ret (r_iret B hr hlk dL_on_7 (by show 0 + 421 ≤ 421; omega) (by show 0 + 10406 ≤ 10406; omega) ⟨hfr9, nn9, rfl, hfin⟩)
