theorem law_w : (Cond.classLink RL 8 RX9 ∈ wsL_law ∧ Cond.instantiable RX9 6 ∈ wsL_law ∧ Cond.initialized RX9 ∈ wsL_law ∧ Cond.methodLink RL 130 yX9_init ∈ wsL_law ∧ Cond.instanceMethod yX9_init ∈ wsL_law) ∧ (Cond.classLink RL 131 RX10 ∈ wsL_law ∧ Cond.instantiable RX10 30 ∈ wsL_law ∧ Cond.initialized RX10 ∈ wsL_law ∧ Cond.methodLink RL 133 yX10_init ∈ wsL_law ∧ Cond.instanceMethod yX10_init ∈ wsL_law) ∧ Cond.arrayClass .long ∈ wsL_law ∧ Cond.arrayClass .double ∈ wsL_law := by decide +kernel
set_option maxHeartbeats 4000000 in
set_option maxRecDepth 100000 in
theorem law_start {p : Program} {l : Launch} {e : Env} {s : State} {m : MethodId} {below : List Frame} {meth : Method} {c : Code} {g : GG} {bs L : Nat} {xs : Nat → Int32} (hl0 : l.stackTraces = false) (B : FX p s m #[Value.ref bs] c cL_law RL wsL_law 9 g s.heap.size) (hr : meth.sig.returnType = ret) (hlk : meth.locks = false) (hX : va_X bs L xs s s.heap) (hbl : bs < s.heap.size) (hL5 : L ≤ 2560) : WA p l e room_1 s m #[Value.ref bs] below meth c g s.heap.size 9 (lw_Z below #[Value.ref bs] s) (fun _ => none) 0 0 [some (.ref bs), none, none, none, none, none, none, none, none] 0 [] := by
  obtain ⟨⟨w1, w2, w3, w4, w5⟩, ⟨v1, v2, v3, v4, v5⟩, u1, u2⟩ := law_w
  refine r_new (C := RX9) (T := TX9) (N := 6) (ci := 9) (fs := [.null, .null, .null, .null, .null, .int (iI 0)]) B dL_law_0 inlX9 tyX9 tyX9_ok w1 w2 w3 rfl (by decide) (Nat.le_of_ble_eq_true rfl) (Nat.le_of_ble_eq_true rfl) (fun a9 s9 n9 => ?_)
  refine r_dup B dL_law_3 rfl ?_
  refine r_callI (n := 0) B dL_law_4 (ct_X9_init l g s.heap.size (if_pos rfl)) gL_law_X9_init rfl w3 w4 w5 rfl (by decide +kernel) ⟨Nat.le_of_ble_eq_true rfl, Nat.le_of_ble_eq_true rfl⟩ rfl rfl (Nat.le_of_ble_eq_true rfl) (Nat.le_of_ble_eq_true rfl) (Nat.le_of_ble_eq_true rfl) (fun v h2 hp => ?_)
  obtain ⟨hv, A, hA0, hA, -, -, hC⟩ := hp
  subst v
  subst a9
  dsimp only [Option.toList, List.cons_append, List.nil_append]
  refine r_astore_n B dL_law_7 rfl rfl (by decide) (lcat_v rfl rfl) ?_
  refine r_new (C := RX10) (T := TX10) (N := 30) (ci := 10) (fs := [.int (iI 0), .null, .null, .null, .null, .null, .null, .null, .int (iI 0), .int (iI 0), .int (iI 0), .int (iI 0), .int (iI 0), .int (iI 0), .int (iI 0), .int (iI 0), .null, .null, .null, .null, .null, .null, .null, .null, .null, .null, .null, .null, .null, .null]) B dL_law_8 inlX10 tyX10 tyX10_ok v1 v2 v3 rfl (by decide) (Nat.le_of_ble_eq_true rfl) (Nat.le_of_ble_eq_true rfl) (fun a10 s10 n10 => ?_)
  refine r_dup B dL_law_11 rfl ?_
  refine r_callI (n := 0) B dL_law_12 (ct_X10_init2 l g s.heap.size _ (if_pos rfl)) gL_law_X10_init rfl v3 v4 v5 rfl (by decide +kernel) ⟨Nat.le_of_ble_eq_true rfl, Nat.le_of_ble_eq_true rfl⟩ rfl rfl (Nat.le_of_ble_eq_true rfl) (Nat.le_of_ble_eq_true rfl) (Nat.le_of_ble_eq_true rfl) (fun v h4 hp => ?_)
  obtain ⟨hv, ad, had0, had, hM, hnn⟩ := hp
  subst v
  subst a10
  dsimp only [Option.toList, List.cons_append, List.nil_append]
  refine r_astore_n B dL_law_15 rfl rfl (by decide) (lcat_v rfl rfl) ?_
  refine r_iconst B dL_law_16 ?_
  refine r_newl B dL_law_17 u1 (by decide) (by decide) (Nat.le_of_ble_eq_true rfl) (Nat.le_of_ble_eq_true rfl) (fun o1 so1 no1 => ?_)
  refine r_astore_n B dL_law_19 rfl rfl (by decide) (lcat_v rfl rfl) ?_
  refine r_iconst B dL_law_20 ?_
  refine r_newd B dL_law_21 u2 (by decide) (by decide) (Nat.le_of_ble_eq_true rfl) (Nat.le_of_ble_eq_true rfl) (fun o2 so2 no2 => ?_)
  refine r_astore B dL_law_23 rfl (by decide) (lcat_v rfl rfl) ?_
  refine r_iconst B dL_law_25 ?_
  refine r_istore B dL_law_26 (by decide) (lcat_v rfl rfl) ?_
  have n21 : o2 ≠ o1 := fun z => by
    rw [z] at no2
    exact absurd ((if_pos rfl).symm.trans no2) (fun y => by cases y)
  have n42 : h4 o2 = none := (if_neg n21).symm.trans no2
  obtain ⟨hL, fA, f4⟩ := LA.ini hA (fun i hi => hC.stands hi) n10 (fun q hq => if_neg hq) had hM hnn no1 n21 n42
  refine r_widen (k := 60 + 0 * 421) (n := 60000 + 0 * 10406) (Nat.le_of_ble_eq_true rfl) (Nat.le_of_ble_eq_true rfl) ?_
  refine r_lv (lv' := [some (.ref bs), some (.ref (A 0)), some (.ref (ad 0)), some (.ref o1), some (.ref o2), some (.int (iI (5 * ((0 : Nat) : Int)))), none, none, none]) (lvLe_s rfl (lvLe_s rfl (lvLe_s rfl (lvLe_s rfl (lvLe_s rfl (lvLe_s rfl (lvLe_n (lvLe_n (lvLe_n lvLe_nil))))))))) ?_
  refine law_loop hl0 B hr hlk hL hX hbl hL5 (514) 0 _ 0 ?_ (by omega) (by omega)
  have hz : ∀ q : Nat, ¬ (q = o1 ∨ q = o2 ∨ ∃ k ∈ AK0, q = ad k) → ah_up (ah_up h4 o1 (lE g (1 : Int).toNat (fun _ => 0))) o2 (dE g (1 : Int).toNat (fun _ => 0)) q = h4 q := fun q hq => (if_neg (fun z => hq (Or.inr (Or.inl z)))).trans (if_neg (fun z => hq (Or.inl z)))
  refine ⟨_, _, _, _, _, _, _, _, _, _, _, _, _, _, _, _, _, _, _, _, _, _, _, _, _, _, _, _, _, hM.mv (h' := ah_up (ah_up h4 o1 (lE g (1 : Int).toNat (fun _ => 0))) o2 (dE g (1 : Int).toNat (fun _ => 0))) (fun k hk => (if_neg (hL.2.2.2.2.2 k hk).2).trans (if_neg (hL.2.2.2.2.2 k hk).1)), ((ST.ini hC).base).mv (fun q q0 q1 => (hz q q1).trans (f4 q (fun k hk z => q1 (Or.inr (Or.inr ⟨k, hk, z⟩))))) (fun i hi => ((if_neg (hL.2.2.2.2.1 i hi).2.1).trans (if_neg (hL.2.2.2.2.1 i hi).1)).trans (fA i hi)), RGm.ini, ⟨_, (if_neg (fun z => n21 z.symm)).trans (if_pos rfl)⟩, _, if_pos rfl⟩
