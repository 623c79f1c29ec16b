theorem five_fr {h : AH} {od ob oc op oo q : Nat} {e1 e2 e3 e4 e5 : va_E} (h1 : ¬ q = od) (h2 : ¬ q = ob) (h3 : ¬ q = oc) (h4 : ¬ q = op) (h5 : ¬ q = oo) : ah_up (ah_up (ah_up (ah_up (ah_up h od e1) ob e2) oc e3) op e4) oo e5 q = h q := (ah_ne _ _ h5).trans ((ah_ne _ _ h4).trans ((ah_ne _ _ h3).trans ((ah_ne _ _ h2).trans (ah_ne _ _ h1))))
theorem up_nn {h : AH} {a q : Nat} {e : va_E} (hn : ah_up h a e q = none) : q ≠ a ∧ h q = none := by
  by_cases z : q = a
  · rw [z, ah_same] at hn; cases hn
  · exact ⟨z, (ah_ne h e z).symm.trans hn⟩
theorem five_ne {h : AH} {od ob oc op oo : Nat} {e1 e2 e3 e4 : va_E} (hd : h od = none) (hb : ah_up h od e1 ob = none) (hc : ah_up (ah_up h od e1) ob e2 oc = none) (hp : ah_up (ah_up (ah_up h od e1) ob e2) oc e3 op = none) (ho : ah_up (ah_up (ah_up (ah_up h od e1) ob e2) oc e3) op e4 oo = none) : h ob = none ∧ h oc = none ∧ h op = none ∧ h oo = none ∧ (ob ≠ od ∧ oc ≠ od ∧ op ≠ od ∧ oo ≠ od) ∧ (oc ≠ ob ∧ op ≠ ob ∧ oo ≠ ob) ∧ (op ≠ oc ∧ oo ≠ oc) ∧ oo ≠ op := by
  have b1 := up_nn hb
  have c1 := up_nn hc
  have c2 := up_nn c1.2
  have p1 := up_nn hp
  have p2 := up_nn p1.2
  have p3 := up_nn p2.2
  have o1 := up_nn ho
  have o2 := up_nn o1.2
  have o3 := up_nn o2.2
  have o4 := up_nn o3.2
  exact ⟨b1.2, c2.2, p3.2, o4.2, ⟨b1.1, c2.1, p3.1, o4.1⟩, ⟨c1.1, p2.1, o3.1⟩, ⟨p1.1, o2.1⟩, o1.1⟩
theorem law_w : (Cond.classLink RL 8 RX9 ∈ wsL_law ∧ Cond.instantiable RX9 6 ∈ wsL_law ∧ Cond.initialized RX9 ∈ wsL_law ∧ Cond.methodLink RL 89 yX9_init ∈ wsL_law ∧ Cond.instanceMethod yX9_init ∈ wsL_law) ∧ Cond.arrayClass .long ∈ wsL_law ∧ Cond.arrayClass .int ∈ wsL_law := by decide +kernel
set_option maxHeartbeats 8000000 in
set_option maxRecDepth 100000 in
/-- from the entry -/
theorem law_start {p : Program} {l : Launch} {e : Env} {s : State} {m : MethodId} {below : List Frame} {meth : Method} {c : Code} {g : GG} {bs nX : Nat} {xs : Nat → Int32} (hl0 : l.stackTraces = false) (B : FX p s m #[Value.ref bs] c cL_law RL wsL_law 29 g s.heap.size) (hr : meth.sig.returnType = ret) (hlk : meth.locks = false) (hX : va_X bs nX xs s s.heap) (hbl : bs < s.heap.size) (hL5 : nX ≤ 260) : WA p l e room_1 s m #[Value.ref bs] below meth c g s.heap.size 29 (lw_Z below #[Value.ref bs] s) (fun _ => none) 0 0 [some (.ref bs), none, none, none, none, none, none, none, none, none, none, none, none, none, none, none, none, none, none, none, none, none, none, none, none, none, none, none, none] 0 [] := by
  obtain ⟨⟨w1, w2, w3, w4, w5⟩, u1, u2⟩ := law_w
  have hbA : ¬ A0 s.heap.size bs := Nat.not_le.mpr hbl
  refine r_new (C := RX9) (T := TX9) (N := 6) (ci := 9) (fs := [.null, .null, .null, .null, .null, .int (iI 0)]) B dL_law_0 inlX9 tyX9 tyX9_ok w1 w2 w3 rfl (by decide) (Nat.le_of_ble_eq_true rfl) (Nat.le_of_ble_eq_true rfl) (fun a9 s9 n9 => ?_)
  refine r_dup B dL_law_3 rfl ?_
  refine r_callI (n := 0) B dL_law_4 (ct_X9_init l g s.heap.size (if_pos rfl)) gL_law_X9_init rfl w3 w4 w5 rfl (by decide +kernel) ⟨Nat.le_of_ble_eq_true rfl, Nat.le_of_ble_eq_true rfl⟩ rfl rfl (Nat.le_of_ble_eq_true rfl) (Nat.le_of_ble_eq_true rfl) (Nat.le_of_ble_eq_true rfl) (fun v h2 hp => ?_)
  obtain ⟨hv, A, hA0, hA, -, -, hC⟩ := hp
  subst v
  subst a9
  dsimp only [Option.toList, List.cons_append, List.nil_append]
  have hAs : ∀ i : Nat, i < 27 → h2 (A i) ≠ none := fun i hi => hC.stands hi
  refine r_astore_n B dL_law_7 rfl rfl (by decide) (lcat_v rfl rfl) ?_
  refine r_bipush B dL_law_8 (by decide) ?_
  refine r_newl B dL_law_10 u1 (by decide) (by decide) (Nat.le_of_ble_eq_true rfl) (Nat.le_of_ble_eq_true rfl) (fun od sod nod => ?_)
  refine r_astore_n B dL_law_12 rfl rfl (by decide) (lcat_v rfl rfl) ?_
  refine r_iconst B dL_law_13 ?_
  refine r_newi B dL_law_14 u2 (by decide) (by decide) (Nat.le_of_ble_eq_true rfl) (Nat.le_of_ble_eq_true rfl) (fun ob sob nob => ?_)
  refine r_astore_n B dL_law_16 rfl rfl (by decide) (lcat_v rfl rfl) ?_
  refine r_iconst B dL_law_17 ?_
  refine r_newi B dL_law_18 u2 (by decide) (by decide) (Nat.le_of_ble_eq_true rfl) (Nat.le_of_ble_eq_true rfl) (fun oc soc noc => ?_)
  refine r_astore B dL_law_20 rfl (by decide) (lcat_v rfl rfl) ?_
  refine r_iconst B dL_law_22 ?_
  refine r_newi B dL_law_23 u2 (by decide) (by decide) (Nat.le_of_ble_eq_true rfl) (Nat.le_of_ble_eq_true rfl) (fun op sop nop => ?_)
  refine r_astore B dL_law_25 rfl (by decide) (lcat_v rfl rfl) ?_
  refine r_iconst B dL_law_27 ?_
  refine r_newi B dL_law_28 u2 (by decide) (by decide) (Nat.le_of_ble_eq_true rfl) (Nat.le_of_ble_eq_true rfl) (fun oo soo noo => ?_)
  refine r_astore B dL_law_30 rfl (by decide) (lcat_v rfl rfl) ?_
  obtain ⟨n1, n2, n3, n4, b1, b2, b3, b4⟩ := five_ne nod nob noc nop noo
  have hL : LY A (fun q => q = od ∨ q = ob ∨ q = oc ∨ q = op ∨ q = oo) od ob oc op oo := ⟨hA, fun q => Iff.rfl, fun i hi => ⟨fun z => hAs i hi (z ▸ nod), fun z => hAs i hi (z ▸ n1), fun z => hAs i hi (z ▸ n2), fun z => hAs i hi (z ▸ n3), fun z => hAs i hi (z ▸ n4)⟩, b1, b2, b3, b4⟩
  have hAR : AR g od ob oc op oo (fun _ => 0) (fun _ => 0) (fun _ => 0) (fun _ => 0) (fun _ => 0) (ah_up (ah_up (ah_up (ah_up (ah_up h2 od (lE g (64 : Int).toNat (fun _ => 0))) ob (iE g (4 : Int).toNat (fun _ => 0))) oc (iE g (4 : Int).toNat (fun _ => 0))) op (iE g (4 : Int).toNat (fun _ => 0))) oo (iE g (4 : Int).toNat (fun _ => 0))) := ⟨ah_at (Ne.symm b1.2.2.2) (ah_at (Ne.symm b1.2.2.1) (ah_at (Ne.symm b1.2.1) (ah_at (Ne.symm b1.1) (ah_same _ _ _)))), ah_at (Ne.symm b2.2.2) (ah_at (Ne.symm b2.2.1) (ah_at (Ne.symm b2.1) (ah_same _ _ _))), ah_at (Ne.symm b3.2) (ah_at (Ne.symm b3.1) (ah_same _ _ _)), ah_at (Ne.symm b4) (ah_same _ _ _), ah_same _ _ _⟩
  have hT := ((ST.ini (Z := fun q => q = od ∨ q = ob ∨ q = oc ∨ q = op ∨ q = oo) hC).base).mv (h' := ah_up (ah_up (ah_up (ah_up (ah_up h2 od (lE g (64 : Int).toNat (fun _ => 0))) ob (iE g (4 : Int).toNat (fun _ => 0))) oc (iE g (4 : Int).toNat (fun _ => 0))) op (iE g (4 : Int).toNat (fun _ => 0))) oo (iE g (4 : Int).toNat (fun _ => 0))) (fun q _ q1 => five_fr (fun z => q1 (Or.inl z)) (fun z => q1 (Or.inr (Or.inl z))) (fun z => q1 (Or.inr (Or.inr (Or.inl z)))) (fun z => q1 (Or.inr (Or.inr (Or.inr (Or.inl z))))) (fun z => q1 (Or.inr (Or.inr (Or.inr (Or.inr z)))))) (fun i hi => five_fr (fun z => (hL.2.2.1 i hi).1 z.symm) (fun z => (hL.2.2.1 i hi).2.1 z.symm) (fun z => (hL.2.2.1 i hi).2.2.1 z.symm) (fun z => (hL.2.2.1 i hi).2.2.2.1 z.symm) (fun z => (hL.2.2.1 i hi).2.2.2.2 z.symm))
  have hG := RGm.ini
  obtain ⟨fs0, hro⟩ := hT.ro
  refine r_iconst B dL_law_32 ?_
  refine r_istore B dL_law_33 (by decide) (lcat_v rfl rfl) ?_
  refine r_bipush B dL_law_35 (by decide) ?_
  refine r_istore B dL_law_37 (by decide) (lcat_v rfl rfl) ?_
  refine r_iconst B dL_law_39 ?_
  refine r_istore B dL_law_40 (by decide) (lcat_v rfl rfl) ?_
  refine r_iconst B dL_law_42 ?_
  refine r_istore B dL_law_43 (by decide) (lcat_v rfl rfl) ?_
  refine r_sipush B dL_law_45 (by decide) ?_
  refine r_istore B dL_law_48 (by decide) (lcat_v rfl rfl) ?_
  refine r_iconst B dL_law_50 ?_
  refine r_istore B dL_law_51 (by decide) (lcat_v rfl rfl) ?_
  refine r_aload_n B dL_law_53 rfl rfl ?_
  refine r_callV (n := 0) B dL_law_54 (ct_X9_store l g s.heap.size hL.1 hT hG) gL_law_X9_store rfl (by decide +kernel) ⟨Nat.le_of_ble_eq_true rfl, Nat.le_of_ble_eq_true rfl⟩ hro rfl rfl rfl (Nat.le_of_ble_eq_true rfl) (by show 0 + 1 + 26 + 1 + 1 + 1 + 1 + 1 + 0 ≤ 683647; omega) (by show 0 + 6 + 800 + 64 + 4 + 4 + 4 + 4 + 0 ≤ 7050684; omega) (fun v h hp => ?_)
  obtain ⟨nS, hv, hSt, hST⟩ := hp
  subst v
  have hS0 := store_0 hSt
  have hAR := hAR.fr hL hST.fr
  have hT := hST.base
  obtain ⟨fs0, hro⟩ := hT.ro
  dsimp only [Option.toList, List.cons_append, List.nil_append]
  refine r_if_ne B dL_law_57 (tgt := 78) (by decide) (by omega) (fun c57 => ?_) (fun c57 => ?_)
  · exact absurd hS0 c57
  · refine r_aload_n B dL_law_60 rfl rfl ?_
    refine r_callV (n := 0) B dL_law_61 (ct_X9_purse l g s.heap.size hL.1 hT hG) gL_law_X9_purse rfl (by decide +kernel) ⟨Nat.le_of_ble_eq_true rfl, Nat.le_of_ble_eq_true rfl⟩ hro rfl rfl rfl (Nat.le_of_ble_eq_true rfl) (by show 0 + 1 + 26 + 1 + 1 + 1 + 1 + 1 + 0 + 0 ≤ 683647; omega) (by show 0 + 6 + 800 + 64 + 4 + 4 + 4 + 4 + 0 + 0 ≤ 7050684; omega) (fun v h hp => ?_)
    obtain ⟨hv, hST⟩ := hp
    subst v
    have hAR := hAR.fr hL hST.fr
    have hT := hST.base
    obtain ⟨fs0, hro⟩ := hT.ro
    dsimp only [Option.toList, List.cons_append, List.nil_append]
    refine r_if_ne B dL_law_64 (tgt := 78) (by decide) (by decide) (fun c64 => ?_) (fun c64 => ?_)
    · exact absurd rfl c64
    · refine r_aload_n B dL_law_67 rfl rfl ?_
      refine r_callV (n := 0) B dL_law_68 (ct_X9_nights l g s.heap.size hL.1 hT hG) gL_law_X9_nights rfl (by decide +kernel) ⟨Nat.le_of_ble_eq_true rfl, Nat.le_of_ble_eq_true rfl⟩ hro rfl rfl rfl (Nat.le_of_ble_eq_true rfl) (by show 0 + 1 + 26 + 1 + 1 + 1 + 1 + 1 + 0 + 0 + 0 ≤ 683647; omega) (by show 0 + 6 + 800 + 64 + 4 + 4 + 4 + 4 + 0 + 0 + 0 ≤ 7050684; omega) (fun v h hp => ?_)
      obtain ⟨hv, hST⟩ := hp
      subst v
      have hAR := hAR.fr hL hST.fr
      have hT := hST.base
      obtain ⟨fs0, hro⟩ := hT.ro
      dsimp only [Option.toList, List.cons_append, List.nil_append]
      refine r_if_ne B dL_law_71 (tgt := 78) (by decide) (by decide) (fun c71 => ?_) (fun c71 => ?_)
      · exact absurd rfl c71
      · refine r_iconst B dL_law_74 ?_
        refine r_goto B dL_law_75 (tgt := 79) (by decide) ?_
        refine r_istore B dL_law_79 (by decide) (lcat_v rfl rfl) ?_
        refine r_aload_n B dL_law_81 rfl rfl ?_
        refine r_slen B hX hbl hbA dL_law_82 ?_
        refine r_bipush B dL_law_83 (by decide) ?_
        have join111 : ∀ (tu : Int), (0 ≤ tu ∧ tu ≤ 200) → WA p l e room_1 s m #[Value.ref bs] below meth c g s.heap.size 29 (lw_Z below #[Value.ref bs] s) h (0 + 1 + 26 + 1 + 1 + 1 + 1 + 1 + 0 + 0 + 0) (0 + 6 + 800 + 64 + 4 + 4 + 4 + 4 + 0 + 0 + 0) [some (.ref bs), some (.ref (A 0)), some (.ref od), some (.ref ob), some (.ref oc), some (.ref op), some (.ref oo), some (.int (iI 3)), some (.int (iI 12)), some (.int (iI 5)), some (.int (iI 4)), some (.int (iI 200)), some (.int (iI 1)), some (.int (iI 1)), none, none, none, none, none, none, none, none, none, none, none, none, none, none, none] 111 [.int (iI tu)] := by
          intro tu t0
          refine r_istore B dL_law_111 (by decide) (lcat_v rfl rfl) ?_
          refine r_iconst B dL_law_113 ?_
          refine r_istore B dL_law_114 (by decide) (lcat_v rfl rfl) ?_
          refine r_widen (k := 100 + (0 : Int).toNat * 1010) (n := 3000 + (0 : Int).toNat * 14100) (Nat.le_of_ble_eq_true rfl) (Nat.le_of_ble_eq_true rfl) ?_
          exact r_lv (lvLe_s rfl (lvLe_s rfl (lvLe_s rfl (lvLe_s rfl (lvLe_s rfl (lvLe_s rfl (lvLe_s rfl (lvLe_s rfl (lvLe_s rfl (lvLe_s rfl (lvLe_s rfl (lvLe_s rfl (lvLe_s rfl (lvLe_s rfl (lvLe_s rfl (lvLe_s rfl (lvLe_n (lvLe_n (lvLe_n (lvLe_n (lvLe_n (lvLe_n (lvLe_n (lvLe_n (lvLe_n (lvLe_n (lvLe_n (lvLe_n (lvLe_n lvLe_nil))))))))))))))))))))))))))))) (law_loop hl0 B hr hlk hL hX hbl hL5 t0 201 0 _ 0 3 12 5 4 200 1 ⟨_, _, _, _, _, _, _, _, _, _, _, _, _, _, _, _, _, _, _, _, hT, hG, hAR, (fun x j x0 j0 hk => absurd rfl hk), (fun y9 w0 w1 => ⟨rfl, rfl, rfl, rfl⟩), by decide⟩ (by decide) (by decide))
        refine r_icmp_ge B dL_law_85 (tgt := 94) (by decide) (by omega) (by omega) (fun c85 => ?_) (fun c85 => ?_)
        · refine r_aload_n B dL_law_94 rfl rfl ?_
          refine r_slen B hX hbl hbA dL_law_95 ?_
          refine r_bipush B dL_law_96 (by decide) ?_
          refine r_icmp_ge B dL_law_98 (tgt := 108) (by decide) (by omega) (by omega) (fun c98 => ?_) (fun c98 => ?_)
          · refine r_sipush B dL_law_108 (by decide) ?_
            exact r_lv (lvLe_s rfl (lvLe_s rfl (lvLe_s rfl (lvLe_s rfl (lvLe_s rfl (lvLe_s rfl (lvLe_s rfl (lvLe_s rfl (lvLe_s rfl (lvLe_s rfl (lvLe_s rfl (lvLe_s rfl (lvLe_s rfl (lvLe_s rfl (lvLe_n (lvLe_n (lvLe_n (lvLe_n (lvLe_n (lvLe_n (lvLe_n (lvLe_n (lvLe_n (lvLe_n (lvLe_n (lvLe_n (lvLe_n (lvLe_n (lvLe_n lvLe_nil))))))))))))))))))))))))))))) (join111 _ (by omega))
          · refine r_iconst B dL_law_101 ?_
            refine r_aload_n B dL_law_102 rfl rfl ?_
            refine r_slen B hX hbl hbA dL_law_103 ?_
            refine r_imul B dL_law_104 ?_
            refine r_goto B dL_law_105 (tgt := 111) (by decide) ?_
            exact r_lv (lvLe_s rfl (lvLe_s rfl (lvLe_s rfl (lvLe_s rfl (lvLe_s rfl (lvLe_s rfl (lvLe_s rfl (lvLe_s rfl (lvLe_s rfl (lvLe_s rfl (lvLe_s rfl (lvLe_s rfl (lvLe_s rfl (lvLe_s rfl (lvLe_n (lvLe_n (lvLe_n (lvLe_n (lvLe_n (lvLe_n (lvLe_n (lvLe_n (lvLe_n (lvLe_n (lvLe_n (lvLe_n (lvLe_n (lvLe_n (lvLe_n lvLe_nil))))))))))))))))))))))))))))) (join111 _ (by omega))
        · refine r_sipush B dL_law_88 (by decide) ?_
          refine r_goto B dL_law_91 (tgt := 111) (by decide) ?_
          exact r_lv (lvLe_s rfl (lvLe_s rfl (lvLe_s rfl (lvLe_s rfl (lvLe_s rfl (lvLe_s rfl (lvLe_s rfl (lvLe_s rfl (lvLe_s rfl (lvLe_s rfl (lvLe_s rfl (lvLe_s rfl (lvLe_s rfl (lvLe_s rfl (lvLe_n (lvLe_n (lvLe_n (lvLe_n (lvLe_n (lvLe_n (lvLe_n (lvLe_n (lvLe_n (lvLe_n (lvLe_n (lvLe_n (lvLe_n (lvLe_n (lvLe_n lvLe_nil))))))))))))))))))))))))))))) (join111 _ (by omega))
