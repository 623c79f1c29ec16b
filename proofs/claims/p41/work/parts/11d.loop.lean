/-- the end: true -/
theorem law_exit {p : Program} {l : Launch} {e : Env} {s : State} {m : MethodId} {below : List Frame} {meth : Method} {c : Code} {g : GG} {bs : Nat} {h : AH} {cells slots pc : Nat} {lv : LVs} (B : FX p s m #[Value.ref bs] c cL_law RL wsL_law 29 g s.heap.size) (hr : meth.sig.returnType = ret) (hlk : meth.locks = false) (hc1 : cells ≤ 683647) (hc2 : slots ≤ 7050684) (d : decode code pc = .ok (.ireturn, 1)) : WA p l e room_1 s m #[Value.ref bs] below meth c g s.heap.size 29 (lw_Z below #[Value.ref bs] s) h cells slots lv pc [.int (iI 1)] := fun H locs ls hR hS hl => by
  refine va_forget (fun q hq => hS.2.2 q hq) ?_
  refine W.widen hc1 hc2 ?_
  exact lw_ret (d0 := s.drawn) (Drawn.sameBut.refl s.drawn lw_cs) B.1 B.2.1 hr hlk d
set_option maxHeartbeats 8000000 in
set_option maxRecDepth 100000 in
theorem law_loop {p : Program} {l : Launch} {e : Env} {s : State} {m : MethodId} {below : List Frame} {meth : Method} {c : Code} {g : GG} {A : Nat → Nat} {Z : Nat → Prop} {od ob oc op oo bs nX : Nat} {xs : Nat → Int32} {tu : Int} (hl0 : l.stackTraces = false) (B : FX p s m #[Value.ref bs] c cL_law RL wsL_law 29 g s.heap.size) (hr : meth.sig.returnType = ret) (hlk : meth.locks = false) (hL : LY A Z od ob oc op oo) (hX : va_X bs nX xs s s.heap) (hbl : bs < s.heap.size) (hL5 : nX ≤ 260) (htu : 0 ≤ tu ∧ tu ≤ 200) : ∀ (nn : Nat) (tn : Int) (h : AH) (ng ls ms mo sp rm rs : Int), JL g A Z od ob oc op oo ng ls ms mo sp rm rs h → (0 ≤ tn ∧ tn ≤ 200) → (200 - tn).toNat < nn → WA p l e room_1 s m #[Value.ref bs] below meth c g s.heap.size 29 (lw_Z below #[Value.ref bs] s) h (100 + tn.toNat * 1010) (3000 + tn.toNat * 14100) [some (.ref bs), some (.ref (A 0)), some (.ref od), some (.ref ob), some (.ref oc), some (.ref op), some (.ref oo), some (.int (iI ls)), some (.int (iI ms)), some (.int (iI mo)), some (.int (iI sp)), some (.int (iI rm)), some (.int (iI rs)), some (.int (iI 1)), some (.int (iI tu)), some (.int (iI tn)), none, none, none, none, none, none, none, none, none, none, none, none, none] 116 [] := by
  have hbA : ¬ A0 s.heap.size bs := Nat.not_le.mpr hbl
  intro nn
  induction nn with
  | zero => intro tn h ng ls ms mo sp rm rs hJ t1 hn; exact absurd hn (Nat.not_lt_zero _)
  | succ nn ih =>
    intro tn h ng ls ms mo sp rm rs hJ t1 hn
    refine r_iload B dL_law_116 rfl ?_
    refine r_iload B dL_law_118 rfl ?_
    refine r_icmp_ge B dL_law_120 (tgt := 1608) (by decide) (by omega) (by omega) (fun c120 => ?_) (fun c120 => ?_)
    · refine r_iload B dL_law_1608 rfl ?_
      exact law_exit B hr hlk (by omega) (by omega) dL_law_1610
    · obtain ⟨k0, k1, k2, k3, k4, k5, k6, k7, k8, k9, k10, k11, k12, k13, k14, k15, k16, k17, k18, k19, hT, hG, hAR, hD, hFE, hn16⟩ := hJ
      refine law_turn hl0 B hX hbl hbA hL5 hL hT hG hAR hD hFE hn16 (by omega) (by omega) (by omega) (fun h' ng ls ms mo sp rm rs hJ => ?_)
      refine r_widen (k := 100 + (tn + 1).toNat * 1010) (n := 3000 + (tn + 1).toNat * 14100) (by omega) (by omega) ?_
      exact ih (tn + 1) _ _ _ _ _ _ _ _ hJ (by omega) (by omega)

