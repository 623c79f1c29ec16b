/-- the end: true -/
theorem law_exit {p : Program} {l : Launch} {e : Env} {s : State} {m : MethodId} {below : List Frame} {meth : Method} {c : Code} {g : GG} {bs : Nat} {h : AH} {cells slots pc : Nat} {lv : LVs} (B : FX p s m #[Value.ref bs] c cL_law RL wsL_law 9 g s.heap.size) (hr : meth.sig.returnType = ret) (hlk : meth.locks = false) (hc1 : cells ≤ 601024) (hc2 : slots ≤ 7293034) (d : decode code pc = .ok (.ireturn, 1)) : WA p l e room_1 s m #[Value.ref bs] below meth c g s.heap.size 9 (lw_Z below #[Value.ref bs] s) h cells slots lv pc [.int (iI 1)] := fun H locs ls hR hS hl => by
  refine va_forget (fun q hq => hS.2.2 q hq) ?_
  refine W.widen hc1 hc2 ?_
  exact lw_ret (d0 := s.drawn) (Drawn.sameBut.refl s.drawn lw_cs) B.1 B.2.1 hr hlk d
set_option maxHeartbeats 4000000 in
set_option maxRecDepth 100000 in
theorem law_loop {p : Program} {l : Launch} {e : Env} {s : State} {m : MethodId} {below : List Frame} {meth : Method} {c : Code} {g : GG} {bs L : Nat} {xs : Nat → Int32} {A ad : Nat → Nat} {Z : Nat → Prop} {o1 o2 : Nat} (hl0 : l.stackTraces = false) (B : FX p s m #[Value.ref bs] c cL_law RL wsL_law 9 g s.heap.size) (hr : meth.sig.returnType = ret) (hlk : meth.locks = false) (hL : LA A ad o1 o2 Z) (hX : va_X bs L xs s s.heap) (hbl : bs < s.heap.size) (hL5 : L ≤ 2560) : ∀ (nn n : Nat) (h : AH) (T0 : Int), LK g A Z ad o1 o2 T0 h → 5 * n ≤ 2560 → 513 - n < nn → WA p l e room_1 s m #[Value.ref bs] below meth c g s.heap.size 9 (lw_Z below #[Value.ref bs] s) h (60 + n * 421) (60000 + n * 10406) [some (.ref bs), some (.ref (A 0)), some (.ref (ad 0)), some (.ref o1), some (.ref o2), some (.int (iI (5 * (n : Int)))), none, none, none] 28 [] := by
  have hbA : ¬ A0 s.heap.size bs := Nat.not_le.mpr hbl
  intro nn
  induction nn with
  | zero => intro n h T0 hJ h1 h2; exact absurd h2 (Nat.not_lt_zero _)
  | succ nn ih =>
    intro n h T0 hJ h1 h2
    refine r_iload B dL_law_28 rfl ?_
    refine r_aload_n B dL_law_30 rfl rfl ?_
    refine r_slen B hX hbl hbA dL_law_31 ?_
    refine r_iconst B dL_law_32 ?_
    refine r_isub B dL_law_33 ?_
    refine r_icmp_gt B dL_law_34 (tgt := 2508) (by decide) (by omega) (by omega) (fun c34 => ?_) (fun c34 => ?_)
    · refine r_iconst B dL_law_2508 ?_
      exact law_exit B hr hlk (by omega) (by omega) dL_law_2509
    refine r_aload_n B dL_law_37 rfl rfl ?_
    refine r_iload B dL_law_38 rfl ?_
    refine r_sld B hX hbl hbA (by omega) dL_law_40 (by omega) (by omega) ?_
    refine r_bipush B dL_law_41 (by decide) ?_
    refine r_iand B dL_law_43 ?_
    obtain ⟨q, eq9, q0⟩ : ∃ q : Int, (iI (vaZ xs (5 * (n : Int))) &&& iI 63) = iI q ∧ (-2147483648 ≤ q ∧ q < 2147483648) := ⟨i32z _, (iI_i32z _).symm, i32z_rng _⟩
    refine r_top eq9 ?_
    have kont : ∀ (h' : AH) (T' : Int), LK g A Z ad o1 o2 T' h' → WA p l e room_1 s m #[Value.ref bs] below meth c g s.heap.size 9 (lw_Z below #[Value.ref bs] s) h' (60 + n * 421 + 421) (60000 + n * 10406 + 10406) [some (.ref bs), some (.ref (A 0)), some (.ref (ad 0)), some (.ref o1), some (.ref o2), some (.int (iI (5 * (n : Int)))), none, none, none] 2502 [] := by
      intro h' T' hJ'
      refine r_iinc B dL_law_2502 rfl (by decide) (lcat_v rfl rfl) ?_
      refine r_goto B dL_law_2505 (tgt := 28) (by decide) ?_
      refine r_widen (k := 60 + (n + 1) * 421) (n := 60000 + (n + 1) * 10406) (by omega) (by omega) ?_
      refine r_eq (lv' := [some (.ref bs), some (.ref (A 0)), some (.ref (ad 0)), some (.ref o1), some (.ref o2), some (.int (iI (5 * ((n + 1 : Nat) : Int)))), none, none, none]) (by rw [show 5 * ((n + 1 : Nat) : Int) = 5 * (n : Int) + 5 by omega]; rfl) rfl rfl ?_
      exact ih (n + 1) h' T' hJ' (by omega) (by omega)
    by_cases hq : ¬ (0 ≤ q ∧ q ≤ 37)
    · refine r_tabOut B dL_law_44 (tgt := 2502) q0 (by omega) (by decide) ?_
      refine r_widen (k := 60 + n * 421 + 421) (n := 60000 + n * 10406 + 10406) (by omega) (by omega) ?_
      exact kont h T0 hJ
    replace hq := Classical.not_not.mp hq
    obtain ⟨k, hk, rfl⟩ : ∃ k : Nat, k < 38 ∧ q = (k : Int) := ⟨q.toNat, by omega, by omega⟩
    match k, hk with
    | 0, _ => exact r_tabIn B dL_law_44 (off := 168) (tgt := 212) q0 (by decide) (by decide) (by decide) (by decide) (law_c0 hl0 B hL hX hbl hbA (by omega) hJ (by omega) (by omega) (by omega) (by omega) kont)
    | 1, _ => exact r_tabIn B dL_law_44 (off := 248) (tgt := 292) q0 (by decide) (by decide) (by decide) (by decide) (law_c1 hl0 B hL hX hbl hbA (by omega) hJ (by omega) (by omega) (by omega) (by omega) kont)
    | 2, _ => exact r_tabIn B dL_law_44 (off := 328) (tgt := 372) q0 (by decide) (by decide) (by decide) (by decide) (law_c2 hl0 B hL hX hbl hbA (by omega) hJ (by omega) (by omega) (by omega) (by omega) kont)
    | 3, _ => exact r_tabIn B dL_law_44 (off := 408) (tgt := 452) q0 (by decide) (by decide) (by decide) (by decide) (law_c3 hl0 B hL hX hbl hbA (by omega) hJ (by omega) (by omega) (by omega) (by omega) kont)
    | 4, _ => exact r_tabIn B dL_law_44 (off := 500) (tgt := 544) q0 (by decide) (by decide) (by decide) (by decide) (law_c4 hl0 B hL hX hbl hbA (by omega) hJ (by omega) (by omega) (by omega) (by omega) kont)
    | 5, _ => exact r_tabIn B dL_law_44 (off := 556) (tgt := 600) q0 (by decide) (by decide) (by decide) (by decide) (law_c5 hl0 B hL hX hbl hbA (by omega) hJ (by omega) (by omega) (by omega) (by omega) kont)
    | 6, _ => exact r_tabIn B dL_law_44 (off := 624) (tgt := 668) q0 (by decide) (by decide) (by decide) (by decide) (law_c6 hl0 B hL hX hbl hbA (by omega) hJ (by omega) (by omega) (by omega) (by omega) kont)
    | 7, _ => exact r_tabIn B dL_law_44 (off := 679) (tgt := 723) q0 (by decide) (by decide) (by decide) (by decide) (law_c7 hl0 B hL hX hbl hbA (by omega) hJ (by omega) (by omega) (by omega) (by omega) kont)
    | 8, _ => exact r_tabIn B dL_law_44 (off := 739) (tgt := 783) q0 (by decide) (by decide) (by decide) (by decide) (law_c8 hl0 B hL hX hbl hbA (by omega) hJ (by omega) (by omega) (by omega) (by omega) kont)
    | 9, _ => exact r_tabIn B dL_law_44 (off := 807) (tgt := 851) q0 (by decide) (by decide) (by decide) (by decide) (law_c9 hl0 B hL hX hbl hbA (by omega) hJ (by omega) (by omega) (by omega) (by omega) kont)
    | 10, _ => exact r_tabIn B dL_law_44 (off := 863) (tgt := 907) q0 (by decide) (by decide) (by decide) (by decide) (law_c10 hl0 B hL hX hbl hbA (by omega) hJ (by omega) (by omega) (by omega) (by omega) kont)
    | 11, _ => exact r_tabIn B dL_law_44 (off := 931) (tgt := 975) q0 (by decide) (by decide) (by decide) (by decide) (law_c11 hl0 B hL hX hbl hbA (by omega) hJ (by omega) (by omega) (by omega) (by omega) kont)
    | 12, _ => exact r_tabIn B dL_law_44 (off := 944) (tgt := 988) q0 (by decide) (by decide) (by decide) (by decide) (law_c12 hl0 B hL hX hbl hbA (by omega) hJ (by omega) (by omega) (by omega) (by omega) kont)
    | 13, _ => exact r_tabIn B dL_law_44 (off := 992) (tgt := 1036) q0 (by decide) (by decide) (by decide) (by decide) (law_c13 hl0 B hL hX hbl hbA (by omega) hJ (by omega) (by omega) (by omega) (by omega) kont)
    | 14, _ => exact r_tabIn B dL_law_44 (off := 1060) (tgt := 1104) q0 (by decide) (by decide) (by decide) (by decide) (law_c14 hl0 B hL hX hbl hbA (by omega) hJ (by omega) (by omega) (by omega) (by omega) kont)
    | 15, _ => exact r_tabIn B dL_law_44 (off := 1120) (tgt := 1164) q0 (by decide) (by decide) (by decide) (by decide) (law_c15 hl0 B hL hX hbl hbA (by omega) hJ (by omega) (by omega) (by omega) (by omega) kont)
    | 16, _ => exact r_tabIn B dL_law_44 (off := 1176) (tgt := 1220) q0 (by decide) (by decide) (by decide) (by decide) (law_c16 hl0 B hL hX hbl hbA (by omega) hJ (by omega) (by omega) (by omega) (by omega) kont)
    | 17, _ => exact r_tabIn B dL_law_44 (off := 1232) (tgt := 1276) q0 (by decide) (by decide) (by decide) (by decide) (law_c17 hl0 B hL hX hbl hbA (by omega) hJ (by omega) (by omega) (by omega) (by omega) kont)
    | 18, _ => exact r_tabIn B dL_law_44 (off := 1288) (tgt := 1332) q0 (by decide) (by decide) (by decide) (by decide) (law_c18 hl0 B hL hX hbl hbA (by omega) hJ (by omega) (by omega) (by omega) (by omega) kont)
    | 19, _ => exact r_tabIn B dL_law_44 (off := 1332) (tgt := 1376) q0 (by decide) (by decide) (by decide) (by decide) (law_c19 hl0 B hL hX hbl hbA (by omega) hJ (by omega) (by omega) (by omega) (by omega) kont)
    | 20, _ => exact r_tabIn B dL_law_44 (off := 1345) (tgt := 1389) q0 (by decide) (by decide) (by decide) (by decide) (law_c20 hl0 B hL hX hbl hbA (by omega) hJ (by omega) (by omega) (by omega) (by omega) kont)
    | 21, _ => exact r_tabIn B dL_law_44 (off := 1413) (tgt := 1457) q0 (by decide) (by decide) (by decide) (by decide) (law_c21 hl0 B hL hX hbl hbA (by omega) hJ (by omega) (by omega) (by omega) (by omega) kont)
    | 22, _ => exact r_tabIn B dL_law_44 (off := 1481) (tgt := 1525) q0 (by decide) (by decide) (by decide) (by decide) (law_c22 hl0 B hL hX hbl hbA (by omega) hJ (by omega) (by omega) (by omega) (by omega) kont)
    | 23, _ => exact r_tabIn B dL_law_44 (off := 1537) (tgt := 1581) q0 (by decide) (by decide) (by decide) (by decide) (law_c23 hl0 B hL hX hbl hbA (by omega) hJ (by omega) (by omega) (by omega) (by omega) kont)
    | 24, _ => exact r_tabIn B dL_law_44 (off := 1605) (tgt := 1649) q0 (by decide) (by decide) (by decide) (by decide) (law_c24 hl0 B hL hX hbl hbA (by omega) hJ (by omega) (by omega) (by omega) (by omega) kont)
    | 25, _ => exact r_tabIn B dL_law_44 (off := 1673) (tgt := 1717) q0 (by decide) (by decide) (by decide) (by decide) (law_c25 hl0 B hL hX hbl hbA (by omega) hJ (by omega) (by omega) (by omega) (by omega) kont)
    | 26, _ => exact r_tabIn B dL_law_44 (off := 1741) (tgt := 1785) q0 (by decide) (by decide) (by decide) (by decide) (law_c26 hl0 B hL hX hbl hbA (by omega) hJ (by omega) (by omega) (by omega) (by omega) kont)
    | 27, _ => exact r_tabIn B dL_law_44 (off := 1808) (tgt := 1852) q0 (by decide) (by decide) (by decide) (by decide) (law_c27 hl0 B hL hX hbl hbA (by omega) hJ (by omega) (by omega) (by omega) (by omega) kont)
    | 28, _ => exact r_tabIn B dL_law_44 (off := 1875) (tgt := 1919) q0 (by decide) (by decide) (by decide) (by decide) (law_c28 hl0 B hL hX hbl hbA (by omega) hJ (by omega) (by omega) (by omega) (by omega) kont)
    | 29, _ => exact r_tabIn B dL_law_44 (off := 1943) (tgt := 1987) q0 (by decide) (by decide) (by decide) (by decide) (law_c29 hl0 B hL hX hbl hbA (by omega) hJ (by omega) (by omega) (by omega) (by omega) kont)
    | 30, _ => exact r_tabIn B dL_law_44 (off := 1991) (tgt := 2035) q0 (by decide) (by decide) (by decide) (by decide) (law_c30 hl0 B hL hX hbl hbA (by omega) hJ (by omega) (by omega) (by omega) (by omega) kont)
    | 31, _ => exact r_tabIn B dL_law_44 (off := 2059) (tgt := 2103) q0 (by decide) (by decide) (by decide) (by decide) (law_c31 hl0 B hL hX hbl hbA (by omega) hJ (by omega) (by omega) (by omega) (by omega) kont)
    | 32, _ => exact r_tabIn B dL_law_44 (off := 2149) (tgt := 2193) q0 (by decide) (by decide) (by decide) (by decide) (law_c32 hl0 B hL hX hbl hbA (by omega) hJ (by omega) (by omega) (by omega) (by omega) kont)
    | 33, _ => exact r_tabIn B dL_law_44 (off := 2217) (tgt := 2261) q0 (by decide) (by decide) (by decide) (by decide) (law_c33 hl0 B hL hX hbl hbA (by omega) hJ (by omega) (by omega) (by omega) (by omega) kont)
    | 34, _ => exact r_tabIn B dL_law_44 (off := 2277) (tgt := 2321) q0 (by decide) (by decide) (by decide) (by decide) (law_c34 hl0 B hL hX hbl hbA (by omega) hJ (by omega) (by omega) (by omega) (by omega) kont)
    | 35, _ => exact r_tabIn B dL_law_44 (off := 2333) (tgt := 2377) q0 (by decide) (by decide) (by decide) (by decide) (law_c35 hl0 B hL hX hbl hbA (by omega) hJ (by omega) (by omega) (by omega) (by omega) kont)
    | 36, _ => exact r_tabIn B dL_law_44 (off := 2389) (tgt := 2433) q0 (by decide) (by decide) (by decide) (by decide) (law_c36 hl0 B hL hX hbl hbA (by omega) hJ (by omega) (by omega) (by omega) (by omega) kont)
    | 37, _ => exact r_tabIn B dL_law_44 (off := 2445) (tgt := 2489) q0 (by decide) (by decide) (by decide) (by decide) (law_c37 hl0 B hL hX hbl hbA (by omega) hJ (by omega) (by omega) (by omega) (by omega) kont)
    | k + 38, hk => exact absurd hk (by omega)
