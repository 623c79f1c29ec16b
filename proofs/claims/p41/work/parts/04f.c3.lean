abbrev rmX9_foldIn : Room := { frames := 0, cells := 0, slots := 0, locals := 0 }
set_option maxHeartbeats 4000000 in
set_option maxRecDepth 100000 in
theorem ct_X9_foldIn (l : Launch) (g : GG) (sz0 : Nat) {h : AH} (x : Int64) (b : Int)  : CT l yX9_foldIn wsX9_foldIn rmX9_foldIn g sz0 [.long x, .int (iI (b))] h (fun v h' => v = some (.long (dstep x b)) ∧ h' = h) := by
  refine CT.of (by decide +kernel) rfl [some (.long x), none, some (.int (iI (b)))] rfl (Nat.le_of_ble_eq_true rfl) ?_
  intro p e s m args below meth c B hr hlk hnm
  refine r_lload_n B dX9_foldIn_0 rfl ?_
  refine r_iconst B dX9_foldIn_1 ?_
  refine r_lshl B dX9_foldIn_2 rfl ?_
  refine r_lload_n B dX9_foldIn_3 rfl ?_
  refine r_bipush B dX9_foldIn_4 (by decide) ?_
  refine r_lushr B dX9_foldIn_6 rfl ?_
  refine r_lor B dX9_foldIn_7 ?_
  refine r_iload_n B dX9_foldIn_8 rfl ?_
  refine r_i2l B dX9_foldIn_9 ?_
  refine r_lxor B dX9_foldIn_10 ?_
  exact r_lret B hr hlk dX9_foldIn_11 (Nat.le_of_ble_eq_true rfl) (Nat.le_of_ble_eq_true rfl) ⟨rfl, rfl⟩
abbrev rmX0_fingerprint : Room := { frames := 1, cells := 0, slots := 0, locals := 22 }
theorem in_X0_fingerprint_X0 : ∀ w ∈ wsX00, w ∈ wsX0_fingerprint := by decide +kernel
theorem w_X0_fingerprint_f18 : Cond.fieldLink RX0 18 "DeltaNights$ByteFile" "size" "I" ∈ wsX0_fingerprint := by decide +kernel
theorem w_X0_fingerprint_iniX9 : Cond.initialized RX9 ∈ wsX0_fingerprint := by decide +kernel
theorem w_X0_fingerprint_stX9_foldIn : Cond.static yX9_foldIn ∈ wsX0_fingerprint := by decide +kernel
set_option maxHeartbeats 4000000 in
set_option maxRecDepth 100000 in
theorem ct_X0_fingerprint (l : Launch) (g : GG) (sz0 : Nat) {h h0 : AH} {f ac ae : Nat} {G Eg : Int → Int} {sz pt : Int} (hF : FL g f ac ae G Eg sz pt h0 h)  : CT l yX0_fingerprint wsX0_fingerprint rmX0_fingerprint g sz0 [.ref f] h (fun v h' => v = some (.long (dig G sz.toNat)) ∧ h' = h) := by
  refine CT.of (by decide +kernel) rfl [some (.ref f), none, none, none] rfl (Nat.le_of_ble_eq_true rfl) ?_
  intro p e s m args below meth c B hr hlk hnm
  have hs9 := hF.s
  refine r_lconst B dX0_fingerprint_0 rfl ?_
  refine r_lstore_n B dX0_fingerprint_1 rfl (by decide) (lcat_v rfl rfl) ?_
  refine r_iconst B dX0_fingerprint_2 ?_
  refine r_istore_n B dX0_fingerprint_3 rfl (by decide) (lcat_n rfl) ?_
  have loop4 : ∀ (nn : Nat) (q : Int), (0 ≤ q ∧ q ≤ sz) → (sz - q).toNat < nn → WA p l e rmX0_fingerprint s m args below meth c g sz0 4 (MQ below (QQ g sz0 (fun v h' => v = some (.long (dig G sz.toNat)) ∧ h' = h)) args s rmX0_fingerprint.cells rmX0_fingerprint.slots (A0 sz0)) h 0 0 [some (.ref f), some (.long (dig G q.toNat)), none, some (.int (iI (q)))] 4 [] := by
    intro nn
    induction nn with
    | zero => intro q i1 hn; exact absurd hn (Nat.not_lt_zero _)
    | succ nn ih =>
      intro q i1 hn
      refine r_iload_n B dX0_fingerprint_4 rfl ?_
      refine r_aload_n B dX0_fingerprint_5 rfl rfl ?_
      refine r_get (C := RX0) (T := TX0) (N := 4) (ci := 0) B dX0_fingerprint_6 in_X0_fingerprint_X0 rfl 2 (by decide) w_X0_fingerprint_f18 rfl hF.1 rfl ?_
      refine r_icmp_ge B dX0_fingerprint_9 (tgt := 28) (by decide) (by omega) (by omega) (fun c9 => ?_) (fun c9 => ?_)
      · refine r_lload_n B dX0_fingerprint_28 rfl ?_
        exact r_lret B hr hlk dX0_fingerprint_29 (Nat.le_of_ble_eq_true rfl) (Nat.le_of_ble_eq_true rfl) ⟨by rw [show sz = q by omega], rfl⟩
      · refine r_lload_n B dX0_fingerprint_12 rfl ?_
        refine r_aload_n B dX0_fingerprint_13 rfl rfl ?_
        refine r_iload_n B dX0_fingerprint_14 rfl ?_
        refine r_callV (n := 1) B dX0_fingerprint_15 (ct_X0_byteAt l g sz0 hF _ (by omega)) gX0_fingerprint_X0_byteAt rfl (by decide +kernel) ⟨Nat.le_of_ble_eq_true rfl, Nat.le_of_ble_eq_true rfl⟩ hF.1 rfl rfl rfl (Nat.le_of_ble_eq_true rfl) (Nat.le_of_ble_eq_true rfl) (Nat.le_of_ble_eq_true rfl) (fun v h' hp => ?_)
        obtain ⟨hv, hh⟩ := hp
        subst v
        subst h'
        dsimp only [Option.toList, List.cons_append, List.nil_append]
        rw [byF_in (by omega)]
        refine r_callSN (n := 2) B dX0_fingerprint_18 (ct_X9_foldIn l g sz0 _ _) gX0_fingerprint_X9_foldIn_n54 rfl w_X0_fingerprint_iniX9 (by decide +kernel) w_X0_fingerprint_stX9_foldIn (by decide +kernel) ⟨Nat.le_of_ble_eq_true rfl, Nat.le_of_ble_eq_true rfl⟩ rfl rfl (Nat.le_of_ble_eq_true rfl) (Nat.le_of_ble_eq_true rfl) (Nat.le_of_ble_eq_true rfl) (fun v h' hp => ?_)
        obtain ⟨hv, hh⟩ := hp
        subst v
        subst h'
        dsimp only [Option.toList, List.cons_append, List.nil_append]
        refine r_lstore_n B dX0_fingerprint_21 rfl (by decide) (lcat_v rfl rfl) ?_
        refine r_iinc B dX0_fingerprint_22 rfl (by decide) (lcat_n rfl) ?_
        refine r_goto B dX0_fingerprint_25 (tgt := 4) (by decide) ?_
        rw [← dig_succ _ i1.1]
        exact r_lv (lvLe_s rfl (lvLe_s rfl (lvLe_n (lvLe_s rfl lvLe_nil)))) (ih (q + 1) (by omega) (by omega))
  exact r_lv (lvLe_s rfl (lvLe_s rfl (lvLe_n (lvLe_s rfl lvLe_nil)))) (loop4 _ 0 (by omega) (Nat.lt_succ_self _))
