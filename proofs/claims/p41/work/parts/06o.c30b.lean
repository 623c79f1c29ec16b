abbrev rmX3_init : Room := { frames := 2, cells := 4, slots := 160, locals := 60 }
theorem w_X3_init_oi1 : Cond.methodLink RX3 3 Lib.objectInit ∈ wsX3_init := by decide +kernel
theorem w_X3_init_oi2 : Cond.instanceMethod Lib.objectInit ∈ wsX3_init := by decide +kernel
theorem w_X3_init_oi3 : Cond.code Lib.objectInit ⟨#[0xb1]⟩ 1 none ∈ wsX3_init := by decide +kernel
theorem w_X3_init_iniX0 : Cond.initialized RX0 ∈ wsX3_init := by decide +kernel
theorem w_X3_init_insX0_init : Cond.instanceMethod yX0_init ∈ wsX3_init := by decide +kernel
theorem in_X3_init_X3 : ∀ w ∈ wsX30, w ∈ wsX3_init := by decide +kernel
set_option maxHeartbeats 4000000 in
set_option maxRecDepth 100000 in
theorem ct_X3_init (l : Launch) (g : GG) (sz0 : Nat) {hI : AH} {a : Nat} (ha0 : hI a = some (oE 3 [.null, .null, .null, .int (iI 0), .int (iI 0), .int (iI 0), .int (iI 0), .int (iI 0), .int (iI 0), .int (iI 0), .int (iI 0), .int (iI 0), .int (iI 0)]))  : CT l yX3_init wsX3_init rmX3_init g sz0 [.ref a] hI (fun v h' => v = none ∧ ∃ fi ac ae lk : Nat, (hI lk = none ∧ hI ae = none ∧ hI ac = none ∧ hI fi = none) ∧ AL [(lk, qE g 6 60 (fun _ => none)), (ae, iE g 48 (fun _ => 0)), (ac, iE g 48 (fun _ => 0)), (fi, oE 0 [.ref ac, .ref ae, .int (iI 0), .int (iI 0)]), (a, oE 3 [.ref fi, .ref lk, .null, .int (iI 0), .int (iI 5), .int (iI 0), .int (iI 60), .int (iI 0), .int (iI 0), .int (iI 0), .int (iI 0), .int (iI 0), .int (iI 0)])] hI h') := by
  refine CT.of (by decide +kernel) rfl [some (.ref a)] rfl (Nat.le_of_ble_eq_true rfl) ?_
  intro p e s m args below meth c B hr hlk hnm
  have hL := AL.one ha0
  refine r_aload_n B dX3_init_0 rfl rfl ?_
  refine r_objInit B dX3_init_1 w_X3_init_oi1 w_X3_init_oi2 w_X3_init_oi3 (Nat.le_of_ble_eq_true rfl) (Nat.le_of_ble_eq_true rfl) ?_
  refine r_aload_n B dX3_init_4 rfl rfl ?_
  refine r_new (C := RX0) (T := TX0) (N := 4) (ci := 0) (fs := [.null, .null, .int (iI 0), .int (iI 0)]) B dX3_init_5 (by decide +kernel) tyX0 tyX0_ok (by decide +kernel) (by decide +kernel) (by decide +kernel) rfl (by decide) (Nat.le_of_ble_eq_true rfl) (Nat.le_of_ble_eq_true rfl) (fun fi sfi nfi => ?_)
  have ffi := (hL.non nfi).2
  refine k_next (P := fun x9 => AL [(fi, oE 0 [.null, .null, .int (iI 0), .int (iI 0)]), (a, oE 3 [.null, .null, .null, .int (iI 0), .int (iI 0), .int (iI 0), .int (iI 0), .int (iI 0), .int (iI 0), .int (iI 0), .int (iI 0), .int (iI 0), .int (iI 0)])] hI x9) (hL.new nfi) (fun h1 hL => ?_)
  refine r_dup B dX3_init_8 rfl ?_
  refine r_callIN (n := 0) B dX3_init_9 (ct_X0_init l g sz0 (hL.at (i := 0) rfl)) gX3_init_X0_init_n11 rfl w_X3_init_iniX0 (by decide +kernel) w_X3_init_insX0_init rfl (by decide +kernel) ⟨Nat.le_of_ble_eq_true rfl, Nat.le_of_ble_eq_true rfl⟩ rfl rfl (Nat.le_of_ble_eq_true rfl) (Nat.le_of_ble_eq_true rfl) (Nat.le_of_ble_eq_true rfl) (fun v hc hp => ?_)
  obtain ⟨hv, ac, ae, ⟨gae, gac⟩, hM⟩ := hp
  subst v
  dsimp only [Option.toList, List.cons_append, List.nil_append]
  have hcat := hL.cat (i := 0) (M := [(ae, iE g 48 (fun _ => 0)), (ac, iE g 48 (fun _ => 0))]) rfl hM (fun x hx => by
    rcases List.mem_cons.mp hx with z | z
    · subst z; exact gae
    · rw [List.mem_singleton.mp z]; exact gac)
  have fae : hI ae = none := hcat.2 (ae, iE g 48 (fun _ => 0)) List.mem_cons_self
  have fac : hI ac = none := hcat.2 (ac, iE g 48 (fun _ => 0)) (List.mem_cons_of_mem _ List.mem_cons_self)
  refine k_next (P := fun x9 => AL [(ae, iE g 48 (fun _ => 0)), (ac, iE g 48 (fun _ => 0)), (fi, oE 0 [.ref ac, .ref ae, .int (iI 0), .int (iI 0)]), (a, oE 3 [.null, .null, .null, .int (iI 0), .int (iI 0), .int (iI 0), .int (iI 0), .int (iI 0), .int (iI 0), .int (iI 0), .int (iI 0), .int (iI 0), .int (iI 0)])] hI x9) (hcat.1) (fun h2 hL => ?_)
  refine r_putF (C := RX3) (T := TX3) (N := 13) (ci := 3) B dX3_init_12 in_X3_init_X3 tyX3 tyX3_ok nmX3 rfl 0 (by decide) (by decide +kernel : Cond.fieldLink RX3 12 "DeltaNights$Client" "file" "LDeltaNights$ByteFile;" ∈ wsX3_init) rfl rfl hnm rfl (ty := .object "DeltaNights$ByteFile") (by decide +kernel) rfl rfl (hL.at (i := 3) rfl) (by show 0 < 13; decide) ?_
  refine k_next (P := fun x9 => AL [(ae, iE g 48 (fun _ => 0)), (ac, iE g 48 (fun _ => 0)), (fi, oE 0 [.ref ac, .ref ae, .int (iI 0), .int (iI 0)]), (a, oE 3 [.ref fi, .null, .null, .int (iI 0), .int (iI 0), .int (iI 0), .int (iI 0), .int (iI 0), .int (iI 0), .int (iI 0), .int (iI 0), .int (iI 0), .int (iI 0)])] hI x9) (hL.put (i := 3) rfl) (fun h3 hL => ?_)
  refine r_aload_n B dX3_init_15 rfl rfl ?_
  refine r_bipush B dX3_init_16 (by decide) ?_
  refine r_newq (C := RX5) (t0 := 6) B dX3_init_18 (by decide +kernel) B.2.2.2.2.2.1.2.2.2.1.2.2.1 rfl (by decide) (by decide) (Nat.le_of_ble_eq_true rfl) (Nat.le_of_ble_eq_true rfl) (fun lk slk nlk => ?_)
  have flk := (hL.non nlk).2
  refine k_next (P := fun x9 => AL [(lk, qE g 6 60 (fun _ => none)), (ae, iE g 48 (fun _ => 0)), (ac, iE g 48 (fun _ => 0)), (fi, oE 0 [.ref ac, .ref ae, .int (iI 0), .int (iI 0)]), (a, oE 3 [.ref fi, .null, .null, .int (iI 0), .int (iI 0), .int (iI 0), .int (iI 0), .int (iI 0), .int (iI 0), .int (iI 0), .int (iI 0), .int (iI 0), .int (iI 0)])] hI x9) (hL.new nlk) (fun h4 hL => ?_)
  refine r_putF (C := RX3) (T := TX3) (N := 13) (ci := 3) B dX3_init_21 in_X3_init_X3 tyX3 tyX3_ok nmX3 rfl 1 (by decide) (by decide +kernel : Cond.fieldLink RX3 20 "DeltaNights$Client" "links" "[LDeltaNights$Link;" ∈ wsX3_init) rfl rfl hnm rfl (ty := .array (.object "DeltaNights$Link")) (by decide +kernel) rfl rfl (hL.at (i := 4) rfl) (by show 1 < 13; decide) ?_
  refine k_next (P := fun x9 => AL [(lk, qE g 6 60 (fun _ => none)), (ae, iE g 48 (fun _ => 0)), (ac, iE g 48 (fun _ => 0)), (fi, oE 0 [.ref ac, .ref ae, .int (iI 0), .int (iI 0)]), (a, oE 3 [.ref fi, .ref lk, .null, .int (iI 0), .int (iI 0), .int (iI 0), .int (iI 0), .int (iI 0), .int (iI 0), .int (iI 0), .int (iI 0), .int (iI 0), .int (iI 0)])] hI x9) (hL.put (i := 4) rfl) (fun h5 hL => ?_)
  refine r_aload_n B dX3_init_24 rfl rfl ?_
  refine r_null B dX3_init_25 ?_
  refine r_put (C := RX3) (T := TX3) (N := 13) (ci := 3) B dX3_init_26 in_X3_init_X3 tyX3 tyX3_ok nmX3 rfl 2 (by decide) (by decide +kernel : Cond.fieldLink RX3 24 "DeltaNights$Client" "latest" "LDeltaNights$Link;" ∈ wsX3_init) rfl rfl (ty := .object "DeltaNights$Link") (by decide +kernel) rfl rfl (hL.at (i := 4) rfl) (by show 2 < 13; decide) ?_
  refine k_next (P := fun x9 => AL [(lk, qE g 6 60 (fun _ => none)), (ae, iE g 48 (fun _ => 0)), (ac, iE g 48 (fun _ => 0)), (fi, oE 0 [.ref ac, .ref ae, .int (iI 0), .int (iI 0)]), (a, oE 3 [.ref fi, .ref lk, .null, .int (iI 0), .int (iI 0), .int (iI 0), .int (iI 0), .int (iI 0), .int (iI 0), .int (iI 0), .int (iI 0), .int (iI 0), .int (iI 0)])] hI x9) (hL.put (i := 4) rfl) (fun h6 hL => ?_)
  refine r_aload_n B dX3_init_29 rfl rfl ?_
  refine r_iconst B dX3_init_30 ?_
  refine r_put (C := RX3) (T := TX3) (N := 13) (ci := 3) B dX3_init_31 in_X3_init_X3 tyX3 tyX3_ok nmX3 rfl 3 (by decide) (by decide +kernel : Cond.fieldLink RX3 28 "DeltaNights$Client" "bid" "I" ∈ wsX3_init) rfl rfl (ty := .int) (by decide +kernel) rfl rfl (hL.at (i := 4) rfl) (by show 3 < 13; decide) ?_
  refine k_next (P := fun x9 => AL [(lk, qE g 6 60 (fun _ => none)), (ae, iE g 48 (fun _ => 0)), (ac, iE g 48 (fun _ => 0)), (fi, oE 0 [.ref ac, .ref ae, .int (iI 0), .int (iI 0)]), (a, oE 3 [.ref fi, .ref lk, .null, .int (iI 0), .int (iI 0), .int (iI 0), .int (iI 0), .int (iI 0), .int (iI 0), .int (iI 0), .int (iI 0), .int (iI 0), .int (iI 0)])] hI x9) (hL.put (i := 4) rfl) (fun h7 hL => ?_)
  refine r_aload_n B dX3_init_34 rfl rfl ?_
  refine r_iconst B dX3_init_35 ?_
  refine r_put (C := RX3) (T := TX3) (N := 13) (ci := 3) B dX3_init_36 in_X3_init_X3 tyX3 tyX3_ok nmX3 rfl 4 (by decide) (by decide +kernel : Cond.fieldLink RX3 32 "DeltaNights$Client" "bound" "I" ∈ wsX3_init) rfl rfl (ty := .int) (by decide +kernel) rfl rfl (hL.at (i := 4) rfl) (by show 4 < 13; decide) ?_
  refine k_next (P := fun x9 => AL [(lk, qE g 6 60 (fun _ => none)), (ae, iE g 48 (fun _ => 0)), (ac, iE g 48 (fun _ => 0)), (fi, oE 0 [.ref ac, .ref ae, .int (iI 0), .int (iI 0)]), (a, oE 3 [.ref fi, .ref lk, .null, .int (iI 0), .int (iI 5), .int (iI 0), .int (iI 0), .int (iI 0), .int (iI 0), .int (iI 0), .int (iI 0), .int (iI 0), .int (iI 0)])] hI x9) (hL.put (i := 4) rfl) (fun h8 hL => ?_)
  refine r_aload_n B dX3_init_39 rfl rfl ?_
  refine r_iconst B dX3_init_40 ?_
  refine r_put (C := RX3) (T := TX3) (N := 13) (ci := 3) B dX3_init_41 in_X3_init_X3 tyX3 tyX3_ok nmX3 rfl 5 (by decide) (by decide +kernel : Cond.fieldLink RX3 35 "DeltaNights$Client" "cheap" "I" ∈ wsX3_init) rfl rfl (ty := .int) (by decide +kernel) rfl rfl (hL.at (i := 4) rfl) (by show 5 < 13; decide) ?_
  refine k_next (P := fun x9 => AL [(lk, qE g 6 60 (fun _ => none)), (ae, iE g 48 (fun _ => 0)), (ac, iE g 48 (fun _ => 0)), (fi, oE 0 [.ref ac, .ref ae, .int (iI 0), .int (iI 0)]), (a, oE 3 [.ref fi, .ref lk, .null, .int (iI 0), .int (iI 5), .int (iI 0), .int (iI 0), .int (iI 0), .int (iI 0), .int (iI 0), .int (iI 0), .int (iI 0), .int (iI 0)])] hI x9) (hL.put (i := 4) rfl) (fun h9 hL => ?_)
  refine r_aload_n B dX3_init_44 rfl rfl ?_
  refine r_bipush B dX3_init_45 (by decide) ?_
  refine r_put (C := RX3) (T := TX3) (N := 13) (ci := 3) B dX3_init_47 in_X3_init_X3 tyX3 tyX3_ok nmX3 rfl 6 (by decide) (by decide +kernel : Cond.fieldLink RX3 38 "DeltaNights$Client" "promised" "I" ∈ wsX3_init) rfl rfl (ty := .int) (by decide +kernel) rfl rfl (hL.at (i := 4) rfl) (by show 6 < 13; decide) ?_
  refine k_next (P := fun x9 => AL [(lk, qE g 6 60 (fun _ => none)), (ae, iE g 48 (fun _ => 0)), (ac, iE g 48 (fun _ => 0)), (fi, oE 0 [.ref ac, .ref ae, .int (iI 0), .int (iI 0)]), (a, oE 3 [.ref fi, .ref lk, .null, .int (iI 0), .int (iI 5), .int (iI 0), .int (iI 60), .int (iI 0), .int (iI 0), .int (iI 0), .int (iI 0), .int (iI 0), .int (iI 0)])] hI x9) (hL.put (i := 4) rfl) (fun h10 hL => ?_)
  refine r_aload_n B dX3_init_50 rfl rfl ?_
  refine r_iconst B dX3_init_51 ?_
  refine r_put (C := RX3) (T := TX3) (N := 13) (ci := 3) B dX3_init_52 in_X3_init_X3 tyX3 tyX3_ok nmX3 rfl 7 (by decide) (by decide +kernel : Cond.fieldLink RX3 41 "DeltaNights$Client" "coin" "I" ∈ wsX3_init) rfl rfl (ty := .int) (by decide +kernel) rfl rfl (hL.at (i := 4) rfl) (by show 7 < 13; decide) ?_
  refine k_next (P := fun x9 => AL [(lk, qE g 6 60 (fun _ => none)), (ae, iE g 48 (fun _ => 0)), (ac, iE g 48 (fun _ => 0)), (fi, oE 0 [.ref ac, .ref ae, .int (iI 0), .int (iI 0)]), (a, oE 3 [.ref fi, .ref lk, .null, .int (iI 0), .int (iI 5), .int (iI 0), .int (iI 60), .int (iI 0), .int (iI 0), .int (iI 0), .int (iI 0), .int (iI 0), .int (iI 0)])] hI x9) (hL.put (i := 4) rfl) (fun h11 hL => ?_)
  refine r_aload_n B dX3_init_55 rfl rfl ?_
  refine r_iconst B dX3_init_56 ?_
  refine r_put (C := RX3) (T := TX3) (N := 13) (ci := 3) B dX3_init_57 in_X3_init_X3 tyX3 tyX3_ok nmX3 rfl 8 (by decide) (by decide +kernel : Cond.fieldLink RX3 44 "DeltaNights$Client" "paid" "I" ∈ wsX3_init) rfl rfl (ty := .int) (by decide +kernel) rfl rfl (hL.at (i := 4) rfl) (by show 8 < 13; decide) ?_
  refine k_next (P := fun x9 => AL [(lk, qE g 6 60 (fun _ => none)), (ae, iE g 48 (fun _ => 0)), (ac, iE g 48 (fun _ => 0)), (fi, oE 0 [.ref ac, .ref ae, .int (iI 0), .int (iI 0)]), (a, oE 3 [.ref fi, .ref lk, .null, .int (iI 0), .int (iI 5), .int (iI 0), .int (iI 60), .int (iI 0), .int (iI 0), .int (iI 0), .int (iI 0), .int (iI 0), .int (iI 0)])] hI x9) (hL.put (i := 4) rfl) (fun h12 hL => ?_)
  refine r_aload_n B dX3_init_60 rfl rfl ?_
  refine r_iconst B dX3_init_61 ?_
  refine r_put (C := RX3) (T := TX3) (N := 13) (ci := 3) B dX3_init_62 in_X3_init_X3 tyX3 tyX3_ok nmX3 rfl 9 (by decide) (by decide +kernel : Cond.fieldLink RX3 47 "DeltaNights$Client" "owed" "I" ∈ wsX3_init) rfl rfl (ty := .int) (by decide +kernel) rfl rfl (hL.at (i := 4) rfl) (by show 9 < 13; decide) ?_
  refine k_next (P := fun x9 => AL [(lk, qE g 6 60 (fun _ => none)), (ae, iE g 48 (fun _ => 0)), (ac, iE g 48 (fun _ => 0)), (fi, oE 0 [.ref ac, .ref ae, .int (iI 0), .int (iI 0)]), (a, oE 3 [.ref fi, .ref lk, .null, .int (iI 0), .int (iI 5), .int (iI 0), .int (iI 60), .int (iI 0), .int (iI 0), .int (iI 0), .int (iI 0), .int (iI 0), .int (iI 0)])] hI x9) (hL.put (i := 4) rfl) (fun h13 hL => ?_)
  refine r_aload_n B dX3_init_65 rfl rfl ?_
  refine r_iconst B dX3_init_66 ?_
  refine r_put (C := RX3) (T := TX3) (N := 13) (ci := 3) B dX3_init_67 in_X3_init_X3 tyX3 tyX3_ok nmX3 rfl 10 (by decide) (by decide +kernel : Cond.fieldLink RX3 50 "DeltaNights$Client" "waits" "Z" ∈ wsX3_init) rfl rfl (ty := .boolean) (by decide +kernel) rfl rfl (hL.at (i := 4) rfl) (by show 10 < 13; decide) ?_
  refine k_next (P := fun x9 => AL [(lk, qE g 6 60 (fun _ => none)), (ae, iE g 48 (fun _ => 0)), (ac, iE g 48 (fun _ => 0)), (fi, oE 0 [.ref ac, .ref ae, .int (iI 0), .int (iI 0)]), (a, oE 3 [.ref fi, .ref lk, .null, .int (iI 0), .int (iI 5), .int (iI 0), .int (iI 60), .int (iI 0), .int (iI 0), .int (iI 0), .int (iI 0), .int (iI 0), .int (iI 0)])] hI x9) (hL.put (i := 4) rfl) (fun h14 hL => ?_)
  refine r_aload_n B dX3_init_70 rfl rfl ?_
  refine r_iconst B dX3_init_71 ?_
  refine r_put (C := RX3) (T := TX3) (N := 13) (ci := 3) B dX3_init_72 in_X3_init_X3 tyX3 tyX3_ok nmX3 rfl 11 (by decide) (by decide +kernel : Cond.fieldLink RX3 54 "DeltaNights$Client" "gets" "I" ∈ wsX3_init) rfl rfl (ty := .int) (by decide +kernel) rfl rfl (hL.at (i := 4) rfl) (by show 11 < 13; decide) ?_
  refine k_next (P := fun x9 => AL [(lk, qE g 6 60 (fun _ => none)), (ae, iE g 48 (fun _ => 0)), (ac, iE g 48 (fun _ => 0)), (fi, oE 0 [.ref ac, .ref ae, .int (iI 0), .int (iI 0)]), (a, oE 3 [.ref fi, .ref lk, .null, .int (iI 0), .int (iI 5), .int (iI 0), .int (iI 60), .int (iI 0), .int (iI 0), .int (iI 0), .int (iI 0), .int (iI 0), .int (iI 0)])] hI x9) (hL.put (i := 4) rfl) (fun h15 hL => ?_)
  refine r_aload_n B dX3_init_75 rfl rfl ?_
  refine r_iconst B dX3_init_76 ?_
  refine r_put (C := RX3) (T := TX3) (N := 13) (ci := 3) B dX3_init_77 in_X3_init_X3 tyX3 tyX3_ok nmX3 rfl 12 (by decide) (by decide +kernel : Cond.fieldLink RX3 57 "DeltaNights$Client" "price" "I" ∈ wsX3_init) rfl rfl (ty := .int) (by decide +kernel) rfl rfl (hL.at (i := 4) rfl) (by show 12 < 13; decide) ?_
  refine k_next (P := fun x9 => AL [(lk, qE g 6 60 (fun _ => none)), (ae, iE g 48 (fun _ => 0)), (ac, iE g 48 (fun _ => 0)), (fi, oE 0 [.ref ac, .ref ae, .int (iI 0), .int (iI 0)]), (a, oE 3 [.ref fi, .ref lk, .null, .int (iI 0), .int (iI 5), .int (iI 0), .int (iI 60), .int (iI 0), .int (iI 0), .int (iI 0), .int (iI 0), .int (iI 0), .int (iI 0)])] hI x9) (hL.put (i := 4) rfl) (fun h16 hL => ?_)
  exact r_vret B hr hlk dX3_init_80 (Nat.le_of_ble_eq_true rfl) (Nat.le_of_ble_eq_true rfl) ⟨rfl, fi, ac, ae, lk, ⟨flk, fae, fac, ffi⟩, hL⟩
