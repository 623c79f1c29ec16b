theorem law_m1 : (∀ E ∈ xcs, (Cond.castable E E) ∈ lw_tbl) ∧ (∀ E ∈ xcs, ∀ E' ∈ xcs2, E ≠ E' → (Cond.not (.castable E E')) ∈ flatC (Jvm.Cond.and given_1 narrow_1)) ∧ (∀ y ∈ xdecl, Cond.declares y ∈ lw_tbl) := by decide +kernel
theorem law_m2 : (∀ q ∈ strs, Cond.stringRef RX9 q.1 q.2 ∈ lw_tbl) ∧ (∀ q ∈ nests, Cond.methodLinkNest q.1 q.2.1 q.2.2 "DeltaNights" ∈ lw_tbl) := by decide +kernel
theorem law_m3 : (∀ C ∈ [RX1, RX3, RX5], Cond.arrayOver (.object C) ∈ lw_tbl) ∧ (∀ C ∈ [FieldType.int, .long], Cond.arrayClass C ∈ lw_tbl) := by decide +kernel
theorem law_m4 : (∀ q ∈ vwCl, Cond.instantiable q.1 q.2.2 ∈ lw_tbl) := by decide +kernel
theorem law_m5 : Cond.laysStatic Bundle.tN "UNASSIGNED_STACK" Bundle.steD ∈ lw_tbl ∧ Cond.laysStatic Bundle.tN "SUPPRESSED_SENTINEL" Bundle.listD ∈ lw_tbl ∧ Cond.initialized Bundle.tN ∈ lw_tbl := by decide +kernel
theorem law_m6 : (Cond.isRef (.static Bundle.tN "UNASSIGNED_STACK" Bundle.steD)) ∈ flatC (Jvm.Cond.and given_1 narrow_1) ∧ (Cond.isRef (.static Bundle.tN "SUPPRESSED_SENTINEL" Bundle.listD)) ∈ flatC (Jvm.Cond.and given_1 narrow_1) := by decide +kernel
theorem strs_in : ∀ p ∈ strs, ∀ q ∈ strs, p.1 = q.1 → p.2 = q.2 := by decide +kernel
theorem arr_prim {args : Array Value} {s : State} {ty : FieldType} (h : (Cond.arrayClass ty).before args s = true) (hr : ∀ c : ClassId, va_RA s c ty = (s.vm.findClass ("[" ++ ty.toString) = some c)) : ∃ c : ClassId, ArrOfT s c ty ∧ va_RA s c ty := by
  obtain ⟨c, k, comp, h1, h2, h3⟩ := Cond.arrayClass_spec h
  exact ⟨c, fun n z => ⟨fun k9 h9 => (by cases h9), k, h2, comp, h3⟩, by rw [hr]; exact h1⟩
theorem arr_obj {args : Array Value} {s : State} {C : String} (h : (Cond.arrayOver (.object C)).before args s = true) : ∃ c : ClassId, ArrOfT s c (.object C) ∧ va_RA s c (.object C) := by
  obtain ⟨comp, c, k, h1, h2, h3, h4, h5⟩ := Cond.arrayOver_spec h
  exact ⟨c, fun n z => ⟨fun k9 h9 => (by cases h9), k, h3, comp, h4⟩, k, comp, h3, h4, h1, h5⟩
/-- the classes, the arrays' classes and the strings, as the tables have them -/
theorem law_g {args : Array Value} {s : State} (hts : ∀ w ∈ lw_tbl, w.before args s = true) : ∃ g : GG, va_K g.1 vwCl (tysA g) s ∧ CX2 g s := by
  have hin : ∀ q ∈ vwCl, (Cond.instantiable q.1 q.2.2).before args s = true := fun q hq => hts _ (law_m4 q hq)
  obtain ⟨c0, i0, hk0⟩ := u_known (C := RX0) (T := TX0) (N := 4) (n := 4) hts inX0 (hin (RX0, TX0, 4) (by unfold vwCl; simp))
  obtain ⟨c1, i1, hk1⟩ := u_known (C := RX1) (T := TX1) (N := 2) (n := 2) hts inX1 (hin (RX1, TX1, 2) (by unfold vwCl; simp))
  obtain ⟨c2, i2, hk2⟩ := u_known (C := RX2) (T := TX2) (N := 2) (n := 2) hts inX2 (hin (RX2, TX2, 2) (by unfold vwCl; simp))
  obtain ⟨c3, i3, hk3⟩ := u_known (C := RX3) (T := TX3) (N := 13) (n := 13) hts inX3 (hin (RX3, TX3, 13) (by unfold vwCl; simp))
  obtain ⟨c4, i4, hk4⟩ := u_known (C := RX4) (T := TX4) (N := 2) (n := 2) hts inX4 (hin (RX4, TX4, 2) (by unfold vwCl; simp))
  obtain ⟨c5, i5, hk5⟩ := u_known (C := RX5) (T := TX5) (N := 3) (n := 3) hts inX5 (hin (RX5, TX5, 3) (by unfold vwCl; simp))
  obtain ⟨c6, i6, hk6⟩ := u_known (C := RX6) (T := TX6) (N := 3) (n := 3) hts inX6 (hin (RX6, TX6, 3) (by unfold vwCl; simp))
  obtain ⟨c7, i7, hk7⟩ := u_known (C := RX7) (T := TX7) (N := 3) (n := 3) hts inX7 (hin (RX7, TX7, 3) (by unfold vwCl; simp))
  obtain ⟨c8, i8, hk8⟩ := u_known (C := RX8) (T := TX8) (N := 2) (n := 2) hts inX8 (hin (RX8, TX8, 2) (by unfold vwCl; simp))
  obtain ⟨c9, i9, hk9⟩ := u_known (C := RX9) (T := TX9) (N := 6) (n := 6) hts inX9 (hin (RX9, TX9, 6) (by unfold vwCl; simp))
  obtain ⟨a0, ha0⟩ := arr_prim (hts _ (law_m3.2 .int (by simp))) (fun _ => rfl)
  obtain ⟨a2, ha2⟩ := arr_prim (hts _ (law_m3.2 .long (by simp))) (fun _ => rfl)
  obtain ⟨a4, ha4⟩ := arr_obj (hts _ (law_m3.1 RX1 (by simp)))
  obtain ⟨a5, ha5⟩ := arr_obj (hts _ (law_m3.1 RX3 (by simp)))
  obtain ⟨a6, ha6⟩ := arr_obj (hts _ (law_m3.1 RX5 (by simp)))
  have hstr : ∀ q ∈ strs, ∃ a : Nat, vk_R RX9 q.1 q.2 a s := fun q hq => by
    have h1 := hts _ (law_m2.1 q hq)
    obtain ⟨k, cf, j, a, -, -, -, -, -, hev⟩ := Cond.stringRef_spec hk9.2.1 h1
    exact ⟨a, h1, hev⟩
  classical
  obtain ⟨sK, hsK⟩ : ∃ sK : Nat → Nat, ∀ q ∈ strs, vk_R RX9 q.1 q.2 (sK q.1) s := by
    refine ⟨fun k => if h : ∃ a : Nat, ∃ tx : String, (k, tx) ∈ strs ∧ vk_R RX9 k tx a s then h.choose else 0, fun q hq => ?_⟩
    have hx : ∃ a : Nat, ∃ tx : String, (q.1, tx) ∈ strs ∧ vk_R RX9 q.1 tx a s := by
      obtain ⟨a, ha⟩ := hstr q hq
      exact ⟨a, q.2, hq, ha⟩
    obtain ⟨tx, h1, h2⟩ := hx.choose_spec
    have e9 : tx = q.2 := strs_in (q.1, tx) h1 q hq rfl
    rw [e9] at h2
    show vk_R RX9 q.1 q.2 (if h : ∃ a : Nat, ∃ tx : String, (q.1, tx) ∈ strs ∧ vk_R RX9 q.1 tx a s then h.choose else 0) s
    rw [dif_pos hx]
    exact h2
  refine ⟨((fun k => [c0, c1, c2, c3, c4, c5, c6, c7, c8, c9].getD k c0, fun k => [i0, i1, i2, i3, i4, i5, i6, i7, i8, i9].getD k i0), fun t => [a0, a0, a2, a2, a4, a5, a6].getD t a0, sK), ⟨fun k q hq => ?_, fun k q hq => ?_⟩, hsK, fun q hq => va_Nw.of rfl (hts _ (law_m2.2 q hq))⟩
  · match k, hq with
    | 0, hq => cases hq; exact hk0
    | 1, hq => cases hq; exact hk1
    | 2, hq => cases hq; exact hk2
    | 3, hq => cases hq; exact hk3
    | 4, hq => cases hq; exact hk4
    | 5, hq => cases hq; exact hk5
    | 6, hq => cases hq; exact hk6
    | 7, hq => cases hq; exact hk7
    | 8, hq => cases hq; exact hk8
    | 9, hq => cases hq; exact hk9
    | k + 10, hq => simp [vwCl] at hq
  · match k, hq with
    | 0, hq => cases hq; exact ha0
    | 1, hq => cases hq; exact ha0
    | 2, hq => cases hq; exact ha2
    | 3, hq => cases hq; exact ha2
    | 4, hq => cases hq; exact ha4
    | 5, hq => cases hq; exact ha5
    | 6, hq => cases hq; exact ha6
    | k + 7, hq => simp [tysA] at hq
theorem law_CX {b : Nat} {s : State} {g : GG} (hts : ∀ w ∈ lw_tbl, w.before #[Value.ref b] s = true) (hgv : (Jvm.Cond.and given_1 narrow_1).before #[Value.ref b] s = true) (hK : va_K g.1 vwCl (tysA g) s) (h2 : CX2 g s) : CX g s.heap.size s := by
  have hf := flat_of_before _ hgv
  refine ⟨hK, vx_Zqof (hts _ law_m5.1) (hts _ law_m5.2.2) (hf _ law_m6.1) (fun a ha => Nat.not_le.mpr ha), vx_Zqof (hts _ law_m5.2.1) (hts _ law_m5.2.2) (hf _ law_m6.2) (fun a ha => Nat.not_le.mpr ha), ⟨va_AO.of (hts _ (law_m3.1 RX1 (by simp))), va_AO.of (hts _ (law_m3.1 RX3 (by simp))), va_AO.of (hts _ (law_m3.1 RX5 (by simp))), fun E hE => va_Nw.of rfl (hts _ (law_m1.1 E hE)), fun E hE E' hE' hne => va_Nc.of (hf _ (law_m1.2.1 E hE E' hE' hne)), fun y hy => va_Nw.of rfl (hts _ (law_m1.2.2 y hy))⟩, h2⟩
