abbrev rmX7_endsBehind : Room := { frames := 2, cells := 0, slots := 0, locals := 45 }
theorem in_X7_endsBehind_X0 : ∀ w ∈ wsX00, w ∈ wsX7_endsBehind := by decide +kernel
theorem w_X7_endsBehind_f30 : Cond.fieldLink RX7 30 "DeltaNights$ByteFile" "size" "I" ∈ wsX7_endsBehind := by decide +kernel
theorem in_X7_endsBehind_X7 : ∀ w ∈ wsX70, w ∈ wsX7_endsBehind := by decide +kernel
theorem w_X7_endsBehind_f16 : Cond.fieldLink RX7 16 "DeltaNights$Marks" "most" "I" ∈ wsX7_endsBehind := by decide +kernel
theorem w_X7_endsBehind_f7 : Cond.fieldLink RX7 7 "DeltaNights$Marks" "bits" "I" ∈ wsX7_endsBehind := by decide +kernel
theorem w_X7_endsBehind_f13 : Cond.fieldLink RX7 13 "DeltaNights$Marks" "least" "I" ∈ wsX7_endsBehind := by decide +kernel
set_option maxHeartbeats 4000000 in
set_option maxRecDepth 100000 in
theorem ct_X7_endsBehind (l : Launch) (g : GG) (sz0 : Nat) {h h0 : AH} {f ac ae : Nat} {G Eg : Int → Int} {sz pt : Int} (hF : FL g f ac ae G Eg sz pt h0 h) {mk : Nat} {bt ls ms : Int} (x w : Int) (bg : Int) (hx : 0 ≤ x ∧ x < sz) (hw : w = x + 1 - bg) (hw1 : 0 < w ∧ w ≤ ms ∧ w ≤ 48) (hG : ∀ j : Int, 0 ≤ G j ∧ G j ≤ 255) (hm : h mk = some (oE 7 [.int (iI bt), .int (iI ls), .int (iI ms)])) (hms : ms < 100 ∧ 0 ≤ ls ∧ ls < 100)  : CT l yX7_endsBehind wsX7_endsBehind rmX7_endsBehind g sz0 [.ref mk, .ref f, .int (iI (x)), .int (iI (w))] h (fun v h' => v = some (.int (iI (bI (cutC G sz bt ls ms x bg)))) ∧ h' = h) := by
  refine CT.of (by decide +kernel) rfl [some (.ref mk), some (.ref f), some (.int (iI (x))), some (.int (iI (w))), none] rfl (Nat.le_of_ble_eq_true rfl) ?_
  intro p e s m args below meth c B hr hlk hnm
  have hs9 := hF.s
  refine r_iload_n B dX7_endsBehind_0 rfl ?_
  refine r_iconst B dX7_endsBehind_1 ?_
  refine r_iadd B dX7_endsBehind_2 ?_
  refine r_aload_n B dX7_endsBehind_3 rfl rfl ?_
  refine r_get (C := RX0) (T := TX0) (N := 4) (ci := 0) B dX7_endsBehind_4 in_X7_endsBehind_X0 rfl 2 (by decide) w_X7_endsBehind_f30 rfl hF.1 rfl ?_
  refine r_icmp_ge B dX7_endsBehind_7 (tgt := 18) (by decide) (by omega) (by omega) (fun c7 => ?_) (fun c7 => ?_)
  · refine r_iconst B dX7_endsBehind_18 ?_
    exact r_zret B hr hlk dX7_endsBehind_19 (Nat.le_of_ble_eq_true rfl) (Nat.le_of_ble_eq_true rfl) (by first | exact nar_0 | exact nar_1 | exact nar_bI _) ⟨by rw [bI_t (show cutC G sz bt ls ms x bg from Or.inl (by omega))], rfl⟩
  · refine r_iload_n B dX7_endsBehind_10 rfl ?_
    refine r_aload_n B dX7_endsBehind_11 rfl rfl ?_
    refine r_get (C := RX7) (T := TX7) (N := 3) (ci := 7) B dX7_endsBehind_12 in_X7_endsBehind_X7 rfl 2 (by decide) w_X7_endsBehind_f16 rfl hm rfl ?_
    refine r_icmp_lt B dX7_endsBehind_15 (tgt := 20) (by decide) (by omega) (by omega) (fun c15 => ?_) (fun c15 => ?_)
    · refine r_iconst B dX7_endsBehind_20 ?_
      refine r_aload_n B dX7_endsBehind_21 rfl rfl ?_
      refine r_get (C := RX7) (T := TX7) (N := 3) (ci := 7) B dX7_endsBehind_22 in_X7_endsBehind_X7 rfl 0 (by decide) w_X7_endsBehind_f7 rfl hm rfl ?_
      refine r_ishl B dX7_endsBehind_25 ?_
      refine r_iconst B dX7_endsBehind_26 ?_
      refine r_isubr B dX7_endsBehind_27 ?_
      refine r_istore B dX7_endsBehind_28 (by decide) (lcat_v rfl rfl) ?_
      refine r_iload_n B dX7_endsBehind_30 rfl ?_
      refine r_aload_n B dX7_endsBehind_31 rfl rfl ?_
      refine r_get (C := RX7) (T := TX7) (N := 3) (ci := 7) B dX7_endsBehind_32 in_X7_endsBehind_X7 rfl 1 (by decide) w_X7_endsBehind_f13 rfl hm rfl ?_
      refine r_icmp_lt B dX7_endsBehind_35 (tgt := 54) (by decide) (by omega) (by omega) (fun c35 => ?_) (fun c35 => ?_)
      · refine r_iconst B dX7_endsBehind_54 ?_
        exact r_zret B hr hlk dX7_endsBehind_55 (Nat.le_of_ble_eq_true rfl) (Nat.le_of_ble_eq_true rfl) (by first | exact nar_0 | exact nar_1 | exact nar_bI _) ⟨by rw [bI_f (fun z : cutC G sz bt ls ms x bg => by unfold cutC at z; rcases z with z | z | z <;> first | omega | exact c47 z.2)], rfl⟩
      · refine r_aload_n B dX7_endsBehind_38 rfl rfl ?_
        refine r_aload_n B dX7_endsBehind_39 rfl rfl ?_
        refine r_iload_n B dX7_endsBehind_40 rfl ?_
        refine r_callV (n := 2) B dX7_endsBehind_41 (ct_X7_markAt l g sz0 hF (bt := 0) (ls := 0) (ms := 0) _ (by omega) hG) gX7_endsBehind_X7_markAt rfl (by decide +kernel) ⟨Nat.le_of_ble_eq_true rfl, Nat.le_of_ble_eq_true rfl⟩ hm rfl rfl rfl (Nat.le_of_ble_eq_true rfl) (Nat.le_of_ble_eq_true rfl) (Nat.le_of_ble_eq_true rfl) (fun v h' hp => ?_)
        obtain ⟨hv, hh⟩ := hp
        subst v
        subst h'
        dsimp only [Option.toList, List.cons_append, List.nil_append]
        refine r_iload B dX7_endsBehind_44 rfl ?_
        refine r_iand B dX7_endsBehind_46 ?_
        refine r_ifr_ne B dX7_endsBehind_47 (tgt := 54) (by decide) (fun c47 => ?_) (fun c47 => ?_)
        · refine r_iconst B dX7_endsBehind_54 ?_
          exact r_zret B hr hlk dX7_endsBehind_55 (Nat.le_of_ble_eq_true rfl) (Nat.le_of_ble_eq_true rfl) (by first | exact nar_0 | exact nar_1 | exact nar_bI _) ⟨by rw [bI_f (fun z : cutC G sz bt ls ms x bg => by unfold cutC at z; rcases z with z | z | z <;> first | omega | exact c47 z.2)], rfl⟩
        · refine r_iconst B dX7_endsBehind_50 ?_
          refine r_goto B dX7_endsBehind_51 (tgt := 55) (by decide) ?_
          exact r_zret B hr hlk dX7_endsBehind_55 (Nat.le_of_ble_eq_true rfl) (Nat.le_of_ble_eq_true rfl) (by first | exact nar_0 | exact nar_1 | exact nar_bI _) ⟨by rw [bI_t (show cutC G sz bt ls ms x bg from Or.inr (Or.inr ⟨by omega, c47⟩))], rfl⟩
    · refine r_iconst B dX7_endsBehind_18 ?_
      exact r_zret B hr hlk dX7_endsBehind_19 (Nat.le_of_ble_eq_true rfl) (Nat.le_of_ble_eq_true rfl) (by first | exact nar_0 | exact nar_1 | exact nar_bI _) ⟨by rw [bI_t (show cutC G sz bt ls ms x bg from Or.inr (Or.inl (by omega)))], rfl⟩
