abbrev rmX9_freshlyCut : Room := { frames := 7, cells := 1, slots := 6, locals := 122 }
theorem in_X9_freshlyCut_X3 : ∀ w ∈ wsX30, w ∈ wsX9_freshlyCut := by decide +kernel
theorem w_X9_freshlyCut_f52 : Cond.fieldLink RX9 52 "DeltaNights$Client" "file" "LDeltaNights$ByteFile;" ∈ wsX9_freshlyCut := by decide +kernel
theorem in_X9_freshlyCut_X9 : ∀ w ∈ wsX90, w ∈ wsX9_freshlyCut := by decide +kernel
theorem w_X9_freshlyCut_f18 : Cond.fieldLink RX9 18 "DeltaNights" "marks" "LDeltaNights$Marks;" ∈ wsX9_freshlyCut := by decide +kernel
set_option maxHeartbeats 4000000 in
set_option maxRecDepth 100000 in
theorem ct_X9_freshlyCut (l : Launch) (g : GG) (sz0 : Nat) {A : Nat → Nat} (hA : AOK A) {hZ : AH} {ng : Int} {bt : Int} {ls : Int} {ms : Int} {rm : Int} {rs : Int} {mo : Int} {sp : Int} {kp : Int} {hl : Option Nat} {tq : Int → Option Nat} {G : Int → Int → Int} {Eg : Int → Int → Int} {sz : Int → Int} {pt : Int → Int} {bd : Int → Int} {bo : Int → Int} {cp : Int → Int} {pr : Int → Int} {co : Int → Int} {pa : Int → Int} {ow : Int → Int} {wt : Int → Int} {gt : Int → Int} {pc : Int → Int} {LN : Int → Int → Option Nat} {lt : Int → Option Nat} (hC : CW g A hZ ng bt ls ms rm rs mo sp kp hl tq G Eg sz pt bd bo cp pr co pa ow wt gt pc LN lt hZ) (x : Int) (hl0 : l.stackTraces = false) (qx : -2147483648 ≤ x ∧ x < 2147483648) (hG255 : ∀ x : Int, 0 ≤ x → x ≤ 3 → ∀ j : Int, 0 ≤ G x j ∧ G x j ≤ 255) (hms : 1 ≤ ms ∧ ms ≤ 24 ∧ 0 ≤ ls ∧ ls < 100)  : CTX l yX9_freshlyCut wsX9_freshlyCut rmX9_freshlyCut g sz0 [.ref (A 0), .int (iI x)] hZ (fun v h' => v = some (.ref (A (9 + 5 * x.toNat))) ∧ (0 ≤ x ∧ x ≤ 3) ∧ CW g A hZ ng bt ls ms rm rs mo sp kp hl tq G (upG Eg x ((ctE Eg G sz bt ls ms) x)) sz (upZ pt x ((ctN G sz bt ls ms) x)) bd bo cp pr co pa ow wt gt pc LN lt h') (fun E h' => E = "java/lang/IllegalArgumentException" ∧ h' = hZ ∧ ¬ (0 ≤ x ∧ x ≤ 3)) := by
  refine CTX.of (by decide +kernel) rfl [some (.ref (A 0)), some (.int (iI (x))), none] rfl (Nat.le_of_ble_eq_true rfl) ?_
  intro p e s m args below meth c B hr hlk hout
  obtain ⟨fc, hQC, hfc⟩ := hC.qc
  refine r_aload_n B dX9_freshlyCut_0 rfl rfl ?_
  refine r_iload_n B dX9_freshlyCut_1 rfl ?_
  refine r_callVX (n := 1) B dX9_freshlyCut_2 (ct_X9_clientOf l g sz0 hC.ro hQC hfc _ hl0 (by omega)) gX9_freshlyCut_X9_clientOf rfl (by decide +kernel) ⟨Nat.le_of_ble_eq_true rfl, Nat.le_of_ble_eq_true rfl⟩ hC.ro rfl rfl rfl (Nat.le_of_ble_eq_true rfl) (Nat.le_of_ble_eq_true rfl) (Nat.le_of_ble_eq_true rfl) (fun E h' hp => wx_out hout hlk ?_ (Nat.le_of_ble_eq_true rfl) (Nat.le_of_ble_eq_true rfl)) (fun v h' hp => ?_)
  · exact hp
  obtain ⟨hv, hh, hb1⟩ := hp
  subst v
  subst h'
  dsimp only [Option.toList, List.cons_append, List.nil_append]
  refine r_get (C := RX3) (T := TX3) (N := 13) (ci := 3) B dX9_freshlyCut_5 in_X9_freshlyCut_X3 rfl 0 (by decide) w_X9_freshlyCut_f52 rfl (hC.cl hb1.1 hb1.2) rfl ?_
  refine r_astore_n B dX9_freshlyCut_8 rfl rfl (by decide) (lcat_v rfl rfl) ?_
  refine r_aload_n B dX9_freshlyCut_9 rfl rfl ?_
  refine r_get (C := RX9) (T := TX9) (N := 6) (ci := 9) B dX9_freshlyCut_10 in_X9_freshlyCut_X9 rfl 1 (by decide) w_X9_freshlyCut_f18 rfl hC.ro rfl ?_
  refine r_aload_n B dX9_freshlyCut_13 rfl rfl ?_
  refine r_callV (n := 1) B dX9_freshlyCut_14 (ct_X7_cutUp l g sz0 (hC.fl hb1.1 hb1.2) (hG255 x hb1.1 hb1.2) hC.mk hms) gX9_freshlyCut_X7_cutUp rfl (by decide +kernel) ⟨Nat.le_of_ble_eq_true rfl, Nat.le_of_ble_eq_true rfl⟩ hC.mk rfl rfl rfl (Nat.le_of_ble_eq_true rfl) (Nat.le_of_ble_eq_true rfl) (Nat.le_of_ble_eq_true rfl) (fun v h1 hp => ?_)
  obtain ⟨hv, hF1⟩ := hp
  subst v
  dsimp only [Option.toList, List.cons_append, List.nil_append]
  have hC1 := hC.file hA hb1.1 hb1.2 hF1
  rw [upG_self, upZ_self] at hC1
  refine r_aload_n B dX9_freshlyCut_17 rfl rfl ?_
  exact x_ret (r_aret B hr hlk dX9_freshlyCut_18 rfl (Nat.le_of_ble_eq_true rfl) (Nat.le_of_ble_eq_true rfl) ⟨rfl, hb1, hC1⟩)
