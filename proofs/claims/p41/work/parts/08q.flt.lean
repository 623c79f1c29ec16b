theorem f96 : (1119879168 : UInt32) = FP.i2f (iI 96) := by decide +kernel
set_option maxRecDepth 100000 in
set_option maxHeartbeats 4000000 in
theorem flt_gap : ∀ s : Fin 51, 1 ≤ s.val → ∀ b : Fin 96, Jvm.FP.Core.zval Jvm.FP.Core.b32 (Jvm.FP.Core.val32 (FP.fdiv (FP.i2f (iI (b.val : Int))) (FP.i2f (iI (s.val : Int))))) + ((2 ^ 135 : Nat) : Int) ≤ Jvm.FP.Core.zval Jvm.FP.Core.b32 (Jvm.FP.Core.val32 (FP.fdiv (FP.i2f (iI 96)) (FP.i2f (iI (s.val : Int))))) := by decide +kernel
theorem sum_gap {x y y2 : Jvm.FP.Core.Datum} (hx : ∃ s c q, x = .fin s c q) (hy : ∃ s c q, y = .fin s c q) (hy2 : ∃ s c q, y2 = .fin s c q) (fx : Jvm.FP.Core.fits Jvm.FP.Core.b32 x) (fy : Jvm.FP.Core.fits Jvm.FP.Core.b32 y) (fy2 : Jvm.FP.Core.fits Jvm.FP.Core.b32 y2) {n : Nat} (hn : n < 2 ^ 24) (h1 : Jvm.FP.Core.zval Jvm.FP.Core.b32 x + Jvm.FP.Core.zval Jvm.FP.Core.b32 y ≤ (n : Int) * ((2 ^ 135 : Nat) : Int)) (h2 : (n : Int) * ((2 ^ 135 : Nat) : Int) ≤ Jvm.FP.Core.zval Jvm.FP.Core.b32 x + Jvm.FP.Core.zval Jvm.FP.Core.b32 y2) : Jvm.FP.Core.zval Jvm.FP.Core.b32 (Jvm.FP.Core.round Jvm.FP.Core.b32 (Jvm.FP.Core.exactSum x y)) ≤ Jvm.FP.Core.zval Jvm.FP.Core.b32 (Jvm.FP.Core.round Jvm.FP.Core.b32 (Jvm.FP.Core.exactSum x y2)) := by
  obtain ⟨c2, q2, r1, r2⟩ := Jvm.FP.Core.round_exact Jvm.FP.Core.good_b32 false (c := n) (q := -14) hn (by decide +kernel) (by decide +kernel)
  have hV : Jvm.FP.Core.zval Jvm.FP.Core.b32 (Jvm.FP.Core.round Jvm.FP.Core.b32 (.fin false n (-14))) = (n : Int) * ((2 ^ 135 : Nat) : Int) := by
    rw [r1]
    show ((Jvm.FP.Core.inUnits c2 q2 Jvm.FP.Core.b32.qmin : Nat) : Int) = _
    rw [r2]
    have e : ((-14 : Int) - Jvm.FP.Core.b32.qmin).toNat = 135 := by decide +kernel
    unfold Jvm.FP.Core.inUnits
    rw [e, Int.natCast_mul]
  have fV : Jvm.FP.Core.fits Jvm.FP.Core.b32 (Jvm.FP.Core.round Jvm.FP.Core.b32 (.fin false n (-14))) := Jvm.FP.Core.round_fits Jvm.FP.Core.good_b32 _
  have nV : Jvm.FP.Core.round Jvm.FP.Core.b32 (.fin false n (-14)) ≠ .nan := by rw [r1]; exact fun z => by cases z
  exact Int.le_trans (Jvm.FP.Core.sum_le Jvm.FP.Core.good_b32 hx hy fx fy fV nV (by rw [hV]; exact h1)) (Jvm.FP.Core.sum_ge Jvm.FP.Core.good_b32 hx hy2 fx fy2 fV nV (by rw [hV]; exact h2))
theorem gap_n {a U zy zy2 : Int} (hU : 0 < U) (ha : 0 ≤ a ∧ a ≤ 900) (h0 : 0 ≤ zy) (h1 : zy + U ≤ zy2) (h2 : zy2 ≤ 96 * (16384 * U)) : ∃ n : Nat, n < 2 ^ 24 ∧ a * (16384 * U) + zy ≤ (n : Int) * U ∧ (n : Int) * U ≤ a * (16384 * U) + zy2 := by
  have hx : 0 ≤ a * (16384 * U) := Int.mul_nonneg ha.1 (by omega)
  have hx2 : a * (16384 * U) ≤ 900 * (16384 * U) := Int.mul_le_mul_of_nonneg_right ha.2 (by omega)
  have hN1 := Int.ediv_mul_le (a * (16384 * U) + zy2) (b := U) (by omega)
  have hN2 := Int.lt_ediv_add_one_mul_self (a * (16384 * U) + zy2) hU
  have hN0 : 0 ≤ (a * (16384 * U) + zy2) / U := Int.ediv_nonneg (by omega) (by omega)
  generalize (a * (16384 * U) + zy2) / U = N at *
  rw [Int.add_mul, Int.one_mul] at hN2
  have hN3 : N < 16777216 := by
    refine Int.not_le.mp (fun z => ?_)
    have := Int.mul_le_mul_of_nonneg_right z (show 0 ≤ U by omega)
    omega
  refine ⟨N.toNat, by have : N.toNat < 16777216 := by omega
                      exact this, ?_, ?_⟩
  · rw [show ((N.toNat : Nat) : Int) = N by omega]; omega
  · rw [show ((N.toNat : Nat) : Int) = N by omega]; omega
/-- no less than the mountings alone -/
theorem mn_lo {a b s : Int} (ha : 0 ≤ a ∧ a ≤ 8388608) (hb : 0 ≤ b ∧ b ≤ 8388608) (hs : 1 ≤ s ∧ s ≤ 16777216) : Jvm.FP.Core.zval Jvm.FP.Core.b32 (Jvm.FP.Core.val32 (FP.i2f (iI a))) ≤ Jvm.FP.Core.zval Jvm.FP.Core.b32 (Jvm.FP.Core.val32 (mnF a b s)) := by
  have hd := div_rng (b := b) (s := s) (by omega) hs
  have hfd : Jvm.FP.Core.FFin (FP.fdiv (FP.i2f (iI b)) (FP.i2f (iI s))) := fin_of_zv (nn_of (dv_ok (by omega))) hd.1 hd.2 (by omega)
  have h1 : Jvm.FP.Core.val32 (mnF a b s) = Jvm.FP.Core.round Jvm.FP.Core.b32 (Jvm.FP.Core.exactSum (Jvm.FP.Core.val32 (FP.i2f (iI a))) (Jvm.FP.Core.val32 (FP.fdiv (FP.i2f (iI b)) (FP.i2f (iI s))))) := Jvm.FP.Core.val32_fadd _ _
  rw [h1]
  exact Jvm.FP.Core.sum_ge Jvm.FP.Core.good_b32 (Jvm.FP.Core.i2f_fin _) hfd (fits32 _) (fits32 _) (fits32 _) (nn_i2f _) (by omega)
/-- no more than the mountings and what 96 bytes take -/
theorem mn_hi {a b s : Int} (ha : 0 ≤ a ∧ a ≤ 900) (hb : 0 ≤ b ∧ b ≤ 96) (hs : 1 ≤ s ∧ s ≤ 50) : Jvm.FP.Core.zval Jvm.FP.Core.b32 (Jvm.FP.Core.val32 (mnF a b s)) ≤ Jvm.FP.Core.zval Jvm.FP.Core.b32 (Jvm.FP.Core.val32 (mnF a 96 s)) := by
  by_cases z : b = 96
  · rw [z]; exact Int.le_refl _
  have hd := div_rng (b := b) (s := s) (by omega) (by omega)
  have hd2 := div_rng (b := 96) (s := s) (by omega) (by omega)
  have hza := zv_i2f (a := a) (by omega)
  have hfd : Jvm.FP.Core.FFin (FP.fdiv (FP.i2f (iI b)) (FP.i2f (iI s))) := fin_of_zv (nn_of (dv_ok (by omega))) hd.1 hd.2 (by omega)
  have hfd2 : Jvm.FP.Core.FFin (FP.fdiv (FP.i2f (iI 96)) (FP.i2f (iI s))) := fin_of_zv (nn_of (dv_ok (by omega))) hd2.1 hd2.2 (by omega)
  have h1 : Jvm.FP.Core.val32 (mnF a b s) = Jvm.FP.Core.round Jvm.FP.Core.b32 (Jvm.FP.Core.exactSum (Jvm.FP.Core.val32 (FP.i2f (iI a))) (Jvm.FP.Core.val32 (FP.fdiv (FP.i2f (iI b)) (FP.i2f (iI s))))) := Jvm.FP.Core.val32_fadd _ _
  have h2 : Jvm.FP.Core.val32 (mnF a 96 s) = Jvm.FP.Core.round Jvm.FP.Core.b32 (Jvm.FP.Core.exactSum (Jvm.FP.Core.val32 (FP.i2f (iI a))) (Jvm.FP.Core.val32 (FP.fdiv (FP.i2f (iI 96)) (FP.i2f (iI s))))) := Jvm.FP.Core.val32_fadd _ _
  have hgap := flt_gap ⟨s.toNat, by omega⟩ (by show 1 ≤ s.toNat; omega) ⟨b.toNat, by omega⟩
  have hgap2 : Jvm.FP.Core.zval Jvm.FP.Core.b32 (Jvm.FP.Core.val32 (FP.fdiv (FP.i2f (iI b)) (FP.i2f (iI s)))) + ((2 ^ 135 : Nat) : Int) ≤ Jvm.FP.Core.zval Jvm.FP.Core.b32 (Jvm.FP.Core.val32 (FP.fdiv (FP.i2f (iI 96)) (FP.i2f (iI s)))) := by
    have e1 : ((s.toNat : Nat) : Int) = s := by omega
    have e2 : ((b.toNat : Nat) : Int) = b := by omega
    have := hgap
    dsimp only at this
    rw [e1, e2] at this
    exact this
  have hone : (Jvm.FP.Core.one32 : Int) = 16384 * ((2 ^ 135 : Nat) : Int) := by decide +kernel
  have hU : (0 : Int) < ((2 ^ 135 : Nat) : Int) := by decide +kernel
  rw [hone] at hza hd hd2
  obtain ⟨n, n0, n1, n2⟩ := gap_n hU ha hd.1 hgap2 hd2.2
  rw [h1, h2]
  exact sum_gap (Jvm.FP.Core.i2f_fin _) hfd hfd2 (fits32 _) (fits32 _) (fits32 _) n0 (by rw [hza]; exact n1) (by rw [hza]; exact n2)
/-- the law's two looks at the minutes -/
theorem cmp_lo {a b s : Int} (ha : 0 ≤ a ∧ a ≤ 8388608) (hb : 0 ≤ b ∧ b ≤ 8388608) (hs : 1 ≤ s ∧ s ≤ 16777216) : ¬ i32z (Op.cmpValue (FP.fcmp (mnF a b s) (FP.i2f (iI a))) .l) < 0 := by
  have h1 := mn_lo ha hb hs
  have h2 := Jvm.FP.Core.fcmp_ge.mpr ⟨nn_of (mn_ok (a := a) (b := b) (s := s) (by omega)), nn_i2f (iI a), h1⟩
  rcases h2 with z | z
  · rw [show FP.fcmp (mnF a b s) (FP.i2f (iI a)) = some .gt from z]; decide
  · rw [show FP.fcmp (mnF a b s) (FP.i2f (iI a)) = some .eq from z]; decide
theorem cmp_hi {a b s : Int} (ha : 0 ≤ a ∧ a ≤ 900) (hb : 0 ≤ b ∧ b ≤ 96) (hs : 1 ≤ s ∧ s ≤ 50) : ¬ 0 < i32z (Op.cmpValue (FP.fcmp (mnF a b s) (mnF a 96 s)) .g) := by
  have h1 := mn_hi ha hb hs
  have h2 := Jvm.FP.Core.fcmp_le.mpr ⟨nn_of (mn_ok (a := a) (b := b) (s := s) (by omega)), nn_of (mn_ok (a := a) (b := 96) (s := s) (by omega)), h1⟩
  rcases h2 with z | z
  · rw [show FP.fcmp (mnF a b s) (mnF a 96 s) = some .lt from z]; decide
  · rw [show FP.fcmp (mnF a b s) (mnF a 96 s) = some .eq from z]; decide
/-- what a drill pays -/
theorem drill_pay {a b s pr co : Int} (ha : 0 ≤ a ∧ a ≤ 900) (hb : 0 ≤ b ∧ b ≤ 96) (hs : 1 ≤ s ∧ s ≤ 50) (hp : 0 ≤ pr ∧ pr ≤ 600) (hc : 0 ≤ co ∧ co ≤ 100) : ∃ u : Int, (0 ≤ u ∧ u ≤ 10001) ∧ amtF (FP.fsub (mnF a b s) (FP.i2f (iI pr))) co = u * co := by
  have hr := mn_rng (a := a) (b := b) (s := s) (by omega) (by omega) (by omega)
  have h9 : (0 : Int) ≤ (Jvm.FP.Core.one32 : Int) := Int.natCast_nonneg _
  have hu : Jvm.FP.Core.zval Jvm.FP.Core.b32 (Jvm.FP.Core.val32 (mnF a b s)) ≤ 10000 * (Jvm.FP.Core.one32 : Int) := Int.le_trans hr.2.2 (Int.mul_le_mul_of_nonneg_right (by omega) h9)
  have hd := drill_eq (co := co) hr.1 hr.2.1 hu hp
  obtain ⟨i, hi, -, -, hup⟩ := upC_cut (nn_of (mn_ok (a := a) (b := b) (s := s) (by omega))) hr.2.1 hu
  have hC : 0 ≤ upC (mnF a b s) ∧ upC (mnF a b s) ≤ 10001 := by
    rcases hup with y | y <;> have := y.2 <;> omega
  refine ⟨mxZ (i32z (iI (upC (mnF a b s) - pr))) 0, ?_, hd.symm⟩
  have e : i32z (iI (upC (mnF a b s) - pr)) = upC (mnF a b s) - pr := iI_toInt (by omega)
  rw [e]
  unfold mxZ
  split <;> omega
