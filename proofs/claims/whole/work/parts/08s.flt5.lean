section FLT5
theorem v_60 : Jvm.FP.Core.val32 1114636288 = .fin false 15728640 (-18) := by decide +kernel
theorem z_60 : Jvm.FP.Core.zval Jvm.FP.Core.b32 (Jvm.FP.Core.val32 1114636288) = 60 * (Jvm.FP.Core.one32 : Int) := by decide +kernel
/-- a quotient is not too small -/
theorem quot_ge {c d j : Nat} {q r : Int} (hx : Jvm.FP.Core.fits Jvm.FP.Core.b32 (.fin false c q)) (hy : Jvm.FP.Core.fits Jvm.FP.Core.b32 (.fin false d r)) (h1 : (Jvm.FP.Core.one32 : Int) ≤ Jvm.FP.Core.zval Jvm.FP.Core.b32 (.fin false d r)) (hj : j ≤ 20) (h2 : Jvm.FP.Core.zval Jvm.FP.Core.b32 (.fin false d r) ≤ Jvm.FP.Core.zval Jvm.FP.Core.b32 (.fin false c q) * ((2 ^ j : Nat) : Int)) : ((2 ^ (149 - j) : Nat) : Int) ≤ Jvm.FP.Core.zval Jvm.FP.Core.b32 (Jvm.FP.Core.quotient Jvm.FP.Core.b32 (.fin false c q) (.fin false d r)) := by
  have hzy : Jvm.FP.Core.zval Jvm.FP.Core.b32 (.fin false d r) = ((d * 2 ^ (r - Jvm.FP.Core.b32.qmin).toNat : Nat) : Int) := rfl
  have hzx : Jvm.FP.Core.zval Jvm.FP.Core.b32 (.fin false c q) = ((c * 2 ^ (q - Jvm.FP.Core.b32.qmin).toNat : Nat) : Int) := rfl
  have hz : Jvm.FP.Core.one32 ≤ d * 2 ^ (r - Jvm.FP.Core.b32.qmin).toNat := by
    rw [hzy] at h1
    exact Int.ofNat_le.mp h1
  have hd : d ≠ 0 := fun z => by
    subst z
    have := Jvm.FP.Core.one32_pos
    omega
  have hq : Jvm.FP.Core.quotient Jvm.FP.Core.b32 (.fin false c q) (.fin false d r) = Jvm.FP.Core.roundRatio Jvm.FP.Core.b32 false c d (q - r) := by
    show (if d = 0 then _ else _) = _
    rw [if_neg hd]
    rfl
  have hk : d * 2 ^ (r - Jvm.FP.Core.b32.qmin).toNat ≤ c * 2 ^ (q - Jvm.FP.Core.b32.qmin).toNat * 2 ^ j := by
    rw [hzy, hzx, ← Int.natCast_mul] at h2
    exact Int.ofNat_le.mp h2
  have hm : Jvm.FP.Core.b32.qmin = -149 := by decide +kernel
  have hr := hy.2.1
  have hqq := hx.2.1
  rw [hm] at hr hqq
  have hVm : Jvm.FP.Core.zmag Jvm.FP.Core.b32 (.fin false 8388608 (-(j : Int) - 23)) = 2 ^ (149 - j) := by
    show 8388608 * 2 ^ (-(j : Int) - 23 - Jvm.FP.Core.b32.qmin).toNat = _
    rw [hm, show (-(j : Int) - 23 - -149).toNat = 126 - j by omega, show 149 - j = 23 + (126 - j) by omega, Nat.pow_add]
  have hge := Jvm.FP.Core.zmag_roundRatio_ge Jvm.FP.Core.good_b32 (s := false) (A := c) (B := d) (e := q - r) (e0 := Jvm.FP.Core.b32.qmin - (r.toNat : Int)) (V := .fin false 8388608 (-(j : Int) - 23)) (Nat.pos_of_ne_zero hd) (fitsN ⟨by decide, by decide⟩ (by omega)) (by omega) (by omega) (by
    rw [hVm]
    show 2 ^ (149 - j) * 2 ^ (Jvm.FP.Core.b32.qmin - (Jvm.FP.Core.b32.qmin - (r.toNat : Int))).toNat * d ≤ c * 2 ^ (q - r - (Jvm.FP.Core.b32.qmin - (r.toNat : Int))).toNat
    rw [show (q - r - (Jvm.FP.Core.b32.qmin - (r.toNat : Int))).toNat = (q - Jvm.FP.Core.b32.qmin).toNat + (-r).toNat by omega, show (Jvm.FP.Core.b32.qmin - (Jvm.FP.Core.b32.qmin - (r.toNat : Int))).toNat = r.toNat by omega]
    refine Nat.le_of_mul_le_mul_right ?_ (Nat.two_pow_pos j)
    have e1 : 2 ^ (149 - j) * 2 ^ r.toNat * d * 2 ^ j = d * 2 ^ (r - Jvm.FP.Core.b32.qmin).toNat * 2 ^ (-r).toNat := by
      have y1 : 2 ^ (149 - j) * 2 ^ r.toNat * 2 ^ j = 2 ^ (r - Jvm.FP.Core.b32.qmin).toNat * 2 ^ (-r).toNat := by
        rw [← Nat.pow_add, ← Nat.pow_add, ← Nat.pow_add]
        congr 1
        omega
      rw [Nat.mul_right_comm, y1, Nat.mul_assoc d, Nat.mul_comm]
    have e2 : c * 2 ^ ((q - Jvm.FP.Core.b32.qmin).toNat + (-r).toNat) * 2 ^ j = c * 2 ^ (q - Jvm.FP.Core.b32.qmin).toNat * 2 ^ j * 2 ^ (-r).toNat := by
      rw [Nat.pow_add, ← Nat.mul_assoc, Nat.mul_right_comm]
    rw [e1, e2]
    exact Nat.mul_le_mul_right _ hk)
  have hsg : Jvm.FP.Core.sgn (Jvm.FP.Core.roundRatio Jvm.FP.Core.b32 false c d (q - r)) = false := Jvm.FP.Core.sgn_roundRatio Jvm.FP.Core.b32 false c d (q - r)
  rw [hq]
  have hv : Jvm.FP.Core.zval Jvm.FP.Core.b32 (Jvm.FP.Core.roundRatio Jvm.FP.Core.b32 false c d (q - r)) = (Jvm.FP.Core.zmag Jvm.FP.Core.b32 (Jvm.FP.Core.roundRatio Jvm.FP.Core.b32 false c d (q - r)) : Int) := by
    show Jvm.FP.Core.signed (Jvm.FP.Core.sgn _) _ = _
    rw [hsg]
    rfl
  rw [hv, ← hVm]
  exact Int.ofNat_le.mpr hge
theorem quot_sgn {c d : Nat} {q r : Int} (hd : d ≠ 0) : Jvm.FP.Core.sgn (Jvm.FP.Core.quotient Jvm.FP.Core.b32 (.fin false c q) (.fin false d r)) = false := by
  have hq : Jvm.FP.Core.quotient Jvm.FP.Core.b32 (.fin false c q) (.fin false d r) = Jvm.FP.Core.roundRatio Jvm.FP.Core.b32 false c d (q - r) := by
    show (if d = 0 then _ else _) = _
    rw [if_neg hd]
    rfl
  rw [hq]
  exact Jvm.FP.Core.sgn_roundRatio Jvm.FP.Core.b32 false c d (q - r)
theorem d_ne {d : Nat} {r : Int} (h1 : (Jvm.FP.Core.one32 : Int) ≤ Jvm.FP.Core.zval Jvm.FP.Core.b32 (.fin false d r)) : d ≠ 0 := fun z => by
  subst z
  have hzy : Jvm.FP.Core.zval Jvm.FP.Core.b32 (.fin false 0 r) = ((0 * 2 ^ (r - Jvm.FP.Core.b32.qmin).toNat : Nat) : Int) := rfl
  rw [hzy, Nat.zero_mul] at h1
  have := Jvm.FP.Core.one32_pos
  omega
theorem fin_sf {x : UInt32} (hf : Jvm.FP.Core.FFin x) (hs : Jvm.FP.Core.sgn (Jvm.FP.Core.val32 x) = false) : ∃ (c : Nat) (q : Int), Jvm.FP.Core.val32 x = .fin false c q := by
  obtain ⟨s, c, q, h⟩ := hf
  rw [h] at hs
  exact ⟨c, q, by rw [h]; cases s with | false => rfl | true => cases hs⟩
/-- minutes are nothing, or not too small -/
theorem mn_low {a b s : Int} (ha : 0 ≤ a ∧ a ≤ 8388608) (hb : 0 ≤ b ∧ b ≤ 8388608) (hs : 1 ≤ s ∧ s ≤ 50) : (∃ (c : Nat) (q : Int), Jvm.FP.Core.val32 (mnF a b s) = .fin false c q) ∧ (Jvm.FP.Core.zval Jvm.FP.Core.b32 (Jvm.FP.Core.val32 (mnF a b s)) = 0 ∨ ((2 ^ 143 : Nat) : Int) ≤ Jvm.FP.Core.zval Jvm.FP.Core.b32 (Jvm.FP.Core.val32 (mnF a b s))) := by
  have hone : (0 : Int) < (Jvm.FP.Core.one32 : Int) := Int.ofNat_lt.mpr Jvm.FP.Core.one32_pos
  have hm := mn_rng ha hb (s := s) (by omega)
  have hd := div_rng (b := b) (s := s) (by omega) (by omega)
  have hza := zv_i2f (a := a) (by omega)
  obtain ⟨c1, q1, hx⟩ := i2f_pos (a := a) (by omega)
  obtain ⟨c2, q2, hy⟩ := i2f_pos (a := b) (by omega)
  obtain ⟨d, r, hz⟩ := i2f_pos (a := s) (by omega)
  have hzb := zv_i2f (a := b) (by omega)
  have hzs := zv_i2f (a := s) (by omega)
  have fb := fits32 (FP.i2f (iI b))
  have fs := fits32 (FP.i2f (iI s))
  rw [hy] at hzb fb
  rw [hz] at hzs fs
  have hs1 : (Jvm.FP.Core.one32 : Int) ≤ Jvm.FP.Core.zval Jvm.FP.Core.b32 (.fin false d r) := by
    rw [hzs]
    have := Int.mul_le_mul_of_nonneg_right hs.1 (Int.le_of_lt hone)
    omega
  have hq1 : Jvm.FP.Core.val32 (FP.fdiv (FP.i2f (iI b)) (FP.i2f (iI s))) = Jvm.FP.Core.quotient Jvm.FP.Core.b32 (.fin false c2 q2) (.fin false d r) := by rw [← hy, ← hz]; exact Jvm.FP.Core.val32_fdiv _ _
  have hfd : Jvm.FP.Core.FFin (FP.fdiv (FP.i2f (iI b)) (FP.i2f (iI s))) := fin_of_zv (nn_of (dv_ok (by omega))) hd.1 hd.2 (by omega)
  obtain ⟨c3, q3, h3⟩ := fin_sf hfd (by rw [hq1]; exact quot_sgn (d_ne hs1))
  have h1 : Jvm.FP.Core.val32 (mnF a b s) = Jvm.FP.Core.round Jvm.FP.Core.b32 (Jvm.FP.Core.exactSum (Jvm.FP.Core.val32 (FP.i2f (iI a))) (Jvm.FP.Core.val32 (FP.fdiv (FP.i2f (iI b)) (FP.i2f (iI s))))) := Jvm.FP.Core.val32_fadd _ _
  refine ⟨fin_sf hm.1 ?_, ?_⟩
  · rw [h1, hx, h3]
    show Jvm.FP.Core.sgn (Jvm.FP.Core.roundRatio Jvm.FP.Core.b32 (Jvm.FP.Core.sumSign false false _) _ 1 _) = false
    rw [Jvm.FP.Core.sgn_roundRatio]
    unfold Jvm.FP.Core.sumSign
    split
    · rfl
    · refine decide_eq_false ?_
      show ¬ ((Jvm.FP.Core.inUnits _ _ _ : Nat) : Int) + ((Jvm.FP.Core.inUnits _ _ _ : Nat) : Int) < 0
      omega
  · by_cases h0 : a = 0 ∧ b = 0
    · left
      have := hm.2.2
      rw [h0.1, h0.2] at this ⊢
      have h9 := hm.2.1
      rw [h0.1, h0.2] at h9
      omega
    · right
      have hVz : Jvm.FP.Core.zval Jvm.FP.Core.b32 (.fin false 8388608 (-29)) = ((2 ^ 143 : Nat) : Int) := by decide +kernel
      have h14 : ((2 ^ 143 : Nat) : Int) ≤ (Jvm.FP.Core.one32 : Int) := by decide +kernel
      rw [← hVz, h1]
      refine Jvm.FP.Core.sum_ge Jvm.FP.Core.good_b32 (Jvm.FP.Core.i2f_fin _) hfd (fits32 _) (fits32 _) (fitsN ⟨by decide, by decide⟩ (by decide)) (fun z => by cases z) ?_
      rw [hVz, hza]
      by_cases h2 : 1 ≤ a
      · have := Int.mul_le_mul_of_nonneg_right h2 (Int.le_of_lt hone)
        have := hd.1
        omega
      · have hb1 : 1 ≤ b := by omega
        have h5 := quot_ge (j := 6) fb fs hs1 (by decide) (by
          rw [hzb, hzs]
          have k1 := Int.mul_le_mul_of_nonneg_right hs.2 (Int.le_of_lt hone)
          have k2 := Int.mul_le_mul_of_nonneg_right hb1 (Int.le_of_lt hone)
          show _ ≤ _ * ((64 : Nat) : Int)
          omega)
        rw [← hq1] at h5
        have h6 : 0 ≤ a * (Jvm.FP.Core.one32 : Int) := Int.mul_nonneg ha.1 (Int.le_of_lt hone)
        have h7 : ((2 ^ (149 - 6) : Nat) : Int) = ((2 ^ 143 : Nat) : Int) := rfl
        rw [h7] at h5
        omega
theorem bits_form {a b s : Int} (ha : 0 ≤ a ∧ a ≤ 1800) (hb : 0 ≤ b ∧ b ≤ 3000) (hs : 1 ≤ s ∧ s ≤ 50) : FP.fdiv (mnF a b s) 1114636288 = 0 ∨ ∃ (c0 : Nat) (q0 : Int), Jvm.FP.Core.val32 (FP.fdiv (mnF a b s) 1114636288) = .fin false c0 q0 ∧ (2 ^ 23 ≤ c0 ∧ c0 < 2 ^ 24) ∧ -60 ≤ q0 ∧ q0 ≤ -1 := by
  have hone : (0 : Int) < (Jvm.FP.Core.one32 : Int) := Int.ofNat_lt.mpr Jvm.FP.Core.one32_pos
  have hm := mn_rng (a := a) (b := b) (s := s) (by omega) (by omega) (by omega)
  obtain ⟨⟨c, q, hx⟩, hlow⟩ := mn_low (a := a) (b := b) (s := s) (by omega) (by omega) hs
  have hup := Int.mul_le_mul_of_nonneg_right (show a + b ≤ 4800 by omega) (Int.le_of_lt hone)
  have fx := fits32 (mnF a b s)
  have fy := fits32 1114636288
  have h60 := z_60
  rw [hx] at fx hlow
  rw [v_60] at fy h60
  have hs1 : (Jvm.FP.Core.one32 : Int) ≤ Jvm.FP.Core.zval Jvm.FP.Core.b32 (.fin false 15728640 (-18)) := by rw [h60]; omega
  have hq1 : Jvm.FP.Core.val32 (FP.fdiv (mnF a b s) 1114636288) = Jvm.FP.Core.quotient Jvm.FP.Core.b32 (.fin false c q) (.fin false 15728640 (-18)) := by rw [← hx, ← v_60]; exact Jvm.FP.Core.val32_fdiv _ _
  have hle := quot_le fx fy hs1
  rw [← hq1] at hle
  have hmz := hm.2.2
  rw [hx] at hmz
  have hfd : Jvm.FP.Core.FFin (FP.fdiv (mnF a b s) 1114636288) := fin_of_zv (nn_of (hv_ok (mn_ok (by omega)))) (k := 4800) hle.1 (by omega) (by decide)
  obtain ⟨c0, q0, h3⟩ := fin_sf hfd (by rw [hq1]; exact quot_sgn (by decide))
  have hz3 := zv_n h3
  have f3 := fits32 (FP.fdiv (mnF a b s) 1114636288)
  rw [h3] at f3
  have hc24 : c0 < 2 ^ 24 := f3.1
  have hq3 := f3.2.1
  rw [qmin32] at hq3
  rcases hlow with z | z
  · left
    rw [z] at hle
    have hz0 : c0 * 2 ^ (q0 - Jvm.FP.Core.b32.qmin).toNat = 0 := by
      rw [hz3] at hle
      omega
    have hc0 : c0 = 0 := by
      rcases Nat.mul_eq_zero.mp hz0 with y | y
      · exact y
      · exact absurd y (Nat.ne_of_gt (Nat.two_pow_pos _))
    subst hc0
    have hq0 : q0 = Jvm.FP.Core.b32.qmin := by
      rcases f3.2.2.2 with y | y
      · exact y
      · exact absurd y (by decide +kernel)
    subst hq0
    exact Jvm.FP.Core.val32_inj (nnf h3) (by rw [h3, Jvm.FP.Core.val32_zero])
  · right
    have h5 := quot_ge (j := 12) fx fy hs1 (by decide) (by
      rw [h60]
      have k1 : (60 : Int) * (Jvm.FP.Core.one32 : Int) ≤ ((2 ^ 143 : Nat) : Int) * ((2 ^ 12 : Nat) : Int) := by decide +kernel
      have k2 := Int.mul_le_mul_of_nonneg_right z (Int.natCast_nonneg (2 ^ 12))
      exact Int.le_trans k1 k2)
    rw [← hq1, hz3] at h5
    have h6 : 2 ^ 137 ≤ c0 * 2 ^ (q0 - Jvm.FP.Core.b32.qmin).toNat := Int.ofNat_le.mp h5
    rw [qmin32] at h6
    have hqlo : -36 < q0 := by
      by_cases y : -36 < q0
      · exact y
      · have k1 := Nat.pow_le_pow_right (show 0 < 2 by decide) (show (q0 - -149).toNat ≤ 113 by omega)
        have k2 := Nat.mul_lt_mul_of_pos_right hc24 (Nat.two_pow_pos (q0 - -149).toNat)
        have k3 := Nat.mul_le_mul_left (2 ^ 24) k1
        have k4 : 2 ^ 24 * 2 ^ 113 = 2 ^ 137 := by rw [← Nat.pow_add]
        omega
    have hc23 : 2 ^ 23 ≤ c0 := by
      rcases f3.2.2.2 with y | y
      · rw [qmin32] at y
        omega
      · exact y
    have h7 : c0 * 2 ^ (q0 - Jvm.FP.Core.b32.qmin).toNat ≤ 4800 * Jvm.FP.Core.one32 := by
      have k1 : ((c0 * 2 ^ (q0 - Jvm.FP.Core.b32.qmin).toNat : Nat) : Int) ≤ 4800 * (Jvm.FP.Core.one32 : Int) := by rw [← hz3]; omega
      exact Int.ofNat_le.mp k1
    rw [qmin32] at h7
    have hqup : q0 < -9 := by
      by_cases y : q0 < -9
      · exact y
      · have k1 := Nat.pow_le_pow_right (show 0 < 2 by decide) (show 140 ≤ (q0 - -149).toNat by omega)
        have k2 := Nat.mul_le_mul hc23 k1
        have k3 : 4800 * Jvm.FP.Core.one32 < 2 ^ 23 * 2 ^ 140 := by decide +kernel
        omega
    exact ⟨c0, q0, h3, ⟨hc23, hc24⟩, by omega, by omega⟩
end FLT5
