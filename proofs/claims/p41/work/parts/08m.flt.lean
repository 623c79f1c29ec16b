section FLT
theorem zv_fin {s : Bool} {c : Nat} {q : Int} : Jvm.FP.Core.zval Jvm.FP.Core.b32 (.fin s c q) = Jvm.FP.Core.signed s (Jvm.FP.Core.inUnits c q Jvm.FP.Core.b32.qmin) := rfl
theorem zv_i2f {a : Int} (h : -16777216 ≤ a ∧ a ≤ 16777216) : Jvm.FP.Core.zval Jvm.FP.Core.b32 (Jvm.FP.Core.val32 (FP.i2f (iI a))) = a * (Jvm.FP.Core.one32 : Int) := by
  have h1 := Jvm.FP.Core.i2f_int (a := iI a) (by rw [iI_toInt (by omega)]; omega)
  rw [iI_toInt (by omega)] at h1
  exact Jvm.FP.Core.FInt_zval h1
theorem nn_i2f (a : Int32) : Jvm.FP.Core.val32 (FP.i2f a) ≠ .nan := fun z => by
  obtain ⟨s, c, q, h⟩ := Jvm.FP.Core.i2f_fin a
  rw [show Jvm.FP.Core.val32 (FP.i2f a) = _ from h] at z
  cases z
theorem nn_of {x : UInt32} (h : Jvm.FP.Core.fIsNaN x = false) : Jvm.FP.Core.val32 x ≠ .nan := fun z => by rw [(Jvm.FP.Core.fIsNaN_iff x).mpr z] at h; cases h
/-- a Jvm.FP.Core.quotient by one or more -/
theorem quot_le {c d : Nat} {q r : Int} (hx : Jvm.FP.Core.fits Jvm.FP.Core.b32 (.fin false c q)) (hy : Jvm.FP.Core.fits Jvm.FP.Core.b32 (.fin false d r)) (h1 : (Jvm.FP.Core.one32 : Int) ≤ Jvm.FP.Core.zval Jvm.FP.Core.b32 (.fin false d r)) : 0 ≤ Jvm.FP.Core.zval Jvm.FP.Core.b32 (Jvm.FP.Core.quotient Jvm.FP.Core.b32 (.fin false c q) (.fin false d r)) ∧ Jvm.FP.Core.zval Jvm.FP.Core.b32 (Jvm.FP.Core.quotient Jvm.FP.Core.b32 (.fin false c q) (.fin false d r)) ≤ Jvm.FP.Core.zval Jvm.FP.Core.b32 (.fin false c q) := by
  have hz : Jvm.FP.Core.one32 ≤ d * 2 ^ (r - Jvm.FP.Core.b32.qmin).toNat := by
    have h2 : Jvm.FP.Core.zval Jvm.FP.Core.b32 (.fin false d r) = ((d * 2 ^ (r - Jvm.FP.Core.b32.qmin).toNat : Nat) : Int) := rfl
    rw [h2] at h1
    exact Int.ofNat_le.mp h1
  have hd : d ≠ 0 := fun z => by
    subst z
    have := Jvm.FP.Core.one32_pos
    omega
  have hq : Jvm.FP.Core.quotient Jvm.FP.Core.b32 (.fin false c q) (.fin false d r) = Jvm.FP.Core.roundRatio Jvm.FP.Core.b32 false c d (q - r) := by
    show (if d = 0 then _ else _) = _
    rw [if_neg hd]
    rfl
  have hm : Jvm.FP.Core.b32.qmin = -149 := by decide +kernel
  have hr := hy.2.1
  have hqq := hx.2.1
  rw [hm] at hr hqq
  have hle := Jvm.FP.Core.zmag_roundRatio_le Jvm.FP.Core.good_b32 (s := false) (A := c) (B := d) (e := q - r) (e0 := Jvm.FP.Core.b32.qmin - (r.toNat : Int)) (V := .fin false c q) (Nat.pos_of_ne_zero hd) hx (fun z => by cases z) (by omega) (by omega) (by
    show c * 2 ^ (q - r - (Jvm.FP.Core.b32.qmin - (r.toNat : Int))).toNat ≤ c * 2 ^ (q - Jvm.FP.Core.b32.qmin).toNat * 2 ^ (Jvm.FP.Core.b32.qmin - (Jvm.FP.Core.b32.qmin - (r.toNat : Int))).toNat * d
    rw [show (q - r - (Jvm.FP.Core.b32.qmin - (r.toNat : Int))).toNat = (q - Jvm.FP.Core.b32.qmin).toNat + (-r).toNat by omega, show (Jvm.FP.Core.b32.qmin - (Jvm.FP.Core.b32.qmin - (r.toNat : Int))).toNat = r.toNat by omega, Nat.pow_add, ← Nat.mul_assoc, Nat.mul_assoc (c * 2 ^ (q - Jvm.FP.Core.b32.qmin).toNat)]
    refine Nat.mul_le_mul_left _ ?_
    by_cases h9 : 0 ≤ r
    · rw [show (-r).toNat = 0 by omega]
      have := Nat.two_pow_pos r.toNat
      have h8 : 1 ≤ d := Nat.pos_of_ne_zero hd
      show 1 ≤ _
      exact Nat.mul_le_mul this h8
    · rw [show r.toNat = 0 by omega]
      show 2 ^ (-r).toNat ≤ 1 * d
      rw [Nat.one_mul]
      refine Nat.le_of_mul_le_mul_right ?_ (Nat.two_pow_pos (r - Jvm.FP.Core.b32.qmin).toNat)
      rw [← Nat.pow_add, show (-r).toNat + (r - Jvm.FP.Core.b32.qmin).toNat = 149 by omega]
      exact hz)
  have hsg : Jvm.FP.Core.sgn (Jvm.FP.Core.roundRatio Jvm.FP.Core.b32 false c d (q - r)) = false := Jvm.FP.Core.sgn_roundRatio Jvm.FP.Core.b32 false c d (q - r)
  rw [hq]
  have hv : Jvm.FP.Core.zval Jvm.FP.Core.b32 (Jvm.FP.Core.roundRatio Jvm.FP.Core.b32 false c d (q - r)) = (Jvm.FP.Core.zmag Jvm.FP.Core.b32 (Jvm.FP.Core.roundRatio Jvm.FP.Core.b32 false c d (q - r)) : Int) := by
    show Jvm.FP.Core.signed (Jvm.FP.Core.sgn _) _ = _
    rw [hsg]
    rfl
  rw [hv]
  have hv2 : Jvm.FP.Core.zval Jvm.FP.Core.b32 (.fin false c q) = (Jvm.FP.Core.zmag Jvm.FP.Core.b32 (.fin false c q) : Int) := rfl
  rw [hv2]
  omega
theorem fin_nonneg {x : UInt32} (hf : Jvm.FP.Core.FFin x) (h0 : 0 ≤ Jvm.FP.Core.zval Jvm.FP.Core.b32 (Jvm.FP.Core.val32 x)) : ∃ (c : Nat) (q : Int) (s : Bool), Jvm.FP.Core.val32 x = .fin s c q ∧ (s = false ∨ c = 0) := by
  obtain ⟨s, c, q, h⟩ := hf
  refine ⟨c, q, s, h, ?_⟩
  rw [h] at h0
  cases s with
  | false => exact Or.inl rfl
  | true =>
    right
    have h1 : Jvm.FP.Core.zval Jvm.FP.Core.b32 (.fin true c q) = -((c * 2 ^ (q - Jvm.FP.Core.b32.qmin).toNat : Nat) : Int) := rfl
    rw [h1] at h0
    have h2 : c * 2 ^ (q - Jvm.FP.Core.b32.qmin).toNat = 0 := by omega
    rcases Nat.mul_eq_zero.mp h2 with z | z
    · exact z
    · exact absurd z (by have := Nat.two_pow_pos (q - Jvm.FP.Core.b32.qmin).toNat; omega)
theorem i2f_pos {a : Int} (h : 0 ≤ a ∧ a ≤ 16777216) : ∃ (c : Nat) (q : Int), Jvm.FP.Core.val32 (FP.i2f (iI a)) = .fin false c q := by
  have h1 : Jvm.FP.Core.val32 (FP.i2f (iI a)) = Jvm.FP.Core.round Jvm.FP.Core.b32 (Jvm.FP.Core.ofInt (iI a).toInt) := Jvm.FP.Core.val32_i2f (iI a)
  rw [iI_toInt (by omega)] at h1
  obtain ⟨s, c, q, h2⟩ := Jvm.FP.Core.i2f_fin (iI a)
  have h3 : Jvm.FP.Core.sgn (Jvm.FP.Core.val32 (FP.i2f (iI a))) = false := by
    rw [h1]
    show Jvm.FP.Core.sgn (Jvm.FP.Core.roundRatio Jvm.FP.Core.b32 (decide (a < 0)) a.natAbs 1 0) = false
    rw [Jvm.FP.Core.sgn_roundRatio]
    exact decide_eq_false (by omega)
  have h4 : Jvm.FP.Core.val32 (FP.i2f (iI a)) = .fin s c q := h2
  rw [h4] at h3
  exact ⟨c, q, by rw [h4]; cases s with | false => rfl | true => cases h3⟩
theorem fits32 (x : UInt32) : Jvm.FP.Core.fits Jvm.FP.Core.b32 (Jvm.FP.Core.val32 x) := Jvm.FP.Core.val32_fits x
/-- the bounds of a recovery's minutes -/
theorem div_rng {b s : Int} (hb : 0 ≤ b ∧ b ≤ 16777216) (hs : 1 ≤ s ∧ s ≤ 16777216) : 0 ≤ Jvm.FP.Core.zval Jvm.FP.Core.b32 (Jvm.FP.Core.val32 (FP.fdiv (FP.i2f (iI b)) (FP.i2f (iI s)))) ∧ Jvm.FP.Core.zval Jvm.FP.Core.b32 (Jvm.FP.Core.val32 (FP.fdiv (FP.i2f (iI b)) (FP.i2f (iI s)))) ≤ b * (Jvm.FP.Core.one32 : Int) := by
  obtain ⟨c, q, hx⟩ := i2f_pos hb
  obtain ⟨d, r, hy⟩ := i2f_pos (a := s) (by omega)
  have hzx := zv_i2f (a := b) (by omega)
  have hzy := zv_i2f (a := s) (by omega)
  have fx := fits32 (FP.i2f (iI b))
  have fy := fits32 (FP.i2f (iI s))
  rw [hx] at hzx fx
  rw [hy] at hzy fy
  have h1 : Jvm.FP.Core.val32 (FP.fdiv (FP.i2f (iI b)) (FP.i2f (iI s))) = Jvm.FP.Core.quotient Jvm.FP.Core.b32 (Jvm.FP.Core.val32 (FP.i2f (iI b))) (Jvm.FP.Core.val32 (FP.i2f (iI s))) := Jvm.FP.Core.val32_fdiv _ _
  rw [h1, hx, hy, ← hzx]
  exact quot_le fx fy (by
    rw [hzy]
    have h9 : (0 : Int) ≤ (Jvm.FP.Core.one32 : Int) := Int.natCast_nonneg _
    have := Int.mul_le_mul_of_nonneg_right hs.1 h9
    omega)
theorem fin_of_zv {x : UInt32} (hn : Jvm.FP.Core.val32 x ≠ .nan) {k : Int} (h0 : 0 ≤ Jvm.FP.Core.zval Jvm.FP.Core.b32 (Jvm.FP.Core.val32 x)) (h1 : Jvm.FP.Core.zval Jvm.FP.Core.b32 (Jvm.FP.Core.val32 x) ≤ k * (Jvm.FP.Core.one32 : Int)) (hk : k ≤ 33554432) : Jvm.FP.Core.FFin x := by
  cases h : Jvm.FP.Core.val32 x with
  | nan => exact absurd h hn
  | fin s c q => exact ⟨s, c, q, h⟩
  | inf s =>
    rw [h] at h0 h1
    exfalso
    cases s with
    | true =>
      have h2 : Jvm.FP.Core.zval Jvm.FP.Core.b32 (.inf true) < 0 := by decide +kernel
      omega
    | false =>
      have h2 : (33554432 : Int) * (Jvm.FP.Core.one32 : Int) < Jvm.FP.Core.zval Jvm.FP.Core.b32 (.inf false) := by decide +kernel
      have h9 : (0 : Int) ≤ (Jvm.FP.Core.one32 : Int) := Int.natCast_nonneg _
      have := Int.mul_le_mul_of_nonneg_right hk h9
      omega
theorem mn_rng {a b s : Int} (ha : 0 ≤ a ∧ a ≤ 8388608) (hb : 0 ≤ b ∧ b ≤ 8388608) (hs : 1 ≤ s ∧ s ≤ 16777216) : Jvm.FP.Core.FFin (mnF a b s) ∧ 0 ≤ Jvm.FP.Core.zval Jvm.FP.Core.b32 (Jvm.FP.Core.val32 (mnF a b s)) ∧ Jvm.FP.Core.zval Jvm.FP.Core.b32 (Jvm.FP.Core.val32 (mnF a b s)) ≤ (a + b) * (Jvm.FP.Core.one32 : Int) := by
  have hd := div_rng (b := b) (s := s) (by omega) hs
  have hza := zv_i2f (a := a) (by omega)
  have hzV := zv_i2f (a := a + b) (by omega)
  have h9 : (0 : Int) ≤ (Jvm.FP.Core.one32 : Int) := Int.natCast_nonneg _
  have hfd : Jvm.FP.Core.FFin (FP.fdiv (FP.i2f (iI b)) (FP.i2f (iI s))) := fin_of_zv (nn_of (dv_ok (by omega))) hd.1 hd.2 (by omega)
  have h1 : Jvm.FP.Core.val32 (mnF a b s) = Jvm.FP.Core.round Jvm.FP.Core.b32 (Jvm.FP.Core.exactSum (Jvm.FP.Core.val32 (FP.i2f (iI a))) (Jvm.FP.Core.val32 (FP.fdiv (FP.i2f (iI b)) (FP.i2f (iI s))))) := Jvm.FP.Core.val32_fadd _ _
  have h0 : 0 ≤ a * (Jvm.FP.Core.one32 : Int) := Int.mul_nonneg ha.1 h9
  have hdi : (a + b) * (Jvm.FP.Core.one32 : Int) = a * (Jvm.FP.Core.one32 : Int) + b * (Jvm.FP.Core.one32 : Int) := Int.add_mul _ _ _
  have hup : Jvm.FP.Core.zval Jvm.FP.Core.b32 (Jvm.FP.Core.val32 (mnF a b s)) ≤ (a + b) * (Jvm.FP.Core.one32 : Int) := by
    rw [← hzV, h1]
    exact Jvm.FP.Core.sum_le Jvm.FP.Core.good_b32 (Jvm.FP.Core.i2f_fin _) hfd (fits32 _) (fits32 _) (fits32 _) (nn_i2f _) (by rw [hza, hzV]; omega)
  have hlo : 0 ≤ Jvm.FP.Core.zval Jvm.FP.Core.b32 (Jvm.FP.Core.val32 (mnF a b s)) := by
    rw [← Jvm.FP.Core.zval32_zero, h1]
    exact Jvm.FP.Core.sum_ge Jvm.FP.Core.good_b32 (Jvm.FP.Core.i2f_fin _) hfd (fits32 _) (fits32 _) (fits32 0) (by rw [Jvm.FP.Core.val32_zero]; exact fun z => by cases z) (by rw [Jvm.FP.Core.zval32_zero, hza]; omega)
  exact ⟨fin_of_zv (nn_of (mn_ok (by omega))) hlo hup (by omega), hlo, hup⟩
end FLT
section FLT2
theorem fin_nz {x : UInt32} {c : Nat} {q : Int} {s : Bool} (h : Jvm.FP.Core.val32 x = .fin s c q) (hs : s = false ∨ c = 0) : Jvm.FP.Core.zval Jvm.FP.Core.b32 (Jvm.FP.Core.val32 x) = ((c * 2 ^ (q - Jvm.FP.Core.b32.qmin).toNat : Nat) : Int) := by
  rw [h]
  cases s with
  | false => rfl
  | true =>
    rcases hs with z | z
    · cases z
    · subst z
      show -((0 * 2 ^ (q - Jvm.FP.Core.b32.qmin).toNat : Nat) : Int) = _
      rw [Nat.zero_mul]
      rfl
/-- a difference that is no less than nothing is exact -/
theorem sub_exact {x : UInt32} {p : Int} (hf : Jvm.FP.Core.FFin x) (h0 : p * (Jvm.FP.Core.one32 : Int) ≤ Jvm.FP.Core.zval Jvm.FP.Core.b32 (Jvm.FP.Core.val32 x)) (hp : 0 ≤ p ∧ p ≤ 600) (hu : Jvm.FP.Core.zval Jvm.FP.Core.b32 (Jvm.FP.Core.val32 x) ≤ 10000 * (Jvm.FP.Core.one32 : Int)) : Jvm.FP.Core.zval Jvm.FP.Core.b32 (Jvm.FP.Core.val32 (FP.fsub x (FP.i2f (iI p)))) = Jvm.FP.Core.zval Jvm.FP.Core.b32 (Jvm.FP.Core.val32 x) - p * (Jvm.FP.Core.one32 : Int) := by
  have h9 : (0 : Int) ≤ (Jvm.FP.Core.one32 : Int) := Int.natCast_nonneg _
  have hz0 : 0 ≤ Jvm.FP.Core.zval Jvm.FP.Core.b32 (Jvm.FP.Core.val32 x) := Int.le_trans (Int.mul_nonneg hp.1 h9) h0
  have hzp := zv_i2f (a := p) (by omega)
  obtain ⟨c, q, s, hx, hs⟩ := fin_nonneg hf hz0
  have hZ := fin_nz hx hs
  have fx := fits32 x
  rw [hx] at fx
  have hm : Jvm.FP.Core.b32.qmin = -149 := by decide +kernel
  have hM : Jvm.FP.Core.b32.qmax = 104 := by decide +kernel
  have hc24 : c < 2 ^ 24 := fx.1
  have hq1 := fx.2.1
  have hq2 := fx.2.2.1
  rw [hm] at hq1
  rw [hM] at hq2
  have hone : (Jvm.FP.Core.one32 : Int) = ((2 ^ 149 : Nat) : Int) := rfl
  obtain ⟨P, hP⟩ : ∃ P : Nat, p = (P : Int) := ⟨p.toNat, by omega⟩
  have key : ∃ (c' : Nat) (q' : Int), c' < 2 ^ Jvm.FP.Core.b32.p ∧ Jvm.FP.Core.b32.qmin ≤ q' ∧ q' ≤ Jvm.FP.Core.b32.qmax ∧ ((c' * 2 ^ (q' - Jvm.FP.Core.b32.qmin).toNat : Nat) : Int) = Jvm.FP.Core.zval Jvm.FP.Core.b32 (Jvm.FP.Core.val32 x) - p * (Jvm.FP.Core.one32 : Int) := by
    by_cases hq : q < 0
    · refine ⟨c - P * 2 ^ (-q).toNat, q, ?_, by omega, by omega, ?_⟩
      · show _ < 2 ^ 24
        omega
      · have e1 : 2 ^ (-q).toNat * 2 ^ (q - Jvm.FP.Core.b32.qmin).toNat = Jvm.FP.Core.one32 := by
          rw [← Nat.pow_add, show (-q).toNat + (q - Jvm.FP.Core.b32.qmin).toNat = 149 by omega]
          rfl
        have e2 : P * 2 ^ (-q).toNat * 2 ^ (q - Jvm.FP.Core.b32.qmin).toNat = P * Jvm.FP.Core.one32 := by rw [Nat.mul_assoc, e1]
        have h1 : P * Jvm.FP.Core.one32 ≤ c * 2 ^ (q - Jvm.FP.Core.b32.qmin).toNat := by
          rw [hZ, hP, ← Int.natCast_mul] at h0
          exact Int.ofNat_le.mp h0
        rw [Nat.sub_mul, e2, hZ, hP, ← Int.natCast_mul]
        omega
    · have e1 : c * 2 ^ (q - Jvm.FP.Core.b32.qmin).toNat = c * 2 ^ q.toNat * Jvm.FP.Core.one32 := by
        rw [show (q - Jvm.FP.Core.b32.qmin).toNat = q.toNat + 149 by omega, Nat.pow_add, ← Nat.mul_assoc]
        rfl
      rw [e1] at hZ
      have h1 : P * Jvm.FP.Core.one32 ≤ c * 2 ^ q.toNat * Jvm.FP.Core.one32 := by
        rw [hZ, hP, ← Int.natCast_mul] at h0
        exact Int.ofNat_le.mp h0
      have h2 : c * 2 ^ q.toNat * Jvm.FP.Core.one32 ≤ 10000 * Jvm.FP.Core.one32 := by
        rw [hZ] at hu
        exact Int.ofNat_le.mp hu
      have h3 := Nat.le_of_mul_le_mul_right h1 Jvm.FP.Core.one32_pos
      have h4 := Nat.le_of_mul_le_mul_right h2 Jvm.FP.Core.one32_pos
      refine ⟨c * 2 ^ q.toNat - P, 0, ?_, by omega, by omega, ?_⟩
      · show _ < 2 ^ 24
        omega
      · rw [show ((0 : Int) - Jvm.FP.Core.b32.qmin).toNat = 149 by omega, hZ, hP, ← Int.natCast_mul]
        show (((c * 2 ^ q.toNat - P) * Jvm.FP.Core.one32 : Nat) : Int) = _
        rw [Nat.sub_mul]
        omega
  obtain ⟨c', q', k1, k2, k3, k4⟩ := key
  obtain ⟨c2, q2, r1, r2⟩ := Jvm.FP.Core.round_exact Jvm.FP.Core.good_b32 false k1 k2 k3
  have hV : Jvm.FP.Core.zval Jvm.FP.Core.b32 (Jvm.FP.Core.round Jvm.FP.Core.b32 (.fin false c' q')) = Jvm.FP.Core.zval Jvm.FP.Core.b32 (Jvm.FP.Core.val32 x) - p * (Jvm.FP.Core.one32 : Int) := by
    rw [r1, ← k4]
    show ((Jvm.FP.Core.inUnits c2 q2 Jvm.FP.Core.b32.qmin : Nat) : Int) = _
    rw [r2]
    rfl
  have fV : Jvm.FP.Core.fits Jvm.FP.Core.b32 (Jvm.FP.Core.round Jvm.FP.Core.b32 (.fin false c' q')) := Jvm.FP.Core.round_fits Jvm.FP.Core.good_b32 _
  have nV : Jvm.FP.Core.round Jvm.FP.Core.b32 (.fin false c' q') ≠ .nan := by rw [r1]; exact fun z => by cases z
  have h1 : Jvm.FP.Core.val32 (FP.fsub x (FP.i2f (iI p))) = Jvm.FP.Core.round Jvm.FP.Core.b32 (Jvm.FP.Core.exactSum (Jvm.FP.Core.val32 x) (Jvm.FP.Core.negate (Jvm.FP.Core.val32 (FP.i2f (iI p))))) := Jvm.FP.Core.val32_fsub _ _
  have fn : ∃ s c q, Jvm.FP.Core.negate (Jvm.FP.Core.val32 (FP.i2f (iI p))) = .fin s c q := by
    obtain ⟨s, c, q, h⟩ := Jvm.FP.Core.i2f_fin (iI p)
    rw [show Jvm.FP.Core.val32 (FP.i2f (iI p)) = _ from h]
    exact ⟨_, _, _, rfl⟩
  have hs2 : Jvm.FP.Core.zval Jvm.FP.Core.b32 (Jvm.FP.Core.val32 x) + Jvm.FP.Core.zval Jvm.FP.Core.b32 (Jvm.FP.Core.negate (Jvm.FP.Core.val32 (FP.i2f (iI p)))) = Jvm.FP.Core.zval Jvm.FP.Core.b32 (Jvm.FP.Core.round Jvm.FP.Core.b32 (.fin false c' q')) := by
    rw [Jvm.FP.Core.zval_negate, hzp, hV]
    omega
  have l1 := Jvm.FP.Core.sum_le Jvm.FP.Core.good_b32 hf fn (fits32 x) (Jvm.FP.Core.negate_fits (fits32 _)) fV nV (by rw [hs2]; exact Int.le_refl _)
  have l2 := Jvm.FP.Core.sum_ge Jvm.FP.Core.good_b32 hf fn (fits32 x) (Jvm.FP.Core.negate_fits (fits32 _)) fV nV (by rw [hs2]; exact Int.le_refl _)
  rw [h1, ← hV]
  exact Int.le_antisymm l1 l2
theorem cv_g {o : Option Ordering} : i32z (Op.cmpValue o .g) < 0 ↔ o = some .lt := by
  rcases o with _ | _ | _ | _ <;> decide
theorem cv_l {o : Option Ordering} : 0 < i32z (Op.cmpValue o .l) ↔ o = some .gt := by
  rcases o with _ | _ | _ | _ <;> decide
theorem zv_sgn (x : UInt32) : Jvm.FP.Core.zval Jvm.FP.Core.b32 (Jvm.FP.Core.val32 x) = Jvm.FP.Core.signed (Jvm.FP.Core.sgn (Jvm.FP.Core.val32 x)) (Jvm.FP.Core.zmag Jvm.FP.Core.b32 (Jvm.FP.Core.val32 x)) := rfl
theorem f2i_cut {v : UInt32} (hn : Jvm.FP.Core.val32 v ≠ .nan) (h0 : 0 ≤ Jvm.FP.Core.zval Jvm.FP.Core.b32 (Jvm.FP.Core.val32 v)) (hu : Jvm.FP.Core.zval Jvm.FP.Core.b32 (Jvm.FP.Core.val32 v) ≤ 10000 * (Jvm.FP.Core.one32 : Int)) : ∃ i : Int, (0 ≤ i ∧ i ≤ 10000) ∧ i32z (FP.f2i v) = i ∧ i * (Jvm.FP.Core.one32 : Int) ≤ Jvm.FP.Core.zval Jvm.FP.Core.b32 (Jvm.FP.Core.val32 v) ∧ Jvm.FP.Core.zval Jvm.FP.Core.b32 (Jvm.FP.Core.val32 v) < (i + 1) * (Jvm.FP.Core.one32 : Int) := by
  have hone := Jvm.FP.Core.one32_pos
  obtain ⟨i, e1, e2, e3, e4⟩ := Jvm.FP.Core.cut_pos (k := 10001) Jvm.FP.Core.one32_pos (s := Jvm.FP.Core.sgn (Jvm.FP.Core.val32 v)) (m := Jvm.FP.Core.zmag Jvm.FP.Core.b32 (Jvm.FP.Core.val32 v)) h0 (by rw [← zv_sgn]; omega)
  have h1 : i32z (FP.f2i v) = _ := Jvm.FP.Core.f2i_val hn
  rw [e1] at h1
  exact ⟨i, by omega, by omega, e3, e4⟩
theorem upC_cut {v : UInt32} (hn : Jvm.FP.Core.val32 v ≠ .nan) (h0 : 0 ≤ Jvm.FP.Core.zval Jvm.FP.Core.b32 (Jvm.FP.Core.val32 v)) (hu : Jvm.FP.Core.zval Jvm.FP.Core.b32 (Jvm.FP.Core.val32 v) ≤ 10000 * (Jvm.FP.Core.one32 : Int)) : ∃ i : Int, (0 ≤ i ∧ i ≤ 10000) ∧ i * (Jvm.FP.Core.one32 : Int) ≤ Jvm.FP.Core.zval Jvm.FP.Core.b32 (Jvm.FP.Core.val32 v) ∧ Jvm.FP.Core.zval Jvm.FP.Core.b32 (Jvm.FP.Core.val32 v) < (i + 1) * (Jvm.FP.Core.one32 : Int) ∧ ((i * (Jvm.FP.Core.one32 : Int) < Jvm.FP.Core.zval Jvm.FP.Core.b32 (Jvm.FP.Core.val32 v) ∧ upC v = i + 1) ∨ (¬ i * (Jvm.FP.Core.one32 : Int) < Jvm.FP.Core.zval Jvm.FP.Core.b32 (Jvm.FP.Core.val32 v) ∧ upC v = i)) := by
  obtain ⟨i, hi, e1, e2, e3⟩ := f2i_cut hn h0 hu
  have hz := zv_i2f (a := i) (by omega)
  refine ⟨i, hi, e2, e3, ?_⟩
  by_cases y : i * (Jvm.FP.Core.one32 : Int) < Jvm.FP.Core.zval Jvm.FP.Core.b32 (Jvm.FP.Core.val32 v)
  · refine Or.inl ⟨y, ?_⟩
    rw [upC_t (by rw [e1]; exact cv_g.mpr (Jvm.FP.Core.fcmp_lt.mpr ⟨nn_i2f _, hn, by rw [hz]; exact y⟩)), e1]
    show (iI (i + 1)).toInt = _
    exact iI_toInt (by omega)
  · refine Or.inr ⟨y, ?_⟩
    rw [upC_f (by rw [e1]; exact fun z => y (by have := (Jvm.FP.Core.fcmp_lt.mp (cv_g.mp z)).2.2; rw [hz] at this; exact this)), e1]
theorem upF_cut {v : UInt32} (hn : Jvm.FP.Core.val32 v ≠ .nan) (h0 : 0 ≤ Jvm.FP.Core.zval Jvm.FP.Core.b32 (Jvm.FP.Core.val32 v)) (hu : Jvm.FP.Core.zval Jvm.FP.Core.b32 (Jvm.FP.Core.val32 v) ≤ 10000 * (Jvm.FP.Core.one32 : Int)) : ∃ i : Int, (0 ≤ i ∧ i ≤ 10000) ∧ i * (Jvm.FP.Core.one32 : Int) ≤ Jvm.FP.Core.zval Jvm.FP.Core.b32 (Jvm.FP.Core.val32 v) ∧ Jvm.FP.Core.zval Jvm.FP.Core.b32 (Jvm.FP.Core.val32 v) < (i + 1) * (Jvm.FP.Core.one32 : Int) ∧ ((i * (Jvm.FP.Core.one32 : Int) < Jvm.FP.Core.zval Jvm.FP.Core.b32 (Jvm.FP.Core.val32 v) ∧ upF v = i + 1) ∨ (¬ i * (Jvm.FP.Core.one32 : Int) < Jvm.FP.Core.zval Jvm.FP.Core.b32 (Jvm.FP.Core.val32 v) ∧ upF v = i)) := by
  obtain ⟨i, hi, e1, e2, e3⟩ := f2i_cut hn h0 hu
  have hz := zv_i2f (a := i) (by omega)
  refine ⟨i, hi, e2, e3, ?_⟩
  by_cases y : i * (Jvm.FP.Core.one32 : Int) < Jvm.FP.Core.zval Jvm.FP.Core.b32 (Jvm.FP.Core.val32 v)
  · refine Or.inl ⟨y, ?_⟩
    rw [upF_t (by rw [e1]; exact cv_l.mpr (Jvm.FP.Core.fcmp_gt.mpr ⟨hn, nn_i2f _, by rw [hz]; exact y⟩)), e1]
    show (iI (i + 1)).toInt = _
    exact iI_toInt (by omega)
  · refine Or.inr ⟨y, ?_⟩
    rw [upF_f (by rw [e1]; exact fun z => y (by have := (Jvm.FP.Core.fcmp_gt.mp (cv_l.mp z)).2.2; rw [hz] at this; exact this)), e1]
theorem upF_neg {v : UInt32} (hn : Jvm.FP.Core.val32 v ≠ .nan) (h0 : Jvm.FP.Core.zval Jvm.FP.Core.b32 (Jvm.FP.Core.val32 v) ≤ 0) (hu : -(10000 * (Jvm.FP.Core.one32 : Int)) ≤ Jvm.FP.Core.zval Jvm.FP.Core.b32 (Jvm.FP.Core.val32 v)) : upF v ≤ 0 := by
  have hone := Jvm.FP.Core.one32_pos
  obtain ⟨i, e1, e2, e3, e4⟩ := Jvm.FP.Core.cut_neg (k := 10001) Jvm.FP.Core.one32_pos (s := Jvm.FP.Core.sgn (Jvm.FP.Core.val32 v)) (m := Jvm.FP.Core.zmag Jvm.FP.Core.b32 (Jvm.FP.Core.val32 v)) h0 (by rw [← zv_sgn]; omega)
  have h1 : i32z (FP.f2i v) = _ := Jvm.FP.Core.f2i_val hn
  rw [e1] at h1
  have h2 : i32z (FP.f2i v) = -(i : Int) := by omega
  have hz := zv_i2f (a := -(i : Int)) (by omega)
  have hng : ¬ 0 < i32z (Op.cmpValue (FP.fcmp v (FP.i2f (iI (i32z (FP.f2i v))))) .l) := by
    rw [h2]
    intro z
    have h3 := (Jvm.FP.Core.fcmp_gt.mp (cv_l.mp z)).2.2
    rw [hz] at h3
    rw [← zv_sgn] at e3
    omega
  rw [upF_f hng, h2]
  omega
theorem cut_le {o : Int} (ho : 0 < o) {i j Z : Int} (h1 : i * o ≤ Z) (h2 : Z < (j + 1) * o) : i ≤ j := by
  by_cases h : i ≤ j
  · exact h
  · have := Int.mul_le_mul_of_nonneg_right (show j + 1 ≤ i by omega) (Int.le_of_lt ho)
    omega
/-- rounding up and then taking away what was promised is taking away and then rounding up -/
theorem drill_eq {m : UInt32} {pr co : Int} (hf : Jvm.FP.Core.FFin m) (h0 : 0 ≤ Jvm.FP.Core.zval Jvm.FP.Core.b32 (Jvm.FP.Core.val32 m)) (hu : Jvm.FP.Core.zval Jvm.FP.Core.b32 (Jvm.FP.Core.val32 m) ≤ 10000 * (Jvm.FP.Core.one32 : Int)) (hp : 0 ≤ pr ∧ pr ≤ 600) : mxZ (i32z (iI (upC m - pr))) 0 * co = amtF (FP.fsub m (FP.i2f (iI pr))) co := by
  have hone : (0 : Int) < (Jvm.FP.Core.one32 : Int) := Int.ofNat_lt.mpr Jvm.FP.Core.one32_pos
  have hn : Jvm.FP.Core.val32 m ≠ .nan := by
    obtain ⟨s, c, q, h⟩ := hf
    rw [h]
    exact fun z => by cases z
  have hnd : Jvm.FP.Core.val32 (FP.fsub m (FP.i2f (iI pr))) ≠ .nan := nn_of (Jvm.FP.Core.fsub_out' hf (i2f_ok _))
  obtain ⟨i, hi, e1, e2, e3⟩ := upC_cut hn h0 hu
  have hr : i32z (iI (upC m - pr)) = upC m - pr := iI_toInt (by omega)
  rw [hr]
  by_cases hc : pr * (Jvm.FP.Core.one32 : Int) ≤ Jvm.FP.Core.zval Jvm.FP.Core.b32 (Jvm.FP.Core.val32 m)
  · have hx := sub_exact hf hc hp hu
    have hpo := Int.mul_nonneg hp.1 (Int.le_of_lt hone)
    obtain ⟨j, hj, f1, f2, f3⟩ := upF_cut hnd (by rw [hx]; omega) (by rw [hx]; omega)
    rw [hx] at f1 f2 f3
    have a1 : (j + pr) * (Jvm.FP.Core.one32 : Int) = j * (Jvm.FP.Core.one32 : Int) + pr * (Jvm.FP.Core.one32 : Int) := Int.add_mul _ _ _
    have a2 : (j + pr + 1) * (Jvm.FP.Core.one32 : Int) = (j + 1) * (Jvm.FP.Core.one32 : Int) + pr * (Jvm.FP.Core.one32 : Int) := by rw [← Int.add_mul]; congr 1; omega
    have l1 := cut_le hone (i := i) (j := j + pr) e1 (by omega)
    have l2 := cut_le hone (i := j + pr) (j := i) (by omega) e2
    have hij : i = j + pr := by omega
    subst hij
    have he : upC m - pr = upF (FP.fsub m (FP.i2f (iI pr))) := by omega
    rw [he]
    unfold mxZ
    by_cases z : 0 < upF (FP.fsub m (FP.i2f (iI pr)))
    · rw [amtF_t z]
      split
      · omega
      · rfl
    · rw [amtF_f z]
      split
      · rw [Int.zero_mul]
      · have : upF (FP.fsub m (FP.i2f (iI pr))) = 0 := by omega
        rw [this, Int.zero_mul]
  · have h1 : Jvm.FP.Core.val32 (FP.fsub m (FP.i2f (iI pr))) = Jvm.FP.Core.round Jvm.FP.Core.b32 (Jvm.FP.Core.exactSum (Jvm.FP.Core.val32 m) (Jvm.FP.Core.negate (Jvm.FP.Core.val32 (FP.i2f (iI pr))))) := Jvm.FP.Core.val32_fsub _ _
    have hzp := zv_i2f (a := pr) (by omega)
    have fn : ∃ s c q, Jvm.FP.Core.negate (Jvm.FP.Core.val32 (FP.i2f (iI pr))) = .fin s c q := by
      obtain ⟨s, c, q, h⟩ := Jvm.FP.Core.i2f_fin (iI pr)
      rw [show Jvm.FP.Core.val32 (FP.i2f (iI pr)) = _ from h]
      exact ⟨_, _, _, rfl⟩
    have d1 : Jvm.FP.Core.zval Jvm.FP.Core.b32 (Jvm.FP.Core.val32 (FP.fsub m (FP.i2f (iI pr)))) ≤ 0 := by
      rw [← Jvm.FP.Core.zval32_zero, h1]
      exact Jvm.FP.Core.sum_le Jvm.FP.Core.good_b32 hf fn (fits32 m) (Jvm.FP.Core.negate_fits (fits32 _)) (fits32 0) (by rw [Jvm.FP.Core.val32_zero]; exact fun z => by cases z) (by rw [Jvm.FP.Core.zval_negate, hzp, Jvm.FP.Core.zval32_zero]; omega)
    have hzn := zv_i2f (a := -pr) (by omega)
    have d2 : -pr * (Jvm.FP.Core.one32 : Int) ≤ Jvm.FP.Core.zval Jvm.FP.Core.b32 (Jvm.FP.Core.val32 (FP.fsub m (FP.i2f (iI pr)))) := by
      rw [← hzn, h1]
      exact Jvm.FP.Core.sum_ge Jvm.FP.Core.good_b32 hf fn (fits32 m) (Jvm.FP.Core.negate_fits (fits32 _)) (fits32 _) (nn_i2f _) (by rw [Jvm.FP.Core.zval_negate, hzp, hzn, Int.neg_mul]; omega)
    have d3 := Int.mul_le_mul_of_nonneg_right hp.2 (Int.le_of_lt hone)
    rw [Int.neg_mul] at d2
    have hup := upF_neg hnd d1 (by omega)
    rw [amtF_f (by omega)]
    have l1 := cut_le hone (i := i) (j := pr - 1) e1 (by rw [show pr - 1 + 1 = pr by omega]; omega)
    have hle : upC m - pr ≤ 0 := by omega
    unfold mxZ
    split
    · rw [Int.zero_mul]
    · have : upC m - pr = 0 := by omega
      rw [this, Int.zero_mul]
end FLT2
