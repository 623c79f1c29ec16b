section FLT3
theorem one_i2f : FP.i2f (iI 1) = FP.fconst1 := by decide +kernel
theorem v_f2 : Jvm.FP.Core.val32 FP.fconst2 = .fin false (2 ^ 23) (-22) := by decide +kernel
theorem v_f1 : Jvm.FP.Core.val32 FP.fconst1 = .fin false (2 ^ 23) (-23) := by decide +kernel
theorem v_f0 : Jvm.FP.Core.val32 FP.fconst0 = .fin false 0 (-149) := by decide +kernel
theorem v_fM : Jvm.FP.Core.val32 1258291200 = .fin false 8388608 0 := by decide +kernel
theorem qmin32 : Jvm.FP.Core.b32.qmin = -149 := by decide +kernel
theorem qmax32 : Jvm.FP.Core.b32.qmax = 104 := by decide +kernel
theorem fitsN {c : Nat} {q : Int} (hc : 2 ^ 23 ≤ c ∧ c < 2 ^ 24) (hq : -149 ≤ q ∧ q ≤ 104) : Jvm.FP.Core.fits Jvm.FP.Core.b32 (.fin false c q) := ⟨hc.2, by rw [qmin32]; exact hq.1, by rw [qmax32]; exact hq.2, Or.inr hc.1⟩
theorem half_step {x : UInt32} {c : Nat} {q : Int} (hx : Jvm.FP.Core.val32 x = .fin false c q) (hc : 2 ^ 23 ≤ c ∧ c < 2 ^ 24) (hq : -149 < q ∧ q ≤ 104) : Jvm.FP.Core.val32 (FP.fdiv x FP.fconst2) = .fin false c (q - 1) := by
  have h1 : Jvm.FP.Core.val32 (FP.fdiv x FP.fconst2) = Jvm.FP.Core.quotient Jvm.FP.Core.b32 (Jvm.FP.Core.val32 x) (Jvm.FP.Core.val32 FP.fconst2) := Jvm.FP.Core.val32_fdiv _ _
  rw [h1, hx, v_f2]
  show Jvm.FP.Core.roundRatio Jvm.FP.Core.b32 false c (2 ^ 23) (q - -22) = _
  refine Jvm.FP.Core.roundRatio_exact Jvm.FP.Core.good_b32 (by decide) (fitsN hc (by omega)) ?_
  rw [show (q - -22 - (q - 1)).toNat = 23 by omega, show (q - 1 - (q - -22)).toNat = 0 by omega]
  omega
theorem dbl_step {x : UInt32} {c : Nat} {q : Int} (hx : Jvm.FP.Core.val32 x = .fin false c q) (hc : 2 ^ 23 ≤ c ∧ c < 2 ^ 24) (hq : -149 ≤ q ∧ q < 104) : Jvm.FP.Core.val32 (FP.fmul x FP.fconst2) = .fin false c (q + 1) := by
  have h1 : Jvm.FP.Core.val32 (FP.fmul x FP.fconst2) = Jvm.FP.Core.round Jvm.FP.Core.b32 (Jvm.FP.Core.exactProduct (Jvm.FP.Core.val32 x) (Jvm.FP.Core.val32 FP.fconst2)) := Jvm.FP.Core.val32_fmul _ _
  rw [h1, hx, v_f2]
  show Jvm.FP.Core.roundRatio Jvm.FP.Core.b32 false (c * 2 ^ 23) 1 (q + -22) = _
  refine Jvm.FP.Core.roundRatio_exact Jvm.FP.Core.good_b32 (by decide) (fitsN hc (by omega)) ?_
  rw [show (q + -22 - (q + 1)).toNat = 0 by omega, show (q + 1 - (q + -22)).toNat = 23 by omega]
  omega
theorem nnf {x : UInt32} {s : Bool} {c : Nat} {q : Int} (hx : Jvm.FP.Core.val32 x = .fin s c q) : Jvm.FP.Core.val32 x ≠ .nan := by rw [hx]; exact fun z => by cases z
theorem isn {x : UInt32} {s : Bool} {c : Nat} {q : Int} (hx : Jvm.FP.Core.val32 x = .fin s c q) : Jvm.FP.Core.fIsNaN x = false := by
  cases h : Jvm.FP.Core.fIsNaN x with
  | false => rfl
  | true => exact absurd ((Jvm.FP.Core.fIsNaN_iff x).mp h) (nnf hx)
theorem vfn {x : UInt32} {s : Bool} {c : Nat} {q : Int} (hx : Jvm.FP.Core.val32 x = .fin s c q) : vf_n32 x := vf_of (isn hx)
theorem zv_n {x : UInt32} {c : Nat} {q : Int} (hx : Jvm.FP.Core.val32 x = .fin false c q) : Jvm.FP.Core.zval Jvm.FP.Core.b32 (Jvm.FP.Core.val32 x) = ((c * 2 ^ (q - Jvm.FP.Core.b32.qmin).toNat : Nat) : Int) := by rw [hx]; rfl
theorem cmp_pow {c : Nat} {q k : Int} (hc : 2 ^ 23 ≤ c ∧ c < 2 ^ 24) (hq : -149 ≤ q) (hk : -149 ≤ k) : c * 2 ^ (q - Jvm.FP.Core.b32.qmin).toNat < 2 ^ 23 * 2 ^ (k - Jvm.FP.Core.b32.qmin).toNat ↔ q < k := by
  rw [qmin32]
  constructor
  · intro h
    by_cases z : q < k
    · exact z
    · have h1 := Nat.pow_le_pow_right (show 0 < 2 by decide) (show (k - -149).toNat ≤ (q - -149).toNat by omega)
      have h2 := Nat.mul_le_mul hc.1 h1
      omega
  · intro z
    have h1 := Nat.pow_le_pow_right (show 0 < 2 by decide) (show (q - -149).toNat + 1 ≤ (k - -149).toNat by omega)
    have h2 := Nat.mul_lt_mul_of_pos_right hc.2 (Nat.two_pow_pos (q - -149).toNat)
    have h3 := Nat.mul_le_mul_left (2 ^ 23) h1
    rw [Nat.pow_succ] at h3
    omega
theorem lt2 {x : UInt32} {c : Nat} {q : Int} (hx : Jvm.FP.Core.val32 x = .fin false c q) (hc : 2 ^ 23 ≤ c ∧ c < 2 ^ 24) (hq : -149 ≤ q) : i32z (Op.cmpValue (FP.fcmp x FP.fconst2) .l) < 0 ↔ q < -22 := by
  have h1 : FP.fcmp x FP.fconst2 = some (compare (Jvm.FP.Core.zval Jvm.FP.Core.b32 (Jvm.FP.Core.val32 x)) (Jvm.FP.Core.zval Jvm.FP.Core.b32 (Jvm.FP.Core.val32 FP.fconst2))) := Jvm.FP.Core.fcmp_zval (nnf hx) (nnf v_f2)
  have h2 := cmp_pow (k := -22) hc hq (by decide)
  rw [← h2, ← Int.ofNat_lt, ← zv_n hx, ← zv_n v_f2]
  have h3 : ∀ o : Option Ordering, i32z (Op.cmpValue o .l) < 0 ↔ o = some .lt ∨ o = none := by
    intro o
    rcases o with _ | _ | _ | _ <;> decide
  rw [h3, h1]
  constructor
  · intro z
    rcases z with z | z
    · exact Int.compare_eq_lt.mp (Option.some.inj z)
    · cases z
  · intro z
    exact Or.inl (congrArg some (Int.compare_eq_lt.mpr z))
theorem ge1 {x : UInt32} {c : Nat} {q : Int} (hx : Jvm.FP.Core.val32 x = .fin false c q) (hc : 2 ^ 23 ≤ c ∧ c < 2 ^ 24) (hq : -149 ≤ q) : 0 ≤ i32z (Op.cmpValue (FP.fcmp x FP.fconst1) .g) ↔ -23 ≤ q := by
  have h1 : FP.fcmp x FP.fconst1 = some (compare (Jvm.FP.Core.zval Jvm.FP.Core.b32 (Jvm.FP.Core.val32 x)) (Jvm.FP.Core.zval Jvm.FP.Core.b32 (Jvm.FP.Core.val32 FP.fconst1))) := Jvm.FP.Core.fcmp_zval (nnf hx) (nnf v_f1)
  have h2 := cmp_pow (k := -23) hc hq (by decide)
  have h3 : ∀ o : Option Ordering, 0 ≤ i32z (Op.cmpValue o .g) ↔ ¬ o = some .lt := by
    intro o
    rcases o with _ | _ | _ | _ <;> decide
  rw [h3, h1, show -23 ≤ q ↔ ¬ q < -23 by omega, ← h2, ← Int.ofNat_lt, ← zv_n hx, ← zv_n v_f1]
  refine not_congr ⟨fun z => Int.compare_eq_lt.mp (Option.some.inj z), fun z => congrArg some (Int.compare_eq_lt.mpr z)⟩
theorem gt0 {x : UInt32} {c : Nat} {q : Int} (hx : Jvm.FP.Core.val32 x = .fin false c q) (hc : 0 < c) : 0 < i32z (Op.cmpValue (FP.fcmp x FP.fconst0) .l) := by
  refine cv_l.mpr (Jvm.FP.Core.fcmp_gt.mpr ⟨nnf hx, nnf v_f0, ?_⟩)
  rw [zv_n hx, zv_n v_f0]
  have h1 := Nat.mul_pos hc (Nat.two_pow_pos (q - Jvm.FP.Core.b32.qmin).toNat)
  rw [Nat.zero_mul]
  omega
/-- the bits of a number in the middle -/
theorem fin_bits {v : UInt32} {c : Nat} {q : Int} (hv : Jvm.FP.Core.val32 v = .fin false c q) (hc : 2 ^ 23 ≤ c ∧ c < 2 ^ 24) (hq : -149 ≤ q ∧ q ≤ 104) : v.toNat = (q + 150).toNat * 8388608 + (c - 8388608) := by
  have h1 := Jvm.FP.Core.of32_val32 (nnf hv)
  rw [← h1, hv, Jvm.FP.Core.toNat_of32 (fitsN hc hq)]
  show (if c < Jvm.FP.Core.b32.tails then _ else _) = _
  have ht : Jvm.FP.Core.b32.tails = 8388608 := by decide +kernel
  rw [if_neg (by omega)]
  unfold Jvm.FP.Core.assemble
  rw [ht, qmin32, show (q - -149).toNat + 1 = (q + 150).toNat by omega]
  show (0 * Jvm.FP.Core.b32.exps + _) * 8388608 + _ = _
  omega
theorem shl23 : ∀ k : Fin 256, iI ((k.val : Nat) : Int) <<< (iI 23 &&& 31) = iI (((k.val : Nat) : Int) * 8388608) := by decide +kernel
theorem toI32 {v : UInt32} {n : Int} (h : (v.toNat : Int) = n) (hn : n < 2147483648) : v.toInt32 = iI n := by
  refine Int32.toInt_inj.mp ?_
  rw [iI_toInt (by omega)]
  show v.toBitVec.toInt = n
  rw [BitVec.toInt_eq_toNat_of_lt (by show 2 * v.toNat < 2 ^ 32; omega)]
  exact h
theorem bits_eq {v : UInt32} {c : Nat} {q : Int} (hv : Jvm.FP.Core.val32 v = .fin false c q) (hc : 2 ^ 23 ≤ c ∧ c < 2 ^ 24) (hq : -100 ≤ q ∧ q ≤ 50) : (iI (q + 150) <<< (iI 23 &&& 31)) + iI ((c : Int) - 8388608) = iI (i32z v.toInt32) := by
  have h1 := shl23 ⟨(q + 150).toNat, by omega⟩
  have h2 : (((q + 150).toNat : Nat) : Int) = q + 150 := by omega
  rw [show ((((⟨(q + 150).toNat, by omega⟩ : Fin 256)).val : Nat) : Int) = q + 150 from h2] at h1
  rw [h1, iI_add, iI_i32z]
  have h3 := fin_bits hv hc (by omega)
  exact (toI32 (by omega) (by omega)).symm
theorem p126 : 85070591730234615865843651857942052864 * 8388608 = Jvm.FP.Core.one32 := by decide +kernel
theorem sgn_ff (n : Nat) : Jvm.FP.Core.signed (false != false) n = (n : Int) := rfl
theorem sgn_sub {x : UInt32} {c : Nat} (hx : Jvm.FP.Core.val32 x = .fin false c (-23)) : Jvm.FP.Core.FFin x := ⟨_, _, _, hx⟩
/-- the digits behind the leading one, as a whole number -/
theorem mant {x : UInt32} {c : Nat} (hx : Jvm.FP.Core.val32 x = .fin false c (-23)) (hc : 2 ^ 23 ≤ c ∧ c < 2 ^ 24) : Jvm.FP.Core.FFin (FP.fsub x FP.fconst1) ∧ i32z (FP.f2i (FP.fmul (FP.fsub x FP.fconst1) 1258291200)) = (c : Int) - 8388608 := by
  have hone : (0 : Int) < (Jvm.FP.Core.one32 : Int) := Int.ofNat_lt.mpr Jvm.FP.Core.one32_pos
  have hzx := zv_n hx
  rw [qmin32, show ((-23 : Int) - -149).toNat = 126 by decide] at hzx
  have ho : (Jvm.FP.Core.one32 : Int) = ((8388608 * 2 ^ 126 : Nat) : Int) := by
    congr 1
  have e1 : (1 : Int) * (Jvm.FP.Core.one32 : Int) ≤ Jvm.FP.Core.zval Jvm.FP.Core.b32 (Jvm.FP.Core.val32 x) := by
    rw [hzx, ho, Int.one_mul]
    exact Int.ofNat_le.mpr (Nat.mul_le_mul_right _ hc.1)
  have e2 : Jvm.FP.Core.zval Jvm.FP.Core.b32 (Jvm.FP.Core.val32 x) ≤ 10000 * (Jvm.FP.Core.one32 : Int) := by
    rw [hzx, ho]
    have := Nat.mul_le_mul_right (2 ^ 126) (show c ≤ 10000 * 8388608 by omega)
    rw [Nat.mul_assoc] at this
    exact Int.ofNat_le.mpr this
  have hs := sub_exact (p := 1) ⟨_, _, _, hx⟩ e1 (by decide) e2
  rw [one_i2f] at hs
  have hnn : Jvm.FP.Core.val32 (FP.fsub x FP.fconst1) ≠ .nan := by
    have := Jvm.FP.Core.fsub_out' (a := x) (b := FP.fconst1) ⟨_, _, _, hx⟩ (isn v_f1)
    exact nn_of this
  have hT : Jvm.FP.Core.zval Jvm.FP.Core.b32 (Jvm.FP.Core.val32 (FP.fsub x FP.fconst1)) = (((c - 8388608) * 2 ^ 126 : Nat) : Int) := by
    rw [hs, hzx, ho, Nat.sub_mul]
    have := Nat.mul_le_mul_right (2 ^ 126) hc.1
    omega
  have hff : Jvm.FP.Core.FFin (FP.fsub x FP.fconst1) := fin_of_zv hnn (k := 10000) (by rw [hT]; exact Int.natCast_nonneg _) (by rw [hs]; omega) (by decide)
  refine ⟨hff, ?_⟩
  obtain ⟨c1, q1, s1, h1, h2⟩ := fin_nonneg hff (by rw [hT]; exact Int.natCast_nonneg _)
  have hz1 := fin_nz h1 h2
  have f1 := fits32 (FP.fsub x FP.fconst1)
  rw [h1] at f1
  have hq1 := f1.2.1
  have hm : Jvm.FP.Core.val32 (FP.fmul (FP.fsub x FP.fconst1) 1258291200) = Jvm.FP.Core.round Jvm.FP.Core.b32 (Jvm.FP.Core.exactProduct (Jvm.FP.Core.val32 (FP.fsub x FP.fconst1)) (Jvm.FP.Core.val32 1258291200)) := Jvm.FP.Core.val32_fmul _ _
  rw [h1, v_fM] at hm
  have hm2 : Jvm.FP.Core.val32 (FP.fmul (FP.fsub x FP.fconst1) 1258291200) = Jvm.FP.Core.round Jvm.FP.Core.b32 (.fin (s1 != false) (c1 * 8388608) (q1 + 0)) := hm
  have hV := zv_i2f (a := (c : Int) - 8388608) (by omega)
  have hval : Jvm.FP.Core.signed (s1 != false) (Jvm.FP.Core.inUnits (c1 * 8388608) (q1 + 0) Jvm.FP.Core.b32.qmin) = ((c : Int) - 8388608) * (Jvm.FP.Core.one32 : Int) := by
    have h9 : Jvm.FP.Core.inUnits (c1 * 8388608) (q1 + 0) Jvm.FP.Core.b32.qmin = (c - 8388608) * Jvm.FP.Core.one32 := by
      have h8 : c1 * 2 ^ (q1 - Jvm.FP.Core.b32.qmin).toNat = (c - 8388608) * 2 ^ 126 := Int.ofNat_inj.mp (hz1.symm.trans hT)
      have hgen : ∀ a b d P M : Nat, a * P = b * d → d * M = Jvm.FP.Core.one32 → a * M * P = b * Jvm.FP.Core.one32 := by
        intro a b d P M y1 y2
        rw [Nat.mul_right_comm, y1, Nat.mul_assoc, y2]
      unfold Jvm.FP.Core.inUnits
      rw [Int.add_zero]
      exact hgen c1 (c - 8388608) 85070591730234615865843651857942052864 (2 ^ (q1 - Jvm.FP.Core.b32.qmin).toNat) 8388608 h8 p126
    rcases h2 with z | z
    · subst z
      rw [sgn_ff, h9, Int.natCast_mul, show ((c - 8388608 : Nat) : Int) = (c : Int) - 8388608 by omega]
    · subst z
      have h7 : Jvm.FP.Core.inUnits (0 * 8388608) (q1 + 0) Jvm.FP.Core.b32.qmin = 0 := by unfold Jvm.FP.Core.inUnits; rw [Nat.zero_mul]
      rw [h7] at h9 ⊢
      have h6 : c - 8388608 = 0 := by
        rcases Nat.mul_eq_zero.mp h9.symm with y | y
        · exact y
        · exact absurd y (Nat.ne_of_gt Jvm.FP.Core.one32_pos)
      rw [show (c : Int) - 8388608 = 0 by omega, Int.zero_mul]
      cases s1 <;> rfl
  have l1 := Jvm.FP.Core.zval_round_le Jvm.FP.Core.good_b32 (s := (s1 != false)) (c := c1 * 2 ^ 23) (q := q1 + 0) (e0 := Jvm.FP.Core.b32.qmin) (V := Jvm.FP.Core.val32 (FP.i2f (iI ((c : Int) - 8388608)))) (fits32 _) (nn_i2f _) (Int.le_refl _) (by omega) (by rw [hval, hV, Int.sub_self]; show _ ≤ _ * ((1 : Nat) : Int); omega)
  have l2 := Jvm.FP.Core.zval_round_ge Jvm.FP.Core.good_b32 (s := (s1 != false)) (c := c1 * 2 ^ 23) (q := q1 + 0) (e0 := Jvm.FP.Core.b32.qmin) (V := Jvm.FP.Core.val32 (FP.i2f (iI ((c : Int) - 8388608)))) (fits32 _) (nn_i2f _) (Int.le_refl _) (by omega) (by rw [hval, hV, Int.sub_self]; show _ * ((1 : Nat) : Int) ≤ _; omega)
  rw [← hm2, hV] at l1 l2
  have hZ := Int.le_antisymm l1 l2
  have hn2 : Jvm.FP.Core.val32 (FP.fmul (FP.fsub x FP.fconst1) 1258291200) ≠ .nan := nn_of (Jvm.FP.Core.fmul_out hff ⟨_, _, _, v_fM⟩)
  have h0 : 0 ≤ ((c : Int) - 8388608) * (Jvm.FP.Core.one32 : Int) := Int.mul_nonneg (by omega) (Int.le_of_lt hone)
  obtain ⟨i, e1, e2, e3, e4⟩ := Jvm.FP.Core.cut_pos (k := 16777216) Jvm.FP.Core.one32_pos (s := Jvm.FP.Core.sgn (Jvm.FP.Core.val32 (FP.fmul (FP.fsub x FP.fconst1) 1258291200))) (m := Jvm.FP.Core.zmag Jvm.FP.Core.b32 (Jvm.FP.Core.val32 (FP.fmul (FP.fsub x FP.fconst1) 1258291200))) (by rw [← zv_sgn, hZ]; exact h0) (by rw [← zv_sgn, hZ]; exact Int.mul_lt_mul_of_pos_right (by omega) hone)
  have h5 : i32z (FP.f2i (FP.fmul (FP.fsub x FP.fconst1) 1258291200)) = _ := Jvm.FP.Core.f2i_val hn2
  rw [e1] at h5
  rw [← zv_sgn, hZ] at e3 e4
  have k1 := cut_le hone e3 (j := (c : Int) - 8388608) (by rw [Int.add_mul]; omega)
  have k2 := cut_le hone (i := (c : Int) - 8388608) (Int.le_refl _) e4
  omega
end FLT3
section LDCW
variable {p : Program} {l : Launch} {e : Env} {R : Room} {s : State} {m : MethodId} {args : Array Value} {below : List Frame} {meth : Method} {c : Code} {cells slots : Nat} {Q : State → Prop} {H : Heap} {locs : List Loc}
theorem va_ldcwF {T : State} (X : Stand p l e R s m args below meth c T locs cells slots) (hexec : p.tables.exec = Jvm.exec) {own : String} {index : Nat} {v : UInt32} (hown : s.vm.findClass own = some m.cls) (hconst : (Cond.constantFloat own index v).before args s = true) {g : JFrame} (hg : g.method = m) (hdg : decode c.code g.pc = .ok (.ldc_w index, 3)) : ∀ target, Steps p.tables e below (T.setTop { g with pc := g.pc + 3, stack := .float v :: g.stack }) target → Steps p.tables e below (T.setTop g) target := by
  obtain ⟨k, cf, hk, hcf, hcp⟩ := Cond.constantFloat_spec hown hconst
  obtain ⟨k', hk', he⟩ := X.warmed.alike.2.2 _ _ hk
  intro target hrest
  subst hg
  jvm_step X.here [hexec, hdg, ldc_w.wp_float (s := T) (f := g) X.here.top hk' (by rw [he]; exact hcf) hcp]
  exact hrest
theorem lv_ldcfw {cc : ByteArray} {pc : Nat} {ls : Array Slot} {rest : List Value} (hexec : p.tables.exec = Jvm.exec) (hb : c.code = cc) {own : String} {index : Nat} {v : UInt32} (hown : s.vm.findClass own = some m.cls) (hconst : (Jvm.Cond.constantFloat own index v).before args s = true) (hdg : decode cc pc = .ok (.ldc_w index, 3)) (k : W p l e R s m args below meth c H locs cells slots Q (F0 m (pc + 3) ls (.float v :: rest))) : W p l e R s m args below meth c H locs cells slots Q (F0 m pc ls rest) := by
  intro T hT X
  obtain ⟨t, a, b⟩ := k T hT X
  exact ⟨t, va_ldcwF X hexec hown hconst (g := F0 m pc ls rest) rfl (by rw [hb]; exact hdg) t a, b⟩
end LDCW
section LDCW2
variable {p : Program} {l : Launch} {e : Env} {R : Room} {s : State} {m : MethodId} {args : Array Value} {below : List Frame} {meth : Method} {c : Code} {cells slots : Nat} {Q : State → Prop}
variable {g : GG} {sz0 nL : Nat} {h : AH} {cc : ByteArray} {own : String} {Ts : List Cond} {lv : LVs} {pc : Nat} {rest : List Value}
theorem r_ldcfw (B : FX p s m args c cc own Ts nL g sz0) {i : Nat} {v : UInt32} (d : decode cc pc = .ok (.ldc_w i, 3)) (hw : Cond.constantFloat own i v ∈ Ts) (k : WA p l e R s m args below meth c g sz0 nL Q h cells slots lv (pc + 3) (.float v :: rest)) : WA p l e R s m args below meth c g sz0 nL Q h cells slots lv (pc) (rest) := fun H locs ls hR hS hl => lv_ldcfw B.1 B.2.1 B.2.2.1 (B.2.2.2.1 _ hw) d (k H locs ls hR hS hl)
end LDCW2
/-- the float of one whole digit and what follows, and its bits -/
theorem bits_fin {v w : UInt32} {c : Nat} {q u : Int} (hv : Jvm.FP.Core.val32 v = .fin false c q) (hc : 2 ^ 23 ≤ c ∧ c < 2 ^ 24) (hq : -60 ≤ q ∧ q ≤ -1) (hw : Jvm.FP.Core.val32 w = .fin false c (-23)) (hu : u = q + 150) : (iI u <<< (iI 23 &&& 31)) + iI (i32z (FP.f2i (FP.fmul (FP.fsub w FP.fconst1) 1258291200))) = iI (i32z v.toInt32) := by
  rw [(mant hw hc).2, hu]
  exact bits_eq hv hc (by omega)
