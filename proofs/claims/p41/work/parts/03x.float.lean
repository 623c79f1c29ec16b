def i32z (x : Int32) : Int := x.toInt
theorem iI_i32z (x : Int32) : iI (i32z x) = x := Int32.ofInt_toInt x
theorem i32z_rng (x : Int32) : -2147483648 ≤ i32z x ∧ i32z x < 2147483648 := by
  have h1 := Int32.toInt_lt x
  have h2 := Int32.le_toInt x
  unfold i32z
  omega
theorem vf_of {x : UInt32} (h : Jvm.FP.Core.fIsNaN x = false) : vf_n32 x := by
  have h1 : x.toNat % 2147483648 ≤ 2139095040 := (Jvm.FP.Core.ne_nan32 x).mp (fun z => by rw [(Jvm.FP.Core.fIsNaN_iff x).mpr z] at h; cases h)
  show x &&& 0x7fffffff ≤ 0x7f800000
  rw [UInt32.le_iff_toNat_le, UInt32.toNat_and]
  show x.toNat &&& (2 ^ 31 - 1) ≤ 2139095040
  rw [Nat.and_two_pow_sub_one_eq_mod]
  exact h1
theorem i2f_ok (x : Int32) : Jvm.FP.Core.fIsNaN (FP.i2f x) = false := by
  obtain ⟨s, c, q, h⟩ := Jvm.FP.Core.i2f_fin x
  cases hh : Jvm.FP.Core.fIsNaN (FP.i2f x) with
  | false => rfl
  | true => have h2 := (Jvm.FP.Core.fIsNaN_iff _).mp hh; rw [show Jvm.FP.Core.val32 (FP.i2f x) = _ from h] at h2; cases h2
section RFL
variable {p : Program} {l : Launch} {e : Env} {R : Room} {s : State} {m : MethodId} {args : Array Value} {below : List Frame} {meth : Method} {c : Code} {cells slots : Nat} {Q : State → Prop}
variable {g : GG} {sz0 nL : Nat} {h : AH} {cc : ByteArray} {own : String} {Ts : List Cond} {lv : LVs} {pc : Nat} {rest : List Value}
theorem r_fconst0 (B : FX p s m args c cc own Ts nL g sz0)  (d : decode cc pc = .ok (.fconst 0, 1))  (k : WA p l e R s m args below meth c g sz0 nL Q h cells slots lv (pc + 1) (.float FP.fconst0 :: rest)) : WA p l e R s m args below meth c g sz0 nL Q h cells slots lv (pc) (rest) := fun H locs ls hR hS hl => lv_fconst0 B.1 B.2.1 d (k H locs ls hR hS hl)
theorem r_fconst1 (B : FX p s m args c cc own Ts nL g sz0)  (d : decode cc pc = .ok (.fconst 1, 1))  (k : WA p l e R s m args below meth c g sz0 nL Q h cells slots lv (pc + 1) (.float FP.fconst1 :: rest)) : WA p l e R s m args below meth c g sz0 nL Q h cells slots lv (pc) (rest) := fun H locs ls hR hS hl => lv_fconst1 B.1 B.2.1 d (k H locs ls hR hS hl)
theorem r_fconst2 (B : FX p s m args c cc own Ts nL g sz0)  (d : decode cc pc = .ok (.fconst 2, 1))  (k : WA p l e R s m args below meth c g sz0 nL Q h cells slots lv (pc + 1) (.float FP.fconst2 :: rest)) : WA p l e R s m args below meth c g sz0 nL Q h cells slots lv (pc) (rest) := fun H locs ls hR hS hl => lv_fconst2 B.1 B.2.1 d (k H locs ls hR hS hl)
theorem r_i2f (B : FX p s m args c cc own Ts nL g sz0) {x : Int} (d : decode cc pc = .ok (.i2f, 1))  (k : WA p l e R s m args below meth c g sz0 nL Q h cells slots lv (pc + 1) (.float (FP.i2f (iI x)) :: rest)) : WA p l e R s m args below meth c g sz0 nL Q h cells slots lv (pc) (.int (iI x) :: rest) := fun H locs ls hR hS hl => lv_i2f B.1 B.2.1 d (k H locs ls hR hS hl)
theorem r_f2i (B : FX p s m args c cc own Ts nL g sz0) {x : UInt32} (d : decode cc pc = .ok (.f2i, 1))  (k : WA p l e R s m args below meth c g sz0 nL Q h cells slots lv (pc + 1) (.int (iI (i32z (FP.f2i x))) :: rest)) : WA p l e R s m args below meth c g sz0 nL Q h cells slots lv (pc) (.float x :: rest) := fun H locs ls hR hS hl => lv_f2i B.1 B.2.1 d (by rw [← iI_i32z (FP.f2i x)]; exact k H locs ls hR hS hl)
theorem r_fadd (B : FX p s m args c cc own Ts nL g sz0) {x y : UInt32} (d : decode cc pc = .ok (.fadd, 1)) (hne : vf_n32 (FP.fadd x y)) (k : WA p l e R s m args below meth c g sz0 nL Q h cells slots lv (pc + 1) (.float (FP.fadd x y) :: rest)) : WA p l e R s m args below meth c g sz0 nL Q h cells slots lv (pc) (.float y :: .float x :: rest) := fun H locs ls hR hS hl => lv_fadd B.1 B.2.1 d hne (k H locs ls hR hS hl)
theorem r_fsub (B : FX p s m args c cc own Ts nL g sz0) {x y : UInt32} (d : decode cc pc = .ok (.fsub, 1)) (hne : vf_n32 (FP.fsub x y)) (k : WA p l e R s m args below meth c g sz0 nL Q h cells slots lv (pc + 1) (.float (FP.fsub x y) :: rest)) : WA p l e R s m args below meth c g sz0 nL Q h cells slots lv (pc) (.float y :: .float x :: rest) := fun H locs ls hR hS hl => lv_fsub B.1 B.2.1 d hne (k H locs ls hR hS hl)
theorem r_fmul (B : FX p s m args c cc own Ts nL g sz0) {x y : UInt32} (d : decode cc pc = .ok (.fmul, 1)) (hne : vf_n32 (FP.fmul x y)) (k : WA p l e R s m args below meth c g sz0 nL Q h cells slots lv (pc + 1) (.float (FP.fmul x y) :: rest)) : WA p l e R s m args below meth c g sz0 nL Q h cells slots lv (pc) (.float y :: .float x :: rest) := fun H locs ls hR hS hl => lv_fmul B.1 B.2.1 d hne (k H locs ls hR hS hl)
theorem r_fdiv (B : FX p s m args c cc own Ts nL g sz0) {x y : UInt32} (d : decode cc pc = .ok (.fdiv, 1)) (hne : vf_n32 (FP.fdiv x y)) (k : WA p l e R s m args below meth c g sz0 nL Q h cells slots lv (pc + 1) (.float (FP.fdiv x y) :: rest)) : WA p l e R s m args below meth c g sz0 nL Q h cells slots lv (pc) (.float y :: .float x :: rest) := fun H locs ls hR hS hl => lv_fdiv B.1 B.2.1 d hne (k H locs ls hR hS hl)
theorem r_fcmp (B : FX p s m args c cc own Ts nL g sz0) {x y : UInt32} {op : CmpOp} (d : decode cc pc = .ok (.fcmp op, 1))  (k : WA p l e R s m args below meth c g sz0 nL Q h cells slots lv (pc + 1) (.int (iI (i32z (Op.cmpValue (FP.fcmp x y) op))) :: rest)) : WA p l e R s m args below meth c g sz0 nL Q h cells slots lv (pc) (.float y :: .float x :: rest) := fun H locs ls hR hS hl => lv_fcmp B.1 B.2.1 d (by rw [← iI_i32z (Op.cmpValue (FP.fcmp x y) op)]; exact k H locs ls hR hS hl)
theorem r_ldcf (B : FX p s m args c cc own Ts nL g sz0) {i : Nat} {v : UInt32} (d : decode cc pc = .ok (.ldc i, 2)) (hw : Cond.constantFloat own i v ∈ Ts) (k : WA p l e R s m args below meth c g sz0 nL Q h cells slots lv (pc + 2) (.float v :: rest)) : WA p l e R s m args below meth c g sz0 nL Q h cells slots lv (pc) (rest) := fun H locs ls hR hS hl => lv_ldcf B.1 B.2.1 B.2.2.1 (B.2.2.2.1 _ hw) d (k H locs ls hR hS hl)
theorem r_f2bits (B : FX p s m args c cc own Ts nL g sz0) {idx : Nat} {b : UInt32} (d : decode cc pc = .ok (.invokestatic idx, 3)) (h1 : Cond.methodLink own idx ⟨"java/lang/Float", "floatToRawIntBits", "(F)I"⟩ ∈ Ts) (h2 : Cond.native ⟨"java/lang/Float", "floatToRawIntBits", "(F)I"⟩ ∈ Ts) (h3 : Cond.static ⟨"java/lang/Float", "floatToRawIntBits", "(F)I"⟩ ∈ Ts) (h4 : Cond.initialized "java/lang/Float" ∈ Ts) (hf : 1 ≤ R.frames) (hl1 : (rest.map fun v => v.category).sum + 15 ≤ R.locals) (k : WA p l e R s m args below meth c g sz0 nL Q h cells slots lv (pc + 3) (.int (iI (i32z b.toInt32)) :: rest)) : WA p l e R s m args below meth c g sz0 nL Q h cells slots lv pc (.float b :: rest) := fun H locs ls hR hS hl => vn_f2i B.1 B.2.1 (by rw [B.2.2.2.2.1]; first | exact hl.1 | exact hl.1.symm) B.2.2.1 (B.2.2.2.1 _ h1) (B.2.2.2.1 _ h2) (B.2.2.2.1 _ h3) (B.2.2.2.1 _ h4) hf hl1 d (by rw [← iI_i32z b.toInt32]; exact k H locs ls hR hS hl)
end RFL
theorem fz_ne {s : Int} (hs : 0 < s ∧ s < 2147483648) : ¬ Jvm.FP.Core.FZero (FP.i2f (iI s)) := fun z => by
  have h1 := (Jvm.FP.Core.zero_bits232 _).mp z
  refine Jvm.FP.Core.i2f_ne_zero (v := iI s) (fun y => ?_) h1
  have h2 := congrArg Int32.toInt y
  rw [iI_toInt (by omega)] at h2
  have h3 : (0 : Int32).toInt = 0 := by decide
  omega
/-- what a recovery takes: mountings, then bytes by speed -/
def mnF (a b s : Int) : UInt32 := FP.fadd (FP.i2f (iI a)) (FP.fdiv (FP.i2f (iI b)) (FP.i2f (iI s)))
theorem dv_ok {b s : Int} (hs : 0 < s ∧ s < 2147483648) : Jvm.FP.Core.fIsNaN (FP.fdiv (FP.i2f (iI b)) (FP.i2f (iI s))) = false := Jvm.FP.Core.fdiv_out (i2f_ok _) (Jvm.FP.Core.i2f_fin _) (fz_ne hs)
theorem mn_ok {a b s : Int} (hs : 0 < s ∧ s < 2147483648) : Jvm.FP.Core.fIsNaN (mnF a b s) = false := Jvm.FP.Core.fadd_out' (Jvm.FP.Core.i2f_fin _) (dv_ok hs)
noncomputable def mntM (mdata mends mmany mkind mchain mholds : Int → Int) (nights x k : Int) : Int := sumZ (fun j => bI (j = k ∨ ((0 < mkind (60 * x + j) ∧ mchain (60 * x + j) = mchain (60 * x + k)) ∧ exN (fun a => hldC (rowF mholds (60 * x + j)) (chk (rowF mdata (60 * x + j)) (rowF mends (60 * x + j))) (mmany (60 * x + j)) (chk (rowF mdata (60 * x + k)) (rowF mends (60 * x + k)) a)) (mmany (60 * x + k))))) nights.toNat
theorem fcl_self {x : UInt32} (h : Jvm.FP.Core.fIsNaN x = false) : i32z (Op.cmpValue (FP.fcmp x x) .l) = 0 := by
  have h1 : FP.fcmp x x = some .eq := Jvm.FP.Core.fcmp_self (fun z => by rw [(Jvm.FP.Core.fIsNaN_iff x).mpr z] at h; cases h)
  rw [h1]
  decide
theorem hv_ok {x : UInt32} (h : Jvm.FP.Core.fIsNaN x = false) : Jvm.FP.Core.fIsNaN (FP.fdiv x 1114636288) = false := Jvm.FP.Core.fdiv_out h ((Jvm.FP.Core.fin_bits32 _).mpr (by decide)) (fun z => absurd ((Jvm.FP.Core.zero_bits232 _).mp z) (by decide))
/-- a contract's start where the class has natives, but none in this method's place -/
theorem CT.ofF {l : Launch} {y : MethodName} {ws ws' : List Cond} {rm : Room} {g : GG} {sz0 : Nat} {As : List Value} {h : AH} {post : Option Value → AH → Prop} {cc : ByteArray} {maxL : Nat} {ret : Option FieldType} (hy : plainFor y = true) (hw : ws = Cond.code y cc maxL ret :: ws') (lv : LVs) (hlv : lvl lv 0 = lv_args 0 As) (hlen : (lg_sl As).length ≤ maxL)
    (body : ∀ (p : Program) (e : Env) (s : State) (m : MethodId) (args : Array Value) (below : List Frame) (meth : Method) (c : Code), FX p s m args c cc y.cls ws maxL g sz0 → meth.sig.returnType = ret → meth.locks = false → meth.name = y.name → WA p l e rm s m args below meth c g sz0 maxL (MQ below (QQ g sz0 post) args s rm.cells rm.slots (A0 sz0)) h 0 0 lv 0 []) : CT l y ws rm g sz0 As h post := by
  unfold CT Met
  refine MetFree.of_bodySF (code := cc) (maxLocals := maxL) (ret := ret) hy ?_ ?_
  · intro args s m hpre hn
    have h9 := Cond.code_spec hn (atoms_spec (ws := ws) hpre _ (by rw [hw]; exact List.mem_cons_self))
    exact ⟨h9.choose, h9.choose_spec.choose, h9.choose_spec.choose_spec.1, h9.choose_spec.choose_spec.2.1, h9.choose_spec.choose_spec.2.2.1, h9.choose_spec.choose_spec.2.2.2.1, h9.choose_spec.choose_spec.2.2.2.2.1, h9.choose_spec.choose_spec.2.2.2.2.2.1⟩
  · intro p e s m args below meth c s₁ B hml hv _
    have hh0 : s₁.heap = s.heap := by rw [B.state]; rfl
    obtain ⟨rfl, hCX, hR⟩ := hv
    have hl := lv_entry As (n := maxL) hlen
    have hb := body p e s m _ below meth c ⟨B.exec, B.bytes, findClass_of_methodNamed B.named, atoms_spec (ws := ws) B.pre, hml, hCX, hR.1⟩ B.returns B.notSynchronized (name_of_methodNamed B.named B.method).1
    have hb2 := hb s.heap [] _ hR va_S.rf (LV.entry hl hlv)
    rw [← lg_entry_eq] at hb2
    obtain ⟨t, a1, o, b1, b2, b3⟩ := hb2 s₁ hh0 (Stand.of_body B)
    exact ⟨t, o, a1, b1, b2, ⟨b3.1, b3.2⟩⟩
section RWR
variable {p : Program} {l : Launch} {e : Env} {R : Room} {s : State} {m : MethodId} {args : Array Value} {below : List Frame} {meth : Method} {c : Code} {cells slots : Nat} {Q : State → Prop}
variable {g : GG} {sz0 nL : Nat} {h : AH} {lv : LVs} {pc : Nat} {rest : List Value}
theorem r_wrap {z : Int} (k : WA p l e R s m args below meth c g sz0 nL Q h cells slots lv pc (.int (iI (i32z (iI z))) :: rest)) : WA p l e R s m args below meth c g sz0 nL Q h cells slots lv pc (.int (iI z) :: rest) := by
  rw [iI_i32z] at k
  exact k
end RWR
/-- begun minutes, as the float tells them -/
noncomputable def upF (v : UInt32) : Int := @ite Int (0 < i32z (Op.cmpValue (FP.fcmp v (FP.i2f (iI (i32z (FP.f2i v))))) .l)) (Classical.propDecidable _) (i32z (iI (i32z (FP.f2i v) + 1))) (i32z (FP.f2i v))
theorem upF_t {v : UInt32} (z : 0 < i32z (Op.cmpValue (FP.fcmp v (FP.i2f (iI (i32z (FP.f2i v))))) .l)) : upF v = i32z (iI (i32z (FP.f2i v) + 1)) := @if_pos _ (Classical.propDecidable _) z _ _ _
theorem upF_f {v : UInt32} (z : ¬ 0 < i32z (Op.cmpValue (FP.fcmp v (FP.i2f (iI (i32z (FP.f2i v))))) .l)) : upF v = i32z (FP.f2i v) := @if_neg _ (Classical.propDecidable _) z _ _ _
theorem upF_rng (v : UInt32) : -2147483648 ≤ upF v ∧ upF v < 2147483648 := by
  unfold upF
  split <;> exact i32z_rng _
noncomputable def amtF (v : UInt32) (coin : Int) : Int := @ite Int (0 < upF v) (Classical.propDecidable _) (upF v * coin) 0
theorem amtF_t {v : UInt32} {coin : Int} (z : 0 < upF v) : amtF v coin = upF v * coin := @if_pos _ (Classical.propDecidable _) z _ _ _
theorem amtF_f {v : UInt32} {coin : Int} (z : ¬ 0 < upF v) : amtF v coin = 0 := @if_neg _ (Classical.propDecidable _) z _ _ _
