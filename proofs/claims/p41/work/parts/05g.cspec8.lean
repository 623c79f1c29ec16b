def mxZ (a b : Int) : Int := if a < b then b else a
def mnZ (a b : Int) : Int := if b < a then b else a
section RMM
variable {p : Program} {l : Launch} {e : Env} {R : Room} {s : State} {m : MethodId} {args : Array Value} {below : List Frame} {meth : Method} {c : Code} {cells slots : Nat} {Q : State → Prop}
variable {g : GG} {sz0 nL : Nat} {h : AH} {cc : ByteArray} {own : String} {Ts : List Cond} {lv : LVs} {pc : Nat} {rest : List Value}
theorem r_mmax (B : FX p s m args c cc own Ts nL g sz0) {idx : Nat} {x y : Int} (d : decode cc pc = .ok (.invokestatic idx, 3)) (h1 : Cond.methodLink own idx Lib.Math.max.name ∈ Ts) (h2 : Cond.static Lib.Math.max.name ∈ Ts) (h3 : Cond.initialized "java/lang/Math" ∈ Ts) (h4 : Cond.code Lib.Math.max.name Lib.Math.max.code 2 (some .int) ∈ Ts) (hx : -2147483648 ≤ x ∧ x < 2147483648) (hy : -2147483648 ≤ y ∧ y < 2147483648) (hf : 1 ≤ R.frames) (hl1 : (rest.map fun v => v.category).sum + 13 ≤ R.locals) (hc : cells ≤ R.cells) (hs : slots ≤ R.slots) (k : WA p l e R s m args below meth c g sz0 nL Q h cells slots lv (pc + 3) (.int (iI (mxZ x y)) :: rest)) : WA p l e R s m args below meth c g sz0 nL Q h cells slots lv pc (.int (iI y) :: .int (iI x) :: rest) := fun H locs ls hR hS hl => va_mmax B.1 B.2.1 (by rw [B.2.2.2.2.1]; first | exact hl.1 | exact hl.1.symm) B.2.2.1 (B.2.2.2.1 _ h1) (B.2.2.2.1 _ h2) (B.2.2.2.1 _ h3) (B.2.2.2.1 _ h4) hf hl1 hc hs d (by
    rw [show (if iI x < iI y then iI y else iI x) = iI (mxZ x y) by
      unfold mxZ
      by_cases z : x < y
      · rw [if_pos z, if_pos ((iI_lt hx hy).mpr z)]
      · rw [if_neg z, if_neg (fun w => z ((iI_lt hx hy).mp w))]]
    exact k H locs ls hR hS hl)
theorem r_mmin (B : FX p s m args c cc own Ts nL g sz0) {idx : Nat} {x y : Int} (d : decode cc pc = .ok (.invokestatic idx, 3)) (h1 : Cond.methodLink own idx Lib.Math.min.name ∈ Ts) (h2 : Cond.static Lib.Math.min.name ∈ Ts) (h3 : Cond.initialized "java/lang/Math" ∈ Ts) (h4 : Cond.code Lib.Math.min.name Lib.Math.min.code 2 (some .int) ∈ Ts) (hx : -2147483648 ≤ x ∧ x < 2147483648) (hy : -2147483648 ≤ y ∧ y < 2147483648) (hf : 1 ≤ R.frames) (hl1 : (rest.map fun v => v.category).sum + 13 ≤ R.locals) (hc : cells ≤ R.cells) (hs : slots ≤ R.slots) (k : WA p l e R s m args below meth c g sz0 nL Q h cells slots lv (pc + 3) (.int (iI (mnZ x y)) :: rest)) : WA p l e R s m args below meth c g sz0 nL Q h cells slots lv pc (.int (iI y) :: .int (iI x) :: rest) := fun H locs ls hR hS hl => va_mmin B.1 B.2.1 (by rw [B.2.2.2.2.1]; first | exact hl.1 | exact hl.1.symm) B.2.2.1 (B.2.2.2.1 _ h1) (B.2.2.2.1 _ h2) (B.2.2.2.1 _ h3) (B.2.2.2.1 _ h4) hf hl1 hc hs d (by
    rw [show (if iI y < iI x then iI y else iI x) = iI (mnZ x y) by
      unfold mnZ
      by_cases z : y < x
      · rw [if_pos z, if_pos ((iI_lt hy hx).mpr z)]
      · rw [if_neg z, if_neg (fun w => z ((iI_lt hy hx).mp w))]]
    exact k H locs ls hR hS hl)
end RMM
/-- begun minutes, as the class tells them -/
noncomputable def upC (v : UInt32) : Int := @ite Int (i32z (Op.cmpValue (FP.fcmp (FP.i2f (iI (i32z (FP.f2i v)))) v) .g) < 0) (Classical.propDecidable _) (i32z (iI (i32z (FP.f2i v) + 1))) (i32z (FP.f2i v))
theorem upC_t {v : UInt32} (z : i32z (Op.cmpValue (FP.fcmp (FP.i2f (iI (i32z (FP.f2i v)))) v) .g) < 0) : upC v = i32z (iI (i32z (FP.f2i v) + 1)) := @if_pos _ (Classical.propDecidable _) z _ _ _
theorem upC_f {v : UInt32} (z : ¬ i32z (Op.cmpValue (FP.fcmp (FP.i2f (iI (i32z (FP.f2i v)))) v) .g) < 0) : upC v = i32z (FP.f2i v) := @if_neg _ (Classical.propDecidable _) z _ _ _
/-- 1 where a link stands -/
def nzL (ln : Int → Option Nat) (j : Int) : Int := match ln j with
  | none => 0
  | some _ => 1
theorem nzL_0 {ln : Int → Option Nat} {j : Int} (h : ln j = none) : nzL ln j = 0 := by unfold nzL; rw [h]
theorem nzL_1 {ln : Int → Option Nat} {j : Int} {a : Nat} (h : ln j = some a) : nzL ln j = 1 := by unfold nzL; rw [h]
