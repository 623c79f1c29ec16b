section RTQ
variable {p : Program} {l : Launch} {e : Env} {R : Room} {s : State} {m : MethodId} {args : Array Value} {below : List Frame} {meth : Method} {c : Code} {cells slots : Nat} {Q : State → Prop}
variable {g : GG} {sz0 nL : Nat} {h : AH} {lv : LVs} {pc : Nat} {rest : List Value}
theorem r_topq {a : Nat} (k : WA p l e R s m args below meth c g sz0 nL Q h cells slots lv pc (va_rf (some a) :: rest)) : WA p l e R s m args below meth c g sz0 nL Q h cells slots lv pc (.ref a :: rest) := k
theorem r_topr {a : Nat} {o : Option Nat} (e1 : o = some a) (k : WA p l e R s m args below meth c g sz0 nL Q h cells slots lv pc (.ref a :: rest)) : WA p l e R s m args below meth c g sz0 nL Q h cells slots lv pc (va_rf o :: rest) := by subst e1; exact k
end RTQ
/-- a row of chunks: its object, its array, its chunks -/
def RW (g : GG) (r ra : Nat) (fq : Int → Option Nat) (K : Int → Nat) (cn : Int) (h : AH) : Prop := h r = some (oE 2 [.ref ra, .int (iI cn)]) ∧ h ra = some (qE g 4 48 fq) ∧ (0 ≤ cn ∧ cn ≤ 48) ∧ ∀ j : Int, 0 ≤ j → j < cn → fq j = some (K j)
/-- every chunk of a row is a kept chunk -/
def RK (g : GG) (CA : Nat → Nat) (PV : Nat → Option Nat) (CF : Nat → Int → Int) (CN : Nat → Int) (K : Int → Nat) (cn : Int) (h : AH) : Prop := ∀ j : Int, 0 ≤ j → j < cn → CK g (K j) (CA (K j)) (PV (K j)) (CF (K j)) (CN (K j)) h
/-- a chunk is a file's run -/
def runP (CF : Nat → Int → Int) (CN : Nat → Int) (G : Int → Int) (u w : Int) (k : Nat) : Prop := CN k = w ∧ allN (fun j => CF k j = G (u + j)) (CN k)
def digK (CF : Nat → Int → Int) (CN : Nat → Int) (K : Int → Nat) : Nat → Int64
  | 0 => Int64.ofNat 0
  | n + 1 => digF (digK CF CN K n) (CF (K (n : Int))) (CN (K (n : Int))).toNat
theorem digK_s (CF : Nat → Int → Int) (CN : Nat → Int) (K : Int → Nat) {k : Int} (hk : 0 ≤ k) : digK CF CN K (k + 1).toNat = digF (digK CF CN K k.toNat) (CF (K k)) (CN (K k)).toNat := by
  rw [show (k + 1).toNat = k.toNat + 1 by omega]
  show digF (digK CF CN K k.toNat) (CF (K (k.toNat : Int))) (CN (K (k.toNat : Int))).toNat = _
  rw [show ((k.toNat : Nat) : Int) = k by omega]
