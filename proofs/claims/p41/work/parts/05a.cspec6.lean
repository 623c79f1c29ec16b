section RTO
variable {p : Program} {l : Launch} {e : Env} {R : Room} {s : State} {m : MethodId} {args : Array Value} {below : List Frame} {meth : Method} {c : Code} {cells slots : Nat} {Q : State → Prop}
variable {g : GG} {sz0 nL : Nat} {h : AH} {lv : LVs} {pc : Nat} {rest : List Value}
theorem r_topo {a : Nat} {o : Option Nat} (e1 : o = some a) (k : WA p l e R s m args below meth c g sz0 nL Q h cells slots lv pc (va_rf o :: rest)) : WA p l e R s m args below meth c g sz0 nL Q h cells slots lv pc (.ref a :: rest) := by subst e1; exact k
theorem r_topv {o o' : Option Nat} (e1 : o = o') (k : WA p l e R s m args below meth c g sz0 nL Q h cells slots lv pc (va_rf o' :: rest)) : WA p l e R s m args below meth c g sz0 nL Q h cells slots lv pc (va_rf o :: rest) := by subst e1; exact k
end RTO
/-- the i-th link of a chain, none behind its end -/
def ptr (La : Int → Nat) (len i : Int) : Option Nat := if i < len then some (La i) else none
theorem ptr_in {La : Int → Nat} {len i : Int} (hi : i < len) : ptr La len i = some (La i) := if_pos hi
theorem ptr_out {La : Int → Nat} {len i : Int} (hi : ¬ i < len) : ptr La len i = none := if_neg hi
theorem ptr_some {La : Int → Nat} {len i : Int} {a : Nat} (hp : ptr La len i = some a) : i < len := by
  by_cases z : i < len
  · exact z
  · rw [ptr_out z] at hp; cases hp
theorem ptr_none {La : Int → Nat} {len i : Int} (hp : ptr La len i = none) : ¬ i < len := fun z => by rw [ptr_in z] at hp; cases hp
/-- a link: its object and its two rows; what it stands on and what lies in them is told by its address -/
def LKA (g : GG) (LE : Nat → Option Nat) (RK1 : Nat → Int → Nat) (RN : Nat → Int) (HK1 : Nat → Int → Nat) (HN : Nat → Int) (a : Nat) (h : AH) : Prop := ∃ (rr rra rh rha : Nat) (fq1 fq2 : Int → Option Nat), h a = some (oE 5 [va_rf (LE a), .ref rr, .ref rh]) ∧ RW g rr rra fq1 (RK1 a) (RN a) h ∧ RW g rh rha fq2 (HK1 a) (HN a) h
/-- a chain of links, the latest first -/
def CHN (g : GG) (LE : Nat → Option Nat) (RK1 : Nat → Int → Nat) (RN : Nat → Int) (HK1 : Nat → Int → Nat) (HN : Nat → Int) (La : Int → Nat) (len : Int) (h : AH) : Prop := ∀ i : Int, 0 ≤ i → i < len → LE (La i) = ptr La len (i + 1) ∧ LKA g LE RK1 RN HK1 HN (La i) h
/-- some link of the chain holds the chunk -/
def chHas (HK1 : Nat → Int → Nat) (HN : Nat → Int) (La : Int → Nat) (len : Int) (z : Nat) : Prop := exN (fun i => exN (fun j => HK1 (La i) j = z) (HN (La i))) len
def chRun (CF : Nat → Int → Int) (CN : Nat → Int) (HK1 : Nat → Int → Nat) (HN : Nat → Int) (G : Int → Int) (u w : Int) (La : Int → Nat) (len : Int) : Prop := exN (fun i => exN (fun j => runP CF CN G u w (HK1 (La i) j)) (HN (La i))) len
theorem not_exN {P : Int → Prop} {n : Int} (h : allN (fun i => ¬ P i) n) : ¬ exN P n := fun y => by obtain ⟨i, y0, y1, y2⟩ := y; exact h i y0 y1 y2
