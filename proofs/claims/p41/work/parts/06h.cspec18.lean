/-- a client's address, none for none -/
def clO (A : Nat → Nat) (i : Int) : Option Nat := if i < 0 then none else some (A (7 + 5 * i.toNat))
theorem clO_n {A : Nat → Nat} {i : Int} (h : i < 0) : clO A i = none := if_pos h
theorem clO_i {A : Nat → Nat} {i : Int} (h : 0 ≤ i) : clO A i = some (A (7 + 5 * i.toNat)) := if_neg (by omega)
theorem clO_some {A : Nat → Nat} {i : Int} {a : Nat} (h : clO A i = some a) : 0 ≤ i ∧ clO A i = some (A (7 + 5 * i.toNat)) := by
  by_cases z : i < 0
  · rw [clO_n z] at h; cases h
  · exact ⟨by omega, clO_i (by omega)⟩
theorem clO_none {A : Nat → Nat} {i : Int} (h : clO A i = none) : i < 0 := by
  by_cases z : i < 0
  · exact z
  · rw [clO_i (by omega)] at h; cases h
/-- who waits with the greatest bid, the first of them -/
def nxW (wt bd : Int → Int) : Nat → Int
  | 0 => -1
  | k + 1 => if ¬ wt (k : Int) = 0 ∧ (nxW wt bd k = -1 ∨ bd (nxW wt bd k) < bd (k : Int)) then (k : Int) else nxW wt bd k
theorem nxW_t {wt bd : Int → Int} {q : Int} (hq : 0 ≤ q) (h : ¬ wt q = 0 ∧ (nxW wt bd q.toNat = -1 ∨ bd (nxW wt bd q.toNat) < bd q)) : nxW wt bd (q + 1).toNat = q := by
  rw [show (q + 1).toNat = q.toNat + 1 by omega]
  unfold nxW
  rw [show ((q.toNat : Nat) : Int) = q by omega, if_pos h]
theorem nxW_f {wt bd : Int → Int} {q : Int} (hq : 0 ≤ q) (h : ¬ (¬ wt q = 0 ∧ (nxW wt bd q.toNat = -1 ∨ bd (nxW wt bd q.toNat) < bd q))) : nxW wt bd (q + 1).toNat = nxW wt bd q.toNat := by
  rw [show (q + 1).toNat = q.toNat + 1 by omega]
  conv => lhs; unfold nxW
  rw [show ((q.toNat : Nat) : Int) = q by omega, if_neg h]
theorem nxW_rng (wt bd : Int → Int) : ∀ n : Nat, -1 ≤ nxW wt bd n ∧ nxW wt bd n < (n : Int)
  | 0 => by show -1 ≤ (-1 : Int) ∧ (-1 : Int) < _; omega
  | n + 1 => by
    have := nxW_rng wt bd n
    unfold nxW
    split <;> omega
theorem nxW_ok (wt bd : Int → Int) : ∀ n : Nat, (nxW wt bd n = -1 → ∀ d : Int, 0 ≤ d → d < (n : Int) → wt d = 0) ∧ (¬ nxW wt bd n = -1 → ¬ wt (nxW wt bd n) = 0 ∧ ∀ d : Int, 0 ≤ d → d < (n : Int) → ¬ wt d = 0 → d = nxW wt bd n ∨ aheadP bd (nxW wt bd n) d)
  | 0 => ⟨fun _ d d0 d1 => by omega, fun h => absurd rfl h⟩
  | n + 1 => by
    have ih := nxW_ok wt bd n
    have hr := nxW_rng wt bd n
    unfold nxW
    split
    · rename_i c
      refine ⟨fun h => by omega, fun _ => ⟨c.1, fun d d0 d1 hd => ?_⟩⟩
      by_cases e : d = (n : Int)
      · exact Or.inl e
      · right
        rcases c.2 with y | y
        · exact absurd (ih.1 y d d0 (by omega)) hd
        · have h3 : ¬ nxW wt bd n = -1 := fun w => hd (ih.1 w d d0 (by omega))
          rcases (ih.2 h3).2 d d0 (by omega) hd with z | z
          · rw [z]; exact Or.inl y
          · unfold aheadP at z ⊢; omega
    · rename_i c
      refine ⟨fun h d d0 d1 => ?_, fun h => ⟨(ih.2 h).1, fun d d0 d1 hd => ?_⟩⟩
      · by_cases e : d = (n : Int)
        · subst e
          exact Classical.byContradiction fun w => c ⟨w, Or.inl h⟩
        · exact ih.1 h d d0 (by omega)
      · by_cases e : d = (n : Int)
        · subst e
          right
          have : ¬ bd (nxW wt bd n) < bd (n : Int) := fun w => c ⟨hd, Or.inr w⟩
          unfold aheadP
          omega
        · exact (ih.2 h).2 d d0 (by omega) hd
/-- the price and the clients' prices, from the last turn on -/
noncomputable def prS (gt bd tu : Int → Int) (rs : Int) (pc : Int → Int) : Nat → Int × (Int → Int)
  | 0 => (rs, pc)
  | n + 1 => if tu (3 - (n : Int)) < 0 then prS gt bd tu rs pc n else if gt (tu (3 - (n : Int))) = 0 then (mxZ (prS gt bd tu rs pc n).1 (bd (tu (3 - (n : Int)))), (prS gt bd tu rs pc n).2) else ((prS gt bd tu rs pc n).1, upZ (prS gt bd tu rs pc n).2 (tu (3 - (n : Int))) (prS gt bd tu rs pc n).1)
section
variable {gt bd tu pc : Int → Int} {rs q : Int}
theorem prS_s (hq : 0 ≤ q ∧ q ≤ 3) : prS gt bd tu rs pc (3 - (q - 1)).toNat = if tu q < 0 then prS gt bd tu rs pc (3 - q).toNat else if gt (tu q) = 0 then (mxZ (prS gt bd tu rs pc (3 - q).toNat).1 (bd (tu q)), (prS gt bd tu rs pc (3 - q).toNat).2) else ((prS gt bd tu rs pc (3 - q).toNat).1, upZ (prS gt bd tu rs pc (3 - q).toNat).2 (tu q) (prS gt bd tu rs pc (3 - q).toNat).1) := by
  rw [show (3 - (q - 1)).toNat = (3 - q).toNat + 1 by omega]
  conv => lhs; unfold prS
  rw [show 3 - (((3 - q).toNat : Nat) : Int) = q by omega]
theorem prS_n (hq : 0 ≤ q ∧ q ≤ 3) (h : tu q < 0) : prS gt bd tu rs pc (3 - (q - 1)).toNat = prS gt bd tu rs pc (3 - q).toNat := by rw [prS_s hq, if_pos h]
theorem prS_0 (hq : 0 ≤ q ∧ q ≤ 3) (h : 0 ≤ tu q) (hg : gt (tu q) = 0) : prS gt bd tu rs pc (3 - (q - 1)).toNat = (mxZ (prS gt bd tu rs pc (3 - q).toNat).1 (bd (tu q)), (prS gt bd tu rs pc (3 - q).toNat).2) := by rw [prS_s hq, if_neg (by omega), if_pos hg]
theorem prS_1 (hq : 0 ≤ q ∧ q ≤ 3) (h : 0 ≤ tu q) (hg : ¬ gt (tu q) = 0) : prS gt bd tu rs pc (3 - (q - 1)).toNat = ((prS gt bd tu rs pc (3 - q).toNat).1, upZ (prS gt bd tu rs pc (3 - q).toNat).2 (tu q) (prS gt bd tu rs pc (3 - q).toNat).1) := by rw [prS_s hq, if_neg (by omega), if_neg hg]
theorem prS_rng (hr : 0 ≤ rs ∧ rs ≤ 100) (hb : ∀ x : Int, 0 ≤ x → x ≤ 3 → 0 ≤ bd x ∧ bd x ≤ 100) (ht : ∀ i : Int, 0 ≤ i → i < 4 → tu i ≤ 3) : ∀ n : Nat, n ≤ 4 → 0 ≤ (prS gt bd tu rs pc n).1 ∧ (prS gt bd tu rs pc n).1 ≤ 100
  | 0, _ => hr
  | n + 1, hn => by
    have ih := prS_rng hr hb ht n (by omega)
    have h1 := ht (3 - (n : Int)) (by omega) (by omega)
    unfold prS
    split
    · exact ih
    · split
      · have h2 := hb (tu (3 - (n : Int))) (by omega) h1
        show 0 ≤ mxZ _ _ ∧ mxZ _ _ ≤ 100
        unfold mxZ
        split <;> omega
      · exact ih
end
section RAQ
variable {p : Program} {l : Launch} {e : Env} {R : Room} {s : State} {m : MethodId} {args : Array Value} {below : List Frame} {meth : Method} {c : Code} {cells slots : Nat} {Q : State → Prop}
variable {g : GG} {sz0 nL : Nat} {h : AH} {cc : ByteArray} {own : String} {Ts : List Cond} {lv : LVs} {pc : Nat} {rest : List Value}
theorem r_aastq (B : FX p s m args c cc own Ts nL g sz0) {a n t0 ci : Nat} {o : Option Nat} {r : vw_C} {f : Int → Option Nat} {i : Int} (d : decode cc pc = .ok (.aastore, 1)) (ht : (tysA g)[t0]? = some (g.2.1 t0, .object r.1)) (hc : vwCl[ci]? = some r) (ha : h a = some (qE g t0 n f)) (hv : ∀ v : Nat, o = some v → ∃ vs : List Value, h v = some (oE ci vs)) (hn : n < 2147483648) (h0 : 0 ≤ i) (h1 : i < (n : Int)) (k : WA p l e R s m args below meth c g sz0 nL Q (ah_up h a (qE g t0 n (upQ f i o))) cells slots lv (pc + 1) (rest)) : WA p l e R s m args below meth c g sz0 nL Q h cells slots lv (pc) (va_rf o :: .int (iI i) :: .ref a :: rest) := by
  cases o with
  | none => exact r_aastN B d ht ha hn h0 h1 k
  | some v =>
    obtain ⟨vs, e⟩ := hv v rfl
    exact r_aast B d ht hc ha e hn h0 h1 k
end RAQ
