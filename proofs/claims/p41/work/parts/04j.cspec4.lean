/-- a kept chunk: its object and its bytes -/
def CK (g : GG) (k ca : Nat) (pv : Option Nat) (F : Int → Int) (n : Int) (h : AH) : Prop := h k = some (oE 1 [.ref ca, va_rf pv]) ∧ h ca = some (iE g n.toNat F) ∧ (0 ≤ n ∧ n ≤ 48) ∧ ∀ i, inR (F i)
section
variable {g : GG} {k ca : Nat} {pv : Option Nat} {F : Int → Int} {n : Int} {h : AH}
theorem CK.nn (hC : CK g k ca pv F n h) : ((n.toNat : Nat) : Int) = n := by have := hC.2.2.1; omega
theorem CK.b (hC : CK g k ca pv F n h) : n.toNat < 2147483648 := by have := hC.2.2.1; omega
theorem CK.r (hC : CK g k ca pv F n h) (i : Int) : -2147483648 ≤ F i ∧ F i < 2147483648 := hC.2.2.2 i
end
/-- the bytes of a chunk -/
def cont (F : Int → Int) (n : Int) : List Int := List.map (fun (j : Nat) => F (j : Int)) (List.range n.toNat)
theorem cont_len (F : Int → Int) (n : Int) : (cont F n).length = n.toNat := by simp [cont]
theorem cont_chk {F G E : Int → Int} {n w u k : Int} (hn : 0 ≤ n) (hu : u = bgF E k) (hw : w = lnF E k) (h0 : 0 ≤ w) : (n = w ∧ allN (fun j => F j = G (u + j)) n) ↔ cont F n = chk G E k := by
  constructor
  · rintro ⟨a, b⟩
    unfold cont chk
    rw [a, hw]
    refine List.map_congr_left fun j hj => ?_
    rw [List.mem_range] at hj
    have := b (j : Int) (by omega) (by omega)
    rw [← hu]
    exact this
  · intro z
    have hl := congrArg List.length z
    rw [cont_len, chk_len] at hl
    have e : n = w := by omega
    refine ⟨e, fun j j0 j1 => ?_⟩
    have h1 : (cont F n)[j.toNat]? = (chk G E k)[j.toNat]? := by rw [z]
    unfold cont chk at h1
    rw [List.getElem?_map, List.getElem?_map, List.getElem?_range (by omega), List.getElem?_range (by omega)] at h1
    have h2 : F ((j.toNat : Nat) : Int) = G (bgF E k + ((j.toNat : Nat) : Int)) := Option.some.inj h1
    rw [show ((j.toNat : Nat) : Int) = j by omega, ← hu] at h2
    exact h2
/-- the fold of a chunk's bytes -/
def digF (x : Int64) (F : Int → Int) : Nat → Int64
  | 0 => x
  | n + 1 => dstep (digF x F n) (F (n : Int))
theorem digF_s (x : Int64) (F : Int → Int) {k : Int} (hk : 0 ≤ k) : digF x F (k + 1).toNat = dstep (digF x F k.toNat) (F k) := by
  rw [show (k + 1).toNat = k.toNat + 1 by omega]
  show dstep _ (F (k.toNat : Int)) = _
  rw [show ((k.toNat : Nat) : Int) = k by omega]
