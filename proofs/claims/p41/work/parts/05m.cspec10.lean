def upK (K : Int → Nat) (n : Int) (z : Nat) : Int → Nat := fun j => if j = n then z else K j
theorem qoe_ne {g : GG} {h : AH} {ci n t : Nat} {fs : List Value} {F : Int → Option Nat} {a b : Nat} (h1 : h a = some (oE ci fs)) (h2 : h b = some (qE g t n F)) : a ≠ b := fun z => by
  rw [z, h2] at h1
  exact absurd (Option.some.inj h1) (by intro y; cases y)
theorem RW.arr {g : GG} {r ra : Nat} {fq : Int → Option Nat} {K : Int → Nat} {cn : Int} {h : AH} {z : Nat} (hR : RW g r ra fq K cn h) : RW g r ra (upQ fq cn (some z)) K cn (ah_up h ra (qE g 4 48 (upQ fq cn (some z)))) := by
  obtain ⟨p1, p2, p3, p4⟩ := hR
  exact ⟨(if_neg (qoe_ne p1 p2)).trans p1, if_pos rfl, p3, fun j j0 j1 => (upQ_ne fq (some z) (by omega)).trans (p4 j j0 j1)⟩
theorem RW.cnt {g : GG} {r ra : Nat} {fq : Int → Option Nat} {K : Int → Nat} {cn : Int} {h : AH} {z : Nat} (hR : RW g r ra fq K cn h) (hc : cn < 48) (hz : fq cn = some z) : RW g r ra fq (upK K cn z) (cn + 1) (ah_up h r (oE 2 [.ref ra, .int (iI (cn + 1))])) := by
  obtain ⟨p1, p2, p3, p4⟩ := hR
  refine ⟨if_pos rfl, (if_neg (fun y => qoe_ne p1 p2 y.symm)).trans p2, by omega, fun j j0 j1 => ?_⟩
  unfold upK
  by_cases y : j = cn
  · rw [if_pos y, y, hz]
  · rw [if_neg y]; exact p4 j j0 (by omega)
/-- the bytes of a new chunk, filled up to q -/
def filC (G : Int → Int) (u q : Int) : Int → Int := fun j => if 0 ≤ j ∧ j < q then G (u + j) else 0
theorem filC_0 (G : Int → Int) (u : Int) : filC G u 0 = fun _ => 0 := by funext j; unfold filC; rw [if_neg (by omega)]
theorem filC_s (G : Int → Int) (u : Int) {q : Int} (hq : 0 ≤ q) : upZ (filC G u q) q (G (u + q)) = filC G u (q + 1) := by
  funext j
  unfold upZ filC
  by_cases z : j = q
  · rw [if_pos z, if_pos (by omega), z]
  · rw [if_neg z]
    by_cases y : 0 ≤ j ∧ j < q
    · rw [if_pos y, if_pos (by omega)]
    · rw [if_neg y, if_neg (by omega)]
theorem filC_r {G : Int → Int} (hG : ∀ i, -2147483648 ≤ G i ∧ G i < 2147483648) (u q i : Int) : -2147483648 ≤ filC G u q i ∧ filC G u q i < 2147483648 := by
  unfold filC
  split
  · exact hG _
  · omega
theorem FL.mv {g : GG} {f ac ae : Nat} {G Eg : Int → Int} {sz pt : Int} {h0 h h' : AH} (hF : FL g f ac ae G Eg sz pt h0 h) (e1 : h' f = h f) (e2 : h' ac = h ac) (e3 : h' ae = h ae) : FL g f ac ae G Eg sz pt h' h' :=
  FL.base (e1.trans hF.1) (e2.trans hF.2.1) (e3.trans hF.2.2.1) hF.2.2.2.1 hF.2.2.2.2.1 hF.2.2.2.2.2.1
theorem sm_ne {h : AH} {a : Nat} {x : va_E} (hx : h a = some x) : h a ≠ none := fun z => by rw [hx] at z; cases z
theorem oci_ne {h : AH} {ci cj : Nat} {fs gs : List Value} {a b : Nat} (h1 : h a = some (oE ci fs)) (h2 : h b = some (oE cj gs)) (hc : ci ≠ cj) : a ≠ b := fun z => by
  rw [z, h2] at h1
  have h3 := Option.some.inj h1
  exact hc (by injection h3 with h4; injection h4 with h5; exact h5.symm)
theorem RW.mv {g : GG} {r ra : Nat} {fq : Int → Option Nat} {K : Int → Nat} {cn : Int} {h h' : AH} (hR : RW g r ra fq K cn h) (e1 : h' r = h r) (e2 : h' ra = h ra) : RW g r ra fq K cn h' := ⟨e1.trans hR.1, e2.trans hR.2.1, hR.2.2⟩
