/-- some link of the chain holds a chunk of these bytes -/
def chP (CF : Nat → Int → Int) (CN : Nat → Int) (HK1 : Nat → Int → Nat) (HN : Nat → Int) (La : Int → Nat) (len : Int) (w : List Int) : Prop := exN (fun i => exN (fun j => cont (CF (HK1 (La i) j)) (CN (HK1 (La i) j)) = w) (HN (La i))) len
theorem ch_iff {g : GG} {h : AH} {CA : Nat → Nat} {PV : Nat → Option Nat} {CF : Nat → Int → Int} {CN : Nat → Int} {HK1 : Nat → Int → Nat} {HN : Nat → Int} {La : Int → Nat} {len : Int} {G Eg : Int → Int} {pt k : Int} (hHK : ∀ i : Int, 0 ≤ i → i < len → RK g CA PV CF CN (HK1 (La i)) (HN (La i)) h) (hE : EOK Eg pt) (k0 : 0 ≤ k) (k1 : k < pt) : chRun CF CN HK1 HN G (bgF Eg k) (lnF Eg k) La len ↔ chP CF CN HK1 HN La len (chk G Eg k) := by
  have he := hE k k0 k1
  have hl : lnF Eg k = Eg k - bgF Eg k := rfl
  unfold chRun chP runP
  constructor
  · rintro ⟨i, i0, i1, j, j0, j1, z⟩
    exact ⟨i, i0, i1, j, j0, j1, (cont_chk (hHK i i0 i1 j j0 j1).2.2.1.1 rfl rfl (by omega)).mp z⟩
  · rintro ⟨i, i0, i1, j, j0, j1, z⟩
    exact ⟨i, i0, i1, j, j0, j1, (cont_chk (hHK i i0 i1 j j0 j1).2.2.1.1 rfl rfl (by omega)).mpr z⟩
theorem lb_dif {g : GG} {h : AH} {CA : Nat → Nat} {PV : Nat → Option Nat} {CF : Nat → Int → Int} {CN : Nat → Int} {HK1 : Nat → Int → Nat} {HN : Nat → Int} {La : Int → Nat} {len : Int} {G Eg : Int → Int} {pt : Int} (hp : 0 ≤ pt) (hHK : ∀ i : Int, 0 ≤ i → i < len → RK g CA PV CF CN (HK1 (La i)) (HN (La i)) h) (hE : EOK Eg pt) : pt + sumZ (fun k => bI (fstC (chk G Eg) k ∧ ¬ chRun CF CN HK1 HN G (bgF Eg k) (lnF Eg k) La len) * lnF Eg k) pt.toNat = difB G Eg pt (chP CF CN HK1 HN La len) := by
  unfold difB
  congr 1
  refine sumZ_congr fun k k0 k1 => ?_
  have := ch_iff (G := G) hHK hE k0 (by omega)
  show bI (_ ∧ ¬ _) * _ = bI (_ ∧ ¬ _) * _
  rw [this]
