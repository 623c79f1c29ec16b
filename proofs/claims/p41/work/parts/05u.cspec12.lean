/-- the house's chain of kept chunks -/
def HCH (g : GG) (CA : Nat → Nat) (PV : Nat → Option Nat) (CF : Nat → Int → Int) (CN : Nat → Int) (Ha : Int → Nat) (hn : Int) (h : AH) : Prop := ∀ i : Int, 0 ≤ i → i < hn → PV (Ha i) = ptr Ha hn (i + 1) ∧ CK g (Ha i) (CA (Ha i)) (PV (Ha i)) (CF (Ha i)) (CN (Ha i)) h
