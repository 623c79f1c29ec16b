theorem LKA.mv {g : GG} {LE : Nat → Option Nat} {RK1 RK2 : Nat → Int → Nat} {RN RN2 : Nat → Int} {HK1 : Nat → Int → Nat} {HN : Nat → Int} {a : Nat} {hB h : AH} (hL : LKA g LE RK1 RN HK1 HN a hB) (hfr : ∀ b : Nat, hB b ≠ none → h b = hB b) (e1 : RK2 a = RK1 a) (e2 : RN2 a = RN a) : LKA g LE RK2 RN2 HK1 HN a h := by
  obtain ⟨rr, rra, rh, rha, fq1, fq2, p1, p2, p3⟩ := hL
  refine ⟨rr, rra, rh, rha, fq1, fq2, (hfr a (sm_ne p1)).trans p1, ?_, p3.mv (hfr _ (sm_ne p3.1)) (hfr _ (sm_ne p3.2.1))⟩
  rw [e1, e2]
  exact p2.mv (hfr _ (sm_ne p2.1)) (hfr _ (sm_ne p2.2.1))
