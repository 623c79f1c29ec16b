/-- a file behind which w bytes of another (from x on) were put -/
def appF (G G2 : Int → Int) (sz x w : Int) : Int → Int := fun j => if sz ≤ j ∧ j < sz + w then G2 (x + (j - sz)) else G j
theorem appF_0 (G G2 : Int → Int) (sz x : Int) : appF G G2 sz x 0 = G := by
  funext j; unfold appF; rw [if_neg (by omega)]
theorem appF_s (G G2 : Int → Int) (sz x : Int) {q : Int} (hq : 0 ≤ q) : upZ (appF G G2 sz x q) (sz + q) (G2 (x + q)) = appF G G2 sz x (q + 1) := by
  funext j
  by_cases z : j = sz + q
  · subst z
    rw [upZ_at]
    unfold appF
    rw [if_pos (by omega)]
    congr 1
    omega
  · rw [upZ_ne _ _ z]
    unfold appF
    by_cases y : sz ≤ j ∧ j < sz + q
    · rw [if_pos y, if_pos (by omega)]
    · rw [if_neg y, if_neg (by omega)]
theorem appF_lo {G G2 : Int → Int} {sz x q j : Int} (hj : j < sz) : appF G G2 sz x q j = G j := by unfold appF; rw [if_neg (by omega)]
