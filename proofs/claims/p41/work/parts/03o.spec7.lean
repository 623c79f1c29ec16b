theorem wnt_rng (WB NC OT : Int → Prop) (BS : Int → Int) (c L : Int) : 0 ≤ wnt WB NC OT BS c L ∧ wnt WB NC OT BS c L ≤ 2 := by
  by_cases h : WB c ∧ (NC c ∨ BS c ≤ L)
  · rw [wnt_1 h]; omega
  · by_cases h2 : OT c
    · rw [wnt_2 h h2]; omega
    · rw [wnt_0 h h2]; omega
theorem cst_rng {WB NC OT : Int → Prop} {BS DF : Int → Int} {c : Int} (hb : 0 ≤ BS c ∧ BS c ≤ 3000) (hd : 0 ≤ DF c ∧ DF c ≤ 3000) (L : Int) : 0 ≤ cst WB NC OT BS DF c L ∧ cst WB NC OT BS DF c L ≤ 3000 := by
  unfold cst
  split
  · exact hb
  · split
    · exact hd
    · omega
def gI (WB NC OT AK : Int → Prop) (BS DF : Int → Int) (room : Int) (tt AS WT CS SV : Int → Int) (n : Int) : Prop := ∀ j : Int, 0 ≤ j → j < n → AS (tt j) = bI (AK (tt j)) ∧ WT (tt j) = wnt WB NC OT BS (tt j) (lft WB NC OT AK BS DF room tt j.toNat) ∧ CS (tt j) = cst WB NC OT BS DF (tt j) (lft WB NC OT AK BS DF room tt j.toNat) ∧ SV (tt j) = bI (srv WB NC OT AK BS DF (tt j) (lft WB NC OT AK BS DF room tt j.toNat))
theorem gI_0 (WB NC OT AK : Int → Prop) (BS DF : Int → Int) (room : Int) (tt AS WT CS SV : Int → Int) : gI WB NC OT AK BS DF room tt AS WT CS SV 0 := fun j j0 j1 => absurd j1 (by omega)
theorem gI_s {WB NC OT AK : Int → Prop} {BS DF : Int → Int} {room : Int} {tt AS WT CS SV : Int → Int} {n L : Int} (h : gI WB NC OT AK BS DF room tt AS WT CS SV n) (hL : L = lft WB NC OT AK BS DF room tt n.toNat) (hd : ∀ j : Int, 0 ≤ j → j < n → tt j ≠ tt n) : gI WB NC OT AK BS DF room tt (upZ AS (tt n) (bI (AK (tt n)))) (upZ WT (tt n) (wnt WB NC OT BS (tt n) L)) (upZ CS (tt n) (cst WB NC OT BS DF (tt n) L)) (upZ SV (tt n) (bI (srv WB NC OT AK BS DF (tt n) L))) (n + 1) := fun j j0 j1 => by
  subst hL
  rcases (show j = n ∨ j < n by omega) with q | q
  · rw [q, upZ_at, upZ_at, upZ_at, upZ_at]; exact ⟨rfl, rfl, rfl, rfl⟩
  · have hne := hd j j0 q
    rw [upZ_ne _ _ hne, upZ_ne _ _ hne, upZ_ne _ _ hne, upZ_ne _ _ hne]
    exact h j j0 q
