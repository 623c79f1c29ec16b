def p4 (x : Int) : Int := if x = 0 then 1 else if x = 1 then 4 else if x = 2 then 16 else 64
theorem shl4 {v q : Int} (hv : 0 ≤ v ∧ v ≤ 2) (hq : 0 ≤ q ∧ q ≤ 3) : iI v <<< (iI (2 * q) &&& 31) = iI (v * p4 q) := by
  rcases (show v = 0 ∨ v = 1 ∨ v = 2 by omega) with h | h | h <;> rcases (show q = 0 ∨ q = 1 ∨ q = 2 ∨ q = 3 by omega) with u | u | u | u <;> subst h <;> subst u <;> decide +kernel
theorem wt_all : ∀ a b c d : Fin 3, ∀ q : Fin 4, (iI ((a.val : Int) + (b.val : Int) * 4 + (c.val : Int) * 16 + (d.val : Int) * 64) >>> (iI (2 * (q.val : Int)) &&& 31)) &&& iI 3 = iI (if q.val = 0 then (a.val : Int) else if q.val = 1 then (b.val : Int) else if q.val = 2 then (c.val : Int) else (d.val : Int)) := by decide +kernel
theorem wt_at {G : Int → Int} (hG : ∀ x : Int, 0 ≤ x → x ≤ 3 → 0 ≤ G x ∧ G x ≤ 2) {q : Int} (hq : 0 ≤ q ∧ q ≤ 3) : (iI (sumZ (fun x => G x * p4 x) 4) >>> (iI (2 * q) &&& 31)) &&& iI 3 = iI (G q) := by
  have e : sumZ (fun x => G x * p4 x) 4 = G 0 + G 1 * 4 + G 2 * 16 + G 3 * 64 := by
    show 0 + G 0 * p4 0 + G 1 * p4 1 + G 2 * p4 2 + G 3 * p4 3 = _
    rw [show p4 0 = 1 from rfl, show p4 1 = 4 from rfl, show p4 2 = 16 from rfl, show p4 3 = 64 from rfl]
    omega
  rw [e]
  have h0 := hG 0 (by omega) (by omega)
  have h1 := hG 1 (by omega) (by omega)
  have h2 := hG 2 (by omega) (by omega)
  have h3 := hG 3 (by omega) (by omega)
  have key := wt_all ⟨(G 0).toNat, by omega⟩ ⟨(G 1).toNat, by omega⟩ ⟨(G 2).toNat, by omega⟩ ⟨(G 3).toNat, by omega⟩ ⟨q.toNat, by omega⟩
  dsimp only at key
  rw [show (((G 0).toNat : Nat) : Int) = G 0 by omega, show (((G 1).toNat : Nat) : Int) = G 1 by omega, show (((G 2).toNat : Nat) : Int) = G 2 by omega, show (((G 3).toNat : Nat) : Int) = G 3 by omega, show ((q.toNat : Nat) : Int) = q by omega] at key
  rw [key]
  rcases (show q = 0 ∨ q = 1 ∨ q = 2 ∨ q = 3 by omega) with u | u | u | u <;> subst u <;> rfl
/-- the digests that are kept for this night, up to a client -/
def DN (D D1 : Nat → Int64) (mdata msize : Int → Int) (ng q : Int) : Prop := (∀ x j : Int, (0 ≤ x ∧ x ≤ 3) → (0 ≤ j ∧ j < ng) → D1 (16 * x + j).toNat = D (16 * x + j).toNat) ∧ ∀ x : Int, 0 ≤ x ∧ x < q → D1 (16 * x + ng).toNat = dig (rowF mdata (240 + x)) (msize (240 + x)).toNat
theorem DN.z (D : Nat → Int64) (mdata msize : Int → Int) (ng : Int) : DN D D mdata msize ng 0 := ⟨fun x j _ _ => rfl, fun x hx => by omega⟩
theorem DN.s {D D1 : Nat → Int64} {mdata msize : Int → Int} {ng q : Int} (hn : 0 ≤ ng ∧ ng < 16) (hq : 0 ≤ q ∧ q ≤ 3) (h : DN D D1 mdata msize ng q) : DN D (vp_updL D1 (16 * q + ng).toNat (dig (rowF mdata (240 + q)) (msize (240 + q)).toNat)) mdata msize ng (q + 1) := by
  refine ⟨fun x j x0 j0 => ?_, fun x hx => ?_⟩
  · have e : ¬ (16 * x + j).toNat = (16 * q + ng).toNat := by omega
    show (if (16 * x + j).toNat = (16 * q + ng).toNat then _ else _) = _
    rw [if_neg e]
    exact h.1 x j x0 j0
  · show (if (16 * x + ng).toNat = (16 * q + ng).toNat then _ else _) = _
    by_cases w : x = q
    · rw [w, if_pos rfl]
    · rw [if_neg (by omega)]
      exact h.2 x (by omega)
theorem GT_range {WB NC OT AK : Int → Prop} {BS DF : Int → Int} {room : Int} {bd GT : Int → Int} (hGT : GT = gtS WB NC OT AK BS DF room bd) : ∀ x : Int, 0 ≤ x → x ≤ 3 → 0 ≤ GT x ∧ GT x ≤ 2 := fun x _ _ => by
  rw [hGT]
  exact gtS_rng WB NC OT AK BS DF room bd x
/-- what a link's payer pays lies between the reserve and the own bid -/
theorem pay_between {u b lo hi p q : Int} (hu : lo ≤ u ∧ u ≤ hi) (hb : 0 ≤ b) (e : p = q + u * b) : b * lo ≤ p - q ∧ p - q ≤ b * hi := by
  have h1 := Int.mul_le_mul_of_nonneg_right hu.1 hb
  have h2 := Int.mul_le_mul_of_nonneg_right hu.2 hb
  rw [Int.mul_comm b lo, Int.mul_comm b hi]
  omega
