theorem sum_ln (E : Int → Int) : ∀ n : Nat, sumZ (fun k => lnF E k) n = bgF E (n : Int)
  | 0 => by show (0 : Int) = bgF E 0; unfold bgF; rw [if_pos rfl]
  | n + 1 => by
    show sumZ (fun k => lnF E k) n + lnF E (n : Int) = bgF E ((n + 1 : Nat) : Int)
    rw [sum_ln E n]
    have : bgF E ((n + 1 : Nat) : Int) = E (n : Int) := by
      unfold bgF
      rw [if_neg (by omega), show ((n + 1 : Nat) : Int) - 1 = (n : Int) by omega]
    rw [this]
    unfold lnF
    omega
theorem sumZ_ones {f : Int → Int} {m : Nat} : ∀ {n : Nat}, m ≤ n → (∀ j : Int, (m : Int) ≤ j → j < (n : Int) → f j = 1) → sumZ f n = sumZ f m + ((n : Int) - (m : Int))
  | 0, h, _ => by rw [Nat.le_zero.mp h]; omega
  | n + 1, h, hf => by
    by_cases y : m = n + 1
    · rw [y]; omega
    · have ih := sumZ_ones (f := f) (m := m) (n := n) (by omega) (fun k k0 k1 => hf k k0 (by omega))
      show sumZ f n + f (n : Int) = _
      rw [ih, hf (n : Int) (by omega) (by omega)]
      omega
theorem digF_dig {D F : Int → Int} {u : Nat} : ∀ {m : Nat}, (∀ i : Int, 0 ≤ i → i < (m : Int) → F i = D ((u : Int) + i)) → digF (dig D u) F m = dig D (u + m)
  | 0, _ => rfl
  | m + 1, h => by
    have ih := digF_dig (D := D) (F := F) (u := u) (m := m) (fun i i0 i1 => h i i0 (by omega))
    show dstep (digF (dig D u) F m) (F (m : Int)) = dstep (dig D (u + m)) (D ((u + m : Nat) : Int))
    rw [ih, h (m : Int) (by omega) (by omega), show ((u + m : Nat) : Int) = (u : Int) + (m : Int) by omega]
theorem ltN_z2 {K K' : Int → Int} : ∀ {n : Nat}, (∀ j : Int, 0 ≤ j → j < (n : Int) → (K j = 0 ↔ K' j = 0)) → ltN K n = ltN K' n
  | 0, _ => rfl
  | n + 1, h => by
    have ih := ltN_z2 (K := K) (K' := K') (n := n) (fun j j0 j1 => h j j0 (by omega))
    have h1 := h (n : Int) (by omega) (by omega)
    unfold ltN
    rw [ih]
    by_cases z : K (n : Int) = 0
    · rw [if_pos z, if_pos (h1.mp z)]
    · rw [if_neg z, if_neg (fun w => z (h1.mpr w))]
section
variable {g : GG} {hK : AH} {LE : Nat → Option Nat} {RK1 : Nat → Int → Nat} {RN : Nat → Int} {HK1 : Nat → Int → Nat} {HN : Nat → Int} {CA : Nat → Nat} {PV : Nat → Option Nat} {CF : Nat → Int → Int} {CN : Nat → Int} {Ha : Int → Nat} {hN : Int} {mdata msize mends mmany mkind mchain mholds : Int → Int} {LX : Int → Option Nat} {x j : Int} {a : Nat}
theorem row_cn (hS : HS g CA PV CF CN Ha hN hK) (hR : lnkR g hK LE RK1 RN HK1 HN CF CN Ha hN mdata msize mends mmany mkind mchain mholds x j a) (hE : EOK (rowF mends (60 * x + j)) (mmany (60 * x + j))) {k : Int} (k0 : 0 ≤ k) (k1 : k < mmany (60 * x + j)) : CN (RK1 a k) = lnF (rowF mends (60 * x + j)) k ∧ ∀ i : Int, 0 ≤ i → i < CN (RK1 a k) → CF (RK1 a k) i = rowF mdata (60 * x + j) (bgF (rowF mends (60 * x + j)) k + i) := by
  have h5 := hR.2.2.1 k k0 k1
  have hck := hS.ck h5.1
  have hl := lnF_rng hE k0 k1
  have := (cont_chk (w := lnF (rowF mends (60 * x + j)) k) (u := bgF (rowF mends (60 * x + j)) k) hck.2.2.1.1 rfl rfl (by omega)).mpr h5.2.1
  exact ⟨this.1, this.2⟩
theorem row_sum (hS : HS g CA PV CF CN Ha hN hK) (hR : lnkR g hK LE RK1 RN HK1 HN CF CN Ha hN mdata msize mends mmany mkind mchain mholds x j a) (hE : EOK (rowF mends (60 * x + j)) (mmany (60 * x + j))) {n : Int} (n0 : 0 ≤ n) (n1 : n ≤ mmany (60 * x + j)) : sumZ (fun k => CN (RK1 a k)) n.toNat = bgF (rowF mends (60 * x + j)) n := by
  have := sum_ln (rowF mends (60 * x + j)) n.toNat
  rw [show ((n.toNat : Nat) : Int) = n by omega] at this
  rw [← this]
  exact sumZ_congr fun k k0 k1 => (row_cn hS hR hE k0 (by omega)).1
theorem row_size (hS : HS g CA PV CF CN Ha hN hK) (hR : lnkR g hK LE RK1 RN HK1 HN CF CN Ha hN mdata msize mends mmany mkind mchain mholds x j a) (hE : EOK (rowF mends (60 * x + j)) (mmany (60 * x + j))) (hm : 0 ≤ mmany (60 * x + j)) : sumZ (fun k => CN (RK1 a k)) (RN a).toNat = msize (60 * x + j) := by
  rw [hR.2.1, row_sum hS hR hE hm (Int.le_refl _)]
  exact hR.2.2.2.2.2.1
theorem row_lie (hS : HS g CA PV CF CN Ha hN hK) (hR : lnkR g hK LE RK1 RN HK1 HN CF CN Ha hN mdata msize mends mmany mkind mchain mholds x j a) (hE : EOK (rowF mends (60 * x + j)) (mmany (60 * x + j))) : lieP CF CN (RK1 a) (RN a) (rowF mdata (60 * x + j)) := fun k k0 k1 i i0 i1 => by
  rw [hR.2.1] at k1
  rw [row_sum hS hR hE k0 (by omega)]
  exact (row_cn hS hR hE k0 k1).2 i i0 i1
theorem row_dig (hS : HS g CA PV CF CN Ha hN hK) (hR : lnkR g hK LE RK1 RN HK1 HN CF CN Ha hN mdata msize mends mmany mkind mchain mholds x j a) (hE : EOK (rowF mends (60 * x + j)) (mmany (60 * x + j))) : ∀ n : Nat, (n : Int) ≤ mmany (60 * x + j) → digK CF CN (RK1 a) n = dig (rowF mdata (60 * x + j)) (bgF (rowF mends (60 * x + j)) (n : Int)).toNat
  | 0, _ => rfl
  | n + 1, hn => by
    have ih := row_dig hS hR hE n (by omega)
    have h1 := row_cn hS hR hE (k := (n : Int)) (by omega) (by omega)
    have he := hE (n : Int) (by omega) (by omega)
    have hl : lnF (rowF mends (60 * x + j)) (n : Int) = rowF mends (60 * x + j) (n : Int) - bgF (rowF mends (60 * x + j)) (n : Int) := rfl
    show digF (digK CF CN (RK1 a) n) (CF (RK1 a (n : Int))) (CN (RK1 a (n : Int))).toNat = _
    rw [ih, digF_dig (fun i i0 i1 => ?_)]
    · have : bgF (rowF mends (60 * x + j)) ((n + 1 : Nat) : Int) = rowF mends (60 * x + j) (n : Int) := by
        unfold bgF
        rw [if_neg (by omega), show ((n + 1 : Nat) : Int) - 1 = (n : Int) by omega]
      rw [this, h1.1]
      congr 1
      omega
    · rw [h1.2 i i0 (by omega)]
      congr 1
      omega
theorem row_digest (hS : HS g CA PV CF CN Ha hN hK) (hR : lnkR g hK LE RK1 RN HK1 HN CF CN Ha hN mdata msize mends mmany mkind mchain mholds x j a) (hE : EOK (rowF mends (60 * x + j)) (mmany (60 * x + j))) (hm : 0 ≤ mmany (60 * x + j)) : digK CF CN (RK1 a) (RN a).toNat = dig (rowF mdata (60 * x + j)) (msize (60 * x + j)).toNat := by
  have := row_dig hS hR hE (mmany (60 * x + j)).toNat (by omega)
  rw [show (((mmany (60 * x + j)).toNat : Nat) : Int) = mmany (60 * x + j) by omega, hR.2.2.2.2.2.1] at this
  rw [hR.2.1]
  exact this
theorem row_read (hS : HS g CA PV CF CN Ha hN hK) (hR : lnkR g hK LE RK1 RN HK1 HN CF CN Ha hN mdata msize mends mmany mkind mchain mholds x j a) (hE : EOK (rowF mends (60 * x + j)) (mmany (60 * x + j))) : RN a + sumZ (fun q => bI (¬ exN (fun i => RK1 a i = RK1 a q) q) * CN (RK1 a q)) (RN a).toNat = baseB (rowF mdata (60 * x + j)) (rowF mends (60 * x + j)) (mmany (60 * x + j)) := by
  unfold baseB
  rw [hR.2.1]
  congr 1
  refine sumZ_congr fun q q0 q1 => ?_
  rw [(row_cn hS hR hE q0 (by omega)).1]
  congr 1
  have h5 := hR.2.2.1 q q0 (by omega)
  refine bI_eq ⟨fun y i i0 i1 e => y ⟨i, i0, i1, ?_⟩, ?_⟩
  · have h6 := hR.2.2.1 i i0 (by omega)
    exact hS.inj h6.1 h5.1 (h6.2.1.trans ((show chk _ _ i = chk _ _ q from e).trans h5.2.1.symm))
  · rintro y ⟨i, i0, i1, e⟩
    have h6 := hR.2.2.1 i i0 (by omega)
    refine y i i0 i1 ?_
    show chk _ _ i = chk _ _ q
    rw [← h6.2.1, ← h5.2.1, show RK1 a i = RK1 a q from e]
theorem row_bytes (hS : HS g CA PV CF CN Ha hN hK) (hR : lnkR g hK LE RK1 RN HK1 HN CF CN Ha hN mdata msize mends mmany mkind mchain mholds x j a) (hE : EOK (rowF mends (60 * x + j)) (mmany (60 * x + j))) : RN a + sumZ (fun i => CN (HK1 a i)) (HN a).toNat = mmany (60 * x + j) + sumZ (fun k => bI (rowF mholds (60 * x + j) k ≠ 0) * lnF (rowF mends (60 * x + j)) k) (mmany (60 * x + j)).toNat := by
  rw [hR.2.1, hR.2.2.2.1]
  congr 1
  rw [sum_cnt (P := fun k => rowF mholds (60 * x + j) k ≠ 0) (K := RK1 a) (HL := HK1 a) CN (fun k k0 k1 hp => hR.2.2.2.2.1 k k0 (by omega) hp)]
  refine sumZ_congr fun k k0 k1 => ?_
  rw [(row_cn hS hR hE k0 (by omega)).1]
end
/-- at how many places a restored file was another one -/
theorem rest_cnt {G D M N : Int → Int} {sz T : Int} (hs : 0 ≤ sz ∧ sz ≤ 48) (hT : 0 ≤ T ∧ T ≤ 48) (hG : ∀ j : Int, 0 ≤ j → j < 48 → G j = M j) (hD : ∀ j : Int, 0 ≤ j → j < 48 → D j = N j) : sumZ (fun q => bI (sz ≤ q ∨ ¬ G q = D q)) T.toNat + mxZ (sz - T) 0 = sumZ (fun j => bI (((j < sz) ↔ ¬ (j < T)) ∨ (j < T ∧ ¬ M j = N j))) 48 := by
  have e1 : sumZ (fun j => bI (((j < sz) ↔ ¬ (j < T)) ∨ (j < T ∧ ¬ M j = N j))) T.toNat = sumZ (fun q => bI (sz ≤ q ∨ ¬ G q = D q)) T.toNat := sumZ_congr fun q q0 q1 => by
    rw [hG q q0 (by omega), hD q q0 (by omega)]
    refine bI_eq ⟨?_, ?_⟩
    · rintro (y | y)
      · left
        by_cases z : sz ≤ q
        · exact z
        · exact absurd (show q < T by omega) (y.mp (by omega))
      · exact Or.inr y.2
    · rintro (y | y)
      · exact Or.inl ⟨fun z => by omega, fun z => absurd (show q < T by omega) z⟩
      · exact Or.inr ⟨by omega, y⟩
  by_cases z : T ≤ sz
  · have e2 := sumZ_ones (f := fun j => bI (((j < sz) ↔ ¬ (j < T)) ∨ (j < T ∧ ¬ M j = N j))) (m := T.toNat) (n := sz.toNat) (by omega) (fun q q0 q1 => bI_t (Or.inl ⟨fun _ => by omega, fun _ => by omega⟩))
    have e3 := sumZ_ext0 (f := fun j => bI (((j < sz) ↔ ¬ (j < T)) ∨ (j < T ∧ ¬ M j = N j))) (m := sz.toNat) (n := 48) (by omega) (fun q q0 q1 => bI_f (fun y => by
      rcases y with y | y
      · have := y.mpr (by omega); omega
      · omega))
    rw [e3, e2, e1]
    unfold mxZ
    split <;> omega
  · have e3 := sumZ_ext0 (f := fun j => bI (((j < sz) ↔ ¬ (j < T)) ∨ (j < T ∧ ¬ M j = N j))) (m := T.toNat) (n := 48) (by omega) (fun q q0 q1 => bI_f (fun y => by
      rcases y with y | y
      · have := y.mpr (by omega); omega
      · omega))
    rw [e3, e1]
    unfold mxZ
    split <;> omega
