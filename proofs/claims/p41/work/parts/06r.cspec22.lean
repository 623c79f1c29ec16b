theorem ltN_at (K : Int → Int) : ∀ n : Nat, ¬ ltN K n = -1 → ¬ K (ltN K n) = 0
  | 0, h => absurd rfl h
  | n + 1, h => by
    unfold ltN at h ⊢
    split
    · rename_i z
      rw [if_pos z] at h
      exact ltN_at K n h
    · rename_i z
      exact z
theorem dfN_lt (K : Int → Int) : ∀ n : Nat, ¬ ltN K n = -1 → dfN K n = dfN K (ltN K n + 1).toNat
  | 0, h => absurd rfl h
  | n + 1, h => by
    by_cases z : K (n : Int) = 0
    · have e1 : ltN K (n + 1) = ltN K n := by
        conv => lhs; unfold ltN
        exact if_pos z
      have e2 : dfN K (n + 1) = dfN K n := by
        conv => lhs; unfold dfN
        exact if_pos z
      rw [e1] at h
      rw [e1, e2]
      exact dfN_lt K n h
    · have e1 : ltN K (n + 1) = (n : Int) := by
        conv => lhs; unfold ltN
        exact if_neg z
      rw [e1, show ((n : Int) + 1).toNat = n + 1 by omega]
theorem sumZ_front (f : Int → Int) : ∀ n : Nat, sumZ f (n + 1) = f 0 + sumZ (fun i => f (i + 1)) n
  | 0 => by show (0 : Int) + f 0 = f 0 + 0; omega
  | n + 1 => by
    have ih := sumZ_front f n
    show sumZ f (n + 1) + f ((n + 1 : Nat) : Int) = f 0 + (sumZ (fun i => f (i + 1)) n + f ((n : Int) + 1))
    rw [ih, show ((n + 1 : Nat) : Int) = (n : Int) + 1 by omega]
    omega
theorem sumZ_ext0 {f : Int → Int} : ∀ {m n : Nat}, m ≤ n → (∀ k : Int, (m : Int) ≤ k → k < (n : Int) → f k = 0) → sumZ f n = sumZ f m
  | m, 0, h, _ => by rw [Nat.le_zero.mp h]
  | m, n + 1, h, hz => by
    by_cases y : m = n + 1
    · rw [y]
    · have ih := sumZ_ext0 (m := m) (n := n) (by omega) (fun k k0 k1 => hz k k0 (by omega))
      show sumZ f n + f (n : Int) = _
      rw [ih, hz (n : Int) (by omega) (by omega)]
      omega
/-- a sum over what is told by its count -/
theorem sum_cnt {P : Int → Prop} {K HL : Int → Nat} (f : Nat → Int) : ∀ {n : Nat}, (∀ k : Int, 0 ≤ k → k < (n : Int) → P k → HL (sumZ (fun j => bI (P j)) k.toNat) = K k) → sumZ (fun i => f (HL i)) (sumZ (fun j => bI (P j)) n).toNat = sumZ (fun k => bI (P k) * f (K k)) n
  | 0, _ => rfl
  | n + 1, h => by
    have ih := sum_cnt f (n := n) (fun k k0 k1 hp => h k k0 (by omega) hp)
    have hc := cnt_le P n
    show sumZ (fun i => f (HL i)) (sumZ (fun j => bI (P j)) n + bI (P (n : Int))).toNat = sumZ (fun k => bI (P k) * f (K k)) n + bI (P (n : Int)) * f (K (n : Int))
    by_cases z : P (n : Int)
    · have h1 := h (n : Int) (by omega) (by omega) z
      rw [show ((n : Int)).toNat = n by omega] at h1
      rw [bI_t z, sumZ_s _ hc.1, ih, h1]
      omega
    · rw [bI_f z, show sumZ (fun j => bI (P j)) n + 0 = sumZ (fun j => bI (P j)) n by omega, ih]
      omega
/-- what a client has of a night: nothing, or a link that shows the model's row -/
def LNK (g : GG) (hK : AH) (LE : Nat → Option Nat) (RK1 : Nat → Int → Nat) (RN : Nat → Int) (HK1 : Nat → Int → Nat) (HN : Nat → Int) (CF : Nat → Int → Int) (CN : Nat → Int) (Ha : Int → Nat) (hN : Int) (mdata msize mends mmany mkind mchain mholds : Int → Int) (LX : Int → Option Nat) (x j : Int) : Prop :=
  (mkind (60 * x + j) = 0 ∧ LX j = none ∧ mmany (60 * x + j) = 0) ∨ ∃ a : Nat, LX j = some a ∧ LKA g LE RK1 RN HK1 HN a hK ∧ RN a = mmany (60 * x + j) ∧ ((mkind (60 * x + j) = 1 ∧ LE a = none ∧ mchain (60 * x + j) = j) ∨ (mkind (60 * x + j) = 2 ∧ ¬ ltN (colF mkind x) j.toNat = -1 ∧ LE a = LX (ltN (colF mkind x) j.toNat) ∧ mchain (60 * x + j) = mchain (60 * x + ltN (colF mkind x) j.toNat))) ∧ (∀ k : Int, 0 ≤ k → k < mmany (60 * x + j) → inH Ha hN (RK1 a k) ∧ cont (CF (RK1 a k)) (CN (RK1 a k)) = chk (rowF mdata (60 * x + j)) (rowF mends (60 * x + j)) k ∧ rowF mholds (60 * x + j) k = bI (fstC (chk (rowF mdata (60 * x + j)) (rowF mends (60 * x + j))) k ∧ (mkind (60 * x + j) = 1 ∨ ¬ inCh mdata mends mmany mkind mchain mholds j x (chk (rowF mdata (60 * x + j)) (rowF mends (60 * x + j)) k)))) ∧ HN a = sumZ (fun k => bI (rowF mholds (60 * x + j) k ≠ 0)) (mmany (60 * x + j)).toNat ∧ (∀ k : Int, 0 ≤ k → k < mmany (60 * x + j) → rowF mholds (60 * x + j) k ≠ 0 → HK1 a (sumZ (fun k => bI (rowF mholds (60 * x + j) k ≠ 0)) k.toNat) = RK1 a k) ∧ bgF (rowF mends (60 * x + j)) (mmany (60 * x + j)) = msize (60 * x + j)
section
variable {g : GG} {hK : AH} {LE : Nat → Option Nat} {RK1 : Nat → Int → Nat} {RN : Nat → Int} {HK1 : Nat → Int → Nat} {HN : Nat → Int} {CA : Nat → Nat} {PV : Nat → Option Nat} {CF : Nat → Int → Int} {CN : Nat → Int} {Ha : Int → Nat} {hN : Int} {mdata msize mends mmany mkind mchain mholds : Int → Int} {LX : Int → Option Nat} {x : Int}
/-- the held chunks of a link are those of its row that are flagged -/
theorem held_iff {a : Nat} {r j n : Int} (h5 : ∀ k : Int, 0 ≤ k → k < n → cont (CF (RK1 a k)) (CN (RK1 a k)) = chk (rowF mdata r) (rowF mends r) k) (h6 : HN a = sumZ (fun k => bI (rowF mholds r k ≠ 0)) n.toNat) (h7 : ∀ k : Int, 0 ≤ k → k < n → rowF mholds r k ≠ 0 → HK1 a (sumZ (fun k => bI (rowF mholds r k ≠ 0)) k.toNat) = RK1 a k) (w : List Int) : exN (fun i => cont (CF (HK1 a i)) (CN (HK1 a i)) = w) (HN a) ↔ hldC (rowF mholds r) (chk (rowF mdata r) (rowF mends r)) n w := by
  constructor
  · rintro ⟨i, i0, i1, e⟩
    rw [h6] at i1
    obtain ⟨k, k0, k1, k2, k3⟩ := cnt_surj (P := fun k => rowF mholds r k ≠ 0) i0 i1
    have e7 := h7 k k0 (by omega) k2
    rw [k3] at e7
    refine ⟨k, k0, by omega, k2, ?_⟩
    rw [← h5 k k0 (by omega), ← e7]
    exact e
  · rintro ⟨k, k0, k1, k2, e⟩
    refine ⟨sumZ (fun k => bI (rowF mholds r k ≠ 0)) k.toNat, (cnt_le _ _).1, ?_, ?_⟩
    · rw [h6]
      exact cnt_lt (P := fun k => rowF mholds r k ≠ 0) k0 k1 k2
    · show cont (CF (HK1 a _)) (CN (HK1 a _)) = w
      rw [h7 k k0 k1 k2, h5 k k0 k1]
      exact e
/-- the chain of a link, by nights -/
def chnP (g : GG) (hK : AH) (LE : Nat → Option Nat) (RK1 : Nat → Int → Nat) (RN : Nat → Int) (HK1 : Nat → Int → Nat) (HN : Nat → Int) (mkind mchain : Int → Int) (LX : Int → Option Nat) (x j : Int) (La : Int → Nat) (nt : Int → Int) (len : Int) : Prop := 0 < len ∧ nt 0 = j ∧ (∀ i : Int, 0 ≤ i → i < len → (0 ≤ nt i ∧ nt i ≤ j ∧ (0 < i → nt i < j)) ∧ LX (nt i) = some (La i) ∧ ¬ mkind (60 * x + nt i) = 0 ∧ mchain (60 * x + nt i) = mchain (60 * x + j)) ∧ (∀ k : Int, 0 ≤ k → k ≤ j → ¬ mkind (60 * x + k) = 0 → mchain (60 * x + k) = mchain (60 * x + j) → ∃ i : Int, 0 ≤ i ∧ i < len ∧ nt i = k) ∧ CHN g LE RK1 RN HK1 HN La len hK ∧ len = dfN (colF mkind x) (j + 1).toNat + 1 ∧ mchain (60 * x + j) ≤ j ∧ ∀ f : Int → Int, sumZ (fun i => f (nt i)) len.toNat = sumZ (fun k => bI (¬ mkind (60 * x + k) = 0 ∧ mchain (60 * x + k) = mchain (60 * x + j)) * f k) (j + 1).toNat
theorem chain_ex (H : ∀ j : Int, 0 ≤ j → j < 60 → LNK g hK LE RK1 RN HK1 HN CF CN Ha hN mdata msize mends mmany mkind mchain mholds LX x j) : ∀ (n : Nat) (j : Int), 0 ≤ j → j < (n : Int) → j < 60 → ¬ mkind (60 * x + j) = 0 → ∃ (La : Int → Nat) (nt : Int → Int) (len : Int), chnP g hK LE RK1 RN HK1 HN mkind mchain LX x j La nt len
  | 0, j, j0, j1, _, _ => by omega
  | n + 1, j, j0, j1, j2, jk => by
    rcases H j j0 j2 with z | ⟨a, a1, a2, a3, a4, a5⟩
    · exact absurd z.1 jk
    rcases a4 with ⟨b1, b2, b3⟩ | ⟨b1, b2, b3, b4⟩
    · have hle : ∀ k : Int, 0 ≤ k → k < j → ¬ mkind (60 * x + k) = 0 → mchain (60 * x + k) ≤ k := fun k k0 k1 kk => by
        obtain ⟨La, nt, len, q⟩ := chain_ex H n k k0 (by omega) (by omega) kk
        exact q.2.2.2.2.2.2.1
      refine ⟨fun _ => a, fun _ => j, 1, by omega, rfl, fun i i0 i1 => ⟨⟨j0, Int.le_refl _, fun y => by omega⟩, a1, jk, rfl⟩, fun k k0 k1 kk kc => ⟨0, by omega, by omega, ?_⟩, fun i i0 i1 => ⟨?_, a2⟩, ?_, by omega, fun f => ?_⟩
      · show j = k
        by_cases y : k = j
        · exact y.symm
        · have := hle k k0 (by omega) kk
          omega
      · rw [b2, ptr_out (by omega)]
      · have := dfN_s (colF mkind x) j0
        have e : colF mkind x j = 1 := b1
        rw [e] at this
        rw [this, if_neg (by omega), if_pos rfl]
        rfl
      · have e1 : sumZ (fun _ => f j) (1 : Int).toNat = f j := by show (0 : Int) + f j = f j; omega
        rw [e1, sumZ_s _ j0, bI_t ⟨jk, rfl⟩]
        have e2 : sumZ (fun k => bI (¬ mkind (60 * x + k) = 0 ∧ mchain (60 * x + k) = mchain (60 * x + j)) * f k) j.toNat = sumZ (fun k => bI (¬ mkind (60 * x + k) = 0 ∧ mchain (60 * x + k) = mchain (60 * x + j)) * f k) 0 := sumZ_ext0 (by omega) (fun k k0 k1 => by
          rw [bI_f (fun y => by have := hle k (by omega) (by omega) y.1; omega)]
          omega)
        rw [e2]
        show f j = 0 + 1 * f j
        omega
    · have hr := ltN_rng (colF mkind x) j.toNat
      have hk : ¬ mkind (60 * x + ltN (colF mkind x) j.toNat) = 0 := ltN_at (colF mkind x) j.toNat b2
      obtain ⟨La, nt, len, q0, q1, q2, q3, q4, q5, q6, q7⟩ := chain_ex H n (ltN (colF mkind x) j.toNat) (by omega) (by omega) (by omega) hk
      generalize hj' : ltN (colF mkind x) j.toNat = j' at *
      have hz : ∀ k : Int, j' < k → k < j → mkind (60 * x + k) = 0 := fun k k0 k1 => Classical.byContradiction fun y => by
        have := ltN_ge (colF mkind x) (n := j.toNat) (j := k) (by omega) (by omega) y
        omega
      refine ⟨consH a La, fun i => if i = 0 then j else nt (i - 1), len + 1, by omega, if_pos rfl, fun i i0 i1 => ?_, fun k k0 k1 kk kc => ?_, fun i i0 i1 => ?_, ?_, by omega, fun f => ?_⟩
      · show (0 ≤ (if i = 0 then j else nt (i - 1)) ∧ (if i = 0 then j else nt (i - 1)) ≤ j ∧ (0 < i → (if i = 0 then j else nt (i - 1)) < j)) ∧ LX (if i = 0 then j else nt (i - 1)) = some (consH a La i) ∧ ¬ mkind (60 * x + (if i = 0 then j else nt (i - 1))) = 0 ∧ mchain (60 * x + (if i = 0 then j else nt (i - 1))) = mchain (60 * x + j)
        by_cases y : i = 0
        · rw [if_pos y, y, consH_0]
          exact ⟨by omega, a1, jk, rfl⟩
        · rw [if_neg y, consH_s _ _ y]
          have h2 := q2 (i - 1) (by omega) (by omega)
          exact ⟨by omega, h2.2.1, h2.2.2.1, h2.2.2.2.trans b4.symm⟩
      · by_cases y : k = j
        · exact ⟨0, by omega, by omega, by rw [y]; exact if_pos rfl⟩
        · have hle : k ≤ j' := by
            by_cases v : k ≤ j'
            · exact v
            · exact absurd (hz k (by omega) (by omega)) kk
          obtain ⟨i, i0, i1, e⟩ := q3 k k0 hle kk (kc.trans b4)
          refine ⟨i + 1, by omega, by omega, ?_⟩
          show (if i + 1 = 0 then j else nt (i + 1 - 1)) = k
          rw [if_neg (by omega), show i + 1 - 1 = i by omega]
          exact e
      · by_cases y : i = 0
        · subst y
          rw [consH_0]
          refine ⟨?_, a2⟩
          have h2 := q2 0 (by omega) (by omega)
          rw [q1] at h2
          rw [b3, h2.2.1, ptr_cons a La (by omega), ptr_in (by omega)]
        · rw [consH_s _ _ y]
          have h4 := q4 (i - 1) (by omega) (by omega)
          refine ⟨?_, h4.2⟩
          rw [h4.1, ptr_cons a La (by omega), show i - 1 + 1 = i by omega]
      · have e := dfN_s (colF mkind x) j0
        have e1 : colF mkind x j = 2 := b1
        have e9 := dfN_lt (colF mkind x) j.toNat (by rw [hj']; exact b2)
        rw [hj'] at e9
        rw [e1, if_neg (by omega), if_neg (by omega), e9] at e
        omega
      · rw [show (len + 1).toNat = len.toNat + 1 by omega, sumZ_front]
        show f (if (0 : Int) = 0 then j else nt (0 - 1)) + _ = _
        rw [if_pos rfl]
        have e1 : sumZ (fun i => f (if i + 1 = 0 then j else nt (i + 1 - 1))) len.toNat = sumZ (fun i => f (nt i)) len.toNat := sumZ_congr fun i i0 i1 => by rw [if_neg (by omega), show i + 1 - 1 = i by omega]
        have e2 : sumZ (fun k => bI (¬ mkind (60 * x + k) = 0 ∧ mchain (60 * x + k) = mchain (60 * x + j)) * f k) j.toNat = sumZ (fun k => bI (¬ mkind (60 * x + k) = 0 ∧ mchain (60 * x + k) = mchain (60 * x + j)) * f k) (j' + 1).toNat := sumZ_ext0 (by omega) (fun k k0 k1 => by
          rw [bI_f (fun y => y.1 (hz k (by omega) (by omega)))]
          omega)
        show f j + sumZ (fun i => f (if i + 1 = 0 then j else nt (i + 1 - 1))) len.toNat = _
        rw [e1, q7 f, sumZ_s _ j0, bI_t ⟨jk, rfl⟩, e2, b4]
        omega
end
