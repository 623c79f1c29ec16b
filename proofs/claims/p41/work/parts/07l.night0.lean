def tNg (n : Int) : Int := if n = 60 then 1 else 0
theorem chP_ext {CF CF1 : Nat → Int → Int} {CN CN1 : Nat → Int} {HK1 : Nat → Int → Nat} {HN : Nat → Int} {La : Int → Nat} {len : Int} (h : ∀ i : Int, 0 ≤ i → i < len → ∀ t : Int, 0 ≤ t → t < HN (La i) → CF1 (HK1 (La i) t) = CF (HK1 (La i) t) ∧ CN1 (HK1 (La i) t) = CN (HK1 (La i) t)) (w : List Int) : chP CF1 CN1 HK1 HN La len w ↔ chP CF CN HK1 HN La len w := by
  constructor
  · rintro ⟨i, i0, i1, t, t0, t1, e⟩
    have h1 := h i i0 i1 t t0 t1
    refine ⟨i, i0, i1, t, t0, t1, ?_⟩
    show cont _ _ = w
    rw [← h1.1, ← h1.2]
    exact e
  · rintro ⟨i, i0, i1, t, t0, t1, e⟩
    have h1 := h i i0 i1 t t0 t1
    refine ⟨i, i0, i1, t, t0, t1, ?_⟩
    show cont _ _ = w
    rw [h1.1, h1.2]
    exact e
/-- a chunk that is new in the house is held by the new link -/
theorem new_held {g : GG} {h h' : AH} {CA1 CA2 : Nat → Nat} {PV1 PV2 : Nat → Option Nat} {CF1 CF2 : Nat → Int → Int} {CN1 CN2 : Nat → Int} {Ha1 Ha2 : Int → Nat} {hN1 hN2 : Int} {HK1 : Nat → Int → Nat} {HN : Nat → Int} {La : Int → Nat} {len n nH : Int} {G E : Int → Int} {K HL2 : Int → Nat} (s1 : HS g CA2 PV2 CF2 CN2 Ha2 hN2 h') (s2 : HX h CA1 PV1 CF1 CN1 Ha1 hN1 CA2 PV2 CF2 CN2 Ha2 hN2) (hch : ∀ i : Int, 0 ≤ i → i < len → ∀ t : Int, 0 ≤ t → t < HN (La i) → inH Ha1 hN1 (HK1 (La i) t)) (s6 : ∀ j : Int, 0 ≤ j → j < n → inH Ha2 hN2 (K j) ∧ cont (CF2 (K j)) (CN2 (K j)) = chk G E j) (s7 : nH = sumZ (fun j => bI (flg CF1 CN1 HK1 HN La len G E j)) n.toNat) (s8 : ∀ j : Int, 0 ≤ j → j < n → flg CF1 CN1 HK1 HN La len G E j → HL2 (sumZ (fun j => bI (flg CF1 CN1 HK1 HN La len G E j)) j.toNat) = K j) (hNH : ∀ y : Nat, inH Ha2 hN2 y → inH Ha1 hN1 y ∨ ∃ j : Int, 0 ≤ j ∧ j < n ∧ K j = y) : ∀ z : Nat, inH Ha2 hN2 z → inH Ha1 hN1 z ∨ ∃ i : Int, 0 ≤ i ∧ i < nH ∧ HL2 i = z := fun z hz => by
  rcases hNH z hz with y | ⟨j, j0, j1, e⟩
  · exact Or.inl y
  · by_cases w : inH Ha1 hN1 z
    · exact Or.inl w
    · right
      obtain ⟨t, t0, t1, t2, t3⟩ := fst_ex (C := chk G E) (j + 1).toNat j j0 (by omega)
      have hj := s6 j j0 j1
      have ht := s6 t t0 (by omega)
      have ek : K t = z := by
        rw [← e]
        exact s1.inj ht.1 hj.1 (ht.2.trans (t2.trans hj.2.symm))
      have hf : flg CF1 CN1 HK1 HN La len G E t := by
        refine ⟨t3, fun v => w ?_⟩
        obtain ⟨i, i0, i1, u, u0, u1, ev⟩ := v
        have hy := hch i i0 i1 u u0 u1
        have h2 := s2.1 _ hy
        have : HK1 (La i) u = K t := s1.inj h2.1 ht.1 (by rw [h2.2.2.2.1, h2.2.2.2.2]; exact (show cont _ _ = _ from ev).trans ht.2.symm)
        rw [← ek, ← this]
        exact hy
      exact ⟨_, (cnt_le _ _).1, by rw [s7]; exact cnt_lt t0 (by omega) hf, (s8 t t0 (by omega) hf).trans ek⟩
