theorem cut_end (G : Int → Int) {sz b ls ms : Int} (h : 0 ≤ sz) : bgF (cutR G sz b ls ms).2.2 (cutR G sz b ls ms).2.1 = sz := by
  have h1 := (cut_inv G sz b ls ms sz.toNat).2.2.1
  unfold cutR
  rw [h1]
  by_cases z : sz = 0
  · subst z; rfl
  · have e := cutSt_t (G := G) (sz := sz) (b := b) (ls := ls) (ms := ms) (k := sz - 1) (by omega) (Or.inl (by omega))
    rw [show sz - 1 + 1 = sz by omega] at e
    rw [e]
theorem sum_turn {mbid t : Int → Int} (h : turnOK mbid t) (f : Int → Int) : sumZ (fun j => f (t j)) 4 = sumZ f 4 := by
  have e1 : sumZ (fun j => f (t j)) 4 = 0 + f (t 0) + f (t 1) + f (t 2) + f (t 3) := rfl
  have e2 : sumZ f 4 = 0 + f 0 + f 1 + f 2 + f 3 := rfl
  rw [e1, e2]
  have h0 := h.2 0 (by omega) (by omega)
  have h1 := h.2 1 (by omega) (by omega)
  have h2 := h.2 2 (by omega) (by omega)
  have h3 := h.2 3 (by omega) (by omega)
  have n01 : ¬ t 0 = t 1 := fun z => by rw [z] at h0; omega
  have n02 : ¬ t 0 = t 2 := fun z => by rw [z] at h0; omega
  have n03 : ¬ t 0 = t 3 := fun z => by rw [z] at h0; omega
  have n12 : ¬ t 1 = t 2 := fun z => by rw [z] at h1; omega
  have n13 : ¬ t 1 = t 3 := fun z => by rw [z] at h1; omega
  have n23 : ¬ t 2 = t 3 := fun z => by rw [z] at h2; omega
  have r0 := h0.1
  have r1 := h1.1
  have r2 := h2.1
  have r3 := h3.1
  clear h0 h1 h2 h3 e1 e2
  generalize t 0 = a at *
  generalize t 1 = b at *
  generalize t 2 = c at *
  generalize t 3 = d at *
  rcases (show a = 0 ∨ a = 1 ∨ a = 2 ∨ a = 3 by omega) with q | q | q | q <;> rcases (show b = 0 ∨ b = 1 ∨ b = 2 ∨ b = 3 by omega) with u | u | u | u <;> first
    | (exfalso; omega)
    | (subst q; subst u
       rcases (show c = 0 ∨ c = 1 ∨ c = 2 ∨ c = 3 by omega) with v | v | v | v <;> first
        | (exfalso; omega)
        | (subst v
           rcases (show d = 0 ∨ d = 1 ∨ d = 2 ∨ d = 3 by omega) with w | w | w | w <;> first
            | (exfalso; omega)
            | (subst w; omega)))
section
variable {g : GG} {hK hK1 : AH} {LE : Nat → Option Nat} {RK1 : Nat → Int → Nat} {RN : Nat → Int} {HK1 : Nat → Int → Nat} {HN : Nat → Int} {CA : Nat → Nat} {PV : Nat → Option Nat} {CF : Nat → Int → Int} {CN : Nat → Int} {Ha : Int → Nat} {hN : Int} {LE1 : Nat → Option Nat} {RK2 : Nat → Int → Nat} {RN2 : Nat → Int} {HK2 : Nat → Int → Nat} {HN2 : Nat → Int} {CA1 : Nat → Nat} {PV1 : Nat → Option Nat} {CF1 : Nat → Int → Int} {CN1 : Nat → Int} {Ha1 : Int → Nat} {hN1 : Int} {mdata msize mends mmany mkind mchain mholds : Int → Int} {LX LX1 : Int → Option Nat} {x j : Int}
theorem LNK.wit (h0 : LNK g hK LE RK1 RN HK1 HN CF CN Ha hN mdata msize mends mmany mkind mchain mholds LX x j) (j0 : 0 ≤ j) (hw : ∀ a : Nat, hK a ≠ none → LE1 a = LE a ∧ RK2 a = RK1 a ∧ RN2 a = RN a ∧ HK2 a = HK1 a ∧ HN2 a = HN a) (hfr : ∀ b : Nat, hK b ≠ none → hK1 b = hK b) (hin : ∀ z : Nat, inH Ha hN z → inH Ha1 hN1 z ∧ CF1 z = CF z ∧ CN1 z = CN z) (hLX : ∀ i : Int, 0 ≤ i → i ≤ j → LX1 i = LX i) : LNK g hK1 LE1 RK2 RN2 HK2 HN2 CF1 CN1 Ha1 hN1 mdata msize mends mmany mkind mchain mholds LX1 x j := by
  have hlr := ltN_rng (colF mkind x) j.toNat
  rcases h0 with ⟨a1, a2, a3⟩ | ⟨a, a1, a2, a3, a4, a5, a6, a7, a8⟩
  · exact Or.inl ⟨a1, (hLX j j0 (Int.le_refl _)).trans a2, a3⟩
  · obtain ⟨rr, rra, rh, rha, fq1, fq2, p1, p2, p3⟩ := a2
    obtain ⟨w1, w2, w3, w4, w5⟩ := hw a (sm_ne p1)
    refine Or.inr ⟨a, (hLX j j0 (Int.le_refl _)).trans a1, ⟨rr, rra, rh, rha, fq1, fq2, ?_, ?_, ?_⟩, ?_, ?_, fun k k0 k1 => ?_, ?_, fun k k0 k1 kn => ?_, a8⟩
    · rw [w1]; exact (hfr a (sm_ne p1)).trans p1
    · rw [w2, w3]; exact p2.mv (hfr rr (sm_ne p2.1)) (hfr rra (sm_ne p2.2.1))
    · rw [w4, w5]; exact p3.mv (hfr rh (sm_ne p3.1)) (hfr rha (sm_ne p3.2.1))
    · rw [w3]; exact a3
    · rw [w1]
      rcases a4 with y | ⟨y1, y2, y3, y4⟩
      · exact Or.inl y
      · exact Or.inr ⟨y1, y2, y3.trans (hLX _ (by omega) (by omega)).symm, y4⟩
    · rw [w2]
      have h5 := a5 k k0 k1
      have h6 := hin _ h5.1
      exact ⟨h6.1, by rw [h6.2.1, h6.2.2]; exact h5.2.1, h5.2.2⟩
    · rw [w5]; exact a6
    · rw [w4, w2]; exact a7 k k0 k1 kn
/-- the link of this night -/
theorem LNK.new {d' s' e' m' k' c' h' : Int → Int} {Gx Ex : Int → Int} {n ng b ls ms W : Int} {FLG : Int → Prop} {a : Nat} {eo : Option Nat} (ho : LKo mends mmany) (hx : 0 ≤ x ∧ x ≤ 3) (hng : 0 ≤ ng ∧ ng < 60) (hs : 0 ≤ msize (240 + x) ∧ msize (240 + x) ≤ 48) (ha : LX1 ng = some a) (hLK : LKA g LE1 RK2 RN2 HK2 HN2 a hK1) (q2 : LE1 a = eo) (q3 : RN2 a = n) (q4 : ∀ k : Int, 0 ≤ k → k < n → inH Ha1 hN1 (RK2 a k) ∧ cont (CF1 (RK2 a k)) (CN1 (RK2 a k)) = chk Gx Ex k) (q5 : HN2 a = sumZ (fun k => bI (FLG k)) n.toNat) (q6 : ∀ k : Int, 0 ≤ k → k < n → FLG k → HK2 a (sumZ (fun k => bI (FLG k)) k.toNat) = RK2 a k) (hn : n = (cutR (rowF mdata (240 + x)) (msize (240 + x)) b ls ms).2.1) (hE : ∀ k : Int, 0 ≤ k → k < n → Ex k = (cutR (rowF mdata (240 + x)) (msize (240 + x)) b ls ms).2.2 k) (hGx : ∀ q : Int, 0 ≤ q → q < 48 → Gx q = rowF mdata (240 + x) q) (hR : newRow mdata msize mends mmany mkind mchain mholds ng b ls ms W d' s' e' m' k' c' h' x) (hrow : ∀ i : Int, 0 ≤ i → i < ng → rowE mdata msize mends mmany mkind mchain mholds d' s' e' m' k' c' h' (60 * x + i)) (hW : (W = 1 ∧ eo = none) ∨ (W = 2 ∧ ¬ ltN (colF mkind x) ng.toNat = -1 ∧ eo = LX1 (ltN (colF mkind x) ng.toNat))) (hF : ∀ k : Int, 0 ≤ k → k < n → (FLG k ↔ fstC (chk Gx Ex) k ∧ (W = 1 ∨ ¬ inCh mdata mends mmany mkind mchain mholds ng x (chk Gx Ex k)))) : LNK g hK1 LE1 RK2 RN2 HK2 HN2 CF1 CN1 Ha1 hN1 d' s' e' m' k' c' h' LX1 x ng := by
  obtain ⟨r1, r2, r3, r4, r5, r6⟩ := hR
  have hok := cutR_ok (rowF mdata (240 + x)) (b := b) (ls := ls) (ms := ms) hs.1 hs.2
  rw [← hn] at r2 r6 hok
  have hEO : EOK Ex n := EOK_congr (fun i i0 i1 => (hE i i0 i1).symm) hok.2.2
  -- the bytes of the parts, said thrice
  have hc1 : ∀ k : Int, 0 ≤ k → k < n → chk Gx Ex k = chk (rowF mdata (240 + x)) (cutR (rowF mdata (240 + x)) (msize (240 + x)) b ls ms).2.2 k := fun k k0 k1 => chk_congr (n := n) hE k0 k1 (hEO k k0 k1).1 (fun q q0 q1 => hGx q q0 (by have := (hEO k k0 k1).2.2; omega))
  have hc2 : ∀ k : Int, 0 ≤ k → k < n → chk Gx Ex k = chk (rowF d' (60 * x + ng)) (rowF e' (60 * x + ng)) k := fun k k0 k1 => chk_congr (n := n) (fun i i0 i1 => (hE i i0 i1).trans (r6 i i0 i1).1.symm) k0 k1 (hEO k k0 k1).1 (fun q q0 q1 => (hGx q q0 (by have := (hEO k k0 k1).2.2; omega)).trans (r5 q q0 (by have := (hEO k k0 k1).2.2; omega)).symm)
  have hf1 : ∀ k : Int, 0 ≤ k → k < n → (fstC (chk Gx Ex) k ↔ fstC (chk (rowF mdata (240 + x)) (cutR (rowF mdata (240 + x)) (msize (240 + x)) b ls ms).2.2) k) := fun k k0 k1 => by
    constructor
    · intro z i i0 i1; have y : chk Gx Ex i ≠ chk Gx Ex k := z i i0 i1; rw [hc1 i i0 (by omega), hc1 k k0 k1] at y; exact y
    · intro z i i0 i1; show chk Gx Ex i ≠ chk Gx Ex k; rw [hc1 i i0 (by omega), hc1 k k0 k1]; exact z i i0 i1
  have hf2 : ∀ k : Int, 0 ≤ k → k < n → (fstC (chk Gx Ex) k ↔ fstC (chk (rowF d' (60 * x + ng)) (rowF e' (60 * x + ng))) k) := fun k k0 k1 => by
    constructor
    · intro z i i0 i1; have y : chk Gx Ex i ≠ chk Gx Ex k := z i i0 i1; rw [hc2 i i0 (by omega), hc2 k k0 k1] at y; exact y
    · intro z i i0 i1; show chk Gx Ex i ≠ chk Gx Ex k; rw [hc2 i i0 (by omega), hc2 k k0 k1]; exact z i i0 i1
  have hi : ∀ w : List Int, inCh mdata mends mmany mkind mchain mholds ng x w ↔ inCh d' e' m' k' c' h' ng x w := fun w => inCh_rows (s := msize) (s' := s') hng hx ho hrow
  have hl : ltN (colF mkind x) ng.toNat = ltN (colF k' x) ng.toNat := ltN_congr fun i i0 i1 => (hrow i i0 (by omega)).2.2.1
  have hlr := ltN_rng (colF mkind x) ng.toNat
  have hH : ∀ k : Int, 0 ≤ k → k < n → rowF h' (60 * x + ng) k = bI (FLG k) := fun k k0 k1 => by
    rw [(r6 k k0 k1).2]
    refine bI_eq ?_
    rw [hF k k0 k1, hf1 k k0 k1, hc1 k k0 k1]
  have hHn : ∀ k : Int, 0 ≤ k → k < n → (rowF h' (60 * x + ng) k ≠ 0 ↔ FLG k) := fun k k0 k1 => by
    rw [hH k k0 k1]
    exact bI_n0
  have hsum : ∀ m : Int, 0 ≤ m → m ≤ n → sumZ (fun k => bI (rowF h' (60 * x + ng) k ≠ 0)) m.toNat = sumZ (fun k => bI (FLG k)) m.toNat := fun m m0 m1 => sumZ_congr fun k k0 k1 => by rw [bI_eq (hHn k k0 (by omega))]
  refine Or.inr ⟨a, ha, hLK, q3.trans r2.symm, ?_, fun k k0 k1 => ?_, ?_, fun k k0 k1 kn => ?_, ?_⟩
  · rw [r3, r4, q2, ← hl]
    rcases hW with ⟨w1, w2⟩ | ⟨w1, w2, w3⟩
    · exact Or.inl ⟨w1, w2, if_pos w1⟩
    · refine Or.inr ⟨w1, w2, w3, ?_⟩
      rw [if_neg (by omega)]
      exact (hrow _ (by omega) (by omega)).2.2.2.1
  · rw [r2] at k1
    have h4 := q4 k k0 k1
    refine ⟨h4.1, h4.2.trans (hc2 k k0 k1), ?_⟩
    rw [hH k k0 k1, r3, ← hc2 k k0 k1]
    refine bI_eq ?_
    rw [hF k k0 k1, hf2 k k0 k1, hi]
  · rw [q5, r2]
    exact (hsum n hok.1 (Int.le_refl _)).symm
  · rw [r2] at k1
    rw [hsum k k0 (by omega)]
    exact q6 k k0 k1 ((hHn k k0 k1).mp kn)
  · rw [r2, r1]
    have e1 : bgF (rowF e' (60 * x + ng)) n = bgF (cutR (rowF mdata (240 + x)) (msize (240 + x)) b ls ms).2.2 n := bgF_congr hok.1 (fun y => (r6 _ (by omega) (by omega)).1)
    have e2 := cut_end (rowF mdata (240 + x)) (b := b) (ls := ls) (ms := ms) hs.1
    rw [← hn] at e2
    rw [e1, e2]
end
