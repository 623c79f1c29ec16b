section
variable {g : GG} {hK : AH} {LE : Nat → Option Nat} {RK1 : Nat → Int → Nat} {RN : Nat → Int} {HK1 : Nat → Int → Nat} {HN : Nat → Int} {CA : Nat → Nat} {PV : Nat → Option Nat} {CF : Nat → Int → Int} {CN : Nat → Int} {Ha : Int → Nat} {hN : Int} {mdata msize mends mmany mkind mchain mholds : Int → Int} {LX : Int → Option Nat} {x j n : Int} {La : Int → Nat} {nt : Int → Int} {len : Int}
/-- what is true of a link that stands -/
def lnkR (g : GG) (hK : AH) (LE : Nat → Option Nat) (RK1 : Nat → Int → Nat) (RN : Nat → Int) (HK1 : Nat → Int → Nat) (HN : Nat → Int) (CF : Nat → Int → Int) (CN : Nat → Int) (Ha : Int → Nat) (hN : Int) (mdata msize mends mmany mkind mchain mholds : Int → Int) (x j : Int) (a : Nat) : Prop := LKA g LE RK1 RN HK1 HN a hK ∧ RN a = mmany (60 * x + j) ∧ (∀ k : Int, 0 ≤ k → k < mmany (60 * x + j) → inH Ha hN (RK1 a k) ∧ cont (CF (RK1 a k)) (CN (RK1 a k)) = chk (rowF mdata (60 * x + j)) (rowF mends (60 * x + j)) k ∧ rowF mholds (60 * x + j) k = bI (fstC (chk (rowF mdata (60 * x + j)) (rowF mends (60 * x + j))) k ∧ (mkind (60 * x + j) = 1 ∨ ¬ inCh mdata mends mmany mkind mchain mholds j x (chk (rowF mdata (60 * x + j)) (rowF mends (60 * x + j)) k)))) ∧ HN a = sumZ (fun k => bI (rowF mholds (60 * x + j) k ≠ 0)) (mmany (60 * x + j)).toNat ∧ (∀ k : Int, 0 ≤ k → k < mmany (60 * x + j) → rowF mholds (60 * x + j) k ≠ 0 → HK1 a (sumZ (fun k => bI (rowF mholds (60 * x + j) k ≠ 0)) k.toNat) = RK1 a k) ∧ bgF (rowF mends (60 * x + j)) (mmany (60 * x + j)) = msize (60 * x + j) ∧ (mkind (60 * x + j) = 1 ∨ mkind (60 * x + j) = 2)
theorem LNK.at {a : Nat} (h : LNK g hK LE RK1 RN HK1 HN CF CN Ha hN mdata msize mends mmany mkind mchain mholds LX x j) (e : LX j = some a) : lnkR g hK LE RK1 RN HK1 HN CF CN Ha hN mdata msize mends mmany mkind mchain mholds x j a := by
  rcases h with z | ⟨b, b1, b2, b3, b4, b5, b6, b7, b8⟩
  · rw [z.2.1] at e; cases e
  · rw [b1] at e
    obtain rfl := Option.some.inj e
    refine ⟨b2, b3, b5, b6, b7, b8, ?_⟩
    rcases b4 with y | y
    · exact Or.inl y.1
    · exact Or.inr y.1
theorem LNK.nz (h : LNK g hK LE RK1 RN HK1 HN CF CN Ha hN mdata msize mends mmany mkind mchain mholds LX x j) : LX j = none ↔ mkind (60 * x + j) = 0 := by
  rcases h with z | ⟨b, b1, b2, b3, b4, b5⟩
  · exact ⟨fun _ => z.1, fun _ => z.2.1⟩
  · rw [b1]
    constructor
    · intro y; cases y
    · intro y
      rcases b4 with w | w
      · have := w.1; omega
      · have := w.1; omega
theorem lnkR.held {a : Nat} (h : lnkR g hK LE RK1 RN HK1 HN CF CN Ha hN mdata msize mends mmany mkind mchain mholds x j a) (w : List Int) : exN (fun i => cont (CF (HK1 a i)) (CN (HK1 a i)) = w) (HN a) ↔ hldC (rowF mholds (60 * x + j)) (chk (rowF mdata (60 * x + j)) (rowF mends (60 * x + j))) (mmany (60 * x + j)) w :=
  held_iff (j := j) (fun k k0 k1 => (h.2.2.1 k k0 k1).2.1) h.2.2.2.1 h.2.2.2.2.1 w
theorem lnkR.inH {a : Nat} (h : lnkR g hK LE RK1 RN HK1 HN CF CN Ha hN mdata msize mends mmany mkind mchain mholds x j a) : ∀ i : Int, 0 ≤ i → i < HN a → inH Ha hN (HK1 a i) := fun i i0 i1 => by
  rw [h.2.2.2.1] at i1
  obtain ⟨k, k0, k1, k2, k3⟩ := cnt_surj (P := fun k => rowF mholds (60 * x + j) k ≠ 0) i0 i1
  have e := h.2.2.2.2.1 k k0 (by omega) k2
  rw [k3] at e
  rw [e]
  exact (h.2.2.1 k k0 (by omega)).1
variable (H : ∀ j : Int, 0 ≤ j → j < 60 → LNK g hK LE RK1 RN HK1 HN CF CN Ha hN mdata msize mends mmany mkind mchain mholds LX x j) (hC : chnP g hK LE RK1 RN HK1 HN mkind mchain LX x j La nt len)
theorem chnP.at (H : ∀ j : Int, 0 ≤ j → j < 60 → LNK g hK LE RK1 RN HK1 HN CF CN Ha hN mdata msize mends mmany mkind mchain mholds LX x j) (hC : chnP g hK LE RK1 RN HK1 HN mkind mchain LX x j La nt len) (hj : j < 60) {i : Int} (i0 : 0 ≤ i) (i1 : i < len) : lnkR g hK LE RK1 RN HK1 HN CF CN Ha hN mdata msize mends mmany mkind mchain mholds x (nt i) (La i) := by
  have h := hC.2.2.1 i i0 i1
  exact (H (nt i) h.1.1 (by omega)).at h.2.1
/-- the chain holds just what the model's chain holds -/
theorem chP_in (H : ∀ j : Int, 0 ≤ j → j < 60 → LNK g hK LE RK1 RN HK1 HN CF CN Ha hN mdata msize mends mmany mkind mchain mholds LX x j) (hC : chnP g hK LE RK1 RN HK1 HN mkind mchain LX x j La nt len) (hj : 0 ≤ j ∧ j < 60) (hn : 0 ≤ n ∧ n ≤ 60) (hl : ltN (colF mkind x) n.toNat = j) (w : List Int) : chP CF CN HK1 HN La len w ↔ inCh mdata mends mmany mkind mchain mholds n x w := by
  have hv : ltv x (ltN (colF mkind x) n.toNat) = 60 * x + j := by unfold ltv; rw [hl, if_neg (by omega)]
  have hr := ltN_rng (colF mkind x) n.toNat
  constructor
  · rintro ⟨i, i0, i1, e⟩
    have h := hC.2.2.1 i i0 i1
    have hR := chnP.at H hC hj.2 i0 i1
    refine ⟨nt i, h.1.1, by omega, ⟨?_, ?_⟩, (hR.held w).mp e⟩
    · have := hR.2.2.2.2.2.2; omega
    · rw [hv]; exact h.2.2.2
  · rintro ⟨k, k0, k1, ⟨k2, k3⟩, k4⟩
    rw [hv] at k3
    have hkj : k ≤ j := by
      have hz : ¬ colF mkind x k = 0 := by show ¬ mkind (60 * x + k) = 0; omega
      have := ltN_ge (colF mkind x) (n := n.toNat) k0 (by omega) hz
      omega
    obtain ⟨i, i0, i1, e⟩ := hC.2.2.2.1 k k0 hkj (by omega) k3
    have hR := chnP.at H hC hj.2 i0 i1
    rw [e] at hR
    exact ⟨i, i0, i1, (hR.held w).mpr k4⟩
/-- the first of the same bytes -/
theorem fst_ex {C : Int → List Int} : ∀ (n : Nat) (k : Int), 0 ≤ k → k < (n : Int) → ∃ t : Int, 0 ≤ t ∧ t ≤ k ∧ C t = C k ∧ fstC C t
  | 0, k, k0, k1 => by omega
  | n + 1, k, k0, k1 => by
    by_cases z : fstC C k
    · exact ⟨k, k0, Int.le_refl _, rfl, z⟩
    · have : ∃ t : Int, 0 ≤ t ∧ t < k ∧ C t = C k := Classical.byContradiction fun y => z fun t t0 t1 w => y ⟨t, t0, t1, w⟩
      obtain ⟨t, t0, t1, t2⟩ := this
      obtain ⟨u, u0, u1, u2, u3⟩ := fst_ex (C := C) n t t0 (by omega)
      exact ⟨u, u0, by omega, u2.trans t2, u3⟩
/-- every chunk of a day is held by its chain -/
theorem all_held (H : ∀ j : Int, 0 ≤ j → j < 60 → LNK g hK LE RK1 RN HK1 HN CF CN Ha hN mdata msize mends mmany mkind mchain mholds LX x j) (hC : chnP g hK LE RK1 RN HK1 HN mkind mchain LX x j La nt len) (hj : 0 ≤ j ∧ j < 60) {k : Int} (k0 : 0 ≤ k) (k1 : k < mmany (60 * x + j)) : chP CF CN HK1 HN La len (chk (rowF mdata (60 * x + j)) (rowF mends (60 * x + j)) k) := by
  have hR := chnP.at H hC hj.2 (i := 0) (by omega) hC.1
  rw [hC.2.1] at hR
  obtain ⟨t, t0, t1, t2, t3⟩ := fst_ex (C := chk (rowF mdata (60 * x + j)) (rowF mends (60 * x + j))) (k + 1).toNat k k0 (by omega)
  have h5 := (hR.2.2.1 t t0 (by omega)).2.2
  rw [t2] at h5
  by_cases z : mkind (60 * x + j) = 1 ∨ ¬ inCh mdata mends mmany mkind mchain mholds j x (chk (rowF mdata (60 * x + j)) (rowF mends (60 * x + j)) k)
  · refine ⟨0, by omega, hC.1, (hR.held _).mpr ⟨t, t0, by omega, ?_, t2⟩⟩
    rw [h5, bI_t ⟨t3, z⟩]
    decide
  · have hk2 : mkind (60 * x + j) = 2 := by
      rcases hR.2.2.2.2.2.2 with y | y
      · exact absurd (Or.inl y) z
      · exact y
    have hin : inCh mdata mends mmany mkind mchain mholds j x (chk (rowF mdata (60 * x + j)) (rowF mends (60 * x + j)) k) := Classical.byContradiction fun y => z (Or.inr y)
    have hm : ¬ ltN (colF mkind x) j.toNat = -1 ∧ mchain (60 * x + j) = mchain (60 * x + ltN (colF mkind x) j.toNat) := by
      rcases H j hj.1 hj.2 with y | ⟨b, b1, b2, b3, b4, b5⟩
      · omega
      · rcases b4 with y | y
        · omega
        · exact ⟨y.2.1, y.2.2.2⟩
    obtain ⟨k', p0, p1, ⟨p2, p3⟩, p4⟩ := hin
    have hv : ltv x (ltN (colF mkind x) j.toNat) = 60 * x + ltN (colF mkind x) j.toNat := by unfold ltv; rw [if_neg hm.1]
    rw [hv, ← hm.2] at p3
    obtain ⟨i, i0, i1, e⟩ := hC.2.2.2.1 k' p0 (by omega) (by omega) p3
    have hR2 := chnP.at H hC hj.2 i0 i1
    rw [e] at hR2
    exact ⟨i, i0, i1, (hR2.held _).mpr p4⟩
/-- a later link of the chain holds no chunk of an earlier day -/
theorem no_late (H : ∀ j : Int, 0 ≤ j → j < 60 → LNK g hK LE RK1 RN HK1 HN CF CN Ha hN mdata msize mends mmany mkind mchain mholds LX x j) (hC : chnP g hK LE RK1 RN HK1 HN mkind mchain LX x j La nt len) (hj : 0 ≤ j ∧ j < 60) {k : Int} (k0 : j < k) (k1 : k < 60) (k2 : 0 < mkind (60 * x + k)) (k3 : mchain (60 * x + k) = mchain (60 * x + j)) : ¬ exN (fun a => hldC (rowF mholds (60 * x + k)) (chk (rowF mdata (60 * x + k)) (rowF mends (60 * x + k))) (mmany (60 * x + k)) (chk (rowF mdata (60 * x + j)) (rowF mends (60 * x + j)) a)) (mmany (60 * x + j)) := by
  rintro ⟨a, a0, a1, t, t0, t1, t2, t3⟩
  have hjj := hC.2.2.2.2.2.2.1
  rcases H k (by omega) k1 with y | ⟨b, b1, b2, b3, b4, b5, b6⟩
  · omega
  rcases b4 with y | ⟨y1, y2, y3, y4⟩
  · omega
  have h5 := (b5 t t0 t1).2.2
  have hno : ¬ inCh mdata mends mmany mkind mchain mholds k x (chk (rowF mdata (60 * x + k)) (rowF mends (60 * x + k)) t) := fun w => t2 (by rw [h5, bI_f (fun v => v.2.elim (fun u => by omega) (fun u => u w))])
  rw [t3] at hno
  obtain ⟨i, i0, i1, e⟩ := all_held H hC hj a0 a1
  have hR := chnP.at H hC hj.2 i0 i1
  have hi := hC.2.2.1 i i0 i1
  refine hno ⟨nt i, hi.1.1, by omega, ⟨?_, ?_⟩, (hR.held _).mp e⟩
  · have := hR.2.2.2.2.2.2; omega
  · have hv : ltv x (ltN (colF mkind x) k.toNat) = 60 * x + ltN (colF mkind x) k.toNat := by unfold ltv; rw [if_neg y2]
    rw [hv, ← y4, k3]
    exact hi.2.2.2
/-- the links to mount -/
theorem mounts_eq {CA : Nat → Nat} {PV : Nat → Option Nat} (hS : HS g CA PV CF CN Ha hN hK) (H : ∀ j : Int, 0 ≤ j → j < 60 → LNK g hK LE RK1 RN HK1 HN CF CN Ha hN mdata msize mends mmany mkind mchain mholds LX x j) (hC : chnP g hK LE RK1 RN HK1 HN mkind mchain LX x j La nt len) (hj : 0 ≤ j ∧ j < n) (hn : n ≤ 60) : 1 + sumZ (fun i => bI (exN (fun q => exN (fun t => HK1 (La (i + 1)) t = RK1 (La 0) q) (HN (La (i + 1)))) (RN (La 0)))) (len - 1).toNat = sumZ (fun k => bI (k = j ∨ ((0 < mkind (60 * x + k) ∧ mchain (60 * x + k) = mchain (60 * x + j)) ∧ exN (fun a => hldC (rowF mholds (60 * x + k)) (chk (rowF mdata (60 * x + k)) (rowF mends (60 * x + k))) (mmany (60 * x + k)) (chk (rowF mdata (60 * x + j)) (rowF mends (60 * x + j)) a)) (mmany (60 * x + j))))) n.toNat := by
  have hR0 := chnP.at H hC (by omega) (i := 0) (by omega) hC.1
  rw [hC.2.1] at hR0
  have hjk : ¬ mkind (60 * x + j) = 0 := by
    have := hC.2.2.1 0 (by omega) hC.1
    rw [hC.2.1] at this
    exact this.2.2.1
  -- beyond j nothing counts
  have eA : sumZ (fun k => bI (k = j ∨ ((0 < mkind (60 * x + k) ∧ mchain (60 * x + k) = mchain (60 * x + j)) ∧ exN (fun a => hldC (rowF mholds (60 * x + k)) (chk (rowF mdata (60 * x + k)) (rowF mends (60 * x + k))) (mmany (60 * x + k)) (chk (rowF mdata (60 * x + j)) (rowF mends (60 * x + j)) a)) (mmany (60 * x + j))))) n.toNat = sumZ (fun k => bI (k = j ∨ ((0 < mkind (60 * x + k) ∧ mchain (60 * x + k) = mchain (60 * x + j)) ∧ exN (fun a => hldC (rowF mholds (60 * x + k)) (chk (rowF mdata (60 * x + k)) (rowF mends (60 * x + k))) (mmany (60 * x + k)) (chk (rowF mdata (60 * x + j)) (rowF mends (60 * x + j)) a)) (mmany (60 * x + j))))) (j + 1).toNat := sumZ_ext0 (by omega) (fun k k0 k1 => bI_f (fun y => by
    rcases y with y | y
    · omega
    · exact no_late H hC (by omega) (by omega) (by omega) y.1.1 y.1.2 y.2))
  have eB := hC.2.2.2.2.2.2.2 (fun k => bI (k = j ∨ exN (fun a => hldC (rowF mholds (60 * x + k)) (chk (rowF mdata (60 * x + k)) (rowF mends (60 * x + k))) (mmany (60 * x + k)) (chk (rowF mdata (60 * x + j)) (rowF mends (60 * x + j)) a)) (mmany (60 * x + j))))
  rw [eA]
  have eC : sumZ (fun k => bI (¬ mkind (60 * x + k) = 0 ∧ mchain (60 * x + k) = mchain (60 * x + j)) * bI (k = j ∨ exN (fun a => hldC (rowF mholds (60 * x + k)) (chk (rowF mdata (60 * x + k)) (rowF mends (60 * x + k))) (mmany (60 * x + k)) (chk (rowF mdata (60 * x + j)) (rowF mends (60 * x + j)) a)) (mmany (60 * x + j)))) (j + 1).toNat = sumZ (fun k => bI (k = j ∨ ((0 < mkind (60 * x + k) ∧ mchain (60 * x + k) = mchain (60 * x + j)) ∧ exN (fun a => hldC (rowF mholds (60 * x + k)) (chk (rowF mdata (60 * x + k)) (rowF mends (60 * x + k))) (mmany (60 * x + k)) (chk (rowF mdata (60 * x + j)) (rowF mends (60 * x + j)) a)) (mmany (60 * x + j))))) (j + 1).toNat := sumZ_congr fun k k0 k1 => by
    have hkk : 0 < mkind (60 * x + k) ↔ ¬ mkind (60 * x + k) = 0 := by
      rcases H k k0 (by omega) with y | ⟨b, b1, b2, b3, b4, b5⟩
      · omega
      · rcases b4 with w | w
        · have := w.1; omega
        · have := w.1; omega
    by_cases y : k = j
    · subst y
      rw [bI_t ⟨hjk, rfl⟩, bI_t (Or.inl rfl), bI_t (Or.inl rfl)]
      rfl
    · by_cases w : ¬ mkind (60 * x + k) = 0 ∧ mchain (60 * x + k) = mchain (60 * x + j)
      · rw [bI_t w, Int.one_mul]
        exact bI_eq ⟨fun v => v.elim (fun u => Or.inl u) (fun u => Or.inr ⟨⟨hkk.mpr w.1, w.2⟩, u⟩), fun v => v.elim (fun u => Or.inl u) (fun u => Or.inr u.2)⟩
      · rw [bI_f w, Int.zero_mul]
        exact (bI_f (fun v => v.elim (fun u => y u) (fun u => w ⟨hkk.mp u.1.1, u.1.2⟩))).symm
  rw [← eC, ← eB, show len.toNat = (len - 1).toNat + 1 by have := hC.1; omega, sumZ_front]
  have e0 : bI (nt 0 = j ∨ exN (fun a => hldC (rowF mholds (60 * x + nt 0)) (chk (rowF mdata (60 * x + nt 0)) (rowF mends (60 * x + nt 0))) (mmany (60 * x + nt 0)) (chk (rowF mdata (60 * x + j)) (rowF mends (60 * x + j)) a)) (mmany (60 * x + j))) = 1 := bI_t (Or.inl hC.2.1)
  show _ = bI (nt 0 = j ∨ _) + _
  rw [e0]
  congr 1
  refine sumZ_congr fun i i0 i1 => ?_
  have hi := hC.2.2.1 (i + 1) (by omega) (by omega)
  have hR := chnP.at H hC (by omega) (i := i + 1) (by omega) (by omega)
  refine bI_eq ⟨?_, ?_⟩
  · rintro ⟨q, q0, q1, t, t0, t1, e⟩
    rw [hR0.2.1] at q1
    refine Or.inr ⟨q, q0, q1, (hR.held _).mp ⟨t, t0, t1, ?_⟩⟩
    show cont _ _ = _
    rw [show HK1 (La (i + 1)) t = RK1 (La 0) q from e]
    exact (hR0.2.2.1 q q0 q1).2.1
  · rintro (y | ⟨q, q0, q1, e⟩)
    · have := hi.1.2.2 (by omega); omega
    · obtain ⟨t, t0, t1, e2⟩ := (hR.held _).mpr e
      refine ⟨q, q0, by rw [hR0.2.1]; exact q1, t, t0, t1, ?_⟩
      have h5 := hR0.2.2.1 q q0 q1
      exact hS.inj (hR.inH t t0 t1) h5.1 ((show cont _ _ = _ from e2).trans h5.2.1.symm)
end
