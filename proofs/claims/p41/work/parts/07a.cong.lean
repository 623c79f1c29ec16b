section
variable {g : GG} {A : Nat → Nat} {Z : Nat → Prop} {hK h hZ : AH} {LE : Nat → Option Nat} {RK1 : Nat → Int → Nat} {RN : Nat → Int} {HK1 : Nat → Int → Nat} {HN : Nat → Int} {CA : Nat → Nat} {PV : Nat → Option Nat} {CF : Nat → Int → Int} {CN : Nat → Int} {Ha : Int → Nat} {hN : Int} {mnights mbits mleast mmost mroom mreserve mmount mspeed : Int} {mdata msize mends mmany mkind mchain mholds mbid mbound mcheap mpromised mcoin mpaid mowed : Int → Int} {d' s' e' m' k' c' h' : Int → Int} {LN : Int → Int → Option Nat} {lt : Int → Option Nat} {LX : Int → Option Nat} {x j : Int}
theorem LNK.cg (ho : LKo mends mmany) (hx : 0 ≤ x ∧ x ≤ 3) (hj : 0 ≤ j ∧ j < 60) (hr : ∀ i : Int, 0 ≤ i → i ≤ j → rowE mdata msize mends mmany mkind mchain mholds d' s' e' m' k' c' h' (60 * x + i)) (h0 : LNK g hK LE RK1 RN HK1 HN CF CN Ha hN mdata msize mends mmany mkind mchain mholds LX x j) : LNK g hK LE RK1 RN HK1 HN CF CN Ha hN d' s' e' m' k' c' h' LX x j := by
  have h1 := hr j hj.1 (Int.le_refl _)
  have h2 := ho (60 * x + j) (by omega) (by omega)
  have hl : ltN (colF mkind x) j.toNat = ltN (colF k' x) j.toNat := ltN_congr fun i i0 i1 => (hr i i0 (by omega)).2.2.1
  have hlr := ltN_rng (colF mkind x) j.toNat
  rcases h0 with ⟨a1, a2, a3⟩ | ⟨a, a1, a2, a3, a4, a5, a6, a7, a8⟩
  · exact Or.inl ⟨h1.2.2.1.symm.trans a1, a2, h1.2.1.symm.trans a3⟩
  · have hc : ∀ k : Int, 0 ≤ k → k < mmany (60 * x + j) → chk (rowF mdata (60 * x + j)) (rowF mends (60 * x + j)) k = chk (rowF d' (60 * x + j)) (rowF e' (60 * x + j)) k := fun k k0 k1 => chk_congr (n := mmany (60 * x + j)) (fun i i0 i1 => (h1.2.2.2.2 i i0 (by omega)).2.1) k0 k1 (h2.2 k k0 k1).1 (fun i i0 i1 => (h1.2.2.2.2 i i0 (by have := (h2.2 k k0 k1).2.2; omega)).1)
    have hh : ∀ k : Int, 0 ≤ k → k < mmany (60 * x + j) → rowF mholds (60 * x + j) k = rowF h' (60 * x + j) k := fun k k0 k1 => (h1.2.2.2.2 k k0 (by omega)).2.2
    have hi : ∀ w : List Int, inCh mdata mends mmany mkind mchain mholds j x w ↔ inCh d' e' m' k' c' h' j x w := fun w => inCh_rows (s := msize) (s' := s') hj hx ho (fun i i0 i1 => hr i i0 (by omega))
    have hsum : ∀ n : Int, 0 ≤ n → n ≤ mmany (60 * x + j) → sumZ (fun k => bI (rowF mholds (60 * x + j) k ≠ 0)) n.toNat = sumZ (fun k => bI (rowF h' (60 * x + j) k ≠ 0)) n.toNat := fun n n0 n1 => sumZ_congr fun k k0 k1 => by rw [hh k k0 (by omega)]
    refine Or.inr ⟨a, a1, a2, a3.trans h1.2.1, ?_, fun k k0 k1 => ?_, ?_, fun k k0 k1 kn => ?_, ?_⟩
    · rw [← h1.2.2.1, ← h1.2.2.2.1, ← hl]
      rcases a4 with y | ⟨y1, y2, y3, y4⟩
      · exact Or.inl y
      · exact Or.inr ⟨y1, y2, y3, y4.trans (hr _ (by omega) (by omega)).2.2.2.1⟩
    · rw [← h1.2.1] at k1
      have h5 := a5 k k0 k1
      refine ⟨h5.1, h5.2.1.trans (hc k k0 k1), ?_⟩
      rw [← hh k k0 k1, h5.2.2, ← h1.2.2.1, ← hc k k0 k1]
      refine bI_eq (and_congr ?_ (or_congr Iff.rfl (not_congr (hi _))))
      constructor
      · intro y i i0 i1
        have := y i i0 i1
        show chk _ _ i ≠ chk _ _ k
        rw [← hc i i0 (by omega), ← hc k k0 k1]
        exact this
      · intro y i i0 i1
        have : chk (rowF d' (60 * x + j)) (rowF e' (60 * x + j)) i ≠ chk (rowF d' (60 * x + j)) (rowF e' (60 * x + j)) k := y i i0 i1
        show chk _ _ i ≠ chk _ _ k
        rw [hc i i0 (by omega), hc k k0 k1]
        exact this
    · rw [a6, ← h1.2.1]
      exact hsum _ h2.1.1 (Int.le_refl _)
    · rw [← h1.2.1] at k1
      rw [← hh k k0 k1] at kn
      rw [← hsum k k0 (by omega)]
      exact a7 k k0 k1 kn
    · rw [← h1.2.1, ← h1.1, ← a8]
      exact (bgF_congr h2.1.1 (fun y => (h1.2.2.2.2 _ (by omega) (by omega)).2.1)).symm
theorem LKo.cg (ho : LKo mends mmany) (hr : ∀ z : Int, 0 ≤ z → z < 240 → rowE mdata msize mends mmany mkind mchain mholds d' s' e' m' k' c' h' z) : LKo e' m' := fun z z0 z1 => by
  have h1 := hr z z0 z1
  have h2 := ho z z0 z1
  rw [← h1.2.1]
  exact ⟨h2.1, EOK_congr (fun i i0 i1 => (h1.2.2.2.2 i i0 (by omega)).2.1) h2.2⟩
theorem KPX.cg (hn : 0 ≤ mnights ∧ mnights ≤ 60) (hr : ∀ z : Int, 0 ≤ z → z < 240 → rowE mdata msize mends mmany mkind mchain mholds d' s' e' m' k' c' h' z) (hX : KPX g hK LE RK1 RN HK1 HN CA PV CF CN Ha hN mdata msize mends mmany mkind mchain mholds mnights LN lt) : KPX g hK LE RK1 RN HK1 HN CA PV CF CN Ha hN d' s' e' m' k' c' h' mnights LN lt := by
  obtain ⟨p1, p2, p3, p4, p5, p6⟩ := hX
  refine ⟨p1.cg hr, p2, fun x x0 x1 j j0 j1 => (p3 x x0 x1 j j0 j1).cg p1 ⟨x0, x1⟩ ⟨j0, j1⟩ (fun i i0 i1 => hr _ (by omega) (by omega)), fun x x0 x1 j j0 j1 => (hr (60 * x + j) (by omega) (by omega)).2.2.1.symm.trans (p4 x x0 x1 j j0 j1), p5, fun x x0 x1 => ?_⟩
  rw [p6 x x0 x1]
  congr 1
  exact ltN_congr fun i i0 i1 => (hr (60 * x + i) (by omega) (by omega)).2.2.1
/-- the same rows, the same files: the same state -/
theorem ST.cg (hn : 0 ≤ mnights ∧ mnights ≤ 60) (hr : ∀ z : Int, 0 ≤ z → z < 240 → rowE mdata msize mends mmany mkind mchain mholds d' s' e' m' k' c' h' z) (hf : ∀ x : Int, 0 ≤ x → x ≤ 3 → fileE mdata msize d' s' x) (hd : ∀ i : Int, 0 ≤ i → i < 11712 → 0 ≤ d' i ∧ d' i ≤ 255) (hT : ST g A Z hZ mdata msize mends mmany mkind mchain mholds mnights mbits mleast mmost mroom mreserve mmount mspeed mbid mbound mcheap mpromised mcoin mpaid mowed h) : ST g A Z hZ d' s' e' m' k' c' h' mnights mbits mleast mmost mroom mreserve mmount mspeed mbid mbound mcheap mpromised mcoin mpaid mowed h := by
  obtain ⟨hK, LE, RK1, RN, HK1, HN, CA, PV, CF, CN, Ha, hN, tq, G, Eg, sz, pt, wt, gt, pc, LN, lt, hC, hSub, hZn, hX, hM⟩ := hT
  refine ⟨hK, LE, RK1, RN, HK1, HN, CA, PV, CF, CN, Ha, hN, tq, G, Eg, sz, pt, wt, gt, pc, LN, lt, hC, hSub, hZn, hX.cg hn hr, fun x x0 x1 => ?_, hd⟩
  have h1 := hM.1 x x0 x1
  have h2 := hf x x0 x1
  exact ⟨h1.1.trans h2.1, h1.2.1, fun j j0 j1 => (h1.2.2 j j0 j1).trans (h2.2 j j0 j1)⟩
end
section
variable {mdata msize mends mmany mkind mchain mholds : Int → Int} {G : Int → Int → Int} {sz : Int → Int} {x k b w : Int}
theorem rowE.fil {d' s' : Int → Int} (hd : ∀ i : Int, 0 ≤ i → i < 11520 → mdata i = d' i) (hs : ∀ i : Int, 0 ≤ i → i < 240 → msize i = s' i) : ∀ z : Int, 0 ≤ z → z < 240 → rowE mdata msize mends mmany mkind mchain mholds d' s' mends mmany mkind mchain mholds z := fun z z0 z1 => ⟨hs z z0 z1, rfl, rfl, rfl, fun q q0 q1 => ⟨hd _ (by omega) (by omega), rfl, rfl⟩⟩
theorem MGP.mk {d' s' : Int → Int} {G1 : Int → Int} {s1 : Int} (hM : MGP mdata msize G sz) (x0 : 0 ≤ x) (x1 : x ≤ 3) (hs : s1 = s' (240 + x)) (hs2 : ∀ i : Int, i ≠ 240 + x → s' i = msize i) (hr : ∀ j : Int, 0 ≤ G1 j ∧ G1 j ≤ 255) (hg : ∀ j : Int, 0 ≤ j → j < 48 → G1 j = d' (48 * (240 + x) + j)) (hd : ∀ i : Int, (i < 48 * (240 + x) ∨ 48 * (240 + x) + 48 ≤ i) → d' i = mdata i) : MGP d' s' (upG G x G1) (upZ sz x s1) := by
  refine ⟨fun y y0 y1 => ?_, fun i i0 i1 => ?_⟩
  · by_cases z : y = x
    · subst z
      have e1 : upG G y G1 y = G1 := if_pos rfl
      rw [e1, upZ_at]
      exact ⟨hs, hr, hg⟩
    · have e1 : upG G x G1 y = G y := if_neg z
      have h1 := hM.1 y y0 y1
      rw [e1, upZ_ne _ _ z]
      exact ⟨h1.1.trans (hs2 _ (by omega)).symm, h1.2.1, fun j j0 j1 => (h1.2.2 j j0 j1).trans (hd _ (by omega)).symm⟩
  · by_cases z : i < 48 * (240 + x) ∨ 48 * (240 + x) + 48 ≤ i
    · rw [hd i z]
      exact hM.2 i i0 i1
    · have := hg (i - 48 * (240 + x)) (by omega) (by omega)
      rw [show 48 * (240 + x) + (i - 48 * (240 + x)) = i by omega] at this
      rw [← this]
      exact hr _
theorem insF_r {D : Int → Int} {o n k v : Int} (hD : ∀ j : Int, 0 ≤ D j ∧ D j ≤ 255) (hv : 0 ≤ v ∧ v ≤ 255) (j : Int) : 0 ≤ insF D o n k v j ∧ insF D o n k v j ≤ 255 := by
  unfold insF
  split
  · exact hv
  · split
    · exact hD _
    · exact hD _
theorem MGP.put (hM : MGP mdata msize G sz) (x0 : 0 ≤ x) (x1 : x ≤ 3) (hs : 0 ≤ sz x ∧ sz x < 48) (hk : 0 ≤ k ∧ k ≤ sz x) (hb : 0 ≤ b ∧ b ≤ 255) : MGP (insF mdata (48 * (240 + x)) (msize (240 + x)) k b) (upZ msize (240 + x) (msize (240 + x) + 1)) (upG G x (insF (G x) 0 (sz x) k b)) (upZ sz x (sz x + 1)) := by
  have h1 := hM.1 x x0 x1
  refine hM.mk x0 x1 (by rw [upZ_at, h1.1]) (fun i hi => upZ_ne _ _ hi) (insF_r h1.2.1 hb) (fun j j0 j1 => ?_) (fun i hi => ?_)
  · rw [← h1.1]
    unfold insF
    by_cases y : j = k
    · rw [if_pos (show j = 0 + k by omega), if_pos (show 48 * (240 + x) + j = 48 * (240 + x) + k by omega)]
    · rw [if_neg (show ¬ j = 0 + k by omega), if_neg (show ¬ 48 * (240 + x) + j = 48 * (240 + x) + k by omega)]
      by_cases y2 : k < j ∧ j ≤ sz x
      · rw [if_pos (show 0 + k < j ∧ j ≤ 0 + sz x by omega), if_pos (show 48 * (240 + x) + k < 48 * (240 + x) + j ∧ 48 * (240 + x) + j ≤ 48 * (240 + x) + sz x by omega), h1.2.2 (j - 1) (by omega) (by omega)]
        congr 1
        omega
      · rw [if_neg (show ¬ (0 + k < j ∧ j ≤ 0 + sz x) by omega), if_neg (show ¬ (48 * (240 + x) + k < 48 * (240 + x) + j ∧ 48 * (240 + x) + j ≤ 48 * (240 + x) + sz x) by omega)]
        exact h1.2.2 j j0 j1
  · rw [← h1.1]
    unfold insF
    rw [if_neg (by omega), if_neg (by omega)]
theorem MGP.set (hM : MGP mdata msize G sz) (x0 : 0 ≤ x) (x1 : x ≤ 3) (hk : 0 ≤ k ∧ k < 48) (hb : 0 ≤ b ∧ b ≤ 255) : MGP (upZ mdata (48 * (240 + x) + k) b) msize (upG G x (upZ (G x) k b)) (upZ sz x (sz x)) := by
  have h1 := hM.1 x x0 x1
  refine hM.mk x0 x1 h1.1 (fun i hi => rfl) (fun j => ?_) (fun j j0 j1 => ?_) (fun i hi => upZ_ne _ _ (by omega))
  · unfold upZ
    split
    · exact hb
    · exact h1.2.1 j
  · by_cases y : j = k
    · rw [y, upZ_at, upZ_at]
    · rw [upZ_ne _ _ y, upZ_ne _ _ (by omega)]
      exact h1.2.2 j j0 j1
theorem MGP.cut (hM : MGP mdata msize G sz) (x0 : 0 ≤ x) (x1 : x ≤ 3) (hs : 0 ≤ sz x ∧ sz x ≤ 48) (hk : 0 ≤ k ∧ 0 ≤ w ∧ k + w ≤ sz x) : MGP (cutF mdata (48 * (240 + x)) k w (msize (240 + x) - w)) (upZ msize (240 + x) (msize (240 + x) - w)) (upG G x (cutF (G x) 0 k w (sz x - w))) (upZ sz x (sz x - w)) := by
  have h1 := hM.1 x x0 x1
  refine hM.mk x0 x1 (by rw [upZ_at, h1.1]) (fun i hi => upZ_ne _ _ hi) (fun j => ?_) (fun j j0 j1 => ?_) (fun i hi => ?_)
  · unfold cutF
    split <;> exact h1.2.1 _
  · rw [← h1.1]
    unfold cutF
    by_cases y : k ≤ j ∧ j < sz x - w
    · rw [if_pos (by omega), if_pos (by omega), h1.2.2 (j + w) (by omega) (by omega)]
      congr 1
      omega
    · rw [if_neg (by omega), if_neg (by omega)]
      exact h1.2.2 j j0 j1
  · rw [← h1.1]
    unfold cutF
    rw [if_neg (by omega)]
theorem MGP.app {y : Int} (hM : MGP mdata msize G sz) (x0 : 0 ≤ x) (x1 : x ≤ 3) (y0 : 0 ≤ y) (y1 : y ≤ 3) (hs : 0 ≤ sz x ∧ sz x ≤ 48) (hk : 0 ≤ k ∧ 0 ≤ w ∧ k + w ≤ sz x) (hy : 0 ≤ sz y ∧ sz y + w ≤ 48) : MGP (cpyF mdata (48 * (240 + y) + msize (240 + y)) (48 * (240 + x) + k) w) (upZ msize (240 + y) (msize (240 + y) + w)) (upG G y (appF (G y) (G x) (sz y) k w)) (upZ sz y (sz y + w)) := by
  have h1 := hM.1 x x0 x1
  have h2 := hM.1 y y0 y1
  refine hM.mk y0 y1 (by rw [upZ_at, h2.1]) (fun i hi => upZ_ne _ _ hi) (fun j => ?_) (fun j j0 j1 => ?_) (fun i hi => ?_)
  · unfold appF
    split
    · exact h1.2.1 _
    · exact h2.2.1 _
  · rw [← h2.1]
    unfold appF cpyF
    by_cases z : sz y ≤ j ∧ j < sz y + w
    · rw [if_pos z, if_pos (by omega), h1.2.2 _ (by omega) (by omega)]
      congr 1
      omega
    · rw [if_neg z, if_neg (by omega)]
      exact h2.2.2 j j0 j1
  · rw [← h2.1]
    unfold cpyF
    rw [if_neg (by omega)]
theorem MGP.rest {r T : Int} {D : Int → Int} (hM : MGP mdata msize G sz) (x0 : 0 ≤ x) (x1 : x ≤ 3) (hr : 0 ≤ r ∧ r < 240) (hT : 0 ≤ T ∧ T ≤ 48) (eT : T = msize r) (hD : ∀ j : Int, 0 ≤ j → j < 48 → D j = mdata (48 * r + j)) : MGP (cpyF mdata (48 * (240 + x)) (48 * r) (msize r)) (upZ msize (240 + x) (msize r)) (upG G x (ovF (G x) D T)) (upZ sz x T) := by
  have h1 := hM.1 x x0 x1
  subst eT
  refine hM.mk x0 x1 (by rw [upZ_at]) (fun i hi => upZ_ne _ _ hi) (fun j => ?_) (fun j j0 j1 => ?_) (fun i hi => ?_)
  · unfold ovF
    split
    · rename_i c
      rw [hD j c.1 (by omega)]
      exact hM.2 _ (by omega) (by omega)
    · exact h1.2.1 _
  · unfold ovF cpyF
    by_cases z : j < msize r
    · rw [if_pos ⟨j0, z⟩, if_pos (by omega), hD j j0 j1]
      congr 1
      omega
    · rw [if_neg (by omega), if_neg (by omega)]
      exact h1.2.2 j j0 j1
  · unfold cpyF
    rw [if_neg (by omega)]
end
