theorem mkn_congr {G G' : Int → Int} {lo : Int} : ∀ {n : Nat}, (∀ j : Int, lo ≤ j → j < lo + (n : Int) → G j = G' j) → mkn G lo n = mkn G' lo n
  | 0, _ => rfl
  | n + 1, h => by
    show mstep (mkn G lo n) (G (lo + (n : Int))) = mstep (mkn G' lo n) (G' (lo + (n : Int)))
    rw [mkn_congr (n := n) (fun j j0 j1 => h j j0 (by omega)), h (lo + (n : Int)) (by omega) (by omega)]
theorem mkv_congr {G G' : Int → Int} {q : Int} (hq : 0 ≤ q) (h : ∀ j : Int, 0 ≤ j → j ≤ q → G j = G' j) : mkv G q = mkv G' q := by
  have h1 : 0 ≤ mkl q ∧ mkl q ≤ q := by unfold mkl; split <;> omega
  exact mkn_congr fun j j0 j1 => h j (by omega) (by omega)
theorem cutSt_congr {G G' : Int → Int} {sz b ls ms : Int} : ∀ {n : Nat}, (∀ j : Int, 0 ≤ j → j < (n : Int) → G j = G' j) → cutSt G sz b ls ms n = cutSt G' sz b ls ms n
  | 0, _ => rfl
  | n + 1, h => by
    have ih := cutSt_congr (G := G) (G' := G') (sz := sz) (b := b) (ls := ls) (ms := ms) (n := n) (fun j j0 j1 => h j j0 (by omega))
    have hk : mkv G (n : Int) = mkv G' (n : Int) := mkv_congr (by omega) (fun j j0 j1 => h j j0 (by omega))
    unfold cutSt
    rw [ih]
    have hc : cutC G sz b ls ms (n : Int) (cutSt G' sz b ls ms n).1 = cutC G' sz b ls ms (n : Int) (cutSt G' sz b ls ms n).1 := by
      unfold cutC mMask
      rw [hk]
    by_cases z : cutC G sz b ls ms (n : Int) (cutSt G' sz b ls ms n).1
    · exact (@if_pos _ (Classical.propDecidable _) z _ _ _).trans (@if_pos _ (Classical.propDecidable _) (hc ▸ z) _ _ _).symm
    · exact (@if_neg _ (Classical.propDecidable _) z _ _ _).trans (@if_neg _ (Classical.propDecidable _) (hc ▸ z) _ _ _).symm
theorem cutR_congr {G G' : Int → Int} {sz b ls ms : Int} (h0 : 0 ≤ sz) (h : ∀ j : Int, 0 ≤ j → j < sz → G j = G' j) : cutR G sz b ls ms = cutR G' sz b ls ms := cutSt_congr fun j j0 j1 => h j j0 (by omega)
theorem ltN_congr {K K' : Int → Int} : ∀ {n : Nat}, (∀ j : Int, 0 ≤ j → j < (n : Int) → K j = K' j) → ltN K n = ltN K' n
  | 0, _ => rfl
  | n + 1, h => by
    unfold ltN
    rw [ltN_congr (n := n) (fun j j0 j1 => h j j0 (by omega)), h (n : Int) (by omega) (by omega)]
theorem dfN_congr {K K' : Int → Int} : ∀ {n : Nat}, (∀ j : Int, 0 ≤ j → j < (n : Int) → K j = K' j) → dfN K n = dfN K' n
  | 0, _ => rfl
  | n + 1, h => by
    unfold dfN
    rw [dfN_congr (n := n) (fun j j0 j1 => h j j0 (by omega)), h (n : Int) (by omega) (by omega)]
theorem cpy_row (D : Int → Int) (r r' : Int) {q : Int} (q0 : 0 ≤ q) (q1 : q < 48) : rowF (cpyF D (48 * r) (48 * r') 48) r q = rowF D r' q := by
  unfold rowF cpyF; rw [if_pos (by omega)]; congr 1; omega
/-- two states show the same row -/
def rowE (d s e m k c h d' s' e' m' k' c' h' : Int → Int) (r : Int) : Prop := s r = s' r ∧ m r = m' r ∧ k r = k' r ∧ c r = c' r ∧ ∀ q : Int, 0 ≤ q → q < 48 → rowF d r q = rowF d' r q ∧ rowF e r q = rowF e' r q ∧ rowF h r q = rowF h' r q
def fileE (d s d' s' : Int → Int) (x : Int) : Prop := s (240 + x) = s' (240 + x) ∧ ∀ q : Int, 0 ≤ q → q < 48 → rowF d (240 + x) q = rowF d' (240 + x) q
/-- the row of a client's new link -/
def newRow (d s e m k c h : Int → Int) (nights b ls ms W : Int) (d' s' e' m' k' c' h' : Int → Int) (x : Int) : Prop := s' (60 * x + nights) = s (240 + x) ∧ m' (60 * x + nights) = (cutR (rowF d (240 + x)) (s (240 + x)) b ls ms).2.1 ∧ k' (60 * x + nights) = W ∧ c' (60 * x + nights) = (if W = 1 then nights else c (60 * x + ltN (colF k x) nights.toNat)) ∧ (∀ q : Int, 0 ≤ q → q < 48 → rowF d' (60 * x + nights) q = rowF d (240 + x) q) ∧ ∀ q : Int, 0 ≤ q → q < (cutR (rowF d (240 + x)) (s (240 + x)) b ls ms).2.1 → rowF e' (60 * x + nights) q = (cutR (rowF d (240 + x)) (s (240 + x)) b ls ms).2.2 q ∧ rowF h' (60 * x + nights) q = bI (fstC (chk (rowF d (240 + x)) (cutR (rowF d (240 + x)) (s (240 + x)) b ls ms).2.2) q ∧ (W = 1 ∨ ¬ inCh d e m k c h nights x (chk (rowF d (240 + x)) (cutR (rowF d (240 + x)) (s (240 + x)) b ls ms).2.2 q)))
def nwC (d s e m k c h : Int → Int) (nights b ls ms W sv : Int) (d' s' e' m' k' c' h' : Int → Int) (x : Int) : Prop := (∀ j : Int, 0 ≤ j → j < 60 → ¬ j = nights → rowE d s e m k c h d' s' e' m' k' c' h' (60 * x + j)) ∧ fileE d s d' s' x ∧ (sv = 0 → rowE d s e m k c h d' s' e' m' k' c' h' (60 * x + nights)) ∧ (¬ sv = 0 → newRow d s e m k c h nights b ls ms W d' s' e' m' k' c' h' x)
section
variable {d s e m k c h d' s' e' m' k' c' h' d2 s2 e2 m2 k2 c2 h2 : Int → Int}
theorem rowE.tr {r : Int} (a : rowE d s e m k c h d' s' e' m' k' c' h' r) (b : rowE d' s' e' m' k' c' h' d2 s2 e2 m2 k2 c2 h2 r) : rowE d s e m k c h d2 s2 e2 m2 k2 c2 h2 r :=
  ⟨a.1.trans b.1, a.2.1.trans b.2.1, a.2.2.1.trans b.2.2.1, a.2.2.2.1.trans b.2.2.2.1, fun q q0 q1 => ⟨(a.2.2.2.2 q q0 q1).1.trans (b.2.2.2.2 q q0 q1).1, (a.2.2.2.2 q q0 q1).2.1.trans (b.2.2.2.2 q q0 q1).2.1, (a.2.2.2.2 q q0 q1).2.2.trans (b.2.2.2.2 q q0 q1).2.2⟩⟩
theorem fileE.tr {x : Int} (a : fileE d s d' s' x) (b : fileE d' s' d2 s2 x) : fileE d s d2 s2 x := ⟨a.1.trans b.1, fun q q0 q1 => (a.2 q q0 q1).trans (b.2 q q0 q1)⟩
theorem rowE.lke {r : Int} (h0 : 0 ≤ r) (h1 : r < 240) (a : LKe e m e' m') : rowE d s e m k c h d s e' m' k c h r := ⟨rfl, (a r h0 h1).1, rfl, rfl, fun q q0 q1 => ⟨rfl, (a r h0 h1).2 q q0 q1, rfl⟩⟩
theorem nwC_0 {nights b ls ms W x : Int} (hx : 0 ≤ x ∧ x ≤ 3) (hn : 0 ≤ nights ∧ nights < 60) (a : LKe e m e' m') : nwC d s e m k c h nights b ls ms W 0 d s e' m' k c h x :=
  ⟨fun j j0 j1 _ => rowE.lke (by omega) (by omega) a, ⟨rfl, fun _ _ _ => rfl⟩, fun _ => rowE.lke (by omega) (by omega) a, fun z => absurd rfl z⟩
theorem lk_rowE {x y n N W C j : Int} {E HF : Int → Int} (hx : 0 ≤ x ∧ x ≤ 3) (hy : 0 ≤ y ∧ y ≤ 3) (hn : 0 ≤ n ∧ n < 60) (hj : 0 ≤ j ∧ j < 60) (hN : 0 ≤ N ∧ N ≤ 48) (hne : ¬ y = x ∨ ¬ j = n) : rowE d s e m k c h (cpyF d (48 * (60 * x + n)) (48 * (240 + x)) 48) (upZ s (60 * x + n) (s (240 + x))) (cpyF (putRow e (48 * (240 + x)) N E) (48 * (60 * x + n)) (48 * (240 + x)) 48) (upZ (upZ m (240 + x) N) (60 * x + n) N) (upZ k (60 * x + n) W) (upZ c (60 * x + n) C) (putRow h (48 * (60 * x + n)) N HF) (60 * y + j) := by
  have hr : ¬ 60 * y + j = 60 * x + n := by omega
  refine ⟨(upZ_ne _ _ hr).symm, ?_, (upZ_ne _ _ hr).symm, (upZ_ne _ _ hr).symm, fun q q0 q1 => ⟨?_, ?_, ?_⟩⟩
  · rw [upZ_ne _ _ hr, upZ_ne _ _ (by omega)]
  · unfold rowF cpyF; rw [if_neg (by omega)]
  · unfold rowF cpyF putRow; rw [if_neg (by omega), if_neg (by omega)]
  · unfold rowF putRow; rw [if_neg (by omega)]
theorem lk_fileE {x y n : Int} (hx : 0 ≤ x ∧ x ≤ 3) (hy : 0 ≤ y ∧ y ≤ 3) (hn : 0 ≤ n ∧ n < 60) : fileE d s (cpyF d (48 * (60 * x + n)) (48 * (240 + x)) 48) (upZ s (60 * x + n) (s (240 + x))) y := by
  refine ⟨(upZ_ne _ _ (by omega)).symm, fun q q0 q1 => ?_⟩
  unfold rowF cpyF; rw [if_neg (by omega)]
theorem inCh_rows {nights x : Int} (hn : 0 ≤ nights ∧ nights < 60) (hx : 0 ≤ x ∧ x ≤ 3) (ho : LKo e m) (a : ∀ j : Int, 0 ≤ j → j < nights → rowE d s e m k c h d' s' e' m' k' c' h' (60 * x + j)) {w : List Int} : inCh d e m k c h nights x w ↔ inCh d' e' m' k' c' h' nights x w := by
  have hl : ltN (colF k x) nights.toNat = ltN (colF k' x) nights.toNat := ltN_congr fun j j0 j1 => (a j j0 (by omega)).2.2.1
  have hr := ltN_rng (colF k x) nights.toNat
  have hI : ∀ j : Int, 0 ≤ j → j < nights → (inLt k c nights x (60 * x + j) ↔ inLt k' c' nights x (60 * x + j)) := fun j j0 j1 => by
    have h1 := a j j0 j1
    have hL : ¬ ltN (colF k x) nights.toNat = -1 → c (ltv x (ltN (colF k x) nights.toNat)) = c' (ltv x (ltN (colF k x) nights.toNat)) := fun z => by
      unfold ltv; rw [if_neg z]; exact (a _ (by omega) (by omega)).2.2.2.1
    unfold inLt
    rw [← hl, ← h1.2.2.1, ← h1.2.2.2.1]
    by_cases z : ltN (colF k x) nights.toNat = -1
    · have hz : ¬ 0 < k (60 * x + j) ∨ ¬ k (60 * x + j) = 0 := by omega
      rcases hz with hz | hz
      · exact ⟨fun y => absurd y.1 hz, fun y => absurd y.1 hz⟩
      · have := ltN_ge (colF k x) (n := nights.toNat) j0 (by omega) hz
        omega
    · rw [hL z]
  have hH : ∀ j : Int, 0 ≤ j → j < nights → (hldC (rowF h (60 * x + j)) (chk (rowF d (60 * x + j)) (rowF e (60 * x + j))) (m (60 * x + j)) w ↔ hldC (rowF h' (60 * x + j)) (chk (rowF d' (60 * x + j)) (rowF e' (60 * x + j))) (m' (60 * x + j)) w) := fun j j0 j1 => by
    have h1 := a j j0 j1
    have h2 := ho (60 * x + j) (by omega) (by omega)
    rw [← h1.2.1]
    exact hld_congr fun q q0 q1 => ⟨(h1.2.2.2.2 q q0 (by omega)).2.2, chk_congr (n := m (60 * x + j)) (fun i i0 i1 => (h1.2.2.2.2 i i0 (by omega)).2.1) q0 q1 (h2.2 q q0 q1).1 (fun i i0 i1 => (h1.2.2.2.2 i i0 (by have := (h2.2 q q0 q1).2.2; omega)).1)⟩
  constructor
  · rintro ⟨j, j0, j1, p1, p2⟩; exact ⟨j, j0, j1, (hI j j0 j1).mp p1, (hH j j0 j1).mp p2⟩
  · rintro ⟨j, j0, j1, p1, p2⟩; exact ⟨j, j0, j1, (hI j j0 j1).mpr p1, (hH j j0 j1).mpr p2⟩
theorem lk_new {nights b ls ms W x : Int} (hx : 0 ≤ x ∧ x ≤ 3) (hn : 0 ≤ nights ∧ nights < 60) (hs : 0 ≤ s (240 + x) ∧ s (240 + x) ≤ 48) (ho : LKo e m) (hw : ¬ W = 1 → ¬ ltN (colF k x) nights.toNat = -1) (a : nwC d s e m k c h nights b ls ms W 0 d' s' e' m' k' c' h' x) : newRow d s e m k c h nights b ls ms W (cpyF d' (48 * (60 * x + nights)) (48 * (240 + x)) 48) (upZ s' (60 * x + nights) (s' (240 + x))) (cpyF (putRow e' (48 * (240 + x)) (cutR (rowF d' (240 + x)) (s' (240 + x)) b ls ms).2.1 (cutR (rowF d' (240 + x)) (s' (240 + x)) b ls ms).2.2) (48 * (60 * x + nights)) (48 * (240 + x)) 48) (upZ (upZ m' (240 + x) (cutR (rowF d' (240 + x)) (s' (240 + x)) b ls ms).2.1) (60 * x + nights) (cutR (rowF d' (240 + x)) (s' (240 + x)) b ls ms).2.1) (upZ k' (60 * x + nights) W) (upZ c' (60 * x + nights) (if W = 1 then nights else c' (60 * x + ltN (colF k' x) nights.toNat))) (putRow h' (48 * (60 * x + nights)) (cutR (rowF d' (240 + x)) (s' (240 + x)) b ls ms).2.1 (fun q => bI (fstC (chk (rowF d' (240 + x)) (cutR (rowF d' (240 + x)) (s' (240 + x)) b ls ms).2.2) q ∧ (W = 1 ∨ ¬ inCh d' e' m' k' c' h' nights x (chk (rowF d' (240 + x)) (cutR (rowF d' (240 + x)) (s' (240 + x)) b ls ms).2.2 q))))) x := by
  obtain ⟨a1, a2, -, -⟩ := a
  have hR : cutR (rowF d' (240 + x)) (s' (240 + x)) b ls ms = cutR (rowF d (240 + x)) (s (240 + x)) b ls ms := by
    rw [← a2.1]; exact (cutR_congr hs.1 (fun j j0 j1 => a2.2 j j0 (by omega))).symm
  have hl : ltN (colF k x) nights.toNat = ltN (colF k' x) nights.toNat := ltN_congr fun j j0 j1 => (a1 j j0 (by omega) (by omega)).2.2.1
  have hr := ltN_rng (colF k x) nights.toNat
  have hok := cutR_ok (rowF d (240 + x)) (b := b) (ls := ls) (ms := ms) hs.1 hs.2
  have hi : ∀ w : List Int, inCh d e m k c h nights x w ↔ inCh d' e' m' k' c' h' nights x w := fun w => inCh_rows hn hx ho (fun j j0 j1 => a1 j j0 (by omega) (by omega))
  have hc : ∀ q : Int, 0 ≤ q → q < (cutR (rowF d (240 + x)) (s (240 + x)) b ls ms).2.1 → chk (rowF d' (240 + x)) (cutR (rowF d (240 + x)) (s (240 + x)) b ls ms).2.2 q = chk (rowF d (240 + x)) (cutR (rowF d (240 + x)) (s (240 + x)) b ls ms).2.2 q := fun q q0 q1 => chk_congr (fun _ _ _ => rfl) q0 q1 (hok.2.2 q q0 q1).1 (fun i i0 i1 => (a2.2 i i0 (by have := (hok.2.2 q q0 q1).2.2; omega)).symm)
  rw [hR]
  refine ⟨(upZ_at _ _ _).trans a2.1.symm, upZ_at _ _ _, upZ_at _ _ _, ?_, fun q q0 q1 => ?_, fun q q0 q1 => ⟨?_, ?_⟩⟩
  · rw [upZ_at, ← hl]
    by_cases z : W = 1
    · rw [if_pos z, if_pos z]
    · rw [if_neg z, if_neg z]; have := hw z; exact ((a1 _ (by omega) (by omega) (by omega)).2.2.2.1).symm
  · rw [a2.2 q q0 q1]; unfold rowF cpyF; rw [if_pos (by omega)]; congr 1; omega
  · rw [cpy_row _ _ _ q0 (by omega)]; exact row_put e' (240 + x) _ _ q0 q1
  · rw [row_put h' (60 * x + nights) _ _ q0 q1]
    show bI _ = bI _
    congr 1
    refine propext ?_
    rw [hc q q0 q1, hi]
    refine and_congr_left fun _ => ?_
    constructor
    · intro z j j0 j1; have y : chk _ _ j ≠ chk _ _ q := z j j0 j1; rw [hc j j0 (by omega), hc q q0 q1] at y; exact y
    · intro z j j0 j1; show chk _ _ j ≠ chk _ _ q; rw [hc j j0 (by omega), hc q q0 q1]; exact z j j0 j1
theorem nwC_LKo {nights b ls ms : Int} {W SV : Int → Int} (hn : 0 ≤ nights ∧ nights < 60) (hs : ∀ z : Int, 0 ≤ z ∧ z ≤ 3 → 0 ≤ s (240 + z) ∧ s (240 + z) ≤ 48) (ho : LKo e m) (a : ∀ y : Int, 0 ≤ y → y ≤ 3 → nwC d s e m k c h nights b ls ms (W y) (SV y) d' s' e' m' k' c' h' y) : LKo e' m' := fun z z0 z1 => by
  have hz := a (z / 60) (by omega) (by omega)
  have hz' := hs (z / 60) (by omega)
  have key : rowE d s e m k c h d' s' e' m' k' c' h' z → (0 ≤ m' z ∧ m' z ≤ 48) ∧ EOK (rowF e' z) (m' z) := fun y => by
    have := ho z z0 z1
    rw [← y.2.1]
    exact ⟨this.1, EOK_congr (fun j j0 j1 => (y.2.2.2.2 j j0 (by omega)).2.1) this.2⟩
  by_cases hj : z % 60 = nights
  · have hzz : z = 60 * (z / 60) + nights := by omega
    by_cases hv : SV (z / 60) = 0
    · have hw := hz.2.2.1 hv
      rw [← hzz] at hw
      exact key hw
    · have hw := hz.2.2.2 hv
      have hok := cutR_ok (rowF d (240 + z / 60)) (b := b) (ls := ls) (ms := ms) hz'.1 hz'.2
      unfold newRow at hw
      rw [← hzz] at hw
      rw [hw.2.1]
      exact ⟨by omega, EOK_congr (fun j j0 j1 => (hw.2.2.2.2.2 j j0 j1).1.symm) hok.2.2⟩
  · have := hz.1 (z % 60) (by omega) (by omega) hj
    exact key (by rw [show 60 * (z / 60) + z % 60 = z by omega] at this; exact this)
theorem nwC.out {nights b ls ms W sv x : Int} (a : nwC d s e m k c h nights b ls ms W sv d' s' e' m' k' c' h' x) (hsv : sv = 0 ∨ True) (h1 : ∀ j : Int, 0 ≤ j → j < 60 → rowE d' s' e' m' k' c' h' d2 s2 e2 m2 k2 c2 h2 (60 * x + j)) (h2' : fileE d' s' d2 s2 x) (hn : 0 ≤ nights ∧ nights < 60) (hs : 0 ≤ s (240 + x) ∧ s (240 + x) ≤ 48) : nwC d s e m k c h nights b ls ms W sv d2 s2 e2 m2 k2 c2 h2 x := by
  obtain ⟨a1, a2, a3, a4⟩ := a
  have hok := cutR_ok (rowF d (240 + x)) (b := b) (ls := ls) (ms := ms) hs.1 hs.2
  refine ⟨fun j j0 j1 j2 => (a1 j j0 j1 j2).tr (h1 j j0 j1), a2.tr h2', fun z => (a3 z).tr (h1 nights hn.1 hn.2), fun z => ?_⟩
  obtain ⟨b1, b2, b3, b4, b5, b6⟩ := a4 z
  have e1 := h1 nights hn.1 hn.2
  exact ⟨e1.1.symm.trans b1, e1.2.1.symm.trans b2, e1.2.2.1.symm.trans b3, e1.2.2.2.1.symm.trans b4, fun q q0 q1 => (e1.2.2.2.2 q q0 q1).1.symm.trans (b5 q q0 q1), fun q q0 q1 => ⟨(e1.2.2.2.2 q q0 (by omega)).2.1.symm.trans (b6 q q0 q1).1, (e1.2.2.2.2 q q0 (by omega)).2.2.symm.trans (b6 q q0 q1).2⟩⟩
end
noncomputable def payF (mbid tt AS SV CS : Int → Int) (reserve : Int) (q x : Int) : Int := @ite Int (ahB mbid x < q ∧ ¬ SV x = 0) (Classical.propDecidable _) (prc mbid tt AS SV reserve (ahB mbid x) (4 - ahB mbid x - 1).toNat * CS x) 0
theorem payF_t {mbid tt AS SV CS : Int → Int} {reserve q x : Int} (z : ahB mbid x < q ∧ ¬ SV x = 0) : payF mbid tt AS SV CS reserve q x = prc mbid tt AS SV reserve (ahB mbid x) (4 - ahB mbid x - 1).toNat * CS x := @if_pos _ (Classical.propDecidable _) z _ _ _
theorem payF_f {mbid tt AS SV CS : Int → Int} {reserve q x : Int} (z : ¬ (ahB mbid x < q ∧ ¬ SV x = 0)) : payF mbid tt AS SV CS reserve q x = 0 := @if_neg _ (Classical.propDecidable _) z _ _ _
theorem payF_s {mbid tt AS SV CS : Int → Int} {reserve q x : Int} (z : ¬ ahB mbid x = q ∨ SV x = 0) : payF mbid tt AS SV CS reserve (q + 1) x = payF mbid tt AS SV CS reserve q x := by
  by_cases y : ahB mbid x < q ∧ ¬ SV x = 0
  · rw [payF_t y, payF_t ⟨by omega, y.2⟩]
  · rw [payF_f y, payF_f (by intro w; exact y ⟨by omega, w.2⟩)]
theorem prc_rng {mbid t A S : Int → Int} {best k : Int} : ∀ {n : Nat}, (0 ≤ best ∧ best ≤ 100) → (∀ j : Int, k < j → j ≤ k + (n : Int) → 0 ≤ mbid (t j) ∧ mbid (t j) ≤ 100) → 0 ≤ prc mbid t A S best k n ∧ prc mbid t A S best k n ≤ 100
  | 0, hb, _ => hb
  | n + 1, hb, h => by
    have ih := prc_rng (mbid := mbid) (t := t) (A := A) (S := S) (best := best) (k := k) (n := n) hb (fun j j0 j1 => h j j0 (by omega))
    have h1 := h (k + 1 + (n : Int)) (by omega) (by omega)
    unfold prc
    split
    · exact h1
    · exact ih
theorem mul_rng {a b : Int} (ha : 0 ≤ a ∧ a ≤ 100) (hb : 0 ≤ b ∧ b ≤ 3000) : 0 ≤ a * b ∧ a * b ≤ 300000 :=
  ⟨Int.mul_nonneg ha.1 hb.1, Int.le_trans (Int.mul_le_mul ha.2 hb.2 hb.1 (by decide)) (by decide)⟩
