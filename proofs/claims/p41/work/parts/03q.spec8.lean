theorem inCh_h {mdata mends mmany mkind mchain mholds H' : Int → Int} {nights x : Int} {c : List Int} (hx : 0 ≤ x ∧ x ≤ 3) (hn : nights ≤ 60) (ho : LKo mends mmany) (hh : ∀ j : Int, 0 ≤ j → j < nights → ∀ q : Int, 0 ≤ q → q < 48 → rowF mholds (60 * x + j) q = rowF H' (60 * x + j) q) : inCh mdata mends mmany mkind mchain mholds nights x c ↔ inCh mdata mends mmany mkind mchain H' nights x c := by
  have key : ∀ j : Int, 0 ≤ j → j < nights → (hldC (rowF mholds (60 * x + j)) (chk (rowF mdata (60 * x + j)) (rowF mends (60 * x + j))) (mmany (60 * x + j)) c ↔ hldC (rowF H' (60 * x + j)) (chk (rowF mdata (60 * x + j)) (rowF mends (60 * x + j))) (mmany (60 * x + j)) c) := fun j j0 j1 => by
    have h1 := ho (60 * x + j) (by omega) (by omega)
    exact hld_congr fun q q0 q1 => ⟨hh j j0 j1 q q0 (by omega), rfl⟩
  constructor
  · rintro ⟨j, j0, j1, a, b⟩; exact ⟨j, j0, j1, a, (key j j0 j1).mp b⟩
  · rintro ⟨j, j0, j1, a, b⟩; exact ⟨j, j0, j1, a, (key j j0 j1).mpr b⟩
noncomputable def trn (mbid : Int → Int) (k : Int) : Int := if ahB mbid 0 = k then 0 else if ahB mbid 1 = k then 1 else if ahB mbid 2 = k then 2 else 3
theorem trn_ok (mbid : Int → Int) : turnOK mbid (trn mbid) := turn_of fun c c0 c1 => by
  have n01 : ¬ ahB mbid 0 = ahB mbid 1 := fun z => absurd (ahB_inj mbid (by omega) (by omega) z) (by decide)
  have n02 : ¬ ahB mbid 0 = ahB mbid 2 := fun z => absurd (ahB_inj mbid (by omega) (by omega) z) (by decide)
  have n03 : ¬ ahB mbid 0 = ahB mbid 3 := fun z => absurd (ahB_inj mbid (by omega) (by omega) z) (by decide)
  have n12 : ¬ ahB mbid 1 = ahB mbid 2 := fun z => absurd (ahB_inj mbid (by omega) (by omega) z) (by decide)
  have n13 : ¬ ahB mbid 1 = ahB mbid 3 := fun z => absurd (ahB_inj mbid (by omega) (by omega) z) (by decide)
  have n23 : ¬ ahB mbid 2 = ahB mbid 3 := fun z => absurd (ahB_inj mbid (by omega) (by omega) z) (by decide)
  unfold trn
  rcases (show c = 0 ∨ c = 1 ∨ c = 2 ∨ c = 3 by omega) with q | q | q | q <;> subst q
  · rw [if_pos rfl]
  · rw [if_neg n01, if_pos rfl]
  · rw [if_neg n02, if_neg n12, if_pos rfl]
  · rw [if_neg n03, if_neg n13, if_neg n23]
theorem turn_eq {mbid t : Int → Int} (h : turnOK mbid t) {k : Int} (k0 : 0 ≤ k) (k1 : k ≤ 3) : t k = trn mbid k := by
  have h1 := h.2 k k0 k1
  have h2 := (trn_ok mbid).2 k k0 k1
  exact ahB_inj mbid h1.1 h2.1 (h1.2.trans h2.2.symm)
theorem lft_congr {WB NC OT AK : Int → Prop} {BS DF : Int → Int} {room : Int} {t t' : Int → Int} : ∀ {n : Nat}, (∀ k : Int, 0 ≤ k → k < (n : Int) → t k = t' k) → lft WB NC OT AK BS DF room t n = lft WB NC OT AK BS DF room t' n
  | 0, _ => rfl
  | n + 1, h => by
    show lft WB NC OT AK BS DF room t n - bI (srv WB NC OT AK BS DF (t (n : Int)) (lft WB NC OT AK BS DF room t n)) * cst WB NC OT BS DF (t (n : Int)) (lft WB NC OT AK BS DF room t n) = lft WB NC OT AK BS DF room t' n - bI (srv WB NC OT AK BS DF (t' (n : Int)) (lft WB NC OT AK BS DF room t' n)) * cst WB NC OT BS DF (t' (n : Int)) (lft WB NC OT AK BS DF room t' n)
    rw [lft_congr (n := n) (fun k k0 k1 => h k k0 (by omega)), h (n : Int) (by omega) (by omega)]
/-- what is left when a client has its turn -/
noncomputable def outL (WB NC OT AK : Int → Prop) (BS DF : Int → Int) (room : Int) (mbid : Int → Int) (c : Int) : Int := lft WB NC OT AK BS DF room (trn mbid) (ahB mbid c).toNat
theorem gI_out {WB NC OT AK : Int → Prop} {BS DF : Int → Int} {room : Int} {mbid tt AS WT CS SV : Int → Int} (ht : turnOK mbid tt) (h : gI WB NC OT AK BS DF room tt AS WT CS SV 4) {c : Int} (hc : 0 ≤ c ∧ c ≤ 3) : AS c = bI (AK c) ∧ WT c = wnt WB NC OT BS c (outL WB NC OT AK BS DF room mbid c) ∧ CS c = cst WB NC OT BS DF c (outL WB NC OT AK BS DF room mbid c) ∧ SV c = bI (srv WB NC OT AK BS DF c (outL WB NC OT AK BS DF room mbid c)) := by
  have hr := ahB_rng mbid hc
  have h1 := h (ahB mbid c) hr.1 (by omega)
  rw [ht.1 c hc.1 hc.2] at h1
  have e : lft WB NC OT AK BS DF room tt (ahB mbid c).toNat = outL WB NC OT AK BS DF room mbid c := lft_congr (fun k k0 k1 => turn_eq ht k0 (by omega))
  rw [e] at h1
  exact h1
theorem dfN_neg {K : Int → Int} : ∀ {n : Nat}, dfN K n = -1 ↔ ltN K n = -1
  | 0 => Iff.rfl
  | n + 1 => by
    have ih := dfN_neg (K := K) (n := n)
    have r1 := dfN_rng K n
    have r2 := ltN_rng K n
    unfold dfN ltN
    split
    · exact ih
    · split <;> omega
theorem prc_congr {mbid t t' A A' S S' : Int → Int} {best k : Int} : ∀ {n : Nat}, (∀ j : Int, k < j → j ≤ k + (n : Int) → t j = t' j ∧ A (t' j) = A' (t' j) ∧ S (t' j) = S' (t' j)) → prc mbid t A S best k n = prc mbid t' A' S' best k n
  | 0, _ => rfl
  | n + 1, h => by
    have ih := prc_congr (mbid := mbid) (best := best) (n := n) (fun j j0 j1 => h j j0 (by omega))
    have h1 := h (k + 1 + (n : Int)) (by omega) (by omega)
    unfold prc
    rw [ih, h1.1, h1.2.1, h1.2.2]

theorem putRow_f {old E : Int → Int} {off n : Int} (h : 0 ≤ n) : upZ (putRow old off n E) (off + n) (E n) = putRow old off (n + 1) E := by
  funext i
  unfold upZ putRow
  by_cases c : i = off + n
  · subst c
    rw [if_pos rfl, if_pos ⟨by omega, by omega⟩]
    congr 1
    omega
  · rw [if_neg c]
    by_cases d : off ≤ i ∧ i < off + n
    · rw [if_pos d, if_pos ⟨d.1, by omega⟩]
    · rw [if_neg d, if_neg (fun y => d ⟨y.1, by omega⟩)]
