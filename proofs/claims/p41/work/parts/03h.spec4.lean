def inLt (mkind mchain : Int → Int) (nights x lk : Int) : Prop := 0 < mkind lk ∧ mchain lk = mchain (ltv x (ltN (colF mkind x) nights.toNat))
def inCh (mdata mends mmany mkind mchain mholds : Int → Int) (nights x : Int) (c : List Int) : Prop := exN (fun j => inLt mkind mchain nights x (60 * x + j) ∧ hldC (rowF mholds (60 * x + j)) (chk (rowF mdata (60 * x + j)) (rowF mends (60 * x + j))) (mmany (60 * x + j)) c) nights
theorem fst_congr {G E E' : Int → Int} {n k : Int} (h : ∀ j : Int, 0 ≤ j → j < n → E j = E' j) (he : EOK E n) (h0 : 0 ≤ k) (h1 : k < n) : fstC (chk G E) k ↔ fstC (chk G E') k := by
  have hc : ∀ j : Int, 0 ≤ j → j < n → chk G E j = chk G E' j := fun j j0 j1 => chk_congr h j0 j1 (he j j0 j1).1 (fun _ _ _ => rfl)
  constructor
  · intro z j j0 j1; have q : chk G E j ≠ chk G E k := z j j0 j1; rw [hc j j0 (by omega), hc k h0 h1] at q; exact q
  · intro z j j0 j1; have q : chk G E' j ≠ chk G E' k := z j j0 j1; rw [← hc j j0 (by omega), ← hc k h0 h1] at q; exact q
theorem hld_congr {Hd Hd' : Int → Int} {C C' : Int → List Int} {n : Int} {x : List Int} (h : ∀ j : Int, 0 ≤ j → j < n → Hd j = Hd' j ∧ C j = C' j) : hldC Hd C n x ↔ hldC Hd' C' n x := by
  constructor
  · rintro ⟨j, j0, j1, a, b⟩; exact ⟨j, j0, j1, by rw [← (h j j0 j1).1]; exact a, by rw [← (h j j0 j1).2]; exact b⟩
  · rintro ⟨j, j0, j1, a, b⟩; exact ⟨j, j0, j1, by rw [(h j j0 j1).1]; exact a, by rw [(h j j0 j1).2]; exact b⟩
/-- the rows of days are the same -/
def LKe (mends mmany mends' mmany' : Int → Int) : Prop := ∀ r : Int, 0 ≤ r → r < 240 → mmany r = mmany' r ∧ ∀ j : Int, 0 ≤ j → j < 48 → rowF mends r j = rowF mends' r j
def LKo (mends mmany : Int → Int) : Prop := ∀ z : Int, 0 ≤ z → z < 240 → (0 ≤ mmany z ∧ mmany z ≤ 48) ∧ EOK (rowF mends z) (mmany z)
theorem LKo.e {mends mmany mends' mmany' : Int → Int} (h : LKo mends mmany) (he : LKe mends mmany mends' mmany') : LKo mends' mmany' := fun z z0 z1 => by
  have h1 := h z z0 z1
  have h2 := he z z0 z1
  rw [← h2.1]
  exact ⟨h1.1, EOK_congr (fun j j0 j1 => h2.2 j j0 (by omega)) h1.2⟩
theorem LKe.rfl (mends mmany : Int → Int) : LKe mends mmany mends mmany := fun _ _ _ => ⟨Eq.refl _, fun _ _ _ => Eq.refl _⟩
theorem LKe.trans {a b a1 b1 a2 b2 : Int → Int} (h : LKe a b a1 b1) (k : LKe a1 b1 a2 b2) : LKe a b a2 b2 := fun r r0 r1 => ⟨(h r r0 r1).1.trans (k r r0 r1).1, fun j j0 j1 => ((h r r0 r1).2 j j0 j1).trans ((k r r0 r1).2 j j0 j1)⟩
theorem inCh_congr {mdata mends mmany mends' mmany' mkind mchain mholds : Int → Int} {nights x : Int} {c : List Int} (hx : 0 ≤ x ∧ x ≤ 3) (hn : nights ≤ 60) (ho : LKo mends mmany) (he : LKe mends mmany mends' mmany') : inCh mdata mends mmany mkind mchain mholds nights x c ↔ inCh mdata mends' mmany' mkind mchain mholds nights x c := by
  have key : ∀ j : Int, 0 ≤ j → j < nights → (hldC (rowF mholds (60 * x + j)) (chk (rowF mdata (60 * x + j)) (rowF mends (60 * x + j))) (mmany (60 * x + j)) c ↔ hldC (rowF mholds (60 * x + j)) (chk (rowF mdata (60 * x + j)) (rowF mends' (60 * x + j))) (mmany' (60 * x + j)) c) := fun j j0 j1 => by
    have h1 := ho (60 * x + j) (by omega) (by omega)
    have h2 := he (60 * x + j) (by omega) (by omega)
    rw [← h2.1]
    exact hld_congr fun q q0 q1 => ⟨rfl, chk_congr (n := mmany (60 * x + j)) (fun a a0 a1 => h2.2 a a0 (by omega)) q0 q1 (h1.2 q q0 q1).1 (fun _ _ _ => rfl)⟩
  constructor
  · rintro ⟨j, j0, j1, a, b⟩; exact ⟨j, j0, j1, a, (key j j0 j1).mp b⟩
  · rintro ⟨j, j0, j1, a, b⟩; exact ⟨j, j0, j1, a, (key j j0 j1).mpr b⟩
theorem lk_put (mends mmany : Int → Int) {x n : Int} (E : Int → Int) (hx : 0 ≤ x) (hn : n ≤ 48) : LKe mends mmany (putRow mends (48 * (240 + x)) n E) (upZ mmany (240 + x) n) := fun r r0 r1 => ⟨(upZ_ne _ _ (by omega)).symm, fun j j0 j1 => (row_putne mends (240 + x) n E (by omega) j0 j1 hn).symm⟩
noncomputable def baseB (G E : Int → Int) (n : Int) : Int := n + sumZ (fun k => bI (fstC (chk G E) k) * lnF E k) n.toNat
noncomputable def difB (G E : Int → Int) (n : Int) (P : List Int → Prop) : Int := n + sumZ (fun k => bI (fstC (chk G E) k ∧ ¬ P (chk G E k)) * lnF E k) n.toNat
def tDif (x d : Int) : Int := if ¬ (0 ≤ x ∧ x ≤ 3) then 1 else if d = -1 then 2 else 0
