/-- where a part ends, 0 where there is none -/
def ptF (Eg : Int → Int) (pt x : Int) : Int := if 0 ≤ x ∧ x < pt then Eg x else 0
theorem ptF_in {Eg : Int → Int} {pt x : Int} (hx : 0 ≤ x ∧ x < pt) : ptF Eg pt x = Eg x := if_pos hx
theorem ptF_out {Eg : Int → Int} {pt x : Int} (hx : ¬ (0 ≤ x ∧ x < pt)) : ptF Eg pt x = 0 := if_neg hx
theorem ptF_bg {Eg : Int → Int} {pt k : Int} (h0 : 0 ≤ k) (h1 : k ≤ pt) : ptF Eg pt (k - 1) = bgF Eg k := by
  unfold ptF bgF
  by_cases z : k = 0
  · rw [if_pos z, if_neg (by omega)]
  · rw [if_neg z, if_pos (by omega)]
theorem allN_ex {P : Int → Prop} {n j : Int} (h0 : 0 ≤ j) (h1 : j < n) (hp : ¬ P j) : ¬ allN P n := fun z => hp (z j h0 h1)
theorem chk_at {G E : Int → Int} {i k : Int} {w : Int} (hi : 0 ≤ bgF E i ∧ bgF E i < E i ∧ E i ≤ 48) (hk : 0 ≤ bgF E k ∧ bgF E k < E k ∧ E k ≤ 48) (hw : w = lnF E k) : (chk G E i = chk G E k) ↔ (E i - bgF E i = w ∧ allN (fun j => byF G (bgF E i + j) = byF G (bgF E k + j)) w) := by
  have l1 : lnF E i = E i - bgF E i := rfl
  have l2 : lnF E k = E k - bgF E k := rfl
  rw [chk_eq (by omega) (by omega)]
  constructor
  · rintro ⟨a, b⟩
    refine ⟨by omega, fun j j0 j1 => ?_⟩
    show byF G _ = byF G _
    rw [byF_in (by omega), byF_in (by omega)]
    exact b j j0 (by omega)
  · rintro ⟨a, b⟩
    refine ⟨by omega, fun j j0 j1 => ?_⟩
    have c : byF G (bgF E i + j) = byF G (bgF E k + j) := b j j0 (by omega)
    rw [byF_in (by omega), byF_in (by omega)] at c
    exact c
