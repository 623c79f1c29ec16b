def colF (D : Int → Int) (x : Int) : Int → Int := fun j => D (60 * x + j)
def ltN (K : Int → Int) : Nat → Int
  | 0 => -1
  | n + 1 => if K (n : Int) = 0 then ltN K n else (n : Int)
theorem ltN_z (K : Int → Int) {n : Int} (hn : 0 ≤ n) (hk : K n = 0) : ltN K (n + 1).toNat = ltN K n.toNat := by
  rw [show (n + 1).toNat = n.toNat + 1 by omega]
  show (if K (n.toNat : Int) = 0 then _ else _) = _
  rw [show ((n.toNat : Nat) : Int) = n by omega, if_pos hk]
theorem ltN_nz (K : Int → Int) {n : Int} (hn : 0 ≤ n) (hk : ¬ K n = 0) : ltN K (n + 1).toNat = n := by
  rw [show (n + 1).toNat = n.toNat + 1 by omega]
  show (if K (n.toNat : Int) = 0 then _ else _) = _
  rw [show ((n.toNat : Nat) : Int) = n by omega, if_neg hk]
theorem ltN_rng (K : Int → Int) : ∀ n : Nat, -1 ≤ ltN K n ∧ ltN K n < (n : Int)
  | 0 => by show -1 ≤ (-1 : Int) ∧ (-1 : Int) < 0; omega
  | n + 1 => by
    have h := ltN_rng K n
    unfold ltN
    split <;> omega
def ltv (x r : Int) : Int := if r = -1 then -1 else 60 * x + r
def dfN (K : Int → Int) : Nat → Int
  | 0 => -1
  | n + 1 => if K (n : Int) = 0 then dfN K n else if K (n : Int) = 1 then 0 else dfN K n + 1
theorem dfN_s (K : Int → Int) {n : Int} (hn : 0 ≤ n) : dfN K (n + 1).toNat = if K n = 0 then dfN K n.toNat else if K n = 1 then 0 else dfN K n.toNat + 1 := by
  rw [show (n + 1).toNat = n.toNat + 1 by omega]
  show (if K (n.toNat : Int) = 0 then _ else _) = _
  rw [show ((n.toNat : Nat) : Int) = n by omega]
theorem dfN_rng (K : Int → Int) : ∀ n : Nat, -1 ≤ dfN K n ∧ dfN K n < (n : Int)
  | 0 => by show -1 ≤ (-1 : Int) ∧ (-1 : Int) < 0; omega
  | n + 1 => by
    have h := dfN_rng K n
    unfold dfN
    split
    · omega
    · split <;> omega
def sumZ (f : Int → Int) : Nat → Int
  | 0 => 0
  | n + 1 => sumZ f n + f (n : Int)
theorem sumZ_s (f : Int → Int) {n : Int} (hn : 0 ≤ n) : sumZ f (n + 1).toNat = sumZ f n.toNat + f n := by
  rw [show (n + 1).toNat = n.toNat + 1 by omega]
  show sumZ f n.toNat + f (n.toNat : Int) = _
  rw [show ((n.toNat : Nat) : Int) = n by omega]
theorem sumZ_congr {f f' : Int → Int} : ∀ {n : Nat}, (∀ k : Int, 0 ≤ k → k < (n : Int) → f k = f' k) → sumZ f n = sumZ f' n
  | 0, _ => rfl
  | n + 1, h => by
    show sumZ f n + f (n : Int) = sumZ f' n + f' (n : Int)
    rw [sumZ_congr (n := n) (fun k h0 h1 => h k h0 (by omega)), h (n : Int) (by omega) (by omega)]
def bgF (E : Int → Int) (k : Int) : Int := if k = 0 then 0 else E (k - 1)
def lnF (E : Int → Int) (k : Int) : Int := E k - bgF E k
def EOK (E : Int → Int) (n : Int) : Prop := ∀ k : Int, 0 ≤ k → k < n → 0 ≤ bgF E k ∧ bgF E k < E k ∧ E k ≤ 48
def chk (G E : Int → Int) (k : Int) : List Int := List.map (fun (j : Nat) => G (bgF E k + (j : Int))) (List.range (lnF E k).toNat)
theorem chk_len (G E : Int → Int) (k : Int) : (chk G E k).length = (lnF E k).toNat := by simp [chk]
theorem chk_eq {G E G' E' : Int → Int} {k k' : Int} (h0 : 0 ≤ lnF E k) (h0' : 0 ≤ lnF E' k') : chk G E k = chk G' E' k' ↔ lnF E k = lnF E' k' ∧ ∀ j : Int, 0 ≤ j → j < lnF E k → G (bgF E k + j) = G' (bgF E' k' + j) := by
  constructor
  · intro h
    have hl : lnF E k = lnF E' k' := by
      have := congrArg List.length h
      rw [chk_len, chk_len] at this
      omega
    refine ⟨hl, fun j j0 j1 => ?_⟩
    have hj := congrArg (fun l => l[j.toNat]?) h
    simp only [chk] at hj
    rw [List.getElem?_map, List.getElem?_map, List.getElem?_range (by omega), List.getElem?_range (by omega)] at hj
    have hj2 : G (bgF E k + (j.toNat : Int)) = G' (bgF E' k' + (j.toNat : Int)) := Option.some.inj hj
    rw [show ((j.toNat : Nat) : Int) = j by omega] at hj2
    exact hj2
  · rintro ⟨hl, h⟩
    unfold chk
    rw [← hl]
    apply List.map_congr_left
    intro j hj
    rw [List.mem_range] at hj
    exact h (j : Int) (by omega) (by omega)
def firstC (C : Int → List Int) (k : Int) : Prop := ∀ j : Int, 0 ≤ j → j < k → C j ≠ C k
def heldC (Hd : Int → Int) (C : Int → List Int) (n : Int) (x : List Int) : Prop := ∃ k : Int, 0 ≤ k ∧ k < n ∧ Hd k ≠ 0 ∧ C k = x
def tNi (x k n : Int) : Int := if ¬ (0 ≤ x ∧ x ≤ 3) then 1 else if ¬ (0 ≤ k ∧ k < n) then 2 else 0
def tAsk (x k n kd : Int) : Int := if ¬ (0 ≤ x ∧ x ≤ 3) then 1 else if ¬ (0 ≤ k ∧ k < n) then 2 else if kd = 0 then 3 else 0
theorem tAsk_0 {x k n kd : Int} : tAsk x k n kd = 0 ↔ (0 ≤ x ∧ x ≤ 3) ∧ (0 ≤ k ∧ k < n) ∧ ¬ kd = 0 := by
  unfold tAsk
  (repeat' split) <;> omega
theorem tB_t {P : Prop} (h : P) : tB P = 0 := by unfold tB; exact @if_pos P (Classical.propDecidable P) h Int 0 1
theorem tB_f {P : Prop} (h : ¬ P) : tB P = 1 := by unfold tB; exact @if_neg P (Classical.propDecidable P) h Int 0 1
theorem tB_0 {P : Prop} : tB P = 0 ↔ P := ⟨fun q => Classical.byContradiction fun hp => by rw [tB_f hp] at q; exact absurd q (by decide), tB_t⟩
def rsF (D : Int → Int) (to fr n : Int) : Int → Int := cpyF D to fr n
def difC (A B : Int → Int) (na nb : Int) (k : Int) : Prop := ((k < na) ≠ (k < nb)) ∨ (k < nb ∧ A k ≠ B k)
