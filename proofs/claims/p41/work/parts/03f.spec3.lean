def allN (P : Int → Prop) (n : Int) : Prop := ∀ j : Int, 0 ≤ j → j < n → P j
def exN (P : Int → Prop) (n : Int) : Prop := ∃ j : Int, 0 ≤ j ∧ j < n ∧ P j
theorem allN_0 (P : Int → Prop) : allN P 0 := fun j h0 h1 => absurd h1 (by omega)
theorem allN_s {P : Int → Prop} {n : Int} (hn : 0 ≤ n) : allN P (n + 1) ↔ allN P n ∧ P n := by
  constructor
  · intro h; exact ⟨fun j h0 h1 => h j h0 (by omega), h n hn (by omega)⟩
  · rintro ⟨h, hp⟩ j h0 h1
    rcases (show j = n ∨ j < n by omega) with q | q
    · rw [q]; exact hp
    · exact h j h0 q
theorem exN_0 (P : Int → Prop) : ¬ exN P 0 := fun ⟨j, h0, h1, _⟩ => absurd h1 (by omega)
theorem exN_s {P : Int → Prop} {n : Int} (hn : 0 ≤ n) : exN P (n + 1) ↔ exN P n ∨ P n := by
  constructor
  · rintro ⟨j, h0, h1, hp⟩
    rcases (show j = n ∨ j < n by omega) with q | q
    · rw [q] at hp; exact Or.inr hp
    · exact Or.inl ⟨j, h0, q, hp⟩
  · rintro (⟨j, h0, h1, hp⟩ | hp)
    · exact ⟨j, h0, by omega, hp⟩
    · exact ⟨n, hn, by omega, hp⟩
theorem allN_le {P : Int → Prop} {n m : Int} (hm : m ≤ n) (h : allN P n) : allN P m := fun j h0 h1 => h j h0 (by omega)
theorem exN_le {P : Int → Prop} {n m : Int} (hm : m ≤ n) (h : exN P m) : exN P n := by obtain ⟨j, h0, h1, hp⟩ := h; exact ⟨j, h0, by omega, hp⟩
def fstC (C : Int → List Int) (k : Int) : Prop := allN (fun j => C j ≠ C k) k
def hldC (Hd : Int → Int) (C : Int → List Int) (n : Int) (x : List Int) : Prop := exN (fun j => Hd j ≠ 0 ∧ C j = x) n
theorem ltN_ge (K : Int → Int) : ∀ {n : Nat} {j : Int}, 0 ≤ j → j < (n : Int) → ¬ K j = 0 → j ≤ ltN K n
  | 0, j, h0, h1, _ => by omega
  | n + 1, j, h0, h1, hk => by
    unfold ltN
    split
    · rename_i hz
      rcases (show j = (n : Int) ∨ j < (n : Int) by omega) with q | q
      · rw [q] at hk; exact absurd hz hk
      · exact ltN_ge K h0 q hk
    · omega
def putRow (old : Int → Int) (off n : Int) (E : Int → Int) : Int → Int := fun j => if off ≤ j ∧ j < off + n then E (j - off) else old j
theorem putRow_0 (old : Int → Int) (off : Int) (E : Int → Int) : putRow old off 0 E = old := by
  funext j; unfold putRow; rw [if_neg (by omega)]
theorem putRow_s (old : Int → Int) (off : Int) {n : Int} (E : Int → Int) (v : Int) (hn : 0 ≤ n) : upZ (putRow old off n E) (off + n) v = putRow old off (n + 1) (upZ E n v) := by
  funext j
  by_cases hj : j = off + n
  · subst hj
    rw [upZ_at]
    unfold putRow
    rw [if_pos (by omega), show off + n - off = n by omega, upZ_at]
  · rw [upZ_ne _ _ hj]
    unfold putRow
    by_cases h2 : off ≤ j ∧ j < off + n
    · rw [if_pos h2, if_pos (by omega), upZ_ne _ _ (by omega)]
    · rw [if_neg h2, if_neg (by omega)]
def mMask (G : Int → Int) (b k : Int) : Prop := mkv G k &&& (iI 1 <<< (iI b &&& 31) - iI 1) = 0
def cutC (G : Int → Int) (sz b ls ms k bg : Int) : Prop := k + 1 = sz ∨ k + 1 - bg = ms ∨ (ls ≤ k + 1 - bg ∧ mMask G b k)
noncomputable def cutSt (G : Int → Int) (sz b ls ms : Int) : Nat → Int × Int × (Int → Int)
  | 0 => (0, 0, fun _ => 0)
  | k + 1 => @ite _ (cutC G sz b ls ms (k : Int) (cutSt G sz b ls ms k).1) (Classical.propDecidable _) ((k : Int) + 1, (cutSt G sz b ls ms k).2.1 + 1, upZ (cutSt G sz b ls ms k).2.2 (cutSt G sz b ls ms k).2.1 ((k : Int) + 1)) (cutSt G sz b ls ms k)
theorem cutSt_t {G : Int → Int} {sz b ls ms k : Int} (hk : 0 ≤ k) (h : cutC G sz b ls ms k (cutSt G sz b ls ms k.toNat).1) : cutSt G sz b ls ms (k + 1).toNat = (k + 1, (cutSt G sz b ls ms k.toNat).2.1 + 1, upZ (cutSt G sz b ls ms k.toNat).2.2 (cutSt G sz b ls ms k.toNat).2.1 (k + 1)) := by
  rw [show (k + 1).toNat = k.toNat + 1 by omega]
  conv => lhs; unfold cutSt
  rw [show ((k.toNat : Nat) : Int) = k by omega]
  exact @if_pos _ (Classical.propDecidable _) h _ _ _
theorem cutSt_f {G : Int → Int} {sz b ls ms k : Int} (hk : 0 ≤ k) (h : ¬ cutC G sz b ls ms k (cutSt G sz b ls ms k.toNat).1) : cutSt G sz b ls ms (k + 1).toNat = cutSt G sz b ls ms k.toNat := by
  rw [show (k + 1).toNat = k.toNat + 1 by omega]
  conv => lhs; unfold cutSt
  rw [show ((k.toNat : Nat) : Int) = k by omega]
  exact @if_neg _ (Classical.propDecidable _) h _ _ _
theorem bgF_up (E : Int → Int) {n v : Int} (hn : 0 ≤ n) : bgF (upZ E n v) (n + 1) = v := by
  unfold bgF
  rw [if_neg (by omega), show n + 1 - 1 = n by omega, upZ_at]
theorem bgF_upne (E : Int → Int) {n v k : Int} (hk : k ≤ n) : bgF (upZ E n v) k = bgF E k := by
  unfold bgF
  split
  · rfl
  · rw [upZ_ne _ _ (by omega)]
/-- what the cutting keeps -/
theorem cut_inv (G : Int → Int) (sz b ls ms : Int) : ∀ k : Nat, (0 ≤ (cutSt G sz b ls ms k).1 ∧ (cutSt G sz b ls ms k).1 ≤ (k : Int)) ∧ (0 ≤ (cutSt G sz b ls ms k).2.1 ∧ (cutSt G sz b ls ms k).2.1 ≤ (cutSt G sz b ls ms k).1) ∧ bgF (cutSt G sz b ls ms k).2.2 (cutSt G sz b ls ms k).2.1 = (cutSt G sz b ls ms k).1 ∧ (∀ j : Int, 0 ≤ j → j < (cutSt G sz b ls ms k).2.1 → 0 ≤ bgF (cutSt G sz b ls ms k).2.2 j ∧ bgF (cutSt G sz b ls ms k).2.2 j < (cutSt G sz b ls ms k).2.2 j ∧ (cutSt G sz b ls ms k).2.2 j ≤ (k : Int))
  | 0 => by
    refine ⟨⟨by show (0 : Int) ≤ 0; omega, by show (0 : Int) ≤ 0; omega⟩, ⟨by show (0 : Int) ≤ 0; omega, by show (0 : Int) ≤ 0; omega⟩, rfl, fun j h0 h1 => ?_⟩
    have : (cutSt G sz b ls ms 0).2.1 = 0 := rfl
    omega
  | k + 1 => by
    have ih := cut_inv G sz b ls ms k
    by_cases hc : cutC G sz b ls ms (k : Int) (cutSt G sz b ls ms k).1
    · have e := cutSt_t (G := G) (sz := sz) (b := b) (ls := ls) (ms := ms) (k := (k : Int)) (by omega) hc
      rw [show ((k : Int) + 1).toNat = k + 1 by omega, show ((k : Int)).toNat = k by omega] at e
      rw [e]
      refine ⟨⟨by show 0 ≤ (k : Int) + 1; omega, by show (k : Int) + 1 ≤ _; omega⟩, ⟨by show 0 ≤ (cutSt G sz b ls ms k).2.1 + 1; omega, by show (cutSt G sz b ls ms k).2.1 + 1 ≤ (k : Int) + 1; omega⟩, bgF_up _ ih.2.1.1, fun j h0 h1 => ?_⟩
      show 0 ≤ bgF (upZ (cutSt G sz b ls ms k).2.2 (cutSt G sz b ls ms k).2.1 ((k : Int) + 1)) j ∧ _ < upZ (cutSt G sz b ls ms k).2.2 (cutSt G sz b ls ms k).2.1 ((k : Int) + 1) j ∧ upZ (cutSt G sz b ls ms k).2.2 (cutSt G sz b ls ms k).2.1 ((k : Int) + 1) j ≤ _
      have h1' : j < (cutSt G sz b ls ms k).2.1 + 1 := h1
      rw [bgF_upne _ (by omega)]
      rcases (show j = (cutSt G sz b ls ms k).2.1 ∨ j < (cutSt G sz b ls ms k).2.1 by omega) with q | q
      · rw [q, upZ_at, ih.2.2.1]
        omega
      · rw [upZ_ne _ _ (by omega)]
        have := ih.2.2.2 j h0 q
        omega
    · have e := cutSt_f (G := G) (sz := sz) (b := b) (ls := ls) (ms := ms) (k := (k : Int)) (by omega) hc
      rw [show ((k : Int) + 1).toNat = k + 1 by omega, show ((k : Int)).toNat = k by omega] at e
      rw [e]
      refine ⟨⟨ih.1.1, by omega⟩, ih.2.1, ih.2.2.1, fun j h0 h1 => ?_⟩
      have := ih.2.2.2 j h0 h1
      omega
noncomputable def cutR (G : Int → Int) (sz b ls ms : Int) : Int × Int × (Int → Int) := cutSt G sz b ls ms sz.toNat
theorem cutR_ok (G : Int → Int) {sz b ls ms : Int} (h0 : 0 ≤ sz) (h1 : sz ≤ 48) : 0 ≤ (cutR G sz b ls ms).2.1 ∧ (cutR G sz b ls ms).2.1 ≤ sz ∧ EOK (cutR G sz b ls ms).2.2 (cutR G sz b ls ms).2.1 := by
  have h := cut_inv G sz b ls ms sz.toNat
  unfold cutR
  refine ⟨h.2.1.1, by omega, fun k k0 k1 => ?_⟩
  have := h.2.2.2 k k0 k1
  omega
theorem row_put (old : Int → Int) (r n : Int) (E : Int → Int) {k : Int} (h0 : 0 ≤ k) (h1 : k < n) : rowF (putRow old (48 * r) n E) r k = E k := by
  unfold rowF putRow
  rw [if_pos (by omega), show 48 * r + k - 48 * r = k by omega]
theorem row_putne (old : Int → Int) (r n : Int) (E : Int → Int) {r' k : Int} (hr : r' ≠ r) (h0 : 0 ≤ k) (h1 : k < 48) (hn : n ≤ 48) : rowF (putRow old (48 * r) n E) r' k = rowF old r' k := by
  unfold rowF putRow
  rw [if_neg (by omega)]
theorem bgF_congr {E E' : Int → Int} {k : Int} (h0 : 0 ≤ k) (hk : 0 < k → E (k - 1) = E' (k - 1)) : bgF E k = bgF E' k := by
  unfold bgF
  split
  · rfl
  · exact hk (by omega)
theorem lnF_congr {E E' : Int → Int} {n k : Int} (h : ∀ j : Int, 0 ≤ j → j < n → E j = E' j) (h0 : 0 ≤ k) (h1 : k < n) : lnF E k = lnF E' k := by
  unfold lnF
  rw [h k h0 h1, bgF_congr h0 (fun h2 => h (k - 1) (by omega) (by omega))]
theorem chk_congr {G G' E E' : Int → Int} {n k : Int} (h : ∀ j : Int, 0 ≤ j → j < n → E j = E' j) (h0 : 0 ≤ k) (h1 : k < n) (hb : 0 ≤ bgF E k) (hG : ∀ j : Int, 0 ≤ j → j < E k → G j = G' j) : chk G E k = chk G' E' k := by
  have e1 := lnF_congr h h0 h1
  have e2 : bgF E k = bgF E' k := bgF_congr h0 (fun h2 => h (k - 1) (by omega) (by omega))
  unfold chk
  rw [← e1, ← e2]
  apply List.map_congr_left
  intro j hj
  rw [List.mem_range] at hj
  have : lnF E k = E k - bgF E k := rfl
  exact hG _ (by omega) (by omega)
theorem EOK_congr {E E' : Int → Int} {n : Int} (h : ∀ j : Int, 0 ≤ j → j < n → E j = E' j) (he : EOK E n) : EOK E' n := fun k h0 h1 => by
  have := he k h0 h1
  rw [← h k h0 h1, ← bgF_congr (E := E) (E' := E') h0 (fun h2 => h (k - 1) (by omega) (by omega))]
  exact this
