/-- the chunks that the house's rows name -/
def ck (d e iR iC : Int → Int) (i : Int) : List Int := chk (rowF d (iR i)) (rowF e (iR i)) (iC i)
def ents (d e iR iC : Int → Int) (n : Nat) : List (List Int) := List.map (fun (j : Nat) => ck d e iR iC (j : Int)) (List.range n)
theorem mem_ents {d e iR iC : Int → Int} {n : Nat} {w : List Int} : w ∈ ents d e iR iC n ↔ exN (fun i => ck d e iR iC i = w) (n : Int) := by
  unfold ents exN
  rw [List.mem_map]
  constructor
  · rintro ⟨j, hj, hw⟩; rw [List.mem_range] at hj; exact ⟨(j : Int), by omega, by omega, hw⟩
  · rintro ⟨i, i0, i1, hw⟩; exact ⟨i.toNat, by rw [List.mem_range]; omega, by rw [show ((i.toNat : Nat) : Int) = i by omega]; exact hw⟩
theorem ck_up {d e iR iC : Int → Int} {n r k i : Int} (hi : i < n) : ck d e (upZ iR n r) (upZ iC n k) i = ck d e iR iC i := by
  unfold ck; rw [upZ_ne _ _ (by omega), upZ_ne _ _ (by omega)]
theorem ck_at {d e iR iC : Int → Int} {n r k : Int} : ck d e (upZ iR n r) (upZ iC n k) n = chk (rowF d r) (rowF e r) k := by
  unfold ck; rw [upZ_at, upZ_at]
theorem ents_s {d e iR iC : Int → Int} {n r k : Int} (hn : 0 ≤ n) : ents d e (upZ iR n r) (upZ iC n k) (n + 1).toNat = ents d e iR iC n.toNat ++ [chk (rowF d r) (rowF e r) k] := by
  unfold ents
  rw [show (n + 1).toNat = n.toNat + 1 by omega, List.range_succ, List.map_append]
  congr 1
  · refine List.map_congr_left fun j hj => ?_
    rw [List.mem_range] at hj
    exact ck_up (by omega)
  · show [ck d e (upZ iR n r) (upZ iC n k) (n.toNat : Int)] = _
    rw [show ((n.toNat : Nat) : Int) = n by omega, ck_at]
theorem nd_snoc {L : List (List Int)} {w : List Int} (h : L.Nodup) (hw : ¬ w ∈ L) : (L ++ [w]).Nodup := by
  rw [List.nodup_append]
  refine ⟨h, by simp, ?_⟩
  intro a ha b hb z
  simp at hb
  exact hw (hb ▸ z ▸ ha)
/-- what is held in the rows before, and in this one's first k -/
def heldB (d e m hd : Int → Int) (r k : Int) (w : List Int) : Prop := exN (fun z => hldC (rowF hd z) (chk (rowF d z) (rowF e z)) (m z) w) r ∨ hldC (rowF hd r) (chk (rowF d r) (rowF e r)) k w
theorem heldB_0 (d e m hd : Int → Int) (w : List Int) : ¬ heldB d e m hd 0 0 w := fun z => z.elim (exN_0 _) (exN_0 _)
theorem heldB_r {d e m hd : Int → Int} {r : Int} (hr : 0 ≤ r) (w : List Int) : heldB d e m hd (r + 1) 0 w ↔ heldB d e m hd r (m r) w := by
  unfold heldB
  rw [exN_s hr]
  exact ⟨fun z => z.elim (fun y => y) (fun y => absurd y (exN_0 _)), Or.inl⟩
theorem heldB_k {d e m hd : Int → Int} {r k : Int} (hk : 0 ≤ k) (w : List Int) : heldB d e m hd r (k + 1) w ↔ heldB d e m hd r k w ∨ (¬ rowF hd r k = 0 ∧ chk (rowF d r) (rowF e r) k = w) := by
  unfold heldB hldC
  rw [exN_s hk]
  exact ⟨fun z => z.elim (fun y => Or.inl (Or.inl y)) (fun y => y.elim (fun y => Or.inl (Or.inr y)) Or.inr), fun z => z.elim (fun y => y.elim Or.inl (fun y => Or.inr (Or.inl y))) (fun y => Or.inr (Or.inr y))⟩
def stP (d e m hd iR iC : Int → Int) (n r k : Int) : Prop := (0 ≤ n ∧ n ≤ 48 * r + k) ∧ (∀ w : List Int, exN (fun i => ck d e iR iC i = w) n ↔ heldB d e m hd r k w) ∧ (∀ i : Int, 0 ≤ i → i < n → (0 ≤ iR i ∧ iR i < 240) ∧ 0 ≤ iC i ∧ iC i < m (iR i)) ∧ (ents d e iR iC n.toNat).Nodup
theorem stP_0 (d e m hd iR iC : Int → Int) : stP d e m hd iR iC 0 0 0 := ⟨by omega, fun w => ⟨fun z => absurd z (exN_0 _), fun z => absurd z (heldB_0 d e m hd w)⟩, fun i i0 i1 => absurd i1 (by omega), by show (List.map _ (List.range 0)).Nodup; simp⟩
theorem stP_r {d e m hd iR iC : Int → Int} {n r : Int} (hr : 0 ≤ r) (hm : m r ≤ 48) (a : stP d e m hd iR iC n r (m r)) : stP d e m hd iR iC n (r + 1) 0 := ⟨by have := a.1; omega, fun w => (a.2.1 w).trans (heldB_r hr w).symm, a.2.2⟩
theorem stP_old {d e m hd iR iC : Int → Int} {n r k : Int} (hk : 0 ≤ k) (a : stP d e m hd iR iC n r k) (hz : rowF hd r k = 0 ∨ exN (fun i => ck d e iR iC i = chk (rowF d r) (rowF e r) k) n) : stP d e m hd iR iC n r (k + 1) := by
  refine ⟨by have := a.1; omega, fun w => (a.2.1 w).trans ?_, a.2.2⟩
  rw [heldB_k hk]
  refine ⟨Or.inl, fun z => z.elim (fun y => y) fun y => ?_⟩
  rcases hz with hz | hz
  · exact absurd hz y.1
  · rw [← y.2]; exact (a.2.1 _).mp hz
theorem stP_new {d e m hd iR iC : Int → Int} {n r k : Int} (hr : 0 ≤ r ∧ r < 240) (hk : 0 ≤ k ∧ k < m r) (a : stP d e m hd iR iC n r k) (hh : ¬ rowF hd r k = 0) (hz : ¬ exN (fun i => ck d e iR iC i = chk (rowF d r) (rowF e r) k) n) : stP d e m hd (upZ iR n r) (upZ iC n k) (n + 1) r (k + 1) := by
  have h0 := a.1
  refine ⟨by omega, fun w => ?_, fun i i0 i1 => ?_, ?_⟩
  · rw [heldB_k hk.1, exN_s h0.1, ← a.2.1 w]
    have e1 : exN (fun i => ck d e (upZ iR n r) (upZ iC n k) i = w) n ↔ exN (fun i => ck d e iR iC i = w) n := by
      constructor
      · rintro ⟨i, i0, i1, z⟩; exact ⟨i, i0, i1, (ck_up i1).symm.trans z⟩
      · rintro ⟨i, i0, i1, z⟩; exact ⟨i, i0, i1, (ck_up i1).trans z⟩
    rw [e1, ck_at]
    exact ⟨fun z => z.elim Or.inl (fun y => Or.inr ⟨hh, y⟩), fun z => z.elim Or.inl (fun y => Or.inr y.2)⟩
  · by_cases z : i = n
    · rw [z, upZ_at, upZ_at]; exact ⟨hr, hk⟩
    · rw [upZ_ne _ _ z, upZ_ne _ _ z]; exact a.2.2.1 i i0 (by omega)
  · rw [ents_s h0.1]
    refine nd_snoc a.2.2.2 fun z => hz ?_
    rw [mem_ents, show ((n.toNat : Nat) : Int) = n by omega] at z
    exact z
theorem stP_end {d e m hd iR iC : Int → Int} {n : Int} (a : stP d e m hd iR iC n 240 0) : ∃ L : List (List Int), L.Nodup ∧ (∀ w : List Int, w ∈ L ↔ exN (fun z => hldC (rowF hd z) (chk (rowF d z) (rowF e z)) (m z) w) 240) ∧ (L.length : Int) = n := by
  have h0 := a.1
  refine ⟨ents d e iR iC n.toNat, a.2.2.2, fun w => ?_, ?_⟩
  · rw [mem_ents, show ((n.toNat : Nat) : Int) = n by omega, a.2.1 w]
    exact ⟨fun z => z.elim (fun y => y) (fun y => absurd y (exN_0 _)), Or.inl⟩
  · unfold ents; rw [List.length_map, List.length_range]; omega
