/-- at first nothing is held -/
theorem ltN_00 : ∀ n : Nat, ltN (fun _ => (0 : Int)) n = -1
  | 0 => rfl
  | n + 1 => by
    have h := ltN_z (fun _ => (0 : Int)) (n := (n : Int)) (by omega) rfl
    rw [show ((n : Int) + 1).toNat = n + 1 by omega, show ((n : Int)).toNat = n by omega] at h
    rw [h]
    exact ltN_00 n
theorem ST.ini {g : GG} {A : Nat → Nat} {Z : Nat → Prop} {hI h : AH} (hC : CW g A hI 0 2 3 12 200 1 5 4 0 none (fun _ => none) (fun _ _ => 0) (fun _ _ => 0) (fun _ => 0) (fun _ => 0) (fun _ => 0) (fun _ => 5) (fun _ => 0) (fun _ => 60) (fun _ => 0) (fun _ => 0) (fun _ => 0) (fun _ => 0) (fun _ => 0) (fun _ => 0) (fun _ _ => none) (fun _ => none) h) : ST g A Z hI (fun _ => 0) (fun _ => 0) (fun _ => 0) (fun _ => 0) (fun _ => 0) (fun _ => 0) (fun _ => 0) 0 2 3 12 200 1 5 4 (fun _ => 0) (fun _ => 5) (fun _ => 0) (fun _ => 60) (fun _ => 0) (fun _ => 0) (fun _ => 0) h := by
  refine ⟨fun _ => none, fun _ => none, fun _ _ => 0, fun _ => 0, fun _ _ => 0, fun _ => 0, fun _ => 0, fun _ => none, fun _ _ => 0, fun _ => 0, fun _ => 0, 0, fun _ => none, fun _ _ => 0, fun _ _ => 0, fun _ => 0, fun _ => 0, fun _ => 0, fun _ => 0, fun _ => 0, fun _ _ => none, fun _ => none, ?_, fun q hq => absurd rfl hq, fun q hq => absurd rfl hq, ?_, ?_⟩
  · exact hC
  · refine ⟨fun z _ _ => ⟨⟨Int.le_refl 0, (by decide : (0 : Int) ≤ 48)⟩, fun k k0 k1 => absurd (show k < 0 from k1) (by omega)⟩, ⟨fun i i0 i1 => absurd i0 (by omega), by decide, fun i j i0 i1 => absurd i0 (by omega)⟩, fun x _ _ j _ _ => Or.inl ⟨rfl, rfl, rfl⟩, fun x _ _ j _ _ => rfl, fun z hz => ?_, fun x _ _ => ?_⟩
    · obtain ⟨i, i0, i1, -⟩ := hz
      exact absurd i0 (by omega)
    · rw [show colF (fun _ => (0 : Int)) x = fun _ => 0 from rfl, ltN_00]
      unfold ltp
      rw [if_pos rfl]
  · exact ⟨fun x _ _ => ⟨rfl, fun j => ⟨Int.le_refl 0, (by decide : (0 : Int) ≤ 255)⟩, fun j _ _ => rfl⟩, fun i _ _ => ⟨Int.le_refl 0, (by decide : (0 : Int) ≤ 255)⟩⟩
theorem RGm.ini : RGm 0 2 3 12 200 1 5 4 (fun _ => 0) (fun _ => 0) (fun _ => 5) (fun _ => 0) (fun _ => 60) (fun _ => 0) (fun _ => 0) (fun _ => 0) := ⟨by decide, by decide, by decide, by decide, fun x x0 x1 => ⟨(by decide : (0 : Int) ≤ 0 ∧ (0 : Int) ≤ 100), (by decide : (0 : Int) ≤ 5 ∧ (5 : Int) ≤ 30), (by decide : (0 : Int) ≤ 0 ∧ (0 : Int) ≤ 50), (by decide : (0 : Int) ≤ 60 ∧ (60 : Int) ≤ 600), (by decide : (0 : Int) ≤ 0 ∧ (0 : Int) ≤ 100), (by decide : (0 : Int) ≤ 0 ∧ (0 : Int) ≤ 300000 * 0), (show inR 0 by unfold inR; decide)⟩, fun z _ _ => ⟨Int.le_refl 0, (by decide : (0 : Int) ≤ 48)⟩⟩
theorem store_0 {n : Int} (h : ∀ L : List (List Int), L.Nodup → (∀ w : List Int, w ∈ L ↔ exN (fun z => hldC (rowF (fun _ => (0 : Int)) z) (chk (rowF (fun _ => (0 : Int)) z) (rowF (fun _ => (0 : Int)) z)) ((fun _ => (0 : Int)) z) w) 240) → n = (L.length : Int)) : n = 0 := by
  have h1 := h [] List.nodup_nil (fun w => ⟨fun z => absurd z List.not_mem_nil, fun z => by
    obtain ⟨i, i0, i1, j, j0, j1, -⟩ := z
    exact absurd (show j < 0 from j1) (by omega)⟩)
  exact h1

