theorem fil4_in {v x : Int} (h : 0 ≤ x ∧ x ≤ 3) : fil4 v 4 x = v := by unfold fil4; rw [if_pos (by omega)]
theorem ltN_00 : ∀ n : Nat, ltN (fun _ => (0 : Int)) n = -1
  | 0 => rfl
  | n + 1 => by
    have h := ltN_z (fun _ => (0 : Int)) (n := (n : Int)) (by omega) rfl
    rw [show ((n : Int) + 1).toNat = n + 1 by omega, show ((n : Int)).toNat = n by omega] at h
    rw [h]
    exact ltN_00 n
/-- at first both sides hold nothing -/
theorem ST.ini {g : GG} {A : Nat → Nat} {Z : Nat → Prop} {hI h : AH} (hC : CW g A hI 0 2 3 12 200 1 5 4 0 none (fun _ => none) (fun _ _ => 0) (fun _ _ => 0) (fun _ => 0) (fun _ => 0) (fun _ => 0) (fun _ => 5) (fun _ => 0) (fun _ => 60) (fun _ => 0) (fun _ => 0) (fun _ => 0) (fun _ => 0) (fun _ => 0) (fun _ => 0) (fun _ _ => none) (fun _ => none) h) : ST g A Z hI (fun _ => 0) (fun _ => 0) (fun _ => 0) (fun _ => 0) (fun _ => 0) (fun _ => 0) (fun _ => 0) 0 2 3 12 200 1 5 4 (fun _ => 0) (fil4 5 4) (fun _ => 0) (fil4 60 4) (fun _ => 0) (fun _ => 0) (fun _ => 0) h := by
  refine ⟨fun _ => none, fun _ => none, fun _ _ => 0, fun _ => 0, fun _ _ => 0, fun _ => 0, fun _ => 0, fun _ => none, fun _ _ => 0, fun _ => 0, fun _ => 0, 0, fun _ => none, fun _ _ => 0, fun _ _ => 0, fun _ => 0, fun _ => 0, fun _ => 0, fun _ => 0, fun _ => 0, fun _ _ => none, fun _ => none, ?_, fun q hq => absurd rfl hq, fun q hq => absurd rfl hq, ?_, ?_⟩
  · refine ⟨hC.1, hC.2.1, hC.2.2.1, hC.2.2.2.1, hC.2.2.2.2.1, hC.2.2.2.2.2.1, hC.2.2.2.2.2.2.1, fun y y0 y1 => ?_, hC.2.2.2.2.2.2.2.2⟩
    rw [fil4_in ⟨y0, y1⟩, fil4_in ⟨y0, y1⟩]
    exact hC.2.2.2.2.2.2.2.1 y y0 y1
  · refine ⟨fun z _ _ => ⟨⟨Int.le_refl 0, (by decide : (0 : Int) ≤ 48)⟩, fun k k0 k1 => absurd (show k < 0 from k1) (by omega)⟩, ⟨fun i i0 i1 => absurd i0 (by omega), by decide, fun i j i0 i1 => absurd i0 (by omega)⟩, fun x _ _ j _ _ => Or.inl ⟨rfl, rfl, rfl⟩, fun x _ _ j _ _ => rfl, fun z hz => ?_, fun x _ _ => ?_⟩
    · obtain ⟨i, i0, i1, -⟩ := hz
      exact absurd i0 (by omega)
    · rw [show colF (fun _ => (0 : Int)) x = fun _ => 0 from rfl, ltN_00]
      unfold ltp
      rw [if_pos rfl]
  · exact ⟨fun x _ _ => ⟨rfl, fun j => ⟨Int.le_refl 0, (by decide : (0 : Int) ≤ 255)⟩, fun j _ _ => rfl⟩, fun i _ _ => ⟨Int.le_refl 0, (by decide : (0 : Int) ≤ 255)⟩⟩
theorem RGm.ini : RGm 0 2 3 12 200 1 5 4 (fun _ => 0) (fun _ => 0) (fil4 5 4) (fun _ => 0) (fil4 60 4) (fun _ => 0) (fun _ => 0) (fun _ => 0) := ⟨by decide, by decide, by decide, by decide, fun x x0 x1 => by
  rw [fil4_in ⟨x0, x1⟩, fil4_in ⟨x0, x1⟩]
  exact ⟨(by decide : (0 : Int) ≤ 0 ∧ (0 : Int) ≤ 100), by decide, (by decide : (0 : Int) ≤ 0 ∧ (0 : Int) ≤ 50), by decide, (by decide : (0 : Int) ≤ 0 ∧ (0 : Int) ≤ 100), (by decide : (0 : Int) ≤ 0 ∧ (0 : Int) ≤ 300000 * 0), inR_0⟩, fun z _ _ => ⟨Int.le_refl 0, (by decide : (0 : Int) ≤ 48)⟩⟩
/-- where all lies at first -/
theorem LA.ini {g : GG} {A ad : Nat → Nat} {o1 o2 : Nat} {h2 h3 h4 : AH} {mthrown mnights mbits mleast mmost mroom mreserve mmount mspeed : Int} {mdata msize mends mmany mkind mchain mholds mbid mbound mcheap mpromised mcoin mpaid mowed mturn misAsking mwant mcost misServed mitsRow mitsChunk : Int → Int} (hA : AOK A) (hst : ∀ i : Nat, i < 27 → h2 (A i) ≠ none) (h20 : h2 (ad 0) = none) (e3 : ∀ q : Nat, q ≠ ad 0 → h3 q = h2 q) (had : ADok ad) (hM : MW g ad h3 mthrown mdata msize mends mmany mkind mchain mholds mnights mbits mleast mmost mroom mreserve mmount mspeed mbid mbound mcheap mpromised mcoin mpaid mowed mturn misAsking mwant mcost misServed mitsRow mitsChunk h4) (hn : ∀ k : Nat, k ∈ AK0 → k ≠ 0 → h3 (ad k) = none) (n1 : h4 o1 = none) (n2 : o2 ≠ o1) (n3 : h4 o2 = none) : LA A ad o1 o2 (fun q => q = o1 ∨ q = o2 ∨ ∃ k ∈ AK0, q = ad k) ∧ (∀ i : Nat, i < 27 → h4 (A i) = h2 (A i)) ∧ ∀ q : Nat, (∀ k ∈ AK0, q ≠ ad k) → h4 q = h2 q := by
  have a0 : ∀ i : Nat, i < 27 → A i ≠ ad 0 := fun i hi z => hst i hi (by rw [z]; exact h20)
  have ak : ∀ i : Nat, i < 27 → ∀ k ∈ AK0, A i ≠ ad k := fun i hi k hk z => by
    by_cases y : k = 0
    · subst y; exact a0 i hi z
    · have := e3 (A i) (a0 i hi)
      rw [z, hn k hk y] at this
      exact hst i hi (by rw [z]; exact this.symm)
  have f4 : ∀ q : Nat, (∀ k ∈ AK0, q ≠ ad k) → h4 q = h2 q := fun q hq => (hM.fr q hq).trans (e3 q (hq 0 (by decide)))
  have fA : ∀ i : Nat, i < 27 → h4 (A i) = h2 (A i) := fun i hi => f4 (A i) (ak i hi)
  refine ⟨⟨hA, had, fun q => Iff.rfl, fun z => n2 z.symm, fun i hi => ⟨fun z => hst i hi ?_, fun z => hst i hi ?_, ak i hi⟩, fun k hk => ⟨fun z => hM.ks k hk (by rw [z]; exact n1), fun z => hM.ks k hk (by rw [z]; exact n3)⟩⟩, fA, f4⟩
  · rw [← fA i hi, z]; exact n1
  · rw [← fA i hi, z]; exact n3
