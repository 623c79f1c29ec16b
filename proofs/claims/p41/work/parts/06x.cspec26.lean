theorem nzL_iff {f : Int → Option Nat} {j : Int} : nzL f j = 0 ↔ f j = none := by
  cases h : f j with
  | none => exact ⟨fun _ => rfl, fun _ => nzL_0 h⟩
  | some a => exact ⟨fun y => by rw [nzL_1 h] at y; exact absurd y (by decide), fun y => by cases y⟩
section
variable {g : GG} {hK : AH} {LE : Nat → Option Nat} {RK1 : Nat → Int → Nat} {RN : Nat → Int} {HK1 : Nat → Int → Nat} {HN : Nat → Int} {CA : Nat → Nat} {PV : Nat → Option Nat} {CF : Nat → Int → Int} {CN : Nat → Int} {Ha : Int → Nat} {hN : Int} {mdata msize mends mmany mkind mchain mholds : Int → Int} {LX : Int → Option Nat} {x j n : Int} {La : Int → Nat} {nt : Int → Int} {len : Int}
theorem all_has (hS : HS g CA PV CF CN Ha hN hK) (H : ∀ j : Int, 0 ≤ j → j < 60 → LNK g hK LE RK1 RN HK1 HN CF CN Ha hN mdata msize mends mmany mkind mchain mholds LX x j) (hC : chnP g hK LE RK1 RN HK1 HN mkind mchain LX x j La nt len) (hj : 0 ≤ j ∧ j < 60) : ∀ k : Int, 0 ≤ k → k < RN (La 0) → chHas HK1 HN La len (RK1 (La 0) k) := fun k k0 k1 => by
  have hR := chnP.at H hC hj.2 (i := 0) (by omega) hC.1
  rw [hC.2.1] at hR
  rw [hR.2.1] at k1
  obtain ⟨i, i0, i1, t, t0, t1, e⟩ := all_held H hC hj k0 k1
  have hRi := chnP.at H hC hj.2 i0 i1
  have h5 := hR.2.2.1 k k0 k1
  refine ⟨i, i0, i1, t, t0, t1, ?_⟩
  exact hS.inj (hRi.inH t t0 t1) h5.1 ((show cont _ _ = _ from e).trans h5.2.1.symm)
/-- what the house keeps, counted -/
theorem kept_len {mnights : Int} {LN : Int → Int → Option Nat} {lt : Int → Option Nat} (hX : KPX g hK LE RK1 RN HK1 HN CA PV CF CN Ha hN mdata msize mends mmany mkind mchain mholds mnights LN lt) {L : List (List Int)} (hL : L.Nodup) (hm : ∀ w : List Int, w ∈ L ↔ exN (fun z => hldC (rowF mholds z) (chk (rowF mdata z) (rowF mends z)) (mmany z) w) 240) : hN = (L.length : Int) := by
  have hS := hX.hs
  have h0 := hS.2.1
  have hin : ∀ w : List Int, w ∈ (List.range hN.toNat).map (fun (i : Nat) => cont (CF (Ha (i : Int))) (CN (Ha (i : Int)))) ↔ w ∈ L := fun w => by
    rw [hm w]
    constructor
    · intro hw
      obtain ⟨i, hi, e⟩ := List.mem_map.mp hw
      rw [List.mem_range] at hi
      obtain ⟨x, j, a, t, hx, hj, e1, ht, e2⟩ := hX.2.2.2.2.1 (Ha (i : Int)) ⟨(i : Int), by omega, by omega, rfl⟩
      have hR := (hX.2.2.1 x hx.1 hx.2 j hj.1 hj.2).at e1
      refine ⟨60 * x + j, by omega, by omega, (hR.held w).mp ⟨t, ht.1, ht.2, ?_⟩⟩
      show cont _ _ = w
      rw [e2]
      exact e
    · rintro ⟨z, z0, z1, hz⟩
      have hx : 0 ≤ z / 60 ∧ z / 60 ≤ 3 := by omega
      have hj : 0 ≤ z % 60 ∧ z % 60 < 60 := by omega
      have ez : 60 * (z / 60) + z % 60 = z := by omega
      have hl := hX.2.2.1 (z / 60) hx.1 hx.2 (z % 60) hj.1 hj.2
      cases ea : LN (z / 60) (z % 60) with
      | none =>
        rcases hl with y | ⟨a, a1, _⟩
        · obtain ⟨k, k0, k1, _⟩ := hz
          have := y.2.2
          rw [ez] at this
          omega
        · rw [ea] at a1; cases a1
      | some a =>
        have hR := hl.at ea
        have hh := hR.held w
        rw [ez] at hh
        obtain ⟨t, t0, t1, e⟩ := hh.mpr hz
        obtain ⟨i, i0, i1, ei⟩ := hR.inH t t0 t1
        refine List.mem_map.mpr ⟨i.toNat, List.mem_range.mpr (by omega), ?_⟩
        show cont (CF (Ha ((i.toNat : Nat) : Int))) _ = w
        rw [show ((i.toNat : Nat) : Int) = i by omega, ei]
        exact e
  have hnd : ((List.range hN.toNat).map (fun (i : Nat) => cont (CF (Ha (i : Int))) (CN (Ha (i : Int))))).Nodup := by
    refine List.pairwise_map.mpr (List.Pairwise.imp_of_mem ?_ List.nodup_range)
    intro a b ha hb hne e
    rw [List.mem_range] at ha hb
    have := hS.2.2 (a : Int) (b : Int) (by omega) (by omega) (by omega) (by omega) e
    exact hne (by omega)
  have l1 := nodup_le hnd (fun w hw => (hin w).mp hw)
  have l2 := nodup_le hL (fun w hw => (hin w).mpr hw)
  rw [List.length_map, List.length_range] at l1 l2
  omega
end
