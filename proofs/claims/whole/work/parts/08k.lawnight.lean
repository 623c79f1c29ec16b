section LI3
variable {g : GG} {mthrown mnights mbits mleast mmost mroom mreserve mmount mspeed : Int} {mdata msize mends mmany mkind mchain mholds mbid mbound mcheap mpromised mcoin mpaid mowed mturn misAsking mwant mcost misServed mitsRow mitsChunk : Int → Int}
theorem RGm.night {tt AS WT CS SV dd ss ee mm kk cc hh pp : Int → Int} (hG : RGm mnights mbits mleast mmost mroom mreserve mmount mspeed msize mbid mbound mcheap mpromised mcoin mpaid mowed) (h60 : ¬ mnights = 60) (z1 : turnOK mbid tt) (z2 : gI (wbP mkind mbound mcheap mnights mreserve) (mNC mkind mnights) (mOT mdata msize mends mmany mkind mnights mbits mleast mmost) (mAK mdata msize mends mmany mkind mbid mbound mcheap mnights mreserve mbits mleast mmost) (mBS mdata msize mbits mleast mmost) (mDF mdata msize mends mmany mkind mchain mholds mnights mbits mleast mmost) mroom tt AS WT CS SV 4) (z3 : ∀ y : Int, 0 ≤ y → y ≤ 3 → nwC mdata msize mends mmany mkind mchain mholds mnights mbits mleast mmost (WT y) (SV y) dd ss ee mm kk cc hh y) (z4 : ∀ y : Int, 0 ≤ y → y ≤ 3 → pp y = mpaid y + payF mbid tt AS SV CS mreserve 4 y) : RGm (mnights + 1) mbits mleast mmost mroom mreserve mmount mspeed ss mbid mbound mcheap mpromised mcoin pp mowed := by
  refine ⟨by have := hG.1; omega, hG.2.1, hG.2.2.1, hG.2.2.2.1, fun y y0 y1 => ?_, fun z w0 w1 => ?_⟩
  · obtain ⟨g1, g2, g3, g4, g5, g6, g7⟩ := hG.2.2.2.2.1 y y0 y1
    refine ⟨g1, g2, g3, g4, g5, ?_, g7⟩
    have hq := ahB_rng mbid (c := y) ⟨y0, y1⟩
    have hpf : 0 ≤ payF mbid tt AS SV CS mreserve 4 y ∧ payF mbid tt AS SV CS mreserve 4 y ≤ 300000 := by
      by_cases z : ahB mbid y < 4 ∧ ¬ SV y = 0
      · rw [payF_t z]
        have htr := z1.1 y y0 y1
        have hgq := z2 (ahB mbid y) hq.1 (by omega)
        rw [htr] at hgq
        have hsz := hG.2.2.2.2.2 (240 + y) (by omega) (by omega)
        have hco := cutR_ok (rowF mdata (240 + y)) (b := mbits) (ls := mleast) (ms := mmost) hsz.1 hsz.2
        have hbs : 0 ≤ mBS mdata msize mbits mleast mmost y ∧ mBS mdata msize mbits mleast mmost y ≤ 3000 := baseB_rng (n := (cutR (rowF mdata (240 + y)) (msize (240 + y)) mbits mleast mmost).2.1) ⟨hco.1, Int.le_trans hco.2.1 hsz.2⟩ hco.2.2
        have hdf : 0 ≤ mDF mdata msize mends mmany mkind mchain mholds mnights mbits mleast mmost y ∧ mDF mdata msize mends mmany mkind mchain mholds mnights mbits mleast mmost y ≤ 3000 := difB_rng (n := (cutR (rowF mdata (240 + y)) (msize (240 + y)) mbits mleast mmost).2.1) ⟨hco.1, Int.le_trans hco.2.1 hsz.2⟩ hco.2.2
        have hcs : 0 ≤ CS y ∧ CS y ≤ 3000 := by rw [hgq.2.2.1]; exact cst_rng hbs hdf _
        have hpr := prc_rng (mbid := mbid) (t := tt) (A := AS) (S := SV) (best := mreserve) (k := ahB mbid y) (n := (4 - ahB mbid y - 1).toNat) ⟨hG.2.2.1.2.1, by have := hG.2.2.1.2; omega⟩ (fun j j0 j1 => by
          have h9 := (z1.2 j (by omega) (by omega)).1
          exact (hG.2.2.2.2.1 _ h9.1 h9.2).1)
        exact mul_rng hpr hcs
      · rw [payF_f z]
        omega
    have h4 := z4 y y0 y1
    omega
  · have hZ := hG.2.2.2.2.2 z w0 w1
    have hn := hG.1
    by_cases y : z < 240
    · obtain ⟨x, j, hx, hj, e⟩ : ∃ x j : Int, (0 ≤ x ∧ x ≤ 3) ∧ (0 ≤ j ∧ j < 60) ∧ z = 60 * x + j := ⟨z / 60, z % 60, by omega, by omega, by omega⟩
      have h3 := z3 x hx.1 hx.2
      by_cases q : j = mnights
      · subst q
        by_cases w : SV x = 0
        · rw [e, ← (h3.2.2.1 w).1, ← e]; exact hZ
        · rw [e, (h3.2.2.2 w).1]; exact hG.2.2.2.2.2 _ (by omega) (by omega)
      · rw [e, ← (h3.1 j hj.1 hj.2 q).1, ← e]; exact hZ
    · obtain ⟨x, hx, e⟩ : ∃ x : Int, (0 ≤ x ∧ x ≤ 3) ∧ z = 240 + x := ⟨z - 240, by omega, by omega⟩
      rw [e, ← (z3 x hx.1 hx.2).2.1.1, ← e]; exact hZ
end LI3
