theorem sumZ_le {f f' : Int → Int} : ∀ {n : Nat}, (∀ k : Int, 0 ≤ k → k < (n : Int) → f k ≤ f' k) → sumZ f n ≤ sumZ f' n
  | 0, _ => Int.le_refl _
  | n + 1, h => by
    have ih := sumZ_le (f := f) (f' := f') (n := n) (fun k k0 k1 => h k k0 (by omega))
    have h1 := h (n : Int) (by omega) (by omega)
    show sumZ f n + f (n : Int) ≤ sumZ f' n + f' (n : Int)
    omega
theorem sumZ_00 {f : Int → Int} : ∀ {n : Nat}, (∀ k : Int, 0 ≤ k → k < (n : Int) → f k = 0) → sumZ f n = 0
  | 0, _ => rfl
  | n + 1, h => by
    have ih := sumZ_00 (f := f) (n := n) (fun k k0 k1 => h k k0 (by omega))
    have h1 := h (n : Int) (by omega) (by omega)
    show sumZ f n + f (n : Int) = 0
    omega
theorem sum_bI {P : Int → Prop} : ∀ n : Nat, 0 ≤ sumZ (fun k => bI (P k)) n ∧ sumZ (fun k => bI (P k)) n ≤ (n : Int)
  | 0 => ⟨Int.le_refl _, Int.le_refl _⟩
  | n + 1 => by
    have ih := sum_bI (P := P) n
    have h1 := bI_rng01 (P (n : Int))
    show 0 ≤ sumZ _ n + bI (P (n : Int)) ∧ sumZ _ n + bI (P (n : Int)) ≤ _
    omega
theorem bI_mul_le {P : Prop} {a : Int} (h : 0 ≤ a) : 0 ≤ bI P * a ∧ bI P * a ≤ a := by
  rcases bI_01 P with q | q <;> rw [q] <;> omega
/-- the cut takes all -/
theorem cut_all (G : Int → Int) {sz b ls ms : Int} (h0 : 0 ≤ sz) : (cutR G sz b ls ms).1 = sz := by
  by_cases z : sz = 0
  · subst z; rfl
  · have e := cutSt_t (G := G) (sz := sz) (b := b) (ls := ls) (ms := ms) (k := sz - 1) (by omega) (Or.inl (by omega))
    rw [show sz - 1 + 1 = sz by omega] at e
    unfold cutR
    rw [e]
/-- how long the chunks are -/
theorem cut_len (G : Int → Int) {sz b ls ms : Int} (h1 : 1 ≤ ms) : ∀ k : Nat, (k : Int) - (cutSt G sz b ls ms k).1 < ms ∧ ∀ j : Int, 0 ≤ j → j < (cutSt G sz b ls ms k).2.1 → lnF (cutSt G sz b ls ms k).2.2 j ≤ ms ∧ ((cutSt G sz b ls ms k).2.2 j = sz ∨ lnF (cutSt G sz b ls ms k).2.2 j = ms ∨ ls ≤ lnF (cutSt G sz b ls ms k).2.2 j)
  | 0 => ⟨by show (0 : Int) - 0 < ms; omega, fun j j0 j1 => by have : (cutSt G sz b ls ms 0).2.1 = 0 := rfl; omega⟩
  | k + 1 => by
    have ih := cut_len G (sz := sz) (b := b) (ls := ls) h1 k
    have hi := cut_inv G sz b ls ms k
    by_cases hc : cutC G sz b ls ms (k : Int) (cutSt G sz b ls ms k).1
    · have e := cutSt_t (G := G) (sz := sz) (b := b) (ls := ls) (ms := ms) (k := (k : Int)) (by omega) hc
      rw [show ((k : Int) + 1).toNat = k + 1 by omega, show ((k : Int)).toNat = k by omega] at e
      rw [e]
      refine ⟨by show ((k + 1 : Nat) : Int) - ((k : Int) + 1) < ms; omega, fun j j0 j1 => ?_⟩
      show lnF (upZ (cutSt G sz b ls ms k).2.2 (cutSt G sz b ls ms k).2.1 ((k : Int) + 1)) j ≤ ms ∧ (upZ (cutSt G sz b ls ms k).2.2 (cutSt G sz b ls ms k).2.1 ((k : Int) + 1) j = sz ∨ lnF (upZ (cutSt G sz b ls ms k).2.2 (cutSt G sz b ls ms k).2.1 ((k : Int) + 1)) j = ms ∨ ls ≤ lnF (upZ (cutSt G sz b ls ms k).2.2 (cutSt G sz b ls ms k).2.1 ((k : Int) + 1)) j)
      have j1' : j < (cutSt G sz b ls ms k).2.1 + 1 := j1
      unfold lnF
      rw [bgF_upne _ (by omega)]
      rcases (show j = (cutSt G sz b ls ms k).2.1 ∨ j < (cutSt G sz b ls ms k).2.1 by omega) with q | q
      · rw [q, upZ_at, hi.2.2.1]
        unfold cutC at hc
        have h9 := ih.1
        refine ⟨by omega, ?_⟩
        rcases hc with y | y | y
        · exact Or.inl y
        · exact Or.inr (Or.inl y)
        · exact Or.inr (Or.inr y.1)
      · rw [upZ_ne _ _ (by omega)]
        exact ih.2 j j0 q
    · have e := cutSt_f (G := G) (sz := sz) (b := b) (ls := ls) (ms := ms) (k := (k : Int)) (by omega) hc
      rw [show ((k : Int) + 1).toNat = k + 1 by omega, show ((k : Int)).toNat = k by omega] at e
      rw [e]
      refine ⟨?_, ih.2⟩
      have h9 := ih.1
      unfold cutC at hc
      by_cases y : (k : Int) + 1 - (cutSt G sz b ls ms k).1 = ms
      · exact absurd (Or.inr (Or.inl y)) hc
      · omega
/-- what the law asks of a file that is cut -/
def FileOK (sz ls ms n : Int) (E : Int → Int) : Prop := (0 ≤ n ∧ n ≤ sz) ∧ (n = 0 ↔ sz = 0) ∧ bgF E n = sz ∧ ∀ k : Int, 0 ≤ k → k < n → 0 ≤ bgF E k ∧ bgF E k < E k ∧ E k ≤ 48 ∧ E k - bgF E k ≤ ms ∧ (k = n - 1 ∨ ls ≤ E k - bgF E k)
theorem file_ok (G : Int → Int) {sz b ls ms : Int} (h0 : 0 ≤ sz) (h1 : sz ≤ 48) (hl : ls ≤ ms) (hm : 1 ≤ ms) : FileOK sz ls ms (cutR G sz b ls ms).2.1 (cutR G sz b ls ms).2.2 := by
  have ho := cutR_ok G (b := b) (ls := ls) (ms := ms) h0 h1
  have ha := cut_all G (b := b) (ls := ls) (ms := ms) h0
  have hi := cut_inv G sz b ls ms sz.toNat
  have hl2 := cut_len G (sz := sz) (b := b) (ls := ls) hm sz.toNat
  have hb : bgF (cutR G sz b ls ms).2.2 (cutR G sz b ls ms).2.1 = sz := by
    have := hi.2.2.1
    show bgF (cutSt G sz b ls ms sz.toNat).2.2 (cutSt G sz b ls ms sz.toNat).2.1 = sz
    rw [this]
    exact ha
  refine ⟨⟨ho.1, ho.2.1⟩, ⟨fun z => ?_, fun z => by omega⟩, hb, fun k k0 k1 => ?_⟩
  · rw [z] at hb
    rw [← hb]
    rfl
  · have h2 := ho.2.2 k k0 k1
    have h3 := hl2.2 k k0 k1
    refine ⟨h2.1, h2.2.1, h2.2.2, h3.1, ?_⟩
    by_cases y : k = (cutR G sz b ls ms).2.1 - 1
    · exact Or.inl y
    · right
      rcases h3.2 with w | w | w
      · exfalso
        have hk := ho.2.2 (k + 1) (by omega) (by omega)
        have e : bgF (cutR G sz b ls ms).2.2 (k + 1) = (cutR G sz b ls ms).2.2 k := by
          unfold bgF
          rw [if_neg (by omega), show k + 1 - 1 = k by omega]
        have hlast := ho.2.2 ((cutR G sz b ls ms).2.1 - 1) (by omega) (by omega)
        have e2 : bgF (cutR G sz b ls ms).2.2 (cutR G sz b ls ms).2.1 = (cutR G sz b ls ms).2.2 ((cutR G sz b ls ms).2.1 - 1) := by
          unfold bgF
          rw [if_neg (by omega)]
        have hinc : ∀ d : Nat, k + 1 + (d : Int) < (cutR G sz b ls ms).2.1 → (cutR G sz b ls ms).2.2 k < (cutR G sz b ls ms).2.2 (k + 1 + (d : Int)) := by
          intro d
          induction d with
          | zero => intro _; rw [show k + 1 + ((0 : Nat) : Int) = k + 1 by omega]; omega
          | succ d ih =>
            intro hd
            have i1 := ih (by omega)
            have i2 := ho.2.2 (k + 1 + ((d + 1 : Nat) : Int)) (by omega) hd
            have e3 : bgF (cutR G sz b ls ms).2.2 (k + 1 + ((d + 1 : Nat) : Int)) = (cutR G sz b ls ms).2.2 (k + 1 + (d : Int)) := by
              unfold bgF
              rw [if_neg (by omega), show k + 1 + ((d + 1 : Nat) : Int) - 1 = k + 1 + (d : Int) by omega]
            omega
        have i3 := hinc ((cutR G sz b ls ms).2.1 - 1 - (k + 1)).toNat (by omega)
        rw [show k + 1 + ((((cutR G sz b ls ms).2.1 - 1 - (k + 1)).toNat : Nat) : Int) = (cutR G sz b ls ms).2.1 - 1 by omega] at i3
        have w' : (cutR G sz b ls ms).2.2 k = sz := w
        omega
      · have w' : (cutR G sz b ls ms).2.2 k - bgF (cutR G sz b ls ms).2.2 k = ms := w
        omega
      · exact w
theorem base_le {G E : Int → Int} {n sz : Int} (hn : 0 ≤ n) (he : EOK E n) (hb : bgF E n = sz) : n ≤ baseB G E n ∧ baseB G E n ≤ n + sz := by
  have hl : ∀ k : Int, 0 ≤ k → k < (n.toNat : Int) → 0 ≤ bI (fstC (chk G E) k) * lnF E k ∧ bI (fstC (chk G E) k) * lnF E k ≤ lnF E k := fun k k0 k1 => bI_mul_le (by have := lnF_rng he k0 (by omega); omega)
  have h1 : sumZ (fun k => bI (fstC (chk G E) k) * lnF E k) n.toNat ≤ sumZ (fun k => lnF E k) n.toNat := sumZ_le (fun k k0 k1 => (hl k k0 k1).2)
  have h2 : 0 ≤ sumZ (fun k => bI (fstC (chk G E) k) * lnF E k) n.toNat := sumZ_nn (fun k k0 k1 => (hl k k0 k1).1)
  rw [sum_ln, show ((n.toNat : Nat) : Int) = n by omega, hb] at h1
  unfold baseB
  omega
theorem dif_le {G E : Int → Int} {n : Int} {P : List Int → Prop} (he : EOK E n) : n ≤ difB G E n P ∧ difB G E n P ≤ baseB G E n := by
  have hl : ∀ k : Int, 0 ≤ k → k < (n.toNat : Int) → 0 ≤ lnF E k := fun k k0 k1 => by have := lnF_rng he k0 (by omega); omega
  have h1 : sumZ (fun k => bI (fstC (chk G E) k ∧ ¬ P (chk G E k)) * lnF E k) n.toNat ≤ sumZ (fun k => bI (fstC (chk G E) k) * lnF E k) n.toNat := sumZ_le (fun k k0 k1 => Int.mul_le_mul_of_nonneg_right (bI_mono (fun z => z.1)) (hl k k0 k1))
  have h2 : 0 ≤ sumZ (fun k => bI (fstC (chk G E) k ∧ ¬ P (chk G E k)) * lnF E k) n.toNat := sumZ_nn (fun k k0 k1 => (bI_mul_le (hl k k0 k1)).1)
  unfold difB baseB
  omega
/-- a difference of chunks that are all there -/
theorem dif_all {G E : Int → Int} {n : Int} {P : List Int → Prop} (h : ∀ k : Int, 0 ≤ k → k < n → P (chk G E k)) : difB G E n P = n := by
  unfold difB
  rw [sumZ_00 (fun k k0 k1 => by rw [bI_f (fun z => z.2 (h k k0 (by omega))), Int.zero_mul])]
  omega
/-- what a link's day shows -/
theorem row_bytes_rng {E Hd : Int → Int} {n sz : Int} (hn : 0 ≤ n) (he : EOK E n) (hb : bgF E n = sz) : (0 ≤ sumZ (fun j => bI (Hd j ≠ 0)) n.toNat ∧ sumZ (fun j => bI (Hd j ≠ 0)) n.toNat ≤ n + sumZ (fun j => bI (Hd j ≠ 0) * lnF E j) n.toNat) ∧ (0 ≤ n + sumZ (fun j => bI (Hd j ≠ 0) * lnF E j) n.toNat ∧ n + sumZ (fun j => bI (Hd j ≠ 0) * lnF E j) n.toNat ≤ n + sz) ∧ (0 < sz ∨ n + sumZ (fun j => bI (Hd j ≠ 0) * lnF E j) n.toNat = 0) := by
  have hl : ∀ k : Int, 0 ≤ k → k < (n.toNat : Int) → 0 ≤ bI (Hd k ≠ 0) * lnF E k ∧ bI (Hd k ≠ 0) * lnF E k ≤ lnF E k := fun k k0 k1 => bI_mul_le (by have := lnF_rng he k0 (by omega); omega)
  have h1 : sumZ (fun k => bI (Hd k ≠ 0) * lnF E k) n.toNat ≤ sumZ (fun k => lnF E k) n.toNat := sumZ_le (fun k k0 k1 => (hl k k0 k1).2)
  have h2 : 0 ≤ sumZ (fun k => bI (Hd k ≠ 0) * lnF E k) n.toNat := sumZ_nn (fun k k0 k1 => (hl k k0 k1).1)
  have h3 := sum_bI (P := fun j => Hd j ≠ 0) n.toNat
  rw [sum_ln, show ((n.toNat : Nat) : Int) = n by omega, hb] at h1
  refine ⟨by omega, by omega, ?_⟩
  by_cases z : n = 0
  · right
    subst z
    rfl
  · left
    have h4 := he (n - 1) (by omega) (by omega)
    have e2 : bgF E n = E (n - 1) := by
      unfold bgF
      rw [if_neg z]
    omega
section SF
variable {g : GG} {A : Nat → Nat} {Z : Nat → Prop} {h hZ : AH} {mnights mbits mleast mmost mroom mreserve mmount mspeed : Int} {mdata msize mends mmany mkind mchain mholds mbid mbound mcheap mpromised mcoin mpaid mowed : Int → Int}
/-- a day that was: what its row shows -/
def DayOK (mdata msize mends mmany mkind mchain mholds : Int → Int) (mnights x j : Int) : Prop := (mkind (60 * x + j) = 1 ∨ mkind (60 * x + j) = 2) ∧ ((0 ≤ mmany (60 * x + j) ∧ mmany (60 * x + j) ≤ 48) ∧ EOK (rowF mends (60 * x + j)) (mmany (60 * x + j))) ∧ bgF (rowF mends (60 * x + j)) (mmany (60 * x + j)) = msize (60 * x + j) ∧ (1 ≤ mntM mdata mends mmany mkind mchain mholds mnights x j ∧ mntM mdata mends mmany mkind mchain mholds mnights x j ≤ j + 1) ∧ (mkind (60 * x + j) = 1 → mntM mdata mends mmany mkind mchain mholds mnights x j = 1)
theorem ST.day (hT : ST g A Z hZ mdata msize mends mmany mkind mchain mholds mnights mbits mleast mmost mroom mreserve mmount mspeed mbid mbound mcheap mpromised mcoin mpaid mowed h) (hn : 0 ≤ mnights ∧ mnights ≤ 60) {x j : Int} (x0 : 0 ≤ x ∧ x ≤ 3) (j0 : 0 ≤ j ∧ j < mnights) (hk : ¬ mkind (60 * x + j) = 0) : DayOK mdata msize mends mmany mkind mchain mholds mnights x j := by
  obtain ⟨hK, LE, RK1, RN, HK1, HN, CA, PV, CF, CN, Ha, hN, tq, G, Eg, sz, pt, wt, gt, pc, LN, lt, hC, hSub, hZn, hX, hM⟩ := hT
  have hj9 : 0 ≤ j ∧ j < 60 := by omega
  have hH := hX.2.2.1 x x0.1 x0.2
  obtain ⟨a, ha⟩ : ∃ a : Nat, LN x j = some a := by
    cases e : LN x j with
    | none => exact absurd ((hH j hj9.1 hj9.2).nz.mp e) hk
    | some a => exact ⟨a, rfl⟩
  obtain ⟨hR, La, nt, len, hCh, hLa0⟩ := hX.one x0 hj9 ha
  have hE := hX.eok x0 hj9
  have hm := mounts_eq hX.hs hH hCh j0 hn.2
  have hlen := hCh.2.2.2.2.2.1
  have hdr := dfN_rng (colF mkind x) (j + 1).toNat
  have hl0 := hCh.1
  have hsb := sum_bI (P := fun i => exN (fun q => exN (fun t => HK1 (La (i + 1)) t = RK1 (La 0) q) (HN (La (i + 1)))) (RN (La 0))) (len - 1).toNat
  have hm2 : mntM mdata mends mmany mkind mchain mholds mnights x j = 1 + sumZ (fun i => bI (exN (fun q => exN (fun t => HK1 (La (i + 1)) t = RK1 (La 0) q) (HN (La (i + 1)))) (RN (La 0)))) (len - 1).toNat := hm.symm
  refine ⟨hR.2.2.2.2.2.2, hE, hR.2.2.2.2.2.1, ⟨by omega, by omega⟩, fun k1 => ?_⟩
  have hd1 : dfN (colF mkind x) (j + 1).toNat = 0 := by
    rw [dfN_s _ hj9.1, if_neg (show ¬ colF mkind x j = 0 from hk), if_pos (show colF mkind x j = 1 from k1)]
  rw [hd1] at hlen
  rw [hlen] at hm2
  rw [hm2]
  rfl
theorem ST.late (hT : ST g A Z hZ mdata msize mends mmany mkind mchain mholds mnights mbits mleast mmost mroom mreserve mmount mspeed mbid mbound mcheap mpromised mcoin mpaid mowed h) {x j : Int} (x0 : 0 ≤ x ∧ x ≤ 3) (j0 : mnights ≤ j ∧ j < 60) : mkind (60 * x + j) = 0 := by
  obtain ⟨hK, LE, RK1, RN, HK1, HN, CA, PV, CF, CN, Ha, hN, tq, G, Eg, sz, pt, wt, gt, pc, LN, lt, hC, hSub, hZn, hX, hM⟩ := hT
  exact hX.2.2.2.1 x x0.1 x0.2 j j0.1 j0.2
theorem ST.lko (hT : ST g A Z hZ mdata msize mends mmany mkind mchain mholds mnights mbits mleast mmost mroom mreserve mmount mspeed mbid mbound mcheap mpromised mcoin mpaid mowed h) : LKo mends mmany := by
  obtain ⟨hK, LE, RK1, RN, HK1, HN, CA, PV, CF, CN, Ha, hN, tq, G, Eg, sz, pt, wt, gt, pc, LN, lt, hC, hSub, hZn, hX, hM⟩ := hT
  exact hX.1
/-- the latest chain holds all of the latest day -/
theorem ST.has (hT : ST g A Z hZ mdata msize mends mmany mkind mchain mholds mnights mbits mleast mmost mroom mreserve mmount mspeed mbid mbound mcheap mpromised mcoin mpaid mowed h) (hn : 0 ≤ mnights ∧ mnights ≤ 60) {x j : Int} (x0 : 0 ≤ x ∧ x ≤ 3) (j0 : 0 ≤ j) (hl : ltN (colF mkind x) mnights.toNat = j) : ∀ k : Int, 0 ≤ k → k < mmany (60 * x + j) → inCh mdata mends mmany mkind mchain mholds mnights x (chk (rowF mdata (60 * x + j)) (rowF mends (60 * x + j)) k) := by
  obtain ⟨hK, LE, RK1, RN, HK1, HN, CA, PV, CF, CN, Ha, hN, tq, G, Eg, sz, pt, wt, gt, pc, LN, lt, hC, hSub, hZn, hX, hM⟩ := hT
  have hr := ltN_rng (colF mkind x) mnights.toNat
  have hk : ¬ mkind (60 * x + j) = 0 := by
    have := ltN_at (colF mkind x) mnights.toNat (by omega)
    rw [hl] at this
    exact this
  have hj9 : 0 ≤ j ∧ j < 60 := by omega
  have hH := hX.2.2.1 x x0.1 x0.2
  obtain ⟨La, nt, len, hCh⟩ := chain_ex hH 60 j (by omega) (by omega) (by omega) hk
  exact fun k k0 k1 => (chP_in hH hCh hj9 hn hl _).mp (all_held hH hCh hj9 k0 k1)
end SF
/-- the digests that the law keeps are those of the days -/
def DGI (D : Nat → Int64) (mdata msize mkind : Int → Int) (ng : Int) : Prop := ∀ x j : Int, (0 ≤ x ∧ x ≤ 3) → (0 ≤ j ∧ j < ng) → ¬ mkind (60 * x + j) = 0 → D (16 * x + j).toNat = dig (rowF mdata (60 * x + j)) (msize (60 * x + j)).toNat
theorem DGI.file {D : Nat → Int64} {mdata msize mkind d' s' : Int → Int} {ng : Int} (hs : ∀ z : Int, 0 ≤ z → z < 244 → 0 ≤ msize z ∧ msize z ≤ 48) (hn : ng ≤ 60) (h : DGI D mdata msize mkind ng) (hd : ∀ i : Int, 0 ≤ i → i < 11520 → d' i = mdata i) (he : ∀ r : Int, 0 ≤ r → r < 240 → s' r = msize r) : DGI D d' s' mkind ng := fun x j x0 j0 hk => by
  have h9 := hs (60 * x + j) (by omega) (by omega)
  rw [h x j x0 j0 hk, he (60 * x + j) (by omega) (by omega)]
  exact dig_congr (fun q q0 q1 => (hd _ (by omega) (by omega)).symm)
