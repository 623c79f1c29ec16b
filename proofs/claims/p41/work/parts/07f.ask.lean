theorem MGP.cr {mdata msize : Int → Int} {G : Int → Int → Int} {sz : Int → Int} (hM : MGP mdata msize G sz) {x : Int} (x0 : 0 ≤ x) (x1 : x ≤ 3) (hs : 0 ≤ msize (240 + x) ∧ msize (240 + x) ≤ 48) (b ls ms : Int) : cutR (G x) (sz x) b ls ms = cutR (rowF mdata (240 + x)) (msize (240 + x)) b ls ms := by
  have h1 := hM.1 x x0 x1
  rw [h1.1]
  exact cutR_congr hs.1 (fun j j0 j1 => h1.2.2 j j0 (by omega))
theorem difB_c2 {G E G' E' : Int → Int} {n : Int} {P P' : List Int → Prop} (hn : 0 ≤ n) (hE : EOK E n) (he : ∀ j : Int, 0 ≤ j → j < n → E j = E' j) (hg : ∀ j : Int, 0 ≤ j → j < 48 → G j = G' j) (hp : ∀ c, P c ↔ P' c) : difB G E n P = difB G' E' n P' := by
  have hc : ∀ k : Int, 0 ≤ k → k < n → chk G E k = chk G' E' k := fun k k0 k1 => chk_congr he k0 k1 (hE k k0 k1).1 (fun j j0 j1 => hg j j0 (by have := (hE k k0 k1).2.2; omega))
  unfold difB
  congr 1
  refine sumZ_congr fun k k0 k1 => ?_
  rw [lnF_congr he k0 (by omega)]
  congr 1
  refine bI_eq (and_congr ?_ ?_)
  · constructor
    · intro y i i0 i1
      have : chk G E i ≠ chk G E k := y i i0 i1
      show chk G' E' i ≠ chk G' E' k
      rw [← hc i i0 (by omega), ← hc k k0 (by omega)]
      exact this
    · intro y i i0 i1
      have : chk G' E' i ≠ chk G' E' k := y i i0 i1
      show chk G E i ≠ chk G E k
      rw [hc i i0 (by omega), hc k k0 (by omega)]
      exact this
  · rw [← hc k k0 (by omega)]
    exact not_congr (hp _)
theorem difB_0 {G E : Int → Int} {n : Int} {P : List Int → Prop} (hp : ∀ c, ¬ P c) : difB G E n P = baseB G E n := by
  unfold difB baseB
  congr 1
  refine sumZ_congr fun k k0 k1 => ?_
  rw [bI_eq (P := fstC (chk G E) k ∧ ¬ P (chk G E k)) (Q := fstC (chk G E) k) ⟨fun y => y.1, fun y => ⟨y, hp _⟩⟩]
theorem chP_0 {CF : Nat → Int → Int} {CN : Nat → Int} {HK1 : Nat → Int → Nat} {HN : Nat → Int} {La : Int → Nat} (w : List Int) : ¬ chP CF CN HK1 HN La 0 w := fun y => by obtain ⟨i, i0, i1, _⟩ := y; omega
section
variable {g : GG} {hK : AH} {LE : Nat → Option Nat} {RK1 : Nat → Int → Nat} {RN : Nat → Int} {HK1 : Nat → Int → Nat} {HN : Nat → Int} {CA : Nat → Nat} {PV : Nat → Option Nat} {CF : Nat → Int → Int} {CN : Nat → Int} {Ha : Int → Nat} {hN : Int} {mnights mbits mleast mmost mroom mreserve mmount mspeed : Int} {mdata msize mends mmany mkind mchain mholds mbid mbound mcheap mpromised mcoin mpaid mowed : Int → Int} {LN : Int → Int → Option Nat} {lt : Int → Option Nat} {G Eg : Int → Int → Int} {sz : Int → Int} {La nt : Int → Int → Int} {x : Int}
theorem cut_base (hM : MGP mdata msize G sz) (hG : RGm mnights mbits mleast mmost mroom mreserve mmount mspeed msize mbid mbound mcheap mpromised mcoin mpaid mowed) (x0 : 0 ≤ x) (x1 : x ≤ 3) {P : List Int → Prop} (hp : ∀ c, ¬ P c) : difB (G x) ((ctE Eg G sz mbits mleast mmost) x) ((ctN G sz mbits mleast mmost) x) P = (mBS mdata msize mbits mleast mmost) x := by
  have hs := hG.2.2.2.2.2 (240 + x) (by omega) (by omega)
  have hcr := hM.cr x0 x1 hs mbits mleast mmost
  have h1 := hM.1 x x0 x1
  have hE := ctE_ok Eg G sz mbits mleast mmost (x := x) (by rw [h1.1]; exact hs.1) (by rw [h1.1]; exact hs.2)
  have e := difB_c2 (G' := rowF mdata (240 + x)) (E' := (cutR (rowF mdata (240 + x)) (msize (240 + x)) mbits mleast mmost).2.2) (P := P) (P' := P) hE.2.1 hE.1 (fun j j0 j1 => by rw [ctE_at Eg G sz mbits mleast mmost j0 j1, hcr]) h1.2.2 (fun c => Iff.rfl)
  rw [e, difB_0 hp]
  unfold mBS mCR ctN
  rw [hcr]
theorem cut_dif (hM : MGP mdata msize G sz) (hG : RGm mnights mbits mleast mmost mroom mreserve mmount mspeed msize mbid mbound mcheap mpromised mcoin mpaid mowed) (x0 : 0 ≤ x) (x1 : x ≤ 3) {P : List Int → Prop} (hp : ∀ c, P c ↔ inCh mdata mends mmany mkind mchain mholds mnights x c) : difB (G x) ((ctE Eg G sz mbits mleast mmost) x) ((ctN G sz mbits mleast mmost) x) P = (mDF mdata msize mends mmany mkind mchain mholds mnights mbits mleast mmost) x := by
  have hs := hG.2.2.2.2.2 (240 + x) (by omega) (by omega)
  have hcr := hM.cr x0 x1 hs mbits mleast mmost
  have h1 := hM.1 x x0 x1
  have hE := ctE_ok Eg G sz mbits mleast mmost (x := x) (by rw [h1.1]; exact hs.1) (by rw [h1.1]; exact hs.2)
  have e := difB_c2 (G' := rowF mdata (240 + x)) (E' := (cutR (rowF mdata (240 + x)) (msize (240 + x)) mbits mleast mmost).2.2) (P := P) (P' := inCh mdata mends mmany mkind mchain mholds mnights x) hE.2.1 hE.1 (fun j j0 j1 => by rw [ctE_at Eg G sz mbits mleast mmost j0 j1, hcr]) h1.2.2 hp
  rw [e]
  unfold mDF mCR ctN
  rw [hcr]
end
section
variable {g : GG} {hK : AH} {LE : Nat → Option Nat} {RK1 : Nat → Int → Nat} {RN : Nat → Int} {HK1 : Nat → Int → Nat} {HN : Nat → Int} {CA : Nat → Nat} {PV : Nat → Option Nat} {CF : Nat → Int → Int} {CN : Nat → Int} {Ha : Int → Nat} {hN : Int} {mnights mbits mleast mmost mroom mreserve mmount mspeed : Int} {mdata msize mends mmany mkind mchain mholds mbid mbound mcheap mpromised mcoin mpaid mowed : Int → Int} {LN : Int → Int → Option Nat} {lt : Int → Option Nat} {G Eg : Int → Int → Int} {sz : Int → Int} {La : Int → Int → Nat} {nt : Int → Int → Int} {len : Int → Int} {x : Int}
theorem chain_in (hX : KPX g hK LE RK1 RN HK1 HN CA PV CF CN Ha hN mdata msize mends mmany mkind mchain mholds mnights LN lt) (hN0 : 0 ≤ mnights ∧ mnights ≤ 60) (hlen : ∀ x : Int, 0 ≤ x → x ≤ 3 → len x = dfN (colF mkind x) mnights.toNat + 1 ∧ (∀ i : Int, 0 ≤ i → i < len x → ∀ t : Int, 0 ≤ t → t < HN (La x i) → inH Ha hN (HK1 (La x i) t))) (hchn : ∀ x : Int, 0 ≤ x → x ≤ 3 → ¬ ltN (colF mkind x) mnights.toNat = -1 → chnP g hK LE RK1 RN HK1 HN mkind mchain (LN x) x (ltN (colF mkind x) mnights.toNat) (La x) (nt x) (len x)) (x0 : 0 ≤ x) (x1 : x ≤ 3) (w : List Int) : chP CF CN HK1 HN (La x) (len x) w ↔ inCh mdata mends mmany mkind mchain mholds mnights x w := by
  have hr := ltN_rng (colF mkind x) mnights.toNat
  by_cases z : ltN (colF mkind x) mnights.toNat = -1
  · have hd := (dfN_neg (K := colF mkind x) (n := mnights.toNat)).mpr z
    have hl := (hlen x x0 x1).1
    constructor
    · rintro ⟨i, i0, i1, _⟩
      omega
    · rintro ⟨k, k0, k1, ⟨k2, _⟩, _⟩
      have hz : ¬ colF mkind x k = 0 := by show ¬ mkind (60 * x + k) = 0; omega
      have := ltN_ge (colF mkind x) (n := mnights.toNat) k0 (by omega) hz
      omega
  · exact chP_in (hX.2.2.1 x x0 x1) (hchn x x0 x1 z) (by omega) hN0 rfl w
theorem asked_other (hX : KPX g hK LE RK1 RN HK1 HN CA PV CF CN Ha hN mdata msize mends mmany mkind mchain mholds mnights LN lt) (hM : MGP mdata msize G sz) (hG : RGm mnights mbits mleast mmost mroom mreserve mmount mspeed msize mbid mbound mcheap mpromised mcoin mpaid mowed) (hlen : ∀ x : Int, 0 ≤ x → x ≤ 3 → len x = dfN (colF mkind x) mnights.toNat + 1 ∧ (∀ i : Int, 0 ≤ i → i < len x → ∀ t : Int, 0 ≤ t → t < HN (La x i) → inH Ha hN (HK1 (La x i) t))) (hchn : ∀ x : Int, 0 ≤ x → x ≤ 3 → ¬ ltN (colF mkind x) mnights.toNat = -1 → chnP g hK LE RK1 RN HK1 HN mkind mchain (LN x) x (ltN (colF mkind x) mnights.toNat) (La x) (nt x) (len x)) (x0 : 0 ≤ x) (x1 : x ≤ 3) : (0 < len x ∧ ¬ (RN (La x 0) = (ctN G sz mbits mleast mmost) x ∧ allN (fun k => runP CF CN (G x) (bgF ((ctE Eg G sz mbits mleast mmost) x) k) (lnF ((ctE Eg G sz mbits mleast mmost) x) k) (RK1 (La x 0) k)) ((ctN G sz mbits mleast mmost) x))) ↔ (mOT mdata msize mends mmany mkind mnights mbits mleast mmost) x ∧ ¬ (mNC mkind mnights) x := by
  have hN0 := hG.1
  have hr := ltN_rng (colF mkind x) mnights.toNat
  have hdn := dfN_neg (K := colF mkind x) (n := mnights.toNat)
  have hl := (hlen x x0 x1).1
  have hdr := dfN_rng (colF mkind x) mnights.toNat
  by_cases z : ltN (colF mkind x) mnights.toNat = -1
  · have hd := hdn.mpr z
    exact ⟨fun y => by omega, fun y => absurd z y.2⟩
  · have hd : ¬ dfN (colF mkind x) mnights.toNat = -1 := fun y => z (hdn.mp y)
    have hC := hchn x x0 x1 z
    have hH := hX.2.2.1 x x0 x1
    have hR := chnP.at hH hC (by omega) (i := 0) (by omega) hC.1
    rw [hC.2.1] at hR
    have hs := hG.2.2.2.2.2 (240 + x) (by omega) (by omega)
    have hcr := hM.cr x0 x1 hs mbits mleast mmost
    have h1 := hM.1 x x0 x1
    have hE := ctE_ok Eg G sz mbits mleast mmost (x := x) (by rw [h1.1]; exact hs.1) (by rw [h1.1]; exact hs.2)
    have hck : ∀ k : Int, 0 ≤ k → k < (ctN G sz mbits mleast mmost) x → chk (G x) ((ctE Eg G sz mbits mleast mmost) x) k = chk (rowF mdata (240 + x)) (cutR (rowF mdata (240 + x)) (msize (240 + x)) mbits mleast mmost).2.2 k := fun k k0 k1 => chk_congr (n := (ctN G sz mbits mleast mmost) x) (fun j j0 j1 => by rw [ctE_at Eg G sz mbits mleast mmost j0 j1, hcr]) k0 k1 (hE.1 k k0 k1).1 (fun j j0 j1 => h1.2.2 j j0 (by have := (hE.1 k k0 k1).2.2; omega))
    have hn : (ctN G sz mbits mleast mmost) x = (cutR (rowF mdata (240 + x)) (msize (240 + x)) mbits mleast mmost).2.1 := by unfold ctN; rw [hcr]
    have key : ∀ k : Int, 0 ≤ k → k < (ctN G sz mbits mleast mmost) x → k < mmany (60 * x + ltN (colF mkind x) mnights.toNat) → (runP CF CN (G x) (bgF ((ctE Eg G sz mbits mleast mmost) x) k) (lnF ((ctE Eg G sz mbits mleast mmost) x) k) (RK1 (La x 0) k) ↔ chk (rowF mdata (240 + x)) (cutR (rowF mdata (240 + x)) (msize (240 + x)) mbits mleast mmost).2.2 k = chk (rowF mdata (60 * x + ltN (colF mkind x) mnights.toNat)) (rowF mends (60 * x + ltN (colF mkind x) mnights.toNat)) k) := fun k k0 k1 k2 => by
      have h5 := hR.2.2.1 k k0 k2
      have hk := hX.hs.ck h5.1
      have hln := lnF_rng hE.1 k0 k1
      rw [← hck k k0 k1, ← h5.2.1]
      exact (cont_chk (E := (ctE Eg G sz mbits mleast mmost) x) (k := k) hk.2.2.1.1 rfl rfl (by omega)).trans ⟨fun y => y.symm, fun y => y.symm⟩
    unfold mOT otP mNC mCR
    rw [← hn]
    constructor
    · rintro ⟨_, y⟩
      refine ⟨Or.inr ?_, z⟩
      by_cases w : mmany (60 * x + ltN (colF mkind x) mnights.toNat) = (ctN G sz mbits mleast mmost) x
      · right
        refine Classical.byContradiction fun v => y ⟨hR.2.1.trans w, fun k k0 k1 => (key k k0 k1 (by omega)).mpr ?_⟩
        exact Classical.byContradiction fun u => v ⟨k, k0, k1, u⟩
      · exact Or.inl w
    · rintro ⟨y, _⟩
      refine ⟨by omega, fun v => ?_⟩
      rcases y with y | y | ⟨k, k0, k1, y⟩
      · exact z y
      · exact y (hR.2.1.symm.trans v.1)
      · exact y ((key k k0 k1 (by have := hR.2.1; omega)).mp (v.2 k k0 k1))
end
