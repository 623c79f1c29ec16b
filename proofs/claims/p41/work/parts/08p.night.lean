noncomputable def selZ (P : Prop) (a b : Int) : Int := @ite Int P (Classical.propDecidable P) a b
theorem selZ_t {P : Prop} {a b : Int} (h : P) : selZ P a b = a := @if_pos P (Classical.propDecidable P) h Int a b
theorem selZ_f {P : Prop} {a b : Int} (h : ¬ P) : selZ P a b = b := @if_neg P (Classical.propDecidable P) h Int a b
/-- where a new link's row lies -/
def nwP (nights : Int) (SV : Int → Int) (r : Int) : Prop := (0 ≤ r ∧ r < 240) ∧ r % 60 = nights ∧ ¬ SV (r / 60) = 0
section NW
variable (d s e m k c h : Int → Int) (nights b ls ms : Int) (WT SV : Int → Int)
noncomputable def nwR (y : Int) : Int × Int × (Int → Int) := cutR (rowF d (240 + y)) (s (240 + y)) b ls ms
noncomputable def nwd (i : Int) : Int := selZ (nwP nights SV (i / 48)) (rowF d (240 + i / 48 / 60) (i % 48)) (d i)
noncomputable def nws (r : Int) : Int := selZ (nwP nights SV r) (s (240 + r / 60)) (s r)
noncomputable def nwe (i : Int) : Int := selZ (nwP nights SV (i / 48)) ((nwR d s b ls ms (i / 48 / 60)).2.2 (i % 48)) (e i)
noncomputable def nwm (r : Int) : Int := selZ (nwP nights SV r) (nwR d s b ls ms (r / 60)).2.1 (m r)
noncomputable def nwk (r : Int) : Int := selZ (nwP nights SV r) (WT (r / 60)) (k r)
noncomputable def nwc (r : Int) : Int := selZ (nwP nights SV r) (if WT (r / 60) = 1 then nights else c (60 * (r / 60) + ltN (colF k (r / 60)) nights.toNat)) (c r)
noncomputable def nwh (i : Int) : Int := selZ (nwP nights SV (i / 48)) (bI (fstC (chk (rowF d (240 + i / 48 / 60)) (nwR d s b ls ms (i / 48 / 60)).2.2) (i % 48) ∧ (WT (i / 48 / 60) = 1 ∨ ¬ inCh d e m k c h nights (i / 48 / 60) (chk (rowF d (240 + i / 48 / 60)) (nwR d s b ls ms (i / 48 / 60)).2.2 (i % 48))))) (h i)
theorem nw_old {y j : Int} (y0 : 0 ≤ y ∧ y ≤ 3) (j0 : 0 ≤ j ∧ j < 60) (z : ¬ nwP nights SV (60 * y + j)) : rowE d s e m k c h (nwd d nights SV) (nws s nights SV) (nwe d s e nights b ls ms SV) (nwm d s m nights b ls ms SV) (nwk k nights WT SV) (nwc k c nights WT SV) (nwh d s e m k c h nights b ls ms WT SV) (60 * y + j) := by
  refine ⟨(selZ_f z).symm, (selZ_f z).symm, (selZ_f z).symm, (selZ_f z).symm, fun q q0 q1 => ?_⟩
  have h48 : (48 * (60 * y + j) + q) / 48 = 60 * y + j := by omega
  refine ⟨?_, ?_, ?_⟩
  · show d (48 * (60 * y + j) + q) = selZ (nwP nights SV ((48 * (60 * y + j) + q) / 48)) _ _
    rw [h48, selZ_f z]
  · show e (48 * (60 * y + j) + q) = selZ (nwP nights SV ((48 * (60 * y + j) + q) / 48)) _ _
    rw [h48, selZ_f z]
  · show h (48 * (60 * y + j) + q) = selZ (nwP nights SV ((48 * (60 * y + j) + q) / 48)) _ _
    rw [h48, selZ_f z]
theorem nw_all (hn : 0 ≤ nights ∧ nights < 60) {y : Int} (y0 : 0 ≤ y) (y1 : y ≤ 3) (hs : 0 ≤ s (240 + y) ∧ s (240 + y) ≤ 48) : nwC d s e m k c h nights b ls ms (WT y) (SV y) (nwd d nights SV) (nws s nights SV) (nwe d s e nights b ls ms SV) (nwm d s m nights b ls ms SV) (nwk k nights WT SV) (nwc k c nights WT SV) (nwh d s e m k c h nights b ls ms WT SV) y := by
  refine ⟨fun j j0 j1 jn => nw_old d s e m k c h nights b ls ms WT SV ⟨y0, y1⟩ ⟨j0, j1⟩ (fun z => jn (by have := z.2.1; omega)), ⟨?_, fun q q0 q1 => ?_⟩, fun z => nw_old d s e m k c h nights b ls ms WT SV ⟨y0, y1⟩ hn (fun w => w.2.2 (by rw [show (60 * y + nights) / 60 = y by omega]; exact z)), fun z => ?_⟩
  · show s (240 + y) = selZ (nwP nights SV (240 + y)) _ _
    exact (selZ_f (fun w => by have := w.1; omega)).symm
  · show d (48 * (240 + y) + q) = selZ (nwP nights SV ((48 * (240 + y) + q) / 48)) _ _
    exact (selZ_f (fun w => by have := w.1; omega)).symm
  · have h60 : (60 * y + nights) / 60 = y := by omega
    have hP : nwP nights SV (60 * y + nights) := ⟨by omega, by omega, by rw [h60]; exact z⟩
    have h48 : ∀ q : Int, 0 ≤ q → q < 48 → (48 * (60 * y + nights) + q) / 48 = 60 * y + nights := fun q q0 q1 => by omega
    have hm : ∀ q : Int, 0 ≤ q → q < 48 → (48 * (60 * y + nights) + q) % 48 = q := fun q q0 q1 => by omega
    refine ⟨?_, ?_, ?_, ?_, fun q q0 q1 => ?_, fun q q0 q1 => ?_⟩
    · show selZ (nwP nights SV (60 * y + nights)) (s (240 + (60 * y + nights) / 60)) _ = _
      rw [selZ_t hP, h60]
    · show selZ (nwP nights SV (60 * y + nights)) (nwR d s b ls ms ((60 * y + nights) / 60)).2.1 _ = _
      rw [selZ_t hP, h60]
      rfl
    · show selZ (nwP nights SV (60 * y + nights)) (WT ((60 * y + nights) / 60)) _ = _
      rw [selZ_t hP, h60]
    · show selZ (nwP nights SV (60 * y + nights)) (if WT ((60 * y + nights) / 60) = 1 then nights else c (60 * ((60 * y + nights) / 60) + ltN (colF k ((60 * y + nights) / 60)) nights.toNat)) _ = _
      rw [selZ_t hP, h60]
    · show selZ (nwP nights SV ((48 * (60 * y + nights) + q) / 48)) (rowF d (240 + (48 * (60 * y + nights) + q) / 48 / 60) ((48 * (60 * y + nights) + q) % 48)) _ = _
      rw [h48 q q0 q1, hm q q0 q1, selZ_t hP, h60]
    · have q48 : q < 48 := by
        have hs9 := (cutR_ok (rowF d (240 + y)) (b := b) (ls := ls) (ms := ms) hs.1 hs.2).2.1
        omega
      refine ⟨?_, ?_⟩
      · show selZ (nwP nights SV ((48 * (60 * y + nights) + q) / 48)) ((nwR d s b ls ms ((48 * (60 * y + nights) + q) / 48 / 60)).2.2 ((48 * (60 * y + nights) + q) % 48)) _ = _
        rw [h48 q q0 q48, hm q q0 q48, selZ_t hP, h60]
        rfl
      · show selZ (nwP nights SV ((48 * (60 * y + nights) + q) / 48)) (bI (fstC (chk (rowF d (240 + (48 * (60 * y + nights) + q) / 48 / 60)) (nwR d s b ls ms ((48 * (60 * y + nights) + q) / 48 / 60)).2.2) ((48 * (60 * y + nights) + q) % 48) ∧ (WT ((48 * (60 * y + nights) + q) / 48 / 60) = 1 ∨ ¬ inCh d e m k c h nights ((48 * (60 * y + nights) + q) / 48 / 60) (chk (rowF d (240 + (48 * (60 * y + nights) + q) / 48 / 60)) (nwR d s b ls ms ((48 * (60 * y + nights) + q) / 48 / 60)).2.2 ((48 * (60 * y + nights) + q) % 48))))) _ = _
        rw [h48 q q0 q48, hm q q0 q48, selZ_t hP, h60]
        rfl
end NW
section NF
variable {g : GG} {A : Nat → Nat} {Z : Nat → Prop} {h hZ h2 hZ2 : AH} {mnights mbits mleast mmost mroom mreserve mmount mspeed : Int} {mdata msize mends mmany mkind mchain mholds mbid mbound mcheap mpromised mcoin mpaid mowed : Int → Int} {tt AS WT CS SV dd ss ee mm kk cc hh pp : Int → Int}
/-- a night that goes by as it must -/
theorem night_wit (hG : RGm mnights mbits mleast mmost mroom mreserve mmount mspeed msize mbid mbound mcheap mpromised mcoin mpaid mowed) (hn : 0 ≤ mnights ∧ mnights < 60) : ∃ tt AS WT CS SV dd ss ee mm kk cc hh pp : Int → Int, turnOK mbid tt ∧ gI (wbP mkind mbound mcheap mnights mreserve) (mNC mkind mnights) (mOT mdata msize mends mmany mkind mnights mbits mleast mmost) (mAK mdata msize mends mmany mkind mbid mbound mcheap mnights mreserve mbits mleast mmost) (mBS mdata msize mbits mleast mmost) (mDF mdata msize mends mmany mkind mchain mholds mnights mbits mleast mmost) mroom tt AS WT CS SV 4 ∧ (∀ y : Int, 0 ≤ y → y ≤ 3 → nwC mdata msize mends mmany mkind mchain mholds mnights mbits mleast mmost (WT y) (SV y) dd ss ee mm kk cc hh y) ∧ (∀ y : Int, 0 ≤ y → y ≤ 3 → pp y = mpaid y + payF mbid tt AS SV CS mreserve 4 y) := by
  have ht := trn_ok mbid
  refine ⟨trn mbid, fun x => bI ((mAK mdata msize mends mmany mkind mbid mbound mcheap mnights mreserve mbits mleast mmost) x), fun x => wnt (wbP mkind mbound mcheap mnights mreserve) (mNC mkind mnights) (mOT mdata msize mends mmany mkind mnights mbits mleast mmost) (mBS mdata msize mbits mleast mmost) x (outL (wbP mkind mbound mcheap mnights mreserve) (mNC mkind mnights) (mOT mdata msize mends mmany mkind mnights mbits mleast mmost) (mAK mdata msize mends mmany mkind mbid mbound mcheap mnights mreserve mbits mleast mmost) (mBS mdata msize mbits mleast mmost) (mDF mdata msize mends mmany mkind mchain mholds mnights mbits mleast mmost) mroom mbid x), fun x => cst (wbP mkind mbound mcheap mnights mreserve) (mNC mkind mnights) (mOT mdata msize mends mmany mkind mnights mbits mleast mmost) (mBS mdata msize mbits mleast mmost) (mDF mdata msize mends mmany mkind mchain mholds mnights mbits mleast mmost) x (outL (wbP mkind mbound mcheap mnights mreserve) (mNC mkind mnights) (mOT mdata msize mends mmany mkind mnights mbits mleast mmost) (mAK mdata msize mends mmany mkind mbid mbound mcheap mnights mreserve mbits mleast mmost) (mBS mdata msize mbits mleast mmost) (mDF mdata msize mends mmany mkind mchain mholds mnights mbits mleast mmost) mroom mbid x), fun x => bI (srv (wbP mkind mbound mcheap mnights mreserve) (mNC mkind mnights) (mOT mdata msize mends mmany mkind mnights mbits mleast mmost) (mAK mdata msize mends mmany mkind mbid mbound mcheap mnights mreserve mbits mleast mmost) (mBS mdata msize mbits mleast mmost) (mDF mdata msize mends mmany mkind mchain mholds mnights mbits mleast mmost) x (outL (wbP mkind mbound mcheap mnights mreserve) (mNC mkind mnights) (mOT mdata msize mends mmany mkind mnights mbits mleast mmost) (mAK mdata msize mends mmany mkind mbid mbound mcheap mnights mreserve mbits mleast mmost) (mBS mdata msize mbits mleast mmost) (mDF mdata msize mends mmany mkind mchain mholds mnights mbits mleast mmost) mroom mbid x)), _, _, _, _, _, _, _, fun y => mpaid y + payF mbid (trn mbid) (fun x => bI ((mAK mdata msize mends mmany mkind mbid mbound mcheap mnights mreserve mbits mleast mmost) x)) (fun x => bI (srv (wbP mkind mbound mcheap mnights mreserve) (mNC mkind mnights) (mOT mdata msize mends mmany mkind mnights mbits mleast mmost) (mAK mdata msize mends mmany mkind mbid mbound mcheap mnights mreserve mbits mleast mmost) (mBS mdata msize mbits mleast mmost) (mDF mdata msize mends mmany mkind mchain mholds mnights mbits mleast mmost) x (outL (wbP mkind mbound mcheap mnights mreserve) (mNC mkind mnights) (mOT mdata msize mends mmany mkind mnights mbits mleast mmost) (mAK mdata msize mends mmany mkind mbid mbound mcheap mnights mreserve mbits mleast mmost) (mBS mdata msize mbits mleast mmost) (mDF mdata msize mends mmany mkind mchain mholds mnights mbits mleast mmost) mroom mbid x))) (fun x => cst (wbP mkind mbound mcheap mnights mreserve) (mNC mkind mnights) (mOT mdata msize mends mmany mkind mnights mbits mleast mmost) (mBS mdata msize mbits mleast mmost) (mDF mdata msize mends mmany mkind mchain mholds mnights mbits mleast mmost) x (outL (wbP mkind mbound mcheap mnights mreserve) (mNC mkind mnights) (mOT mdata msize mends mmany mkind mnights mbits mleast mmost) (mAK mdata msize mends mmany mkind mbid mbound mcheap mnights mreserve mbits mleast mmost) (mBS mdata msize mbits mleast mmost) (mDF mdata msize mends mmany mkind mchain mholds mnights mbits mleast mmost) mroom mbid x)) mreserve 4 y, ht, fun j j0 j1 => ?_, fun y y0 y1 => nw_all mdata msize mends mmany mkind mchain mholds mnights mbits mleast mmost (fun x => wnt (wbP mkind mbound mcheap mnights mreserve) (mNC mkind mnights) (mOT mdata msize mends mmany mkind mnights mbits mleast mmost) (mBS mdata msize mbits mleast mmost) x (outL (wbP mkind mbound mcheap mnights mreserve) (mNC mkind mnights) (mOT mdata msize mends mmany mkind mnights mbits mleast mmost) (mAK mdata msize mends mmany mkind mbid mbound mcheap mnights mreserve mbits mleast mmost) (mBS mdata msize mbits mleast mmost) (mDF mdata msize mends mmany mkind mchain mholds mnights mbits mleast mmost) mroom mbid x)) (fun x => bI (srv (wbP mkind mbound mcheap mnights mreserve) (mNC mkind mnights) (mOT mdata msize mends mmany mkind mnights mbits mleast mmost) (mAK mdata msize mends mmany mkind mbid mbound mcheap mnights mreserve mbits mleast mmost) (mBS mdata msize mbits mleast mmost) (mDF mdata msize mends mmany mkind mchain mholds mnights mbits mleast mmost) x (outL (wbP mkind mbound mcheap mnights mreserve) (mNC mkind mnights) (mOT mdata msize mends mmany mkind mnights mbits mleast mmost) (mAK mdata msize mends mmany mkind mbid mbound mcheap mnights mreserve mbits mleast mmost) (mBS mdata msize mbits mleast mmost) (mDF mdata msize mends mmany mkind mchain mholds mnights mbits mleast mmost) mroom mbid x))) hn y0 y1 (hG.2.2.2.2.2 (240 + y) (by omega) (by omega)), fun y y0 y1 => rfl⟩
  have h9 := (ht.2 j j0 (by omega)).2
  have e : outL (wbP mkind mbound mcheap mnights mreserve) (mNC mkind mnights) (mOT mdata msize mends mmany mkind mnights mbits mleast mmost) (mAK mdata msize mends mmany mkind mbid mbound mcheap mnights mreserve mbits mleast mmost) (mBS mdata msize mbits mleast mmost) (mDF mdata msize mends mmany mkind mchain mholds mnights mbits mleast mmost) mroom mbid (trn mbid j) = lft (wbP mkind mbound mcheap mnights mreserve) (mNC mkind mnights) (mOT mdata msize mends mmany mkind mnights mbits mleast mmost) (mAK mdata msize mends mmany mkind mbid mbound mcheap mnights mreserve mbits mleast mmost) (mBS mdata msize mbits mleast mmost) (mDF mdata msize mends mmany mkind mchain mholds mnights mbits mleast mmost) mroom (trn mbid) j.toNat := by
    unfold outL
    rw [h9]
  refine ⟨rfl, ?_, ?_, ?_⟩
  · show wnt (wbP mkind mbound mcheap mnights mreserve) (mNC mkind mnights) (mOT mdata msize mends mmany mkind mnights mbits mleast mmost) (mBS mdata msize mbits mleast mmost) (trn mbid j) (outL (wbP mkind mbound mcheap mnights mreserve) (mNC mkind mnights) (mOT mdata msize mends mmany mkind mnights mbits mleast mmost) (mAK mdata msize mends mmany mkind mbid mbound mcheap mnights mreserve mbits mleast mmost) (mBS mdata msize mbits mleast mmost) (mDF mdata msize mends mmany mkind mchain mholds mnights mbits mleast mmost) mroom mbid (trn mbid j)) = _
    rw [e]
  · show cst (wbP mkind mbound mcheap mnights mreserve) (mNC mkind mnights) (mOT mdata msize mends mmany mkind mnights mbits mleast mmost) (mBS mdata msize mbits mleast mmost) (mDF mdata msize mends mmany mkind mchain mholds mnights mbits mleast mmost) (trn mbid j) (outL (wbP mkind mbound mcheap mnights mreserve) (mNC mkind mnights) (mOT mdata msize mends mmany mkind mnights mbits mleast mmost) (mAK mdata msize mends mmany mkind mbid mbound mcheap mnights mreserve mbits mleast mmost) (mBS mdata msize mbits mleast mmost) (mDF mdata msize mends mmany mkind mchain mholds mnights mbits mleast mmost) mroom mbid (trn mbid j)) = _
    rw [e]
  · show bI (srv (wbP mkind mbound mcheap mnights mreserve) (mNC mkind mnights) (mOT mdata msize mends mmany mkind mnights mbits mleast mmost) (mAK mdata msize mends mmany mkind mbid mbound mcheap mnights mreserve mbits mleast mmost) (mBS mdata msize mbits mleast mmost) (mDF mdata msize mends mmany mkind mchain mholds mnights mbits mleast mmost) (trn mbid j) (outL (wbP mkind mbound mcheap mnights mreserve) (mNC mkind mnights) (mOT mdata msize mends mmany mkind mnights mbits mleast mmost) (mAK mdata msize mends mmany mkind mbid mbound mcheap mnights mreserve mbits mleast mmost) (mBS mdata msize mbits mleast mmost) (mDF mdata msize mends mmany mkind mchain mholds mnights mbits mleast mmost) mroom mbid (trn mbid j))) = _
    rw [e]
theorem lft_sum {WB NC OT AK : Int → Prop} {BS DF : Int → Int} {room : Int} {t : Int → Int} (h0 : 0 ≤ room) : ∀ n : Nat, 0 ≤ lft WB NC OT AK BS DF room t n ∧ lft WB NC OT AK BS DF room t n = room - sumZ (fun j => bI (srv WB NC OT AK BS DF (t j) (lft WB NC OT AK BS DF room t j.toNat)) * cst WB NC OT BS DF (t j) (lft WB NC OT AK BS DF room t j.toNat)) n
  | 0 => ⟨h0, by show room = room - 0; omega⟩
  | n + 1 => by
    have ih := lft_sum (WB := WB) (NC := NC) (OT := OT) (AK := AK) (BS := BS) (DF := DF) (t := t) h0 n
    have e : lft WB NC OT AK BS DF room t (n + 1) = lft WB NC OT AK BS DF room t n - bI (srv WB NC OT AK BS DF (t (n : Int)) (lft WB NC OT AK BS DF room t n)) * cst WB NC OT BS DF (t (n : Int)) (lft WB NC OT AK BS DF room t n) := rfl
    have e2 : sumZ (fun j => bI (srv WB NC OT AK BS DF (t j) (lft WB NC OT AK BS DF room t j.toNat)) * cst WB NC OT BS DF (t j) (lft WB NC OT AK BS DF room t j.toNat)) (n + 1) = sumZ (fun j => bI (srv WB NC OT AK BS DF (t j) (lft WB NC OT AK BS DF room t j.toNat)) * cst WB NC OT BS DF (t j) (lft WB NC OT AK BS DF room t j.toNat)) n + bI (srv WB NC OT AK BS DF (t (n : Int)) (lft WB NC OT AK BS DF room t n)) * cst WB NC OT BS DF (t (n : Int)) (lft WB NC OT AK BS DF room t n) := rfl
    rw [e, e2]
    refine ⟨?_, by omega⟩
    by_cases z : srv WB NC OT AK BS DF (t (n : Int)) (lft WB NC OT AK BS DF room t n)
    · rw [bI_t z]
      have := z.2.2
      omega
    · rw [bI_f z]
      omega
/-- what one of the night's links costs, by what would be got -/
noncomputable def lbF (GT BS DF : Int → Int) (x : Int) : Int := if GT x = 1 then BS x else if GT x = 2 then DF x else 0
theorem gt_cases {WB NC OT AK : Int → Prop} {BS DF : Int → Int} {room : Int} {bd : Int → Int} (x : Int) : (gtS WB NC OT AK BS DF room bd x = 0 ∧ bI (srv WB NC OT AK BS DF x (outL WB NC OT AK BS DF room bd x)) = 0) ∨ (¬ gtS WB NC OT AK BS DF room bd x = 0 ∧ srv WB NC OT AK BS DF x (outL WB NC OT AK BS DF room bd x) ∧ gtS WB NC OT AK BS DF room bd x = wnt WB NC OT BS x (outL WB NC OT AK BS DF room bd x)) := by
  by_cases z : srv WB NC OT AK BS DF x (outL WB NC OT AK BS DF room bd x)
  · have h1 := z.2.1
    have e : gtS WB NC OT AK BS DF room bd x = wnt WB NC OT BS x (outL WB NC OT AK BS DF room bd x) := by
      unfold gtS
      rw [bI_t z, Int.one_mul]
    exact Or.inr ⟨by omega, z, e⟩
  · refine Or.inl ⟨?_, bI_f z⟩
    unfold gtS
    rw [bI_f z, Int.zero_mul]
theorem lb_eq {WB NC OT AK : Int → Prop} {BS DF : Int → Int} {room : Int} {bd : Int → Int} (x : Int) : lbF (gtS WB NC OT AK BS DF room bd) BS DF x = bI (srv WB NC OT AK BS DF x (outL WB NC OT AK BS DF room bd x)) * cst WB NC OT BS DF x (outL WB NC OT AK BS DF room bd x) := by
  unfold lbF cst
  rcases gt_cases (WB := WB) (NC := NC) (OT := OT) (AK := AK) (BS := BS) (DF := DF) (room := room) (bd := bd) x with ⟨y1, y2⟩ | ⟨y1, y2, y3⟩
  · rw [y1, y2, Int.zero_mul, if_neg (by omega), if_neg (by omega)]
  · rw [bI_t y2, Int.one_mul, ← y3]
theorem left_le (hG : RGm mnights mbits mleast mmost mroom mreserve mmount mspeed msize mbid mbound mcheap mpromised mcoin mpaid mowed) : sumZ (lbF (gtS (wbP mkind mbound mcheap mnights mreserve) (mNC mkind mnights) (mOT mdata msize mends mmany mkind mnights mbits mleast mmost) (mAK mdata msize mends mmany mkind mbid mbound mcheap mnights mreserve mbits mleast mmost) (mBS mdata msize mbits mleast mmost) (mDF mdata msize mends mmany mkind mchain mholds mnights mbits mleast mmost) mroom mbid) (mBS mdata msize mbits mleast mmost) (mDF mdata msize mends mmany mkind mchain mholds mnights mbits mleast mmost)) 4 ≤ mroom := by
  have ht := trn_ok mbid
  have hl := lft_sum (WB := (wbP mkind mbound mcheap mnights mreserve)) (NC := (mNC mkind mnights)) (OT := (mOT mdata msize mends mmany mkind mnights mbits mleast mmost)) (AK := (mAK mdata msize mends mmany mkind mbid mbound mcheap mnights mreserve mbits mleast mmost)) (BS := (mBS mdata msize mbits mleast mmost)) (DF := (mDF mdata msize mends mmany mkind mchain mholds mnights mbits mleast mmost)) (t := trn mbid) hG.2.2.1.1.1 4
  have e : sumZ (fun j => bI (srv (wbP mkind mbound mcheap mnights mreserve) (mNC mkind mnights) (mOT mdata msize mends mmany mkind mnights mbits mleast mmost) (mAK mdata msize mends mmany mkind mbid mbound mcheap mnights mreserve mbits mleast mmost) (mBS mdata msize mbits mleast mmost) (mDF mdata msize mends mmany mkind mchain mholds mnights mbits mleast mmost) (trn mbid j) (lft (wbP mkind mbound mcheap mnights mreserve) (mNC mkind mnights) (mOT mdata msize mends mmany mkind mnights mbits mleast mmost) (mAK mdata msize mends mmany mkind mbid mbound mcheap mnights mreserve mbits mleast mmost) (mBS mdata msize mbits mleast mmost) (mDF mdata msize mends mmany mkind mchain mholds mnights mbits mleast mmost) mroom (trn mbid) j.toNat)) * cst (wbP mkind mbound mcheap mnights mreserve) (mNC mkind mnights) (mOT mdata msize mends mmany mkind mnights mbits mleast mmost) (mBS mdata msize mbits mleast mmost) (mDF mdata msize mends mmany mkind mchain mholds mnights mbits mleast mmost) (trn mbid j) (lft (wbP mkind mbound mcheap mnights mreserve) (mNC mkind mnights) (mOT mdata msize mends mmany mkind mnights mbits mleast mmost) (mAK mdata msize mends mmany mkind mbid mbound mcheap mnights mreserve mbits mleast mmost) (mBS mdata msize mbits mleast mmost) (mDF mdata msize mends mmany mkind mchain mholds mnights mbits mleast mmost) mroom (trn mbid) j.toNat)) 4 = sumZ (fun j => lbF (gtS (wbP mkind mbound mcheap mnights mreserve) (mNC mkind mnights) (mOT mdata msize mends mmany mkind mnights mbits mleast mmost) (mAK mdata msize mends mmany mkind mbid mbound mcheap mnights mreserve mbits mleast mmost) (mBS mdata msize mbits mleast mmost) (mDF mdata msize mends mmany mkind mchain mholds mnights mbits mleast mmost) mroom mbid) (mBS mdata msize mbits mleast mmost) (mDF mdata msize mends mmany mkind mchain mholds mnights mbits mleast mmost) (trn mbid j)) 4 := sumZ_congr (fun j j0 j1 => by
    have h9 := (ht.2 j j0 (by omega)).2
    rw [lb_eq]
    have e : outL (wbP mkind mbound mcheap mnights mreserve) (mNC mkind mnights) (mOT mdata msize mends mmany mkind mnights mbits mleast mmost) (mAK mdata msize mends mmany mkind mbid mbound mcheap mnights mreserve mbits mleast mmost) (mBS mdata msize mbits mleast mmost) (mDF mdata msize mends mmany mkind mchain mholds mnights mbits mleast mmost) mroom mbid (trn mbid j) = lft (wbP mkind mbound mcheap mnights mreserve) (mNC mkind mnights) (mOT mdata msize mends mmany mkind mnights mbits mleast mmost) (mAK mdata msize mends mmany mkind mbid mbound mcheap mnights mreserve mbits mleast mmost) (mBS mdata msize mbits mleast mmost) (mDF mdata msize mends mmany mkind mchain mholds mnights mbits mleast mmost) mroom (trn mbid) j.toNat := by
      unfold outL
      rw [h9]
    rw [e])
  have e2 := sum_turn ht (lbF (gtS (wbP mkind mbound mcheap mnights mreserve) (mNC mkind mnights) (mOT mdata msize mends mmany mkind mnights mbits mleast mmost) (mAK mdata msize mends mmany mkind mbid mbound mcheap mnights mreserve mbits mleast mmost) (mBS mdata msize mbits mleast mmost) (mDF mdata msize mends mmany mkind mchain mholds mnights mbits mleast mmost) mroom mbid) (mBS mdata msize mbits mleast mmost) (mDF mdata msize mends mmany mkind mchain mholds mnights mbits mleast mmost))
  omega
theorem gt_asks {x : Int} (hz : ¬ gtS (wbP mkind mbound mcheap mnights mreserve) (mNC mkind mnights) (mOT mdata msize mends mmany mkind mnights mbits mleast mmost) (mAK mdata msize mends mmany mkind mbid mbound mcheap mnights mreserve mbits mleast mmost) (mBS mdata msize mbits mleast mmost) (mDF mdata msize mends mmany mkind mchain mholds mnights mbits mleast mmost) mroom mbid x = 0) : 0 < mbid x ∧ mreserve ≤ mbid x := by
  rcases gt_cases (WB := (wbP mkind mbound mcheap mnights mreserve)) (NC := (mNC mkind mnights)) (OT := (mOT mdata msize mends mmany mkind mnights mbits mleast mmost)) (AK := (mAK mdata msize mends mmany mkind mbid mbound mcheap mnights mreserve mbits mleast mmost)) (BS := (mBS mdata msize mbits mleast mmost)) (DF := (mDF mdata msize mends mmany mkind mchain mholds mnights mbits mleast mmost)) (room := mroom) (bd := mbid) x with ⟨y1, y2⟩ | ⟨y1, y2, y3⟩
  · exact absurd y1 hz
  · exact ⟨y2.1.1, y2.1.2.1⟩
theorem gt_two {x : Int} (hz : gtS (wbP mkind mbound mcheap mnights mreserve) (mNC mkind mnights) (mOT mdata msize mends mmany mkind mnights mbits mleast mmost) (mAK mdata msize mends mmany mkind mbid mbound mcheap mnights mreserve mbits mleast mmost) (mBS mdata msize mbits mleast mmost) (mDF mdata msize mends mmany mkind mchain mholds mnights mbits mleast mmost) mroom mbid x = 2) : ¬ ltN (colF mkind x) mnights.toNat = -1 := by
  rcases gt_cases (WB := (wbP mkind mbound mcheap mnights mreserve)) (NC := (mNC mkind mnights)) (OT := (mOT mdata msize mends mmany mkind mnights mbits mleast mmost)) (AK := (mAK mdata msize mends mmany mkind mbid mbound mcheap mnights mreserve mbits mleast mmost)) (BS := (mBS mdata msize mbits mleast mmost)) (DF := (mDF mdata msize mends mmany mkind mchain mholds mnights mbits mleast mmost)) (room := mroom) (bd := mbid) x with ⟨y1, y2⟩ | ⟨y1, y2, y3⟩
  · omega
  · intro w
    have hw : wnt (wbP mkind mbound mcheap mnights mreserve) (mNC mkind mnights) (mOT mdata msize mends mmany mkind mnights mbits mleast mmost) (mBS mdata msize mbits mleast mmost) x (outL (wbP mkind mbound mcheap mnights mreserve) (mNC mkind mnights) (mOT mdata msize mends mmany mkind mnights mbits mleast mmost) (mAK mdata msize mends mmany mkind mbid mbound mcheap mnights mreserve mbits mleast mmost) (mBS mdata msize mbits mleast mmost) (mDF mdata msize mends mmany mkind mchain mholds mnights mbits mleast mmost) mroom mbid x) = 1 := wnt_1 ⟨Or.inl (dfN_neg.mpr w), Or.inl w⟩
    omega
theorem served_eq (z1 : turnOK mbid tt) (z2 : gI (wbP mkind mbound mcheap mnights mreserve) (mNC mkind mnights) (mOT mdata msize mends mmany mkind mnights mbits mleast mmost) (mAK mdata msize mends mmany mkind mbid mbound mcheap mnights mreserve mbits mleast mmost) (mBS mdata msize mbits mleast mmost) (mDF mdata msize mends mmany mkind mchain mholds mnights mbits mleast mmost) mroom tt AS WT CS SV 4) : sumZ (fun j => SV (tt j)) 4 = sumZ (fun x => bI (0 < gtS (wbP mkind mbound mcheap mnights mreserve) (mNC mkind mnights) (mOT mdata msize mends mmany mkind mnights mbits mleast mmost) (mAK mdata msize mends mmany mkind mbid mbound mcheap mnights mreserve mbits mleast mmost) (mBS mdata msize mbits mleast mmost) (mDF mdata msize mends mmany mkind mchain mholds mnights mbits mleast mmost) mroom mbid x)) 4 := by
  rw [sum_turn z1]
  refine sumZ_congr (fun x x0 x1 => ?_)
  rw [(gI_out z1 z2 (c := x) ⟨x0, by omega⟩).2.2.2]
  have hr := gtS_rng (wbP mkind mbound mcheap mnights mreserve) (mNC mkind mnights) (mOT mdata msize mends mmany mkind mnights mbits mleast mmost) (mAK mdata msize mends mmany mkind mbid mbound mcheap mnights mreserve mbits mleast mmost) (mBS mdata msize mbits mleast mmost) (mDF mdata msize mends mmany mkind mchain mholds mnights mbits mleast mmost) mroom mbid x
  rcases gt_cases (WB := (wbP mkind mbound mcheap mnights mreserve)) (NC := (mNC mkind mnights)) (OT := (mOT mdata msize mends mmany mkind mnights mbits mleast mmost)) (AK := (mAK mdata msize mends mmany mkind mbid mbound mcheap mnights mreserve mbits mleast mmost)) (BS := (mBS mdata msize mbits mleast mmost)) (DF := (mDF mdata msize mends mmany mkind mchain mholds mnights mbits mleast mmost)) (room := mroom) (bd := mbid) x with ⟨y1, y2⟩ | ⟨y1, y2, y3⟩
  · rw [y2, bI_f (by omega)]
  · rw [bI_t y2, bI_t (by omega)]
theorem prc_ge {mbid t A S : Int → Int} {best k : Int} : ∀ n : Nat, best ≤ prc mbid t A S best k n
  | 0 => Int.le_refl _
  | n + 1 => by
    have ih := prc_ge (mbid := mbid) (t := t) (A := A) (S := S) (best := best) (k := k) n
    unfold prc
    split
    · rename_i w
      have := w.2.2
      omega
    · exact ih
theorem prc_le {mbid t A S : Int → Int} {best k M : Int} (hb : best ≤ M) : ∀ {n : Nat}, (∀ j : Int, k < j → j ≤ k + (n : Int) → mbid (t j) ≤ M) → prc mbid t A S best k n ≤ M
  | 0, _ => hb
  | n + 1, h => by
    have ih := prc_le (mbid := mbid) (t := t) (A := A) (S := S) (best := best) (k := k) hb (n := n) (fun j j0 j1 => h j j0 (by omega))
    have h1 := h (k + 1 + (n : Int)) (by omega) (by omega)
    unfold prc
    split
    · exact h1
    · exact ih
/-- what a night leaves, as the law asks -/
theorem night_facts (hT : ST g A Z hZ mdata msize mends mmany mkind mchain mholds mnights mbits mleast mmost mroom mreserve mmount mspeed mbid mbound mcheap mpromised mcoin mpaid mowed h) (hG : RGm mnights mbits mleast mmost mroom mreserve mmount mspeed msize mbid mbound mcheap mpromised mcoin mpaid mowed) (hn : 0 ≤ mnights ∧ mnights < 60) (z1 : turnOK mbid tt) (z2 : gI (wbP mkind mbound mcheap mnights mreserve) (mNC mkind mnights) (mOT mdata msize mends mmany mkind mnights mbits mleast mmost) (mAK mdata msize mends mmany mkind mbid mbound mcheap mnights mreserve mbits mleast mmost) (mBS mdata msize mbits mleast mmost) (mDF mdata msize mends mmany mkind mchain mholds mnights mbits mleast mmost) mroom tt AS WT CS SV 4) (z3 : ∀ y : Int, 0 ≤ y → y ≤ 3 → nwC mdata msize mends mmany mkind mchain mholds mnights mbits mleast mmost (WT y) (SV y) dd ss ee mm kk cc hh y) (z4 : ∀ y : Int, 0 ≤ y → y ≤ 3 → pp y = mpaid y + payF mbid tt AS SV CS mreserve 4 y) (hT2 : ST g A Z hZ2 dd ss ee mm kk cc hh (mnights + 1) mbits mleast mmost mroom mreserve mmount mspeed mbid mbound mcheap mpromised mcoin pp mowed h2) {x : Int} (x0 : 0 ≤ x ∧ x ≤ 3) : kk (60 * x + mnights) = gtS (wbP mkind mbound mcheap mnights mreserve) (mNC mkind mnights) (mOT mdata msize mends mmany mkind mnights mbits mleast mmost) (mAK mdata msize mends mmany mkind mbid mbound mcheap mnights mreserve mbits mleast mmost) (mBS mdata msize mbits mleast mmost) (mDF mdata msize mends mmany mkind mchain mholds mnights mbits mleast mmost) mroom mbid x ∧ (gtS (wbP mkind mbound mcheap mnights mreserve) (mNC mkind mnights) (mOT mdata msize mends mmany mkind mnights mbits mleast mmost) (mAK mdata msize mends mmany mkind mbid mbound mcheap mnights mreserve mbits mleast mmost) (mBS mdata msize mbits mleast mmost) (mDF mdata msize mends mmany mkind mchain mholds mnights mbits mleast mmost) mroom mbid x = 0 → pp x = mpaid x) ∧ (¬ gtS (wbP mkind mbound mcheap mnights mreserve) (mNC mkind mnights) (mOT mdata msize mends mmany mkind mnights mbits mleast mmost) (mAK mdata msize mends mmany mkind mbid mbound mcheap mnights mreserve mbits mleast mmost) (mBS mdata msize mbits mleast mmost) (mDF mdata msize mends mmany mkind mchain mholds mnights mbits mleast mmost) mroom mbid x = 0 → (∃ u : Int, (mreserve ≤ u ∧ u ≤ mbid x) ∧ pp x = mpaid x + u * (mm (60 * x + mnights) + sumZ (fun j => bI (rowF hh (60 * x + mnights) j ≠ 0) * lnF (rowF ee (60 * x + mnights)) j) (mm (60 * x + mnights)).toNat)) ∧ (0 ≤ mm (60 * x + mnights) + sumZ (fun j => bI (rowF hh (60 * x + mnights) j ≠ 0) * lnF (rowF ee (60 * x + mnights)) j) (mm (60 * x + mnights)).toNat ∧ mm (60 * x + mnights) + sumZ (fun j => bI (rowF hh (60 * x + mnights) j ≠ 0) * lnF (rowF ee (60 * x + mnights)) j) (mm (60 * x + mnights)).toNat ≤ 96) ∧ ltN (colF kk x) (mnights + 1).toNat = mnights ∧ difB (rowF dd (240 + x)) (cutR (rowF dd (240 + x)) (ss (240 + x)) mbits mleast mmost).2.2 (cutR (rowF dd (240 + x)) (ss (240 + x)) mbits mleast mmost).2.1 (inCh dd ee mm kk cc hh (mnights + 1) x) = (cutR (rowF dd (240 + x)) (ss (240 + x)) mbits mleast mmost).2.1 ∧ dig (rowF dd (60 * x + mnights)) (ss (60 * x + mnights)).toNat = dig (rowF mdata (240 + x)) (msize (240 + x)).toNat) ∧ (gtS (wbP mkind mbound mcheap mnights mreserve) (mNC mkind mnights) (mOT mdata msize mends mmany mkind mnights mbits mleast mmost) (mAK mdata msize mends mmany mkind mbid mbound mcheap mnights mreserve mbits mleast mmost) (mBS mdata msize mbits mleast mmost) (mDF mdata msize mends mmany mkind mchain mholds mnights mbits mleast mmost) mroom mbid x = 1 → dfN (colF kk x) (mnights + 1).toNat = 0) := by
  obtain ⟨g1, g2, g3, g4⟩ := gI_out z1 z2 x0
  obtain ⟨a1, a2, a3, a4⟩ := z3 x x0.1 x0.2
  have hq := ahB_rng mbid x0
  have hs := hG.2.2.2.2.2 (240 + x) (by omega) (by omega)
  have h4 := z4 x x0.1 x0.2
  rcases gt_cases (WB := (wbP mkind mbound mcheap mnights mreserve)) (NC := (mNC mkind mnights)) (OT := (mOT mdata msize mends mmany mkind mnights mbits mleast mmost)) (AK := (mAK mdata msize mends mmany mkind mbid mbound mcheap mnights mreserve mbits mleast mmost)) (BS := (mBS mdata msize mbits mleast mmost)) (DF := (mDF mdata msize mends mmany mkind mchain mholds mnights mbits mleast mmost)) (room := mroom) (bd := mbid) x with ⟨y1, y2⟩ | ⟨y1, y2, y3⟩
  · rw [y2] at g4
    have hk := (a3 g4).2.2.1
    rw [hT.late x0 ⟨Int.le_refl _, hn.2⟩] at hk
    refine ⟨by rw [y1]; exact hk.symm, fun _ => ?_, fun w => absurd y1 w, fun w => by omega⟩
    rw [h4, payF_f (fun w => w.2 g4)]
    omega
  · rw [bI_t y2] at g4
    have sv : ¬ SV x = 0 := by omega
    obtain ⟨b1, b2, b3, b4, b5, b6⟩ := a4 sv
    have hkk : kk (60 * x + mnights) = gtS (wbP mkind mbound mcheap mnights mreserve) (mNC mkind mnights) (mOT mdata msize mends mmany mkind mnights mbits mleast mmost) (mAK mdata msize mends mmany mkind mbid mbound mcheap mnights mreserve mbits mleast mmost) (mBS mdata msize mbits mleast mmost) (mDF mdata msize mends mmany mkind mchain mholds mnights mbits mleast mmost) mroom mbid x := by rw [b3, g2, y3]
    have hok := cutR_ok (rowF mdata (240 + x)) (b := mbits) (ls := mleast) (ms := mmost) hs.1 hs.2
    have hce := cut_end (rowF mdata (240 + x)) (b := mbits) (ls := mleast) (ms := mmost) hs.1
    have hR : cutR (rowF dd (240 + x)) (ss (240 + x)) mbits mleast mmost = cutR (rowF mdata (240 + x)) (msize (240 + x)) mbits mleast mmost := by
      rw [← a2.1]
      exact (cutR_congr hs.1 (fun j j0 j1 => a2.2 j j0 (by omega))).symm
    have hl : ltN (colF kk x) (mnights + 1).toNat = mnights := ltN_nz (colF kk x) hn.1 (show ¬ kk (60 * x + mnights) = 0 by rw [hkk]; exact y1)
    have hN : 0 ≤ (cutR (rowF mdata (240 + x)) (msize (240 + x)) mbits mleast mmost).2.1 ∧ (cutR (rowF mdata (240 + x)) (msize (240 + x)) mbits mleast mmost).2.1 ≤ 48 := ⟨hok.1, by omega⟩
    have hlnE : ∀ j : Int, 0 ≤ j → j < (cutR (rowF mdata (240 + x)) (msize (240 + x)) mbits mleast mmost).2.1 → lnF (rowF ee (60 * x + mnights)) j = lnF (cutR (rowF mdata (240 + x)) (msize (240 + x)) mbits mleast mmost).2.2 j := fun j j0 j1 => by
      unfold lnF bgF
      rw [(b6 j j0 j1).1]
      by_cases w : j = 0
      · rw [if_pos w, if_pos w]
      · rw [if_neg w, if_neg w, (b6 (j - 1) (by omega) (by omega)).1]
    have hbE : bgF (rowF ee (60 * x + mnights)) (mm (60 * x + mnights)) = msize (240 + x) := by
      rw [b2]
      refine Eq.trans ?_ hce
      unfold bgF
      by_cases w : (cutR (rowF mdata (240 + x)) (msize (240 + x)) mbits mleast mmost).2.1 = 0
      · rw [if_pos w, if_pos w]
      · rw [if_neg w, if_neg w, (b6 _ (by omega) (by omega)).1]
    have hEO : EOK (rowF ee (60 * x + mnights)) (mm (60 * x + mnights)) := by
      rw [b2]
      exact EOK_congr (fun j j0 j1 => (b6 j j0 j1).1.symm) hok.2.2
    have hbr := row_bytes_rng (Hd := rowF hh (60 * x + mnights)) (by rw [b2]; exact hok.1) hEO hbE
    have hcs : mm (60 * x + mnights) + sumZ (fun j => bI (rowF hh (60 * x + mnights) j ≠ 0) * lnF (rowF ee (60 * x + mnights)) j) (mm (60 * x + mnights)).toNat = CS x := by
      rw [g3, b2]
      have hW : WT x = 1 ∨ WT x = 2 := by
        rw [g2, ← y3]
        have := gtS_rng (wbP mkind mbound mcheap mnights mreserve) (mNC mkind mnights) (mOT mdata msize mends mmany mkind mnights mbits mleast mmost) (mAK mdata msize mends mmany mkind mbid mbound mcheap mnights mreserve mbits mleast mmost) (mBS mdata msize mbits mleast mmost) (mDF mdata msize mends mmany mkind mchain mholds mnights mbits mleast mmost) mroom mbid x
        omega
      have hsum : sumZ (fun j => bI (rowF hh (60 * x + mnights) j ≠ 0) * lnF (rowF ee (60 * x + mnights)) j) (cutR (rowF mdata (240 + x)) (msize (240 + x)) mbits mleast mmost).2.1.toNat = sumZ (fun j => bI (fstC (chk (rowF mdata (240 + x)) (cutR (rowF mdata (240 + x)) (msize (240 + x)) mbits mleast mmost).2.2) j ∧ (WT x = 1 ∨ ¬ inCh mdata mends mmany mkind mchain mholds mnights x (chk (rowF mdata (240 + x)) (cutR (rowF mdata (240 + x)) (msize (240 + x)) mbits mleast mmost).2.2 j))) * lnF (cutR (rowF mdata (240 + x)) (msize (240 + x)) mbits mleast mmost).2.2 j) (cutR (rowF mdata (240 + x)) (msize (240 + x)) mbits mleast mmost).2.1.toNat := sumZ_congr (fun j j0 j1 => by
        rw [hlnE j j0 (by omega), (b6 j j0 (by omega)).2]
        congr 1
        exact bI_eq bI_n0)
      rw [hsum]
      unfold cst
      rw [g2] at hW
      rw [← g2] at hW ⊢
      rcases hW with w | w
      · rw [if_pos w]
        show _ = baseB _ _ _
        unfold baseB
        congr 1
        exact sumZ_congr (fun j j0 j1 => by
          congr 1
          exact bI_eq ⟨fun v => v.1, fun v => ⟨v, Or.inl w⟩⟩)
      · rw [if_neg (by omega), if_pos w]
        show _ = difB _ _ _ _
        unfold difB
        congr 1
        exact sumZ_congr (fun j j0 j1 => by
          congr 1
          exact bI_eq ⟨fun v => ⟨v.1, v.2.elim (fun u => by omega) (fun u => u)⟩, fun v => ⟨v.1, Or.inr v.2⟩⟩)
    have hchk : ∀ j : Int, 0 ≤ j → j < (cutR (rowF mdata (240 + x)) (msize (240 + x)) mbits mleast mmost).2.1 → chk (rowF dd (60 * x + mnights)) (rowF ee (60 * x + mnights)) j = chk (rowF dd (240 + x)) (cutR (rowF mdata (240 + x)) (msize (240 + x)) mbits mleast mmost).2.2 j := fun j j0 j1 => chk_congr (n := (cutR (rowF mdata (240 + x)) (msize (240 + x)) mbits mleast mmost).2.1) (fun i i0 i1 => (b6 i i0 i1).1) j0 j1 (by
        have h9 := hEO j j0 (by rw [b2]; exact j1)
        exact h9.1) (fun i i0 i1 => by
        have h9 := hEO j j0 (by rw [b2]; exact j1)
        rw [b5 i i0 (by omega), ← a2.2 i i0 (by omega)])
    refine ⟨hkk, fun w => absurd w y1, fun _ => ⟨⟨prc mbid tt AS SV mreserve (ahB mbid x) (4 - ahB mbid x - 1).toNat, ⟨prc_ge _, prc_le y2.1.2.1 (fun j j0 j1 => ?_)⟩, ?_⟩, ⟨hbr.2.1.1, by omega⟩, hl, ?_, ?_⟩, fun w => ?_⟩
    · have hj := z1.2 j (by omega) (by omega)
      refine Int.not_lt.mp (fun w => ?_)
      have := ahB_lt mbid hj.1 (show aheadP mbid (tt j) x from Or.inl w)
      omega
    · rw [h4, payF_t ⟨by omega, sv⟩, hcs]
    · rw [hR]
      refine dif_all (fun j j0 j1 => ?_)
      have h9 := hT2.has (by omega) x0 hn.1 hl j j0 (by rw [b2]; exact j1)
      rw [hchk j j0 j1] at h9
      exact h9
    · rw [b1]
      exact dig_congr (fun q q0 q1 => b5 q q0 (by omega))
    · rw [dfN_s (colF kk x) hn.1, if_neg (show ¬ colF kk x mnights = 0 from fun v => y1 (hkk.symm.trans v)), if_pos (show colF kk x mnights = 1 from hkk.trans w)]
/-- the digests after a night -/
theorem DGI.night {D D' : Nat → Int64} (hT : ST g A Z hZ mdata msize mends mmany mkind mchain mholds mnights mbits mleast mmost mroom mreserve mmount mspeed mbid mbound mcheap mpromised mcoin mpaid mowed h) (hG : RGm mnights mbits mleast mmost mroom mreserve mmount mspeed msize mbid mbound mcheap mpromised mcoin mpaid mowed) (hn : 0 ≤ mnights ∧ mnights < 16) (z1 : turnOK mbid tt) (z2 : gI (wbP mkind mbound mcheap mnights mreserve) (mNC mkind mnights) (mOT mdata msize mends mmany mkind mnights mbits mleast mmost) (mAK mdata msize mends mmany mkind mbid mbound mcheap mnights mreserve mbits mleast mmost) (mBS mdata msize mbits mleast mmost) (mDF mdata msize mends mmany mkind mchain mholds mnights mbits mleast mmost) mroom tt AS WT CS SV 4) (z3 : ∀ y : Int, 0 ≤ y → y ≤ 3 → nwC mdata msize mends mmany mkind mchain mholds mnights mbits mleast mmost (WT y) (SV y) dd ss ee mm kk cc hh y) (z4 : ∀ y : Int, 0 ≤ y → y ≤ 3 → pp y = mpaid y + payF mbid tt AS SV CS mreserve 4 y) (hT2 : ST g A Z hZ2 dd ss ee mm kk cc hh (mnights + 1) mbits mleast mmost mroom mreserve mmount mspeed mbid mbound mcheap mpromised mcoin pp mowed h2) (hD : DGI D mdata msize mkind mnights) (h1 : ∀ x j : Int, (0 ≤ x ∧ x ≤ 3) → (0 ≤ j ∧ j < mnights) → D' (16 * x + j).toNat = D (16 * x + j).toNat) (h3 : ∀ x : Int, 0 ≤ x ∧ x ≤ 3 → D' (16 * x + mnights).toNat = dig (rowF mdata (240 + x)) (msize (240 + x)).toNat) : DGI D' dd ss kk (mnights + 1) := fun x j x0 j0 hk => by
  by_cases z : j = mnights
  · subst z
    have hf := night_facts hT hG (by omega) z1 z2 z3 z4 hT2 x0
    rw [hf.1] at hk
    rw [h3 x x0, (hf.2.2.1 hk).2.2.2.2]
  · have a1 := (z3 x x0.1 x0.2).1 j j0.1 (by omega) z
    have hs := hG.2.2.2.2.2 (60 * x + j) (by omega) (by omega)
    rw [← a1.2.2.1] at hk
    rw [h1 x j x0 (by omega), hD x j x0 (by omega) hk, ← a1.1]
    exact dig_congr (fun q q0 q1 => (a1.2.2.2.2 q q0 (by omega)).1)
end NF
