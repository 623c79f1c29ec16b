theorem lnF_rng {E : Int → Int} {n k : Int} (he : EOK E n) (h0 : 0 ≤ k) (h1 : k < n) : 1 ≤ lnF E k ∧ lnF E k ≤ 48 := by
  have := he k h0 h1
  unfold lnF
  omega
theorem sumB_rng {P : Int → Prop} {f : Int → Int} : ∀ {n : Nat}, (∀ k : Int, 0 ≤ k → k < (n : Int) → 0 ≤ f k ∧ f k ≤ 48) → 0 ≤ sumZ (fun k => bI (P k) * f k) n ∧ sumZ (fun k => bI (P k) * f k) n ≤ 48 * (n : Int)
  | 0, _ => by show 0 ≤ (0 : Int) ∧ (0 : Int) ≤ _; omega
  | n + 1, h => by
    have ih := sumB_rng (P := P) (n := n) (fun k k0 k1 => h k k0 (by omega))
    have hf := h (n : Int) (by omega) (by omega)
    show 0 ≤ sumZ _ n + bI (P (n : Int)) * f (n : Int) ∧ sumZ _ n + bI (P (n : Int)) * f (n : Int) ≤ _
    rcases bI_01 (P (n : Int)) with q | q <;> rw [q] <;> omega
theorem baseB_rng {G E : Int → Int} {n : Int} (hn : 0 ≤ n ∧ n ≤ 48) (he : EOK E n) : 0 ≤ baseB G E n ∧ baseB G E n ≤ 3000 := by
  have := sumB_rng (P := fun k => fstC (chk G E) k) (f := lnF E) (n := n.toNat) (fun k k0 k1 => by have := lnF_rng he k0 (by omega); omega)
  unfold baseB
  omega
theorem difB_rng {G E : Int → Int} {n : Int} {P : List Int → Prop} (hn : 0 ≤ n ∧ n ≤ 48) (he : EOK E n) : 0 ≤ difB G E n P ∧ difB G E n P ≤ 3000 := by
  have := sumB_rng (P := fun k => fstC (chk G E) k ∧ ¬ P (chk G E k)) (f := lnF E) (n := n.toNat) (fun k k0 k1 => by have := lnF_rng he k0 (by omega); omega)
  unfold difB
  omega
theorem difB_congr {G E : Int → Int} {n : Int} {P P' : List Int → Prop} (h : ∀ c, P c ↔ P' c) : difB G E n P = difB G E n P' := by
  have : P = P' := funext fun c => propext (h c)
  rw [this]
noncomputable def mCR (mdata msize : Int → Int) (b ls ms c : Int) : Int × Int × (Int → Int) := cutR (rowF mdata (240 + c)) (msize (240 + c)) b ls ms
noncomputable def mBS (mdata msize : Int → Int) (b ls ms c : Int) : Int := baseB (rowF mdata (240 + c)) (mCR mdata msize b ls ms c).2.2 (mCR mdata msize b ls ms c).2.1
noncomputable def mDF (mdata msize mends mmany mkind mchain mholds : Int → Int) (nights b ls ms c : Int) : Int := difB (rowF mdata (240 + c)) (mCR mdata msize b ls ms c).2.2 (mCR mdata msize b ls ms c).2.1 (inCh mdata mends mmany mkind mchain mholds nights c)
def mNC (mkind : Int → Int) (nights c : Int) : Prop := ltN (colF mkind c) nights.toNat = -1
def mOT (mdata msize mends mmany mkind : Int → Int) (nights b ls ms c : Int) : Prop := otP (rowF mdata (240 + c)) (mCR mdata msize b ls ms c).2.2 (mCR mdata msize b ls ms c).2.1 mdata mends mmany c (ltN (colF mkind c) nights.toNat)
def mAK (mdata msize mends mmany mkind mbid mbound mcheap : Int → Int) (nights reserve b ls ms c : Int) : Prop := 0 < mbid c ∧ reserve ≤ mbid c ∧ (wbP mkind mbound mcheap nights reserve c ∨ mOT mdata msize mends mmany mkind nights b ls ms c)
