/-- a file over which the first u bytes of D were put -/
def ovF (G D : Int → Int) (u : Int) : Int → Int := fun j => if 0 ≤ j ∧ j < u then D j else G j
theorem ovF_0 (G D : Int → Int) : ovF G D 0 = G := by
  funext j; unfold ovF; rw [if_neg (by omega)]
theorem ovF_s (G D : Int → Int) {u : Int} (hu : 0 ≤ u) : upZ (ovF G D u) u (D u) = ovF G D (u + 1) := by
  funext j
  unfold upZ ovF
  by_cases z : j = u
  · rw [if_pos z, if_pos (by omega), z]
  · rw [if_neg z]
    by_cases y : 0 ≤ j ∧ j < u
    · rw [if_pos y, if_pos (by omega)]
    · rw [if_neg y, if_neg (by omega)]
theorem ovF_hi {G D : Int → Int} {u j : Int} (hj : u ≤ j) : ovF G D u j = G j := by unfold ovF; rw [if_neg (by omega)]
theorem qie_ne {g : GG} {h : AH} {n m t : Nat} {F : Int → Option Nat} {G : Int → Int} {a b : Nat} (h1 : h a = some (qE g t n F)) (h2 : h b = some (iE g m G)) : a ≠ b := fun z => by
  rw [z, h2] at h1
  have h3 := Option.some.inj h1
  injection h3 with h4
  injection h4 with _ h5
  injection h5 with _ h6
  cases h6
theorem FL.fr {g : GG} {f ac ae : Nat} {G Eg : Int → Int} {sz pt : Int} {h0 h : AH} (hF : FL g f ac ae G Eg sz pt h0 h) : ∀ q : Nat, q ≠ f → q ≠ ac → q ≠ ae → h q = h0 q := hF.2.2.2.2.2.2
theorem FL.mvR {g : GG} {f ac ae : Nat} {G Eg G0 E0 : Int → Int} {sz pt s0 p0 : Int} {h0 h : AH} {r ra : Nat} {fq : Int → Option Nat} {K : Int → Nat} {cn : Int} (hF : FL g f ac ae G Eg sz pt h0 h) (hF0 : FL g f ac ae G0 E0 s0 p0 h0 h0) (hR : RW g r ra fq K cn h0) : RW g r ra fq K cn h :=
  hR.mv (hF.fr r (oci_ne hR.1 hF0.1 (by decide)) (ioe_ne hR.1 hF0.2.1) (ioe_ne hR.1 hF0.2.2.1)) (hF.fr ra (fun z => qoe_ne hF0.1 hR.2.1 z.symm) (qie_ne hR.2.1 hF0.2.1) (qie_ne hR.2.1 hF0.2.2.1))
theorem CK.mv {g : GG} {k ca : Nat} {pv : Option Nat} {F : Int → Int} {n : Int} {h h' : AH} (hC : CK g k ca pv F n h) (e1 : h' k = h k) (e2 : h' ca = h ca) : CK g k ca pv F n h' := ⟨e1.trans hC.1, e2.trans hC.2.1, hC.2.2⟩
theorem FL.mvC {g : GG} {f ac ae : Nat} {G Eg G0 E0 : Int → Int} {sz pt s0 p0 : Int} {h0 h : AH} {k ca : Nat} {pv : Option Nat} {F : Int → Int} {n : Int} (hF : FL g f ac ae G Eg sz pt h0 h) (hF0 : FL g f ac ae G0 E0 s0 p0 h0 h0) (hC : CK g k ca pv F n h0) (n1 : ca ≠ ac) (n2 : ca ≠ ae) : CK g k ca pv F n h :=
  hC.mv (hF.fr k (oci_ne hC.1 hF0.1 (by decide)) (ioe_ne hC.1 hF0.2.1) (ioe_ne hC.1 hF0.2.2.1)) (hF.fr ca (fun z => ioe_ne hF0.1 hC.2.1 z.symm) n1 n2)
/-- the bytes of a row, one chunk behind the other -/
def lieP (CF : Nat → Int → Int) (CN : Nat → Int) (K : Int → Nat) (cn : Int) (D : Int → Int) : Prop := ∀ j : Int, 0 ≤ j → j < cn → ∀ i : Int, 0 ≤ i → i < CN (K j) → CF (K j) i = D (sumZ (fun j => CN (K j)) j.toNat + i)
theorem sumZ_mono {f : Int → Int} : ∀ {m n : Nat}, m ≤ n → (∀ k : Int, 0 ≤ k → k < (n : Int) → 0 ≤ f k) → sumZ f m ≤ sumZ f n
  | m, 0, h, _ => by rw [Nat.le_zero.mp h]; exact Int.le_refl _
  | m, n + 1, h, hf => by
    rcases Nat.lt_or_ge n m with q | q
    · rw [show m = n + 1 by omega]; exact Int.le_refl _
    · have := sumZ_mono (m := m) (n := n) q (fun k k0 k1 => hf k k0 (by omega))
      have h2 := hf (n : Int) (by omega) (by omega)
      show _ ≤ sumZ f n + f (n : Int)
      omega
theorem sumZ_nn {f : Int → Int} : ∀ {n : Nat}, (∀ k : Int, 0 ≤ k → k < (n : Int) → 0 ≤ f k) → 0 ≤ sumZ f n
  | 0, _ => by show (0 : Int) ≤ 0; omega
  | n + 1, hf => by
    have := sumZ_nn (n := n) (fun k k0 k1 => hf k k0 (by omega))
    have h2 := hf (n : Int) (by omega) (by omega)
    show _ ≤ sumZ f n + f (n : Int)
    omega
