/-- a file of the class: its object, its cells, its ends -/
def FL (g : GG) (f ac ae : Nat) (G Eg : Int → Int) (sz pt : Int) (h0 h : AH) : Prop := h f = some (oE 0 [.ref ac, .ref ae, .int (iI sz), .int (iI pt)]) ∧ h ac = some (iE g 48 G) ∧ h ae = some (iE g 48 Eg) ∧ ac ≠ ae ∧ ((0 ≤ sz ∧ sz ≤ 48) ∧ (0 ≤ pt ∧ pt ≤ 48)) ∧ ((∀ i, inR (G i)) ∧ ∀ i, inR (Eg i)) ∧ ∀ q : Nat, q ≠ f → q ≠ ac → q ≠ ae → h q = h0 q
section
variable {g : GG} {f ac ae : Nat} {G Eg : Int → Int} {sz pt : Int} {h0 h : AH}
theorem FL.s (hF : FL g f ac ae G Eg sz pt h0 h) : 0 ≤ sz ∧ sz ≤ 48 := hF.2.2.2.2.1.1
theorem FL.t (hF : FL g f ac ae G Eg sz pt h0 h) : 0 ≤ pt ∧ pt ≤ 48 := hF.2.2.2.2.1.2
theorem FL.r (hF : FL g f ac ae G Eg sz pt h0 h) (i : Int) : -2147483648 ≤ G i ∧ G i < 2147483648 := hF.2.2.2.2.2.1.1 i
theorem FL.e (hF : FL g f ac ae G Eg sz pt h0 h) (i : Int) : -2147483648 ≤ Eg i ∧ Eg i < 2147483648 := hF.2.2.2.2.2.1.2 i
theorem ioe_ne {ci n : Nat} {fs : List Value} {F : Int → Int} {a b : Nat} (h1 : h a = some (oE ci fs)) (h2 : h b = some (iE g n F)) : a ≠ b := fun z => by
  rw [z, h2] at h1
  exact absurd (Option.some.inj h1) (by intro y; cases y)
theorem FL.base (h1 : h f = some (oE 0 [.ref ac, .ref ae, .int (iI sz), .int (iI pt)])) (h2 : h ac = some (iE g 48 G)) (h3 : h ae = some (iE g 48 Eg)) (h4 : ac ≠ ae) (h5 : (0 ≤ sz ∧ sz ≤ 48) ∧ (0 ≤ pt ∧ pt ≤ 48)) (h6 : (∀ i, inR (G i)) ∧ ∀ i, inR (Eg i)) : FL g f ac ae G Eg sz pt h h := ⟨h1, h2, h3, h4, h5, h6, fun _ _ _ _ => rfl⟩
theorem FL.cel (hF : FL g f ac ae G Eg sz pt h0 h) {i v : Int} (hv : -2147483648 ≤ v ∧ v < 2147483648) : FL g f ac ae (upZ G i v) Eg sz pt h0 (ah_up h ac (iE g 48 (upZ G i v))) := by
  obtain ⟨p1, p2, p3, p4, p5, p6, p7⟩ := hF
  refine ⟨(if_neg (ioe_ne p1 p2)).trans p1, if_pos rfl, (if_neg (fun z => p4 z.symm)).trans p3, p4, p5, ⟨fun j => ?_, p6.2⟩, fun q q0 q1 q2 => (if_neg q1).trans (p7 q q0 q1 q2)⟩
  unfold upZ
  split
  · exact hv
  · exact p6.1 j
theorem FL.end (hF : FL g f ac ae G Eg sz pt h0 h) {i v : Int} (hv : -2147483648 ≤ v ∧ v < 2147483648) : FL g f ac ae G (upZ Eg i v) sz pt h0 (ah_up h ae (iE g 48 (upZ Eg i v))) := by
  obtain ⟨p1, p2, p3, p4, p5, p6, p7⟩ := hF
  refine ⟨(if_neg (ioe_ne p1 p3)).trans p1, (if_neg p4).trans p2, if_pos rfl, p4, p5, ⟨p6.1, fun j => ?_⟩, fun q q0 q1 q2 => (if_neg q2).trans (p7 q q0 q1 q2)⟩
  unfold upZ
  split
  · exact hv
  · exact p6.2 j
theorem FL.siz (hF : FL g f ac ae G Eg sz pt h0 h) {v : Int} (hv : 0 ≤ v ∧ v ≤ 48) : FL g f ac ae G Eg v pt h0 (ah_up h f (oE 0 [.ref ac, .ref ae, .int (iI v), .int (iI pt)])) := by
  obtain ⟨p1, p2, p3, p4, p5, p6, p7⟩ := hF
  exact ⟨if_pos rfl, (if_neg (fun z => ioe_ne p1 p2 z.symm)).trans p2, (if_neg (fun z => ioe_ne p1 p3 z.symm)).trans p3, p4, ⟨hv, p5.2⟩, p6, fun q q0 q1 q2 => (if_neg q0).trans (p7 q q0 q1 q2)⟩
theorem FL.par (hF : FL g f ac ae G Eg sz pt h0 h) {v : Int} (hv : 0 ≤ v ∧ v ≤ 48) : FL g f ac ae G Eg sz v h0 (ah_up h f (oE 0 [.ref ac, .ref ae, .int (iI sz), .int (iI v)])) := by
  obtain ⟨p1, p2, p3, p4, p5, p6, p7⟩ := hF
  exact ⟨if_pos rfl, (if_neg (fun z => ioe_ne p1 p2 z.symm)).trans p2, (if_neg (fun z => ioe_ne p1 p3 z.symm)).trans p3, p4, ⟨p5.1, hv⟩, p6, fun q q0 q1 q2 => (if_neg q0).trans (p7 q q0 q1 q2)⟩
end
/-- a byte at a place, 0 where there is none -/
def byF (G : Int → Int) (x : Int) : Int := if 0 ≤ x ∧ x < 48 then G x else 0
theorem byF_in {G : Int → Int} {x : Int} (hx : 0 ≤ x ∧ x < 48) : byF G x = G x := if_pos hx
theorem byF_out {G : Int → Int} {x : Int} (hx : ¬ (0 ≤ x ∧ x < 48)) : byF G x = 0 := if_neg hx
theorem byF_rng {G : Int → Int} (hG : ∀ i, -2147483648 ≤ G i ∧ G i < 2147483648) (x : Int) : -2147483648 ≤ byF G x ∧ byF G x < 2147483648 := by
  unfold byF
  split
  · exact hG _
  · omega
theorem shR_s0 (D : Int → Int) (n : Int) {k : Int} (hk : k ≤ n) : upZ (shR D 0 n k) k (shR D 0 n k (k - 1)) = shR D 0 n (k - 1) := by
  have := shR_s D 0 n hk
  rwa [Int.zero_add] at this
theorem insF_of0 (D : Int → Int) (n k v : Int) : upZ (shR D 0 n k) k v = insF D 0 n k v := by
  have := insF_of D 0 n k v
  rwa [Int.zero_add] at this
theorem cutF_s0 (D : Int → Int) (k c : Int) {q : Int} (hk : k ≤ q) (hc : 0 ≤ c) : upZ (cutF D 0 k c q) q (cutF D 0 k c q (q + c)) = cutF D 0 k c (q + 1) := by
  have := cutF_s D 0 k c hk hc
  rwa [Int.zero_add] at this
