/-- a chunk that the house keeps -/
def inH (Ha : Int → Nat) (hN : Int) (z : Nat) : Prop := ∃ i : Int, 0 ≤ i ∧ i < hN ∧ Ha i = z
/-- the house: its chain of kept chunks, no two of the same bytes -/
def HS (g : GG) (CA : Nat → Nat) (PV : Nat → Option Nat) (CF : Nat → Int → Int) (CN : Nat → Int) (Ha : Int → Nat) (hN : Int) (h : AH) : Prop := HCH g CA PV CF CN Ha hN h ∧ 0 ≤ hN ∧ ∀ i j : Int, 0 ≤ i → i < hN → 0 ≤ j → j < hN → cont (CF (Ha i)) (CN (Ha i)) = cont (CF (Ha j)) (CN (Ha j)) → i = j
theorem HS.ck {g : GG} {CA : Nat → Nat} {PV : Nat → Option Nat} {CF : Nat → Int → Int} {CN : Nat → Int} {Ha : Int → Nat} {hN : Int} {h : AH} (hS : HS g CA PV CF CN Ha hN h) {z : Nat} (hz : inH Ha hN z) : CK g z (CA z) (PV z) (CF z) (CN z) h := by
  obtain ⟨i, i0, i1, e⟩ := hz
  subst e
  exact (hS.1 i i0 i1).2
theorem HS.inj {g : GG} {CA : Nat → Nat} {PV : Nat → Option Nat} {CF : Nat → Int → Int} {CN : Nat → Int} {Ha : Int → Nat} {hN : Int} {h : AH} (hS : HS g CA PV CF CN Ha hN h) {z z' : Nat} (hz : inH Ha hN z) (hz' : inH Ha hN z') (e : cont (CF z) (CN z) = cont (CF z') (CN z')) : z = z' := by
  obtain ⟨i, i0, i1, e1⟩ := hz
  obtain ⟨j, j0, j1, e2⟩ := hz'
  subst e1
  subst e2
  rw [hS.2.2 i j i0 i1 j0 j1 e]
/-- what the house keeps stays; what is new stood nowhere before -/
def HX (hB : AH) (CA : Nat → Nat) (PV : Nat → Option Nat) (CF : Nat → Int → Int) (CN : Nat → Int) (Ha : Int → Nat) (hN : Int) (CA' : Nat → Nat) (PV' : Nat → Option Nat) (CF' : Nat → Int → Int) (CN' : Nat → Int) (Ha' : Int → Nat) (hN' : Int) : Prop := (∀ z : Nat, inH Ha hN z → inH Ha' hN' z ∧ CA' z = CA z ∧ PV' z = PV z ∧ CF' z = CF z ∧ CN' z = CN z) ∧ ∀ z : Nat, inH Ha' hN' z → inH Ha hN z ∨ (hB z = none ∧ hB (CA' z) = none)
theorem HX.same (hB : AH) (CA : Nat → Nat) (PV : Nat → Option Nat) (CF : Nat → Int → Int) (CN : Nat → Int) (Ha : Int → Nat) (hN : Int) : HX hB CA PV CF CN Ha hN CA PV CF CN Ha hN := ⟨fun _ hz => ⟨hz, Eq.refl _, Eq.refl _, Eq.refl _, Eq.refl _⟩, fun _ hz => Or.inl hz⟩
theorem HX.trans {hB h : AH} {CA CA1 CA2 : Nat → Nat} {PV PV1 PV2 : Nat → Option Nat} {CF CF1 CF2 : Nat → Int → Int} {CN CN1 CN2 : Nat → Int} {Ha Ha1 Ha2 : Int → Nat} {hN hN1 hN2 : Int} (a : HX hB CA PV CF CN Ha hN CA1 PV1 CF1 CN1 Ha1 hN1) (b : HX h CA1 PV1 CF1 CN1 Ha1 hN1 CA2 PV2 CF2 CN2 Ha2 hN2) (hsub : ∀ q : Nat, hB q ≠ none → h q ≠ none) : HX hB CA PV CF CN Ha hN CA2 PV2 CF2 CN2 Ha2 hN2 := by
  have nn : ∀ q : Nat, h q = none → hB q = none := fun q e => Classical.byContradiction fun y => hsub q y e
  refine ⟨fun z hz => ?_, fun z hz => ?_⟩
  · have h1 := a.1 z hz
    have h2 := b.1 z h1.1
    exact ⟨h2.1, h2.2.1.trans h1.2.1, h2.2.2.1.trans h1.2.2.1, h2.2.2.2.1.trans h1.2.2.2.1, h2.2.2.2.2.trans h1.2.2.2.2⟩
  · rcases b.2 z hz with q | q
    · rcases a.2 z q with y | y
      · exact Or.inl y
      · rw [← (b.1 z q).2.1] at y
        exact Or.inr y
    · exact Or.inr ⟨nn _ q.1, nn _ q.2⟩
def updN {α : Type} (f : Nat → α) (k : Nat) (v : α) : Nat → α := fun x => if x = k then v else f x
theorem updN_at {α : Type} (f : Nat → α) (k : Nat) (v : α) : updN f k v k = v := if_pos rfl
theorem updN_ne {α : Type} (f : Nat → α) {k x : Nat} (v : α) (h : x ≠ k) : updN f k v x = f x := if_neg h
def consH (k : Nat) (Ha : Int → Nat) : Int → Nat := fun i => if i = 0 then k else Ha (i - 1)
theorem consH_0 (k : Nat) (Ha : Int → Nat) : consH k Ha 0 = k := if_pos rfl
theorem consH_s (k : Nat) (Ha : Int → Nat) {i : Int} (h : ¬ i = 0) : consH k Ha i = Ha (i - 1) := if_neg h
theorem ptr_cons (k : Nat) (Ha : Int → Nat) {n i : Int} (hi : 0 ≤ i) : ptr (consH k Ha) (n + 1) (i + 1) = ptr Ha n i := by
  unfold ptr
  by_cases z : i < n
  · rw [if_pos z, if_pos (by omega), consH_s _ _ (by omega), show i + 1 - 1 = i by omega]
  · rw [if_neg z, if_neg (by omega)]
theorem HS.mv {g : GG} {CA : Nat → Nat} {PV : Nat → Option Nat} {CF : Nat → Int → Int} {CN : Nat → Int} {Ha : Int → Nat} {hN : Int} {h h' : AH} (hS : HS g CA PV CF CN Ha hN h) (hfr : ∀ z : Nat, inH Ha hN z → h' z = h z ∧ h' (CA z) = h (CA z)) : HS g CA PV CF CN Ha hN h' :=
  ⟨fun i i0 i1 => ⟨(hS.1 i i0 i1).1, (hS.1 i i0 i1).2.mv (hfr _ ⟨i, i0, i1, rfl⟩).1 (hfr _ ⟨i, i0, i1, rfl⟩).2⟩, hS.2⟩
theorem HS.add {g : GG} {CA : Nat → Nat} {PV : Nat → Option Nat} {CF : Nat → Int → Int} {CN : Nat → Int} {Ha : Int → Nat} {hN : Int} {h h' : AH} {k ca : Nat} {F : Int → Int} {w : Int} (hS : HS g CA PV CF CN Ha hN h) (nk : h k = none) (hfr : ∀ z : Nat, inH Ha hN z → h' z = h z ∧ h' (CA z) = h (CA z)) (hC : CK g k ca (ptr Ha hN 0) F w h') (hnew : ∀ i : Int, 0 ≤ i → i < hN → cont (CF (Ha i)) (CN (Ha i)) ≠ cont F w) : HS g (updN CA k ca) (updN PV k (ptr Ha hN 0)) (updN CF k F) (updN CN k w) (consH k Ha) (hN + 1) h' := by
  have hne : ∀ i : Int, 0 ≤ i → i < hN → Ha i ≠ k := fun i i0 i1 z => by
    have := (hS.1 i i0 i1).2.1
    rw [z, nk] at this
    cases this
  have e0 := consH_0 k Ha
  have es : ∀ i : Int, 0 ≤ i → i < hN + 1 → ¬ i = 0 → consH k Ha i = Ha (i - 1) ∧ Ha (i - 1) ≠ k := fun i i0 i1 z => ⟨consH_s _ _ z, hne _ (by omega) (by omega)⟩
  refine ⟨fun i i0 i1 => ?_, by have := hS.2.1; omega, fun i j i0 i1 j0 j1 e => ?_⟩
  · by_cases z : i = 0
    · subst z
      rw [e0, updN_at, updN_at, updN_at, updN_at]
      exact ⟨(ptr_cons k Ha (by omega)).symm, hC⟩
    · obtain ⟨a1, a2⟩ := es i i0 i1 z
      have hh := hS.1 (i - 1) (by omega) (by omega)
      have hm := hfr _ ⟨i - 1, by omega, by omega, rfl⟩
      rw [a1, updN_ne _ _ a2, updN_ne _ _ a2, updN_ne _ _ a2, updN_ne _ _ a2]
      refine ⟨hh.1.trans ?_, hh.2.mv hm.1 hm.2⟩
      have := ptr_cons k Ha (n := hN) (i := i - 1 + 1) (by omega)
      rw [← this, show i - 1 + 1 + 1 = i + 1 by omega]
  · by_cases zi : i = 0
    · by_cases zj : j = 0
      · omega
      · exfalso
        obtain ⟨a1, a2⟩ := es j j0 j1 zj
        subst zi
        rw [e0, a1, updN_at, updN_at, updN_ne _ _ a2, updN_ne _ _ a2] at e
        exact hnew _ (by omega) (by omega) e.symm
    · by_cases zj : j = 0
      · exfalso
        obtain ⟨a1, a2⟩ := es i i0 i1 zi
        subst zj
        rw [e0, a1, updN_at, updN_at, updN_ne _ _ a2, updN_ne _ _ a2] at e
        exact hnew _ (by omega) (by omega) e
      · obtain ⟨a1, a2⟩ := es i i0 i1 zi
        obtain ⟨b1, b2⟩ := es j j0 j1 zj
        rw [a1, b1, updN_ne _ _ a2, updN_ne _ _ a2, updN_ne _ _ b2, updN_ne _ _ b2] at e
        have := hS.2.2 (i - 1) (j - 1) (by omega) (by omega) (by omega) (by omega) e
        omega
theorem HX.add {hB : AH} {CA : Nat → Nat} {PV : Nat → Option Nat} {CF : Nat → Int → Int} {CN : Nat → Int} {Ha : Int → Nat} {hN : Int} {k ca : Nat} {pv : Option Nat} {F : Int → Int} {w : Int} (hne : ∀ z : Nat, inH Ha hN z → z ≠ k) (nk : hB k = none) (nc : hB ca = none) : HX hB CA PV CF CN Ha hN (updN CA k ca) (updN PV k pv) (updN CF k F) (updN CN k w) (consH k Ha) (hN + 1) := by
  refine ⟨fun z hz => ?_, fun z hz => ?_⟩
  · have := hne z hz
    rw [updN_ne _ _ this, updN_ne _ _ this, updN_ne _ _ this, updN_ne _ _ this]
    obtain ⟨i, i0, i1, e⟩ := hz
    exact ⟨⟨i + 1, by omega, by omega, by rw [consH_s _ _ (by omega), show i + 1 - 1 = i by omega]; exact e⟩, rfl, rfl, rfl, rfl⟩
  · obtain ⟨i, i0, i1, e⟩ := hz
    by_cases y : i = 0
    · subst y
      rw [consH_0] at e
      subst e
      rw [updN_at]
      exact Or.inr ⟨nk, nc⟩
    · rw [consH_s _ _ y] at e
      exact Or.inl ⟨i - 1, by omega, by omega, e⟩
theorem cont_filC (G Eg : Int → Int) {k : Int} : cont (filC G (bgF Eg k) (lnF Eg k)) (lnF Eg k) = chk G Eg k := by
  unfold cont chk
  refine List.map_congr_left fun j hj => ?_
  rw [List.mem_range] at hj
  show filC G _ _ (j : Int) = _
  unfold filC
  rw [if_pos (by omega)]
/-- counting: what is told by its count -/
theorem cnt_surj {P : Int → Prop} : ∀ {n : Nat} {i : Int}, 0 ≤ i → i < sumZ (fun j => bI (P j)) n → ∃ j : Int, 0 ≤ j ∧ j < (n : Int) ∧ P j ∧ sumZ (fun j => bI (P j)) j.toNat = i
  | 0, i, h0, h1 => absurd h1 (by show ¬ i < (0 : Int); omega)
  | n + 1, i, h0, h1 => by
    replace h1 : i < sumZ (fun j => bI (P j)) n + bI (P (n : Int)) := h1
    by_cases y : i < sumZ (fun j => bI (P j)) n
    · obtain ⟨j, j0, j1, j2, j3⟩ := cnt_surj h0 y
      exact ⟨j, j0, by omega, j2, j3⟩
    · by_cases z : P (n : Int)
      · rw [bI_t z] at h1
        exact ⟨(n : Int), by omega, by omega, z, by rw [show ((n : Int)).toNat = n by omega]; omega⟩
      · rw [bI_f z] at h1
        omega
theorem cnt_lt {P : Int → Prop} {n j : Int} (j0 : 0 ≤ j) (j1 : j < n) (hp : P j) : sumZ (fun j => bI (P j)) j.toNat < sumZ (fun j => bI (P j)) n.toNat := by
  have h1 := sumZ_mono (f := fun j => bI (P j)) (m := (j + 1).toNat) (n := n.toNat) (by omega) (fun k _ _ => (bI_rng01 _).1)
  rw [sumZ_s _ j0, bI_t hp] at h1
  omega
theorem cnt_le (P : Int → Prop) : ∀ n : Nat, 0 ≤ sumZ (fun j => bI (P j)) n ∧ sumZ (fun j => bI (P j)) n ≤ (n : Int)
  | 0 => by show 0 ≤ (0 : Int) ∧ (0 : Int) ≤ _; omega
  | n + 1 => by
    have := cnt_le P n
    have h2 := bI_rng01 (P (n : Int))
    show 0 ≤ sumZ _ n + bI (P (n : Int)) ∧ sumZ _ n + bI (P (n : Int)) ≤ _
    omega
