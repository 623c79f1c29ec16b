theorem CW.sub2 {g : GG} {A : Nat → Nat} {h0 h hK : AH} {ng : Int} {bt : Int} {ls : Int} {ms : Int} {rm : Int} {rs : Int} {mo : Int} {sp : Int} {kp : Int} {hl : Option Nat} {tq : Int → Option Nat} {G : Int → Int → Int} {Eg : Int → Int → Int} {sz : Int → Int} {pt : Int → Int} {bd : Int → Int} {bo : Int → Int} {cp : Int → Int} {pr : Int → Int} {co : Int → Int} {pa : Int → Int} {ow : Int → Int} {wt : Int → Int} {gt : Int → Int} {pc : Int → Int} {LN : Int → Int → Option Nat} {lt : Int → Option Nat} (hC : CW g A h0 ng bt ls ms rm rs mo sp kp hl tq G Eg sz pt bd bo cp pr co pa ow wt gt pc LN lt h) (hs : SUB A hK h0) : SUB A hK h := fun q hq => ⟨hC.sub hs q hq, (hs q hq).2⟩
def ltp (f : Int → Option Nat) (r : Int) : Option Nat := if r = -1 then none else f r
/-- what is kept shows the model's rows -/
def KPX (g : GG) (hK : AH) (LE : Nat → Option Nat) (RK1 : Nat → Int → Nat) (RN : Nat → Int) (HK1 : Nat → Int → Nat) (HN : Nat → Int) (CA : Nat → Nat) (PV : Nat → Option Nat) (CF : Nat → Int → Int) (CN : Nat → Int) (Ha : Int → Nat) (hN : Int) (mdata msize mends mmany mkind mchain mholds : Int → Int) (mnights : Int) (LN : Int → Int → Option Nat) (lt : Int → Option Nat) : Prop := LKo mends mmany ∧ HS g CA PV CF CN Ha hN hK ∧ (∀ x : Int, 0 ≤ x → x ≤ 3 → ∀ j : Int, 0 ≤ j → j < 60 → LNK g hK LE RK1 RN HK1 HN CF CN Ha hN mdata msize mends mmany mkind mchain mholds (LN x) x j) ∧ (∀ x : Int, 0 ≤ x → x ≤ 3 → ∀ j : Int, mnights ≤ j → j < 60 → mkind (60 * x + j) = 0) ∧ (∀ z : Nat, inH Ha hN z → ∃ (x j : Int) (a : Nat) (i : Int), (0 ≤ x ∧ x ≤ 3) ∧ (0 ≤ j ∧ j < 60) ∧ LN x j = some a ∧ (0 ≤ i ∧ i < HN a) ∧ HK1 a i = z) ∧ ∀ x : Int, 0 ≤ x → x ≤ 3 → lt x = ltp (LN x) (ltN (colF mkind x) mnights.toNat)
/-- files of the class and of the model -/
def MGP (mdata msize : Int → Int) (G : Int → Int → Int) (sz : Int → Int) : Prop := (∀ x : Int, 0 ≤ x → x ≤ 3 → sz x = msize (240 + x) ∧ (∀ j : Int, 0 ≤ G x j ∧ G x j ≤ 255) ∧ ∀ j : Int, 0 ≤ j → j < 48 → G x j = mdata (48 * (240 + x) + j)) ∧ ∀ i : Int, 0 ≤ i → i < 11712 → 0 ≤ mdata i ∧ mdata i ≤ 255
/-- the class's heap shows the model's numbers -/
def ST (g : GG) (A : Nat → Nat) (Z : Nat → Prop) (hZ : AH) (mdata : Int → Int) (msize : Int → Int) (mends : Int → Int) (mmany : Int → Int) (mkind : Int → Int) (mchain : Int → Int) (mholds : Int → Int) (mnights : Int) (mbits : Int) (mleast : Int) (mmost : Int) (mroom : Int) (mreserve : Int) (mmount : Int) (mspeed : Int) (mbid : Int → Int) (mbound : Int → Int) (mcheap : Int → Int) (mpromised : Int → Int) (mcoin : Int → Int) (mpaid : Int → Int) (mowed : Int → Int) (h : AH) : Prop := ∃ (hK : AH) (LE : Nat → Option Nat) (RK1 : Nat → Int → Nat) (RN : Nat → Int) (HK1 : Nat → Int → Nat) (HN : Nat → Int) (CA : Nat → Nat) (PV : Nat → Option Nat) (CF : Nat → Int → Int) (CN : Nat → Int) (Ha : Int → Nat) (hN : Int) (tq : Int → Option Nat) (G Eg : Int → Int → Int) (sz pt wt gt pc : Int → Int) (LN : Int → Int → Option Nat) (lt : Int → Option Nat), CW g A hZ mnights mbits mleast mmost mroom mreserve mmount mspeed hN (ptr Ha hN 0) tq G Eg sz pt mbid mbound mcheap mpromised mcoin mpaid mowed wt gt pc LN lt h ∧ SUB A hK h ∧ (∀ q : Nat, hK q ≠ none → ¬ Z q) ∧ KPX g hK LE RK1 RN HK1 HN CA PV CF CN Ha hN mdata msize mends mmany mkind mchain mholds mnights LN lt ∧ MGP mdata msize G sz
/-- the ranges that the model's numbers keep -/
def RGm (mnights mbits mleast mmost mroom mreserve mmount mspeed : Int) (msize mbid mbound mcheap mpromised mcoin mpaid mowed : Int → Int) : Prop := (0 ≤ mnights ∧ mnights ≤ 60) ∧ ((0 ≤ mbits ∧ mbits ≤ 8) ∧ (1 ≤ mleast ∧ mleast ≤ 16) ∧ mleast ≤ mmost ∧ mmost ≤ 24) ∧ ((0 ≤ mroom ∧ mroom ≤ 500) ∧ 0 ≤ mreserve ∧ mreserve ≤ 50) ∧ ((0 ≤ mmount ∧ mmount ≤ 30) ∧ 1 ≤ mspeed ∧ mspeed ≤ 50) ∧ (∀ x : Int, 0 ≤ x → x ≤ 3 → (0 ≤ mbid x ∧ mbid x ≤ 100) ∧ (0 ≤ mbound x ∧ mbound x ≤ 30) ∧ (0 ≤ mcheap x ∧ mcheap x ≤ 50) ∧ (0 ≤ mpromised x ∧ mpromised x ≤ 600) ∧ (0 ≤ mcoin x ∧ mcoin x ≤ 100) ∧ (0 ≤ mpaid x ∧ mpaid x ≤ 300000 * mnights) ∧ inR (mowed x)) ∧ ∀ z : Int, 0 ≤ z → z < 244 → 0 ≤ msize z ∧ msize z ≤ 48
section
variable {g : GG} {A : Nat → Nat} {Z : Nat → Prop} {hK h hZ : AH} {LE : Nat → Option Nat} {RK1 : Nat → Int → Nat} {RN : Nat → Int} {HK1 : Nat → Int → Nat} {HN : Nat → Int} {CA : Nat → Nat} {PV : Nat → Option Nat} {CF : Nat → Int → Int} {CN : Nat → Int} {Ha : Int → Nat} {hN : Int} {mnights mbits mleast mmost mroom mreserve mmount mspeed : Int} {mdata msize mends mmany mkind mchain mholds mbid mbound mcheap mpromised mcoin mpaid mowed : Int → Int} {LN : Int → Int → Option Nat} {lt : Int → Option Nat}
theorem KPX.hs (hX : KPX g hK LE RK1 RN HK1 HN CA PV CF CN Ha hN mdata msize mends mmany mkind mchain mholds mnights LN lt) : HS g CA PV CF CN Ha hN hK := hX.2.1
theorem KPX.eok (hX : KPX g hK LE RK1 RN HK1 HN CA PV CF CN Ha hN mdata msize mends mmany mkind mchain mholds mnights LN lt) {x j : Int} (x0 : 0 ≤ x ∧ x ≤ 3) (j0 : 0 ≤ j ∧ j < 60) : (0 ≤ mmany (60 * x + j) ∧ mmany (60 * x + j) ≤ 48) ∧ EOK (rowF mends (60 * x + j)) (mmany (60 * x + j)) := hX.1 (60 * x + j) (by omega) (by omega)
theorem KPX.one (hX : KPX g hK LE RK1 RN HK1 HN CA PV CF CN Ha hN mdata msize mends mmany mkind mchain mholds mnights LN lt) {x j : Int} {a : Nat} (x0 : 0 ≤ x ∧ x ≤ 3) (j0 : 0 ≤ j ∧ j < 60) (e : LN x j = some a) : lnkR g hK LE RK1 RN HK1 HN CF CN Ha hN mdata msize mends mmany mkind mchain mholds x j a ∧ ∃ (La : Int → Nat) (nt : Int → Int) (len : Int), chnP g hK LE RK1 RN HK1 HN mkind mchain (LN x) x j La nt len ∧ La 0 = a := by
  have H := hX.2.2.1 x x0.1 x0.2
  have h1 := (H j j0.1 j0.2).at e
  have hk : ¬ mkind (60 * x + j) = 0 := by have := h1.2.2.2.2.2.2; omega
  obtain ⟨La, nt, len, hC⟩ := chain_ex H (j + 1).toNat j j0.1 (by omega) j0.2 hk
  refine ⟨h1, La, nt, len, hC, ?_⟩
  have h2 := (hC.2.2.1 0 (by omega) hC.1).2.1
  rw [hC.2.1, e] at h2
  exact (Option.some.inj h2).symm
theorem KPX.rk (hX : KPX g hK LE RK1 RN HK1 HN CA PV CF CN Ha hN mdata msize mends mmany mkind mchain mholds mnights LN lt) {x j : Int} {a : Nat} (h1 : lnkR g hK LE RK1 RN HK1 HN CF CN Ha hN mdata msize mends mmany mkind mchain mholds x j a) : RK g CA PV CF CN (RK1 a) (RN a) hK ∧ RK g CA PV CF CN (HK1 a) (HN a) hK := ⟨fun k k0 k1 => hX.hs.ck (h1.2.2.1 k k0 (by rw [← h1.2.1]; exact k1)).1, fun k k0 k1 => hX.hs.ck (h1.inH k k0 k1)⟩
theorem KPX.rkc (hX : KPX g hK LE RK1 RN HK1 HN CA PV CF CN Ha hN mdata msize mends mmany mkind mchain mholds mnights LN lt) {x j : Int} (x0 : 0 ≤ x ∧ x ≤ 3) (j0 : 0 ≤ j ∧ j < 60) {La : Int → Nat} {nt : Int → Int} {len : Int} (hC : chnP g hK LE RK1 RN HK1 HN mkind mchain (LN x) x j La nt len) : (∀ i : Int, 0 ≤ i → i < len → RK g CA PV CF CN (RK1 (La i)) (RN (La i)) hK) ∧ (∀ i : Int, 0 ≤ i → i < len → RK g CA PV CF CN (HK1 (La i)) (HN (La i)) hK) ∧ ∀ i : Int, 0 ≤ i → i < len → ∀ t : Int, 0 ≤ t → t < HN (La i) → inH Ha hN (HK1 (La i) t) :=
  ⟨fun i i0 i1 => (hX.rk (chnP.at (hX.2.2.1 x x0.1 x0.2) hC j0.2 i0 i1)).1, fun i i0 i1 => (hX.rk (chnP.at (hX.2.2.1 x x0.1 x0.2) hC j0.2 i0 i1)).2, fun i i0 i1 => (chnP.at (hX.2.2.1 x x0.1 x0.2) hC j0.2 i0 i1).inH⟩
/-- every client's chain -/
theorem KPX.chc (hX : KPX g hK LE RK1 RN HK1 HN CA PV CF CN Ha hN mdata msize mends mmany mkind mchain mholds mnights LN lt) (hn : 0 ≤ mnights ∧ mnights ≤ 60) : ∃ (La : Int → Int → Nat) (nt : Int → Int → Int) (len : Int → Int), CHC g LE RK1 RN HK1 HN CA PV CF CN La len lt hK ∧ (∀ x : Int, 0 ≤ x → x ≤ 3 → len x = dfN (colF mkind x) mnights.toNat + 1 ∧ (∀ i : Int, 0 ≤ i → i < len x → ∀ t : Int, 0 ≤ t → t < HN (La x i) → inH Ha hN (HK1 (La x i) t))) ∧ ∀ x : Int, 0 ≤ x → x ≤ 3 → ¬ ltN (colF mkind x) mnights.toNat = -1 → chnP g hK LE RK1 RN HK1 HN mkind mchain (LN x) x (ltN (colF mkind x) mnights.toNat) (La x) (nt x) (len x) := by
  have key : ∀ x : Int, ∃ q : (Int → Nat) × (Int → Int) × Int, 0 ≤ x → x ≤ 3 → (lt x = ptr q.1 q.2.2 0 ∧ (0 ≤ q.2.2 ∧ q.2.2 ≤ 60) ∧ CHN g LE RK1 RN HK1 HN q.1 q.2.2 hK ∧ (∀ i : Int, 0 ≤ i → i < q.2.2 → RK g CA PV CF CN (RK1 (q.1 i)) (RN (q.1 i)) hK) ∧ ∀ i : Int, 0 ≤ i → i < q.2.2 → RK g CA PV CF CN (HK1 (q.1 i)) (HN (q.1 i)) hK) ∧ (q.2.2 = dfN (colF mkind x) mnights.toNat + 1 ∧ (∀ i : Int, 0 ≤ i → i < q.2.2 → ∀ t : Int, 0 ≤ t → t < HN (q.1 i) → inH Ha hN (HK1 (q.1 i) t))) ∧ (¬ ltN (colF mkind x) mnights.toNat = -1 → chnP g hK LE RK1 RN HK1 HN mkind mchain (LN x) x (ltN (colF mkind x) mnights.toNat) q.1 q.2.1 q.2.2) := fun x => by
    by_cases hx : 0 ≤ x ∧ x ≤ 3
    · have hr := ltN_rng (colF mkind x) mnights.toNat
      have hdr := dfN_rng (colF mkind x) mnights.toNat
      have hlt := hX.2.2.2.2.2 x hx.1 hx.2
      by_cases z : ltN (colF mkind x) mnights.toNat = -1
      · have hd := (dfN_neg (K := colF mkind x) (n := mnights.toNat)).mpr z
        refine ⟨(fun _ => 0, fun _ => 0, 0), fun _ _ => ⟨⟨?_, by decide, fun i i0 i1 => absurd (show i < 0 from i1) (by omega), fun i i0 i1 => absurd (show i < 0 from i1) (by omega), fun i i0 i1 => absurd (show i < 0 from i1) (by omega)⟩, ⟨by show (0 : Int) = _; omega, fun i i0 i1 => absurd (show i < 0 from i1) (by omega)⟩, fun y => absurd z y⟩⟩
        rw [hlt, z]
        exact (if_pos rfl).trans (ptr_out (show ¬ (0 : Int) < 0 by omega)).symm
      · have H := hX.2.2.1 x hx.1 hx.2
        obtain ⟨La, nt, len, hC⟩ := chain_ex H 60 (ltN (colF mkind x) mnights.toNat) (by omega) (by omega) (by omega) (ltN_at (colF mkind x) mnights.toNat z)
        have hk := hX.rkc (j := ltN (colF mkind x) mnights.toNat) hx (by omega) hC
        have hd := dfN_lt (colF mkind x) mnights.toNat z
        have hl := hC.2.2.2.2.2.1
        refine ⟨(La, nt, len), fun _ _ => ⟨⟨?_, ?_, hC.2.2.2.2.1, hk.1, hk.2.1⟩, ⟨?_, hk.2.2⟩, fun _ => hC⟩⟩
        · have h2 := (hC.2.2.1 0 (by omega) hC.1).2.1
          rw [hC.2.1] at h2
          rw [hlt]
          unfold ltp
          rw [if_neg z, h2]
          exact (ptr_in hC.1).symm
        · have := hC.1
          show 0 ≤ len ∧ len ≤ 60
          omega
        · show len = _
          omega
    · exact ⟨(fun _ => 0, fun _ => 0, 0), fun a b => absurd ⟨a, b⟩ hx⟩
  obtain ⟨f, hf⟩ := Classical.skolem.mp key
  exact ⟨fun x => (f x).1, fun x => (f x).2.1, fun x => (f x).2.2, fun x x0 x1 => (hf x x0 x1).1, fun x x0 x1 => (hf x x0 x1).2.1, fun x x0 x1 => (hf x x0 x1).2.2⟩
/-- a state on a later heap, told from there -/
theorem ST.base (hT : ST g A Z hZ mdata msize mends mmany mkind mchain mholds mnights mbits mleast mmost mroom mreserve mmount mspeed mbid mbound mcheap mpromised mcoin mpaid mowed h) : ST g A Z h mdata msize mends mmany mkind mchain mholds mnights mbits mleast mmost mroom mreserve mmount mspeed mbid mbound mcheap mpromised mcoin mpaid mowed h := by
  obtain ⟨hK, LE, RK1, RN, HK1, HN, CA, PV, CF, CN, Ha, hN, tq, G, Eg, sz, pt, wt, gt, pc, LN, lt, hC, hSub, hZn, hX, hM⟩ := hT
  exact ⟨hK, LE, RK1, RN, HK1, HN, CA, PV, CF, CN, Ha, hN, tq, G, Eg, sz, pt, wt, gt, pc, LN, lt, hC.base, hSub, hZn, hX, hM⟩
theorem ST.fr (hT : ST g A Z hZ mdata msize mends mmany mkind mchain mholds mnights mbits mleast mmost mroom mreserve mmount mspeed mbid mbound mcheap mpromised mcoin mpaid mowed h) : ∀ q : Nat, hZ q ≠ none → (∀ i : Nat, i < 27 → q ≠ A i) → h q = hZ q := by
  obtain ⟨hK, LE, RK1, RN, HK1, HN, CA, PV, CF, CN, Ha, hN, tq, G, Eg, sz, pt, wt, gt, pc, LN, lt, hC, hSub, hZn, hX, hM⟩ := hT
  exact hC.fr
/-- nothing of the class, nor what is kept, was changed -/
theorem ST.mv {h' : AH} (hT : ST g A Z hZ mdata msize mends mmany mkind mchain mholds mnights mbits mleast mmost mroom mreserve mmount mspeed mbid mbound mcheap mpromised mcoin mpaid mowed h) (hfr : ∀ q : Nat, h q ≠ none → ¬ Z q → h' q = h q) (hA : ∀ i : Nat, i < 27 → h' (A i) = h (A i)) : ST g A Z h' mdata msize mends mmany mkind mchain mholds mnights mbits mleast mmost mroom mreserve mmount mspeed mbid mbound mcheap mpromised mcoin mpaid mowed h' := by
  obtain ⟨hK, LE, RK1, RN, HK1, HN, CA, PV, CF, CN, Ha, hN, tq, G, Eg, sz, pt, wt, gt, pc, LN, lt, hC, hSub, hZn, hX, hM⟩ := hT
  refine ⟨hK, LE, RK1, RN, HK1, HN, CA, PV, CF, CN, Ha, hN, tq, G, Eg, sz, pt, wt, gt, pc, LN, lt, ((hC.tr (hz := fun _ => none) (fun q q0 _ => absurd rfl q0)).mv (h' := h') (fun i hi _ => hA i hi) (fun q q0 _ => absurd rfl q0)).base, fun q hq => ⟨?_, (hSub q hq).2⟩, hZn, hX, hM⟩
  have h1 := hSub q hq
  rw [← h1.1]
  exact hfr q (by rw [h1.1]; exact hq) (hZn q hq)
end
