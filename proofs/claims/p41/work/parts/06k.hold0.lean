theorem fit_bI (P : Prop) : fits .boolean (.int (iI (bI P))) = true := by
  rcases bI_01 P with h | h <;> rw [h] <;> rfl
theorem CK.sub {g : GG} {k ca : Nat} {pv : Option Nat} {F : Int → Int} {n : Int} {hK h : AH} (hC : CK g k ca pv F n hK) (hs : ∀ q : Nat, hK q ≠ none → h q = hK q) : CK g k ca pv F n h := hC.mv (hs k (sm_ne hC.1)) (hs ca (sm_ne hC.2.1))
theorem RK.sub {g : GG} {CA : Nat → Nat} {PV : Nat → Option Nat} {CF : Nat → Int → Int} {CN : Nat → Int} {K : Int → Nat} {cn : Int} {hK h : AH} (hR : RK g CA PV CF CN K cn hK) (hs : ∀ q : Nat, hK q ≠ none → h q = hK q) : RK g CA PV CF CN K cn h := fun j j0 j1 => (hR j j0 j1).sub hs
theorem RW.sub {g : GG} {r ra : Nat} {fq : Int → Option Nat} {K : Int → Nat} {cn : Int} {hK h : AH} (hR : RW g r ra fq K cn hK) (hs : ∀ q : Nat, hK q ≠ none → h q = hK q) : RW g r ra fq K cn h := hR.mv (hs r (sm_ne hR.1)) (hs ra (sm_ne hR.2.1))
theorem LKA.sub {g : GG} {LE : Nat → Option Nat} {RK1 : Nat → Int → Nat} {RN : Nat → Int} {HK1 : Nat → Int → Nat} {HN : Nat → Int} {a : Nat} {hK h : AH} (hL : LKA g LE RK1 RN HK1 HN a hK) (hs : ∀ q : Nat, hK q ≠ none → h q = hK q) : LKA g LE RK1 RN HK1 HN a h := by
  obtain ⟨rr, rra, rh, rha, fq1, fq2, p1, p2, p3⟩ := hL
  exact ⟨rr, rra, rh, rha, fq1, fq2, (hs a (sm_ne p1)).trans p1, p2.sub hs, p3.sub hs⟩
theorem CHN.sub {g : GG} {LE : Nat → Option Nat} {RK1 : Nat → Int → Nat} {RN : Nat → Int} {HK1 : Nat → Int → Nat} {HN : Nat → Int} {La : Int → Nat} {len : Int} {hK h : AH} (hL : CHN g LE RK1 RN HK1 HN La len hK) (hs : ∀ q : Nat, hK q ≠ none → h q = hK q) : CHN g LE RK1 RN HK1 HN La len h := fun i i0 i1 => ⟨(hL i i0 i1).1, (hL i i0 i1).2.sub hs⟩
theorem upZ_self (f : Int → Int) (x : Int) : upZ f x (f x) = f := by
  funext y; unfold upZ; split
  · rename_i e; rw [e]
  · rfl
theorem upG_self (f : Int → Int → Int) (x : Int) : upG f x (f x) = f := by
  funext y; unfold upG; split
  · rename_i e; rw [e]
  · rfl
/-- new below q, old from q on -/
def mixF {α : Type} (q : Int) (f f0 : Int → α) : Int → α := fun y => if 0 ≤ y ∧ y < q then f y else f0 y
theorem mixF_0 {α : Type} (f f0 : Int → α) : mixF 0 f f0 = f0 := by funext y; unfold mixF; rw [if_neg (by omega)]
theorem mixF_in {α : Type} {q y : Int} {f f0 : Int → α} (h : 0 ≤ y ∧ y < q) : mixF q f f0 y = f y := if_pos h
theorem mixF_out {α : Type} {q y : Int} {f f0 : Int → α} (h : ¬ (0 ≤ y ∧ y < q)) : mixF q f f0 y = f0 y := if_neg h
theorem mixZ_s {q : Int} (f f0 : Int → Int) (hq : 0 ≤ q) : upZ (mixF q f f0) q (f q) = mixF (q + 1) f f0 := by
  funext y
  by_cases z : y = q
  · rw [z, upZ_at, mixF_in (by omega)]
  · rw [upZ_ne _ _ z]
    by_cases w : 0 ≤ y ∧ y < q
    · rw [mixF_in w, mixF_in (by omega)]
    · rw [mixF_out w, mixF_out (by omega)]
theorem mixG_s {q : Int} (f f0 : Int → Int → Int) (hq : 0 ≤ q) : upG (mixF q f f0) q (f q) = mixF (q + 1) f f0 := by
  funext y
  by_cases z : y = q
  · rw [z, mixF_in (by omega)]; exact if_pos rfl
  · have e : upG (mixF q f f0) q (f q) y = mixF q f f0 y := if_neg z
    rw [e]
    by_cases w : 0 ≤ y ∧ y < q
    · rw [mixF_in w, mixF_in (by omega)]
    · rw [mixF_out w, mixF_out (by omega)]
noncomputable def ctN (G : Int → Int → Int) (sz : Int → Int) (bt ls ms x : Int) : Int := (cutR (G x) (sz x) bt ls ms).2.1
noncomputable def ctE (Eg G : Int → Int → Int) (sz : Int → Int) (bt ls ms x : Int) : Int → Int := putRow (Eg x) 0 (cutR (G x) (sz x) bt ls ms).2.1 (cutR (G x) (sz x) bt ls ms).2.2
theorem ctE_at (Eg G : Int → Int → Int) (sz : Int → Int) (bt ls ms : Int) {x k : Int} (k0 : 0 ≤ k) (k1 : k < ctN G sz bt ls ms x) : ctE Eg G sz bt ls ms x k = (cutR (G x) (sz x) bt ls ms).2.2 k := by
  unfold ctN at k1
  unfold ctE putRow
  rw [if_pos (by omega), show k - 0 = k by omega]
theorem ctE_ok (Eg G : Int → Int → Int) (sz : Int → Int) (bt ls ms : Int) {x : Int} (h0 : 0 ≤ sz x) (h1 : sz x ≤ 48) : EOK (ctE Eg G sz bt ls ms x) (ctN G sz bt ls ms x) ∧ 0 ≤ ctN G sz bt ls ms x ∧ ctN G sz bt ls ms x ≤ sz x := by
  have h := cutR_ok (G x) (b := bt) (ls := ls) (ms := ms) h0 h1
  exact ⟨EOK_congr (fun j j0 j1 => (ctE_at Eg G sz bt ls ms j0 j1).symm) h.2.2, h.1, h.2.1⟩
/-- each client's chain of links -/
def CHC (g : GG) (LE : Nat → Option Nat) (RK1 : Nat → Int → Nat) (RN : Nat → Int) (HK1 : Nat → Int → Nat) (HN : Nat → Int) (CA : Nat → Nat) (PV : Nat → Option Nat) (CF : Nat → Int → Int) (CN : Nat → Int) (La : Int → Int → Nat) (len : Int → Int) (lt : Int → Option Nat) (hK : AH) : Prop := ∀ x : Int, 0 ≤ x → x ≤ 3 → lt x = ptr (La x) (len x) 0 ∧ (0 ≤ len x ∧ len x ≤ 60) ∧ CHN g LE RK1 RN HK1 HN (La x) (len x) hK ∧ (∀ i : Int, 0 ≤ i → i < len x → RK g CA PV CF CN (RK1 (La x i)) (RN (La x i)) hK) ∧ ∀ i : Int, 0 ≤ i → i < len x → RK g CA PV CF CN (HK1 (La x i)) (HN (La x i)) hK
theorem CHC.sub {g : GG} {LE : Nat → Option Nat} {RK1 : Nat → Int → Nat} {RN : Nat → Int} {HK1 : Nat → Int → Nat} {HN : Nat → Int} {CA : Nat → Nat} {PV : Nat → Option Nat} {CF : Nat → Int → Int} {CN : Nat → Int} {La : Int → Int → Nat} {len : Int → Int} {lt : Int → Option Nat} {hK h : AH} (hL : CHC g LE RK1 RN HK1 HN CA PV CF CN La len lt hK) (hs : ∀ q : Nat, hK q ≠ none → h q = hK q) : CHC g LE RK1 RN HK1 HN CA PV CF CN La len lt h := fun x x0 x1 => ⟨(hL x x0 x1).1, (hL x x0 x1).2.1, (hL x x0 x1).2.2.1.sub hs, fun i i0 i1 => ((hL x x0 x1).2.2.2.1 i i0 i1).sub hs, fun i i0 i1 => ((hL x x0 x1).2.2.2.2 i i0 i1).sub hs⟩
/-- what is kept lies apart from what changes -/
def SUB (A : Nat → Nat) (hK h : AH) : Prop := ∀ q : Nat, hK q ≠ none → h q = hK q ∧ ∀ i : Nat, i < 27 → q ≠ A i
theorem CW.sub {g : GG} {A : Nat → Nat} {h0 h hK : AH} {ng : Int} {bt : Int} {ls : Int} {ms : Int} {rm : Int} {rs : Int} {mo : Int} {sp : Int} {kp : Int} {hl : Option Nat} {tq : Int → Option Nat} {G : Int → Int → Int} {Eg : Int → Int → Int} {sz : Int → Int} {pt : Int → Int} {bd : Int → Int} {bo : Int → Int} {cp : Int → Int} {pr : Int → Int} {co : Int → Int} {pa : Int → Int} {ow : Int → Int} {wt : Int → Int} {gt : Int → Int} {pc : Int → Int} {LN : Int → Int → Option Nat} {lt : Int → Option Nat} (hC : CW g A h0 ng bt ls ms rm rs mo sp kp hl tq G Eg sz pt bd bo cp pr co pa ow wt gt pc LN lt h) (hs : SUB A hK h0) : ∀ q : Nat, hK q ≠ none → h q = hK q := fun q hq => by
  have h1 := hs q hq
  rw [← h1.1]
  exact hC.fr q (by rw [h1.1]; exact hq) h1.2
theorem HI.ak {WB NC OT AK : Int → Prop} {BS DF : Int → Int} {room : Int} {A : Nat → Nat} {bd : Int → Int} {q t L : Int} {tu wt gt : Int → Int} {tq : Int → Option Nat} (hI : HI WB NC OT AK BS DF room A bd q t tu tq wt gt L) (hc : 0 ≤ nxW wt bd 4) : AK (nxW wt bd 4) ∧ gt (nxW wt bd 4) = 0 := by
  have hr := nxW_rng wt bd 4
  have hok := (nxW_ok wt bd 4).2 (by omega)
  obtain ⟨p1, p2, p3, p4, p5, p6, p7, p8⟩ := hI
  have h1 : AK (nxW wt bd 4) ∧ t ≤ ahB bd (nxW wt bd 4) := Classical.byContradiction fun y => hok.1 (by rw [p3 _ hc (by omega), bI_f y])
  exact ⟨h1.1, (p4 _ hc (by omega)).2 h1.2⟩
theorem HI.wt {WB NC OT AK : Int → Prop} {BS DF : Int → Int} {room : Int} {A : Nat → Nat} {bd : Int → Int} {q t L : Int} {tu wt gt : Int → Int} {tq : Int → Option Nat} (hI : HI WB NC OT AK BS DF room A bd q t tu tq wt gt L) : ∀ x : Int, 0 ≤ x → x ≤ 3 → 0 ≤ wt x ∧ wt x ≤ 1 := fun x x0 x1 => by
  rw [hI.2.2.1 x x0 x1]
  exact bI_rng01 _
theorem gtS_rng (WB NC OT AK : Int → Prop) (BS DF : Int → Int) (room : Int) (bd : Int → Int) (x : Int) : 0 ≤ gtS WB NC OT AK BS DF room bd x ∧ gtS WB NC OT AK BS DF room bd x ≤ 2 := by
  unfold gtS
  have := wnt_rng WB NC OT BS x (outL WB NC OT AK BS DF room bd x)
  rcases bI_01 (srv WB NC OT AK BS DF x (outL WB NC OT AK BS DF room bd x)) with h | h <;> rw [h] <;> omega
theorem ct_takeTurn2 (l : Launch) (g : GG) (sz0 : Nat) {A : Nat → Nat} (hA : AOK A) {h0 h : AH} {ng : Int} {bt : Int} {ls : Int} {ms : Int} {rm : Int} {rs : Int} {mo : Int} {sp : Int} {kp : Int} {hl : Option Nat} {tq : Int → Option Nat} {G : Int → Int → Int} {Eg : Int → Int → Int} {sz : Int → Int} {pt : Int → Int} {bd : Int → Int} {bo : Int → Int} {cp : Int → Int} {pr : Int → Int} {co : Int → Int} {pa : Int → Int} {ow : Int → Int} {wt : Int → Int} {gt : Int → Int} {pc : Int → Int} {LN : Int → Int → Option Nat} {lt : Int → Option Nat} (hC : CW g A h0 ng bt ls ms rm rs mo sp kp hl tq G Eg sz pt bd bo cp pr co pa ow wt gt pc LN lt h) {x : Int} (x0 : 0 ≤ x) (x1 : x ≤ 3) {LE : Nat → Option Nat} {RK1 : Nat → Int → Nat} {RN : Nat → Int} {HK1 : Nat → Int → Nat} {HN : Nat → Int} {CA : Nat → Nat} {PV : Nat → Option Nat} {CF : Nat → Int → Int} {CN : Nat → Int} {La : Int → Nat} {len : Int} (hlt : lt x = ptr La len 0) (hCH : CHN g LE RK1 RN HK1 HN La len h) (hRK : ∀ i : Int, 0 ≤ i → i < len → RK g CA PV CF CN (RK1 (La i)) (RN (La i)) h) (hHK : ∀ i : Int, 0 ≤ i → i < len → RK g CA PV CF CN (HK1 (La i)) (HN (La i)) h) (hE : EOK (Eg x) (pt x)) (hrg : (0 ≤ len ∧ len ≤ 60) ∧ (0 ≤ bo x ∧ bo x ≤ 30) ∧ (0 ≤ cp x ∧ cp x ≤ 50) ∧ (0 ≤ bd x ∧ bd x ≤ 100)) {L y : Int} (hL : 0 ≤ L ∧ L ≤ 500) (hy : 0 ≤ y ∧ y ≤ 50) {WB NC OT AK : Int → Prop} {BS DF : Int → Int} (hWB : (len = 0 ∨ (bo x ≤ len - 1 ∧ y ≤ cp x)) ↔ WB x) (hOT : (0 < len ∧ ¬ (RN (La 0) = pt x ∧ allN (fun k => runP CF CN (G x) (bgF (Eg x) k) (lnF (Eg x) k) (RK1 (La 0) k)) (pt x))) ↔ OT x ∧ ¬ NC x) (hNW : NC x → WB x) (hBS : difB (G x) (Eg x) (pt x) (chP CF CN HK1 HN La 0) = BS x) (hDF : difB (G x) (Eg x) (pt x) (chP CF CN HK1 HN La len) = DF x) (ha : AK x) (hg : gt x = 0) : CT l yX3_takeTurn wsX3_takeTurn rmX3_takeTurn g sz0 [.ref (A (7 + 5 * x.toNat)), .int (iI L), .int (iI y)] h (fun v h' => ∃ (z : Int) (gt2 : Int → Int), v = some (.int (iI z)) ∧ CW g A h0 ng bt ls ms rm rs mo sp kp hl tq G Eg sz pt bd bo cp pr co pa ow wt gt2 pc LN lt h' ∧ z = bI (srv WB NC OT AK BS DF x L) * cst WB NC OT BS DF x L ∧ gt2 = upZ gt x (bI (srv WB NC OT AK BS DF x L) * wnt WB NC OT BS x L) ∧ 0 ≤ z ∧ z ≤ L) := by
  have hF := hC.fl x0 x1
  have hCL := hC.cl x0 x1
  rw [hlt] at hCL
  have hpt := hF.t
  have hd0 := difB_rng (G := G x) (P := chP CF CN HK1 HN La 0) hpt hE
  have hd1 := difB_rng (G := G x) (P := chP CF CN HK1 HN La len) hpt hE
  rw [hBS] at hd0
  rw [hDF] at hd1
  refine CT.mono (ct_X3_takeTurn l g sz0 hF hCH hCL L y (by omega) hy hrg hE hRK hHK) (fun v h' hp => ?_)
  rw [hBS, hDF] at hp
  obtain ⟨q1, q2, q3⟩ := hp
  by_cases c1 : (len = 0 ∨ (bo x ≤ len - 1 ∧ y ≤ cp x)) ∧ BS x ≤ L
  · obtain ⟨e1, e2⟩ := q1 c1
    have k := tk_1 (NC := NC) (OT := OT) (DF := DF) (hWB.mp c1.1) c1.2 ha
    subst e2
    rw [← hlt]
    refine ⟨BS x, upZ gt x 1, e1, hC.s_gt hA x0 x1, ?_, ?_, hd0.1, c1.2⟩
    · rw [bI_t k.2.2, k.2.1]; omega
    · rw [bI_t k.2.2, k.1]; rfl
  · by_cases c2 : (0 < len ∧ ¬ (RN (La 0) = pt x ∧ allN (fun k => runP CF CN (G x) (bgF (Eg x) k) (lnF (Eg x) k) (RK1 (La 0) k)) (pt x))) ∧ DF x ≤ L
    · obtain ⟨e1, e2⟩ := q2 c1 c2
      have k := tk_2 (WB := WB) (BS := BS) (fun w => c1 ⟨hWB.mpr w.1, w.2⟩) (hOT.mp c2.1) c2.2 ha
      subst e2
      rw [← hlt]
      refine ⟨DF x, upZ gt x 2, e1, hC.s_gt hA x0 x1, ?_, ?_, hd1.1, c2.2⟩
      · rw [bI_t k.2.2, k.2.1]; omega
      · rw [bI_t k.2.2, k.1]; rfl
    · obtain ⟨e1, e2⟩ := q3 c1 c2
      have k := tk_3 (AK := AK) (DF := DF) hNW (fun w => c1 ⟨hWB.mpr w.1, w.2⟩) (fun w => c2 ⟨hOT.mpr w.1, w.2⟩)
      subst e2
      refine ⟨0, gt, e1, hC, ?_, ?_, by omega, hL.1⟩
      · rw [bI_f k]; omega
      · rw [bI_f k]
        have := upZ_self gt x
        rw [hg] at this
        rw [Int.zero_mul]
        exact this.symm
