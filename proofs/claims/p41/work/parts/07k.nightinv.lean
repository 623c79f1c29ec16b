/-- a link made in this night -/
def NWL (g : GG) (hZ : AH) (LE1 : Nat → Option Nat) (RK2 : Nat → Int → Nat) (RN2 : Nat → Int) (HK2 : Nat → Int → Nat) (HN2 : Nat → Int) (CA1 : Nat → Nat) (PV1 : Nat → Option Nat) (CF1 : Nat → Int → Int) (CN1 : Nat → Int) (Ha1 : Int → Nat) (hN1 : Int) (eo : Option Nat) (Gx Ex : Int → Int) (n : Int) (FLG : Int → Prop) (a : Nat) (h : AH) : Prop := (∃ (rr rra rh rha : Nat) (fq1 fq2 : Int → Option Nat), (hZ a = none ∧ hZ rr = none ∧ hZ rra = none ∧ hZ rh = none ∧ hZ rha = none) ∧ h a = some (oE 5 [va_rf (LE1 a), .ref rr, .ref rh]) ∧ RW g rr rra fq1 (RK2 a) (RN2 a) h ∧ RW g rh rha fq2 (HK2 a) (HN2 a) h) ∧ LE1 a = eo ∧ RN2 a = n ∧ (∀ k : Int, 0 ≤ k → k < n → inH Ha1 hN1 (RK2 a k) ∧ cont (CF1 (RK2 a k)) (CN1 (RK2 a k)) = chk Gx Ex k) ∧ HN2 a = sumZ (fun k => bI (FLG k)) n.toNat ∧ ∀ k : Int, 0 ≤ k → k < n → FLG k → HK2 a (sumZ (fun k => bI (FLG k)) k.toNat) = RK2 a k
/-- the class behind q clients of a night -/
def NIs (g : GG) (hZ hK : AH) (LE : Nat → Option Nat) (RK1 : Nat → Int → Nat) (RN : Nat → Int) (HK1 : Nat → Int → Nat) (HN : Nat → Int) (CA : Nat → Nat) (PV : Nat → Option Nat) (CF : Nat → Int → Int) (CN : Nat → Int) (Ha : Int → Nat) (hN : Int) (mpaid : Int → Int) (LN : Int → Int → Option Nat) (lt : Int → Option Nat) (eo : Int → Option Nat) (G E : Int → Int → Int) (n : Int → Int) (FLG : Int → Int → Prop) (gt1 BP : Int → Int) (ng q : Int) (LE1 : Nat → Option Nat) (RK2 : Nat → Int → Nat) (RN2 : Nat → Int) (HK2 : Nat → Int → Nat) (HN2 : Nat → Int) (CA1 : Nat → Nat) (PV1 : Nat → Option Nat) (CF1 : Nat → Int → Int) (CN1 : Nat → Int) (Ha1 : Int → Nat) (hN1 : Int) (LN1 : Int → Int → Option Nat) (lt1 : Int → Option Nat) (pa1 : Int → Int) (h : AH) : Prop :=
  HS g CA1 PV1 CF1 CN1 Ha1 hN1 h ∧ HX hZ CA PV CF CN Ha hN CA1 PV1 CF1 CN1 Ha1 hN1 ∧ (∀ a : Nat, hK a ≠ none → LE1 a = LE a ∧ RK2 a = RK1 a ∧ RN2 a = RN a ∧ HK2 a = HK1 a ∧ HN2 a = HN a) ∧ (∀ y : Int, 0 ≤ y → y ≤ 3 → (y < q ∧ ¬ gt1 y = 0 → ∃ a : Nat, LN1 y = upQ (LN y) ng (some a) ∧ lt1 y = some a ∧ pa1 y = mpaid y + BP y ∧ NWL g hZ LE1 RK2 RN2 HK2 HN2 CA1 PV1 CF1 CN1 Ha1 hN1 (eo y) (G y) (E y) (n y) (FLG y) a h) ∧ (¬ (y < q ∧ ¬ gt1 y = 0) → LN1 y = LN y ∧ lt1 y = lt y ∧ pa1 y = mpaid y)) ∧ ∀ z : Nat, inH Ha1 hN1 z → inH Ha hN z ∨ ∃ (y : Int) (a : Nat) (i : Int), (0 ≤ y ∧ y ≤ 3) ∧ LN1 y ng = some a ∧ (0 ≤ i ∧ i < HN2 a) ∧ HK2 a i = z
section
variable {g : GG} {hZ hK h h' : AH} {LE : Nat → Option Nat} {RK1 : Nat → Int → Nat} {RN : Nat → Int} {HK1 : Nat → Int → Nat} {HN : Nat → Int} {CA : Nat → Nat} {PV : Nat → Option Nat} {CF : Nat → Int → Int} {CN : Nat → Int} {Ha : Int → Nat} {hN : Int} {mpaid : Int → Int} {LN : Int → Int → Option Nat} {lt : Int → Option Nat} {eo : Int → Option Nat} {G E : Int → Int → Int} {n : Int → Int} {FLG : Int → Int → Prop} {gt1 BP : Int → Int} {ng q : Int} {LE1 : Nat → Option Nat} {RK2 : Nat → Int → Nat} {RN2 : Nat → Int} {HK2 : Nat → Int → Nat} {HN2 : Nat → Int} {CA1 : Nat → Nat} {PV1 : Nat → Option Nat} {CF1 : Nat → Int → Int} {CN1 : Nat → Int} {Ha1 : Int → Nat} {hN1 : Int} {LN1 : Int → Int → Option Nat} {lt1 : Int → Option Nat} {pa1 : Int → Int}
theorem NIs.init (hS : HS g CA PV CF CN Ha hN h) : NIs g hZ hK LE RK1 RN HK1 HN CA PV CF CN Ha hN mpaid LN lt eo G E n FLG gt1 BP ng 0 LE RK1 RN HK1 HN CA PV CF CN Ha hN LN lt mpaid h :=
  ⟨hS, HX.same _ _ _ _ _ _ _, fun _ _ => ⟨rfl, rfl, rfl, rfl, rfl⟩, fun y y0 y1 => ⟨fun w => absurd w.1 (by omega), fun _ => ⟨rfl, rfl, rfl⟩⟩, fun z hz => Or.inl hz⟩
theorem NIs.skip (hq : 0 ≤ q) (hg : gt1 q = 0) (hI : NIs g hZ hK LE RK1 RN HK1 HN CA PV CF CN Ha hN mpaid LN lt eo G E n FLG gt1 BP ng q LE1 RK2 RN2 HK2 HN2 CA1 PV1 CF1 CN1 Ha1 hN1 LN1 lt1 pa1 h) : NIs g hZ hK LE RK1 RN HK1 HN CA PV CF CN Ha hN mpaid LN lt eo G E n FLG gt1 BP ng (q + 1) LE1 RK2 RN2 HK2 HN2 CA1 PV1 CF1 CN1 Ha1 hN1 LN1 lt1 pa1 h := by
  obtain ⟨p1, p2, p3, p4, p5⟩ := hI
  refine ⟨p1, p2, p3, fun y y0 y1 => ⟨fun w => (p4 y y0 y1).1 ⟨?_, w.2⟩, fun w => (p4 y y0 y1).2 fun v => w ⟨by omega, v.2⟩⟩, p5⟩
  by_cases e : y = q
  · rw [e] at w; exact absurd hg w.2
  · omega
theorem NWL.mv {eo0 : Option Nat} {Gx Ex : Int → Int} {m : Int} {F : Int → Prop} {a b : Nat} {eb : Option Nat} {Kb HLb : Int → Nat} {nb hb : Int} {CA2 : Nat → Nat} {PV2 : Nat → Option Nat} {CF2 : Nat → Int → Int} {CN2 : Nat → Int} {Ha2 : Int → Nat} {hN2 : Int} {hW : AH} (hNW : NWL g hZ LE1 RK2 RN2 HK2 HN2 CA1 PV1 CF1 CN1 Ha1 hN1 eo0 Gx Ex m F a h) (hne : a ≠ b) (hX : HX hW CA1 PV1 CF1 CN1 Ha1 hN1 CA2 PV2 CF2 CN2 Ha2 hN2) (hfr : ∀ q : Nat, hZ q = none → h q ≠ none → h' q = h q) : NWL g hZ (updN LE1 b eb) (updN RK2 b Kb) (updN RN2 b nb) (updN HK2 b HLb) (updN HN2 b hb) CA2 PV2 CF2 CN2 Ha2 hN2 eo0 Gx Ex m F a h' := by
  obtain ⟨⟨rr, rra, rh, rha, fq1, fq2, d, q1, q2, q3⟩, p2, p3, p4, p5, p6⟩ := hNW
  refine ⟨⟨rr, rra, rh, rha, fq1, fq2, d, ?_, ?_, ?_⟩, ?_, ?_, fun k k0 k1 => ?_, ?_, fun k k0 k1 kf => ?_⟩
  · rw [updN_ne _ _ hne]; exact (hfr a d.1 (sm_ne q1)).trans q1
  · rw [updN_ne _ _ hne, updN_ne _ _ hne]; exact q2.mv (hfr rr d.2.1 (sm_ne q2.1)) (hfr rra d.2.2.1 (sm_ne q2.2.1))
  · rw [updN_ne _ _ hne, updN_ne _ _ hne]; exact q3.mv (hfr rh d.2.2.2.1 (sm_ne q3.1)) (hfr rha d.2.2.2.2 (sm_ne q3.2.1))
  · rw [updN_ne _ _ hne]; exact p2
  · rw [updN_ne _ _ hne]; exact p3
  · rw [updN_ne _ _ hne]
    have h4 := p4 k k0 k1
    have h5 := hX.1 _ h4.1
    exact ⟨h5.1, by rw [h5.2.2.2.1, h5.2.2.2.2]; exact h4.2⟩
  · rw [updN_ne _ _ hne]; exact p5
  · rw [updN_ne _ _ hne, updN_ne _ _ hne]; exact p6 k k0 k1 kf
theorem NIs.serve {a rr rra rh rha : Nat} {CA2 : Nat → Nat} {PV2 : Nat → Option Nat} {CF2 : Nat → Int → Int} {CN2 : Nat → Int} {Ha2 : Int → Nat} {hN2 : Int} {fq1 fq2 : Int → Option Nat} {K HL2 : Int → Nat} {nH : Int} {FX : Int → Prop} (hq : 0 ≤ q ∧ q ≤ 3) (hg : ¬ gt1 q = 0) (hI : NIs g hZ hK LE RK1 RN HK1 HN CA PV CF CN Ha hN mpaid LN lt eo G E n FLG gt1 BP ng q LE1 RK2 RN2 HK2 HN2 CA1 PV1 CF1 CN1 Ha1 hN1 LN1 lt1 pa1 h) (hsub : ∀ b : Nat, hZ b ≠ none → h b ≠ none) (hKZ : ∀ b : Nat, hK b ≠ none → hZ b ≠ none) (hd : h a = none ∧ h rr = none ∧ h rra = none ∧ h rh = none ∧ h rha = none) (hfr : ∀ b : Nat, hZ b = none → h b ≠ none → h' b = h b) (hFX : ∀ k : Int, 0 ≤ k → k < n q → (FX k ↔ FLG q k)) (s1 : HS g CA2 PV2 CF2 CN2 Ha2 hN2 h') (s2 : HX h CA1 PV1 CF1 CN1 Ha1 hN1 CA2 PV2 CF2 CN2 Ha2 hN2) (s3 : h' a = some (oE 5 [va_rf (eo q), .ref rr, .ref rh])) (s4 : RW g rr rra fq1 K (n q) h') (s5 : RW g rh rha fq2 HL2 nH h') (s6 : ∀ j : Int, 0 ≤ j → j < n q → inH Ha2 hN2 (K j) ∧ cont (CF2 (K j)) (CN2 (K j)) = chk (G q) (E q) j) (s7 : nH = sumZ (fun j => bI (FX j)) (n q).toNat) (s8 : ∀ j : Int, 0 ≤ j → j < n q → FX j → HL2 (sumZ (fun j => bI (FX j)) j.toNat) = K j) (hall : ∀ z : Nat, inH Ha2 hN2 z → inH Ha1 hN1 z ∨ ∃ i : Int, 0 ≤ i ∧ i < nH ∧ HL2 i = z) (hn : 0 ≤ n q) (hLN : ∀ y : Int, 0 ≤ y → y ≤ 3 → LN y ng = none) : NIs g hZ hK LE RK1 RN HK1 HN CA PV CF CN Ha hN mpaid LN lt eo G E n FLG gt1 BP ng (q + 1) (updN LE1 a (eo q)) (updN RK2 a K) (updN RN2 a (n q)) (updN HK2 a HL2) (updN HN2 a nH) CA2 PV2 CF2 CN2 Ha2 hN2 (upL LN1 q (upQ (LN1 q) ng (some a))) (upQ lt1 q (some a)) (upZ pa1 q (pa1 q + BP q)) h' := by
  obtain ⟨p1, p2, p3, p4, p5⟩ := hI
  have nz : ∀ b : Nat, h b = none → hZ b = none := fun b hb => Classical.byContradiction fun y => hsub b y hb
  have hsum : ∀ k : Int, 0 ≤ k → k ≤ n q → sumZ (fun j => bI (FX j)) k.toNat = sumZ (fun j => bI (FLG q j)) k.toNat := fun k k0 k1 => sumZ_congr fun j j0 j1 => by rw [bI_eq (hFX j j0 (by omega))]
  have hq4 := (p4 q hq.1 hq.2).2 (fun w => by omega)
  have hoth : ∀ (y : Int) (b : Nat), NWL g hZ LE1 RK2 RN2 HK2 HN2 CA1 PV1 CF1 CN1 Ha1 hN1 (eo y) (G y) (E y) (n y) (FLG y) b h → b ≠ a := fun y b hb e => by
    obtain ⟨⟨_, _, _, _, _, _, _, w, _, _⟩, _⟩ := hb
    rw [e, hd.1] at w
    cases w
  have hnoq : ∀ {b : Nat}, LN q ng = some b → False := fun hb => by rw [hLN q hq.1 hq.2] at hb; cases hb
  have hstd : ∀ (y : Int) (b : Nat), 0 ≤ y ∧ y ≤ 3 → LN1 y ng = some b → b ≠ a := fun y b hy hb => by
    by_cases w : y < q ∧ ¬ gt1 y = 0
    · obtain ⟨b', c1, c2, c3, c4⟩ := (p4 y hy.1 hy.2).1 w
      rw [c1, upQ_at] at hb
      obtain rfl := Option.some.inj hb
      exact hoth y _ c4
    · rw [((p4 y hy.1 hy.2).2 w).1, hLN y hy.1 hy.2] at hb
      cases hb
  refine ⟨s1, p2.trans s2 hsub, fun b hb => ?_, fun y y0 y1 => ?_, fun z hz => ?_⟩
  · have hne : b ≠ a := fun e => hKZ b hb (by rw [e]; exact nz a hd.1)
    rw [updN_ne _ _ hne, updN_ne _ _ hne, updN_ne _ _ hne, updN_ne _ _ hne, updN_ne _ _ hne]
    exact p3 b hb
  · by_cases e : y = q
    · subst e
      refine ⟨fun _ => ⟨a, ?_, upQ_at _ _ _, ?_, ?_⟩, fun w => absurd ⟨by omega, hg⟩ w⟩
      · show (if y = y then _ else _) = _
        rw [if_pos rfl, hq4.1]
      · rw [upZ_at, hq4.2.2]
      · refine ⟨⟨rr, rra, rh, rha, fq1, fq2, ⟨nz _ hd.1, nz _ hd.2.1, nz _ hd.2.2.1, nz _ hd.2.2.2.1, nz _ hd.2.2.2.2⟩, ?_, ?_, ?_⟩, updN_at _ _ _, updN_at _ _ _, fun k k0 k1 => ?_, ?_, fun k k0 k1 kf => ?_⟩
        · rw [updN_at]; exact s3
        · rw [updN_at, updN_at]; exact s4
        · rw [updN_at, updN_at]; exact s5
        · rw [updN_at]; exact s6 k k0 k1
        · rw [updN_at, s7]; exact hsum _ hn (Int.le_refl _)
        · rw [updN_at, updN_at, ← hsum k k0 (by omega)]
          exact s8 k k0 k1 ((hFX k k0 k1).mpr kf)
    · have e1 : upL LN1 q (upQ (LN1 q) ng (some a)) y = LN1 y := if_neg e
      rw [e1, upQ_ne _ _ e, upZ_ne _ _ e]
      refine ⟨fun w => ?_, fun w => (p4 y y0 y1).2 fun v => w ⟨by omega, v.2⟩⟩
      obtain ⟨b, b1, b2, b3, b4⟩ := (p4 y y0 y1).1 ⟨by omega, w.2⟩
      exact ⟨b, b1, b2, b3, b4.mv (hoth y b b4) s2 hfr⟩
  · rcases hall z hz with w | ⟨i, i0, i1, e⟩
    · rcases p5 z w with v | ⟨y, b, i, y0, b1, b2, b3⟩
      · exact Or.inl v
      · right
        -- an earlier link of this night, or an old one
        refine ⟨y, b, i, y0, ?_, ?_⟩
        · by_cases e : y = q
          · exfalso
            rw [e, hq4.1] at b1
            exact hnoq b1
          · have e1 : upL LN1 q (upQ (LN1 q) ng (some a)) y = LN1 y := if_neg e
            rw [e1]; exact b1
        · have hne : b ≠ a := hstd y b y0 b1
          rw [updN_ne _ _ hne, updN_ne _ _ hne]
          exact ⟨b2, b3⟩
    · refine Or.inr ⟨q, a, i, hq, ?_, ?_⟩
      · have e1 : upL LN1 q (upQ (LN1 q) ng (some a)) q = upQ (LN1 q) ng (some a) := if_pos rfl
        rw [e1, upQ_at]
      · rw [updN_at, updN_at]
        exact ⟨⟨i0, i1⟩, e⟩
/-- a write to another part -/
theorem NIs.top (hI : NIs g hZ hK LE RK1 RN HK1 HN CA PV CF CN Ha hN mpaid LN lt eo G E n FLG gt1 BP ng q LE1 RK2 RN2 HK2 HN2 CA1 PV1 CF1 CN1 Ha1 hN1 LN1 lt1 pa1 h) (hfz : ∀ z : Nat, inH Ha1 hN1 z → h' z = h z ∧ h' (CA1 z) = h (CA1 z)) (hfr : ∀ b : Nat, hZ b = none → h' b = h b) : NIs g hZ hK LE RK1 RN HK1 HN CA PV CF CN Ha hN mpaid LN lt eo G E n FLG gt1 BP ng q LE1 RK2 RN2 HK2 HN2 CA1 PV1 CF1 CN1 Ha1 hN1 LN1 lt1 pa1 h' := by
  obtain ⟨p1, p2, p3, p4, p5⟩ := hI
  refine ⟨p1.mv hfz, p2, p3, fun y y0 y1 => ⟨fun w => ?_, (p4 y y0 y1).2⟩, p5⟩
  obtain ⟨a, a1, a2, a3, ⟨rr, rra, rh, rha, fq1, fq2, d, q1, q2, q3⟩, a5⟩ := (p4 y y0 y1).1 w
  exact ⟨a, a1, a2, a3, ⟨rr, rra, rh, rha, fq1, fq2, d, (hfr a d.1).trans q1, q2.mv (hfr rr d.2.1) (hfr rra d.2.2.1), q3.mv (hfr rh d.2.2.2.1) (hfr rha d.2.2.2.2)⟩, a5⟩
end
