theorem ct_keep2 (l : Launch) (g : GG) (sz0 : Nat) {h h0 : AH} {f ac ae : Nat} {G Eg : Int → Int} {sz pt : Int} (hF : FL g f ac ae G Eg sz pt h0 h) {CA : Nat → Nat} {PV : Nat → Option Nat} {CF : Nat → Int → Int} {CN : Nat → Int} {ho : Nat} {hN : Int} {Ha : Int → Nat} (k : Int) (hk : 0 ≤ k ∧ k < pt) (hE : EOK Eg pt) (hHO : h ho = some (oE 4 [va_rf (ptr Ha hN 0), .int (iI hN)])) (hS : HS g CA PV CF CN Ha hN h) : CT l yX4_keep wsX4_keep rmX4_keep g sz0 [.ref ho, .ref f, .int (iI (bgF Eg k)), .int (iI (lnF Eg k))] h (fun v h' => ∃ (z : Nat) (CA' : Nat → Nat) (PV' : Nat → Option Nat) (CF' : Nat → Int → Int) (CN' : Nat → Int) (Ha' : Int → Nat) (hN' : Int), v = some (.ref z) ∧ HS g CA' PV' CF' CN' Ha' hN' h' ∧ h' ho = some (oE 4 [va_rf (ptr Ha' hN' 0), .int (iI hN')]) ∧ HX h CA PV CF CN Ha hN CA' PV' CF' CN' Ha' hN' ∧ inH Ha' hN' z ∧ cont (CF' z) (CN' z) = chk G Eg k ∧ (∀ b : Nat, h b ≠ none → b ≠ ho → h' b = h b) ∧ ∀ y : Nat, inH Ha' hN' y → inH Ha hN y ∨ y = z) := by
  have he := hE k hk.1 hk.2
  have hl : lnF Eg k = Eg k - bgF Eg k := rfl
  refine CT.mono (ct_X4_keep l g sz0 hF (bgF Eg k) (lnF Eg k) hHO hS.1 (by omega) hS.2.1) (fun v h' hp => ?_)
  have key : ∀ i : Int, 0 ≤ i → i < hN → (runP CF CN G (bgF Eg k) (lnF Eg k) (Ha i) ↔ cont (CF (Ha i)) (CN (Ha i)) = chk G Eg k) := fun i i0 i1 => cont_chk (hS.1 i i0 i1).2.2.2.1.1 rfl rfl (by omega)
  rcases hp with ⟨i, i0, i1, hr, hv, hh⟩ | ⟨hno, z, ca, nz, nc, hv, hC, hH, hfr⟩
  · subst hh
    exact ⟨Ha i, CA, PV, CF, CN, Ha, hN, hv, hS, hHO, HX.same _ _ _ _ _ _ _, ⟨i, i0, i1, rfl⟩, (key i i0 i1).mp hr, fun _ _ _ => rfl, fun y hy => Or.inl hy⟩
  · have hck := fun (y : Nat) (hy : inH Ha hN y) => hS.ck hy
    have hfz : ∀ y : Nat, inH Ha hN y → h' y = h y ∧ h' (CA y) = h (CA y) := fun y hy => ⟨hfr y (oci_ne (hck y hy).1 hHO (by decide)) (sm_ne (hck y hy).1), hfr (CA y) (fun w => ioe_ne hHO (hck y hy).2.1 w.symm) (sm_ne (hck y hy).2.1)⟩
    refine ⟨z, updN CA z ca, updN PV z (ptr Ha hN 0), updN CF z (filC G (bgF Eg k) (lnF Eg k)), updN CN z (lnF Eg k), consH z Ha, hN + 1, hv, hS.add nz hfz hC (fun i i0 i1 y => ?_), ?_, HX.add (fun y hy w => ?_) nz nc, ⟨0, by omega, by have := hS.2.1; omega, consH_0 _ _⟩, ?_, fun b b0 b1 => hfr b b1 b0, fun y hy => ?_⟩
    · rw [cont_filC] at y
      exact hno i i0 i1 ((key i i0 i1).mpr y)
    · rw [hH]
      have : ptr (consH z Ha) (hN + 1) 0 = some z := by rw [ptr_in (by have := hS.2.1; omega), consH_0]
      rw [this]
      rfl
    · have := (hck y hy).1
      rw [w, nz] at this
      cases this
    · rw [updN_at, updN_at]
      exact cont_filC G Eg
    · obtain ⟨i, i0, i1, e⟩ := hy
      by_cases w : i = 0
      · rw [w, consH_0] at e
        exact Or.inr e.symm
      · rw [consH_s _ _ w] at e
        exact Or.inl ⟨i - 1, by omega, by omega, e⟩
/-- a part that the new link holds -/
def flg (CF : Nat → Int → Int) (CN : Nat → Int) (HK1 : Nat → Int → Nat) (HN : Nat → Int) (La : Int → Nat) (len : Int) (G Eg : Int → Int) (j : Int) : Prop := fstC (chk G Eg) j ∧ ¬ chP CF CN HK1 HN La len (chk G Eg j)
/-- a link that is being made: q parts are in it -/
def LFI (g : GG) (hB : AH) (ho a rr rra rh rha : Nat) (eo : Option Nat) (CA0 : Nat → Nat) (PV0 : Nat → Option Nat) (CF0 : Nat → Int → Int) (CN0 : Nat → Int) (Ha0 : Int → Nat) (hN0 : Int) (HK1 : Nat → Int → Nat) (HN : Nat → Int) (La : Int → Nat) (len : Int) (G Eg : Int → Int) (q : Int) (CA : Nat → Nat) (PV : Nat → Option Nat) (CF : Nat → Int → Int) (CN : Nat → Int) (Ha : Int → Nat) (hN : Int) (fq1 fq2 : Int → Option Nat) (K HL : Int → Nat) (hn : Int) (h : AH) : Prop :=
  HS g CA PV CF CN Ha hN h ∧ h ho = some (oE 4 [va_rf (ptr Ha hN 0), .int (iI hN)]) ∧ HX hB CA0 PV0 CF0 CN0 Ha0 hN0 CA PV CF CN Ha hN ∧ h a = some (oE 5 [va_rf eo, .ref rr, .ref rh]) ∧ RW g rr rra fq1 K q h ∧ RW g rh rha fq2 HL hn h ∧ (∀ j : Int, 0 ≤ j → j < q → inH Ha hN (K j) ∧ cont (CF (K j)) (CN (K j)) = chk G Eg j) ∧ hn = sumZ (fun j => bI (flg CF0 CN0 HK1 HN La len G Eg j)) q.toNat ∧ (∀ j : Int, 0 ≤ j → j < q → flg CF0 CN0 HK1 HN La len G Eg j → HL (sumZ (fun j => bI (flg CF0 CN0 HK1 HN La len G Eg j)) j.toNat) = K j) ∧ ∀ b : Nat, hB b ≠ none → b ≠ ho → h b = hB b
section
variable {g : GG} {hB : AH} {ho a rr rra rh rha : Nat} {eo : Option Nat} {CA0 : Nat → Nat} {PV0 : Nat → Option Nat} {CF0 : Nat → Int → Int} {CN0 : Nat → Int} {Ha0 : Int → Nat} {hN0 : Int} {HK1 : Nat → Int → Nat} {HN : Nat → Int} {La : Int → Nat} {len : Int} {G Eg : Int → Int} {q : Int} {CA : Nat → Nat} {PV : Nat → Option Nat} {CF : Nat → Int → Int} {CN : Nat → Int} {Ha : Int → Nat} {hN : Int} {fq1 fq2 : Int → Option Nat} {K HL : Int → Nat} {hn : Int} {h h' : AH} {CA' : Nat → Nat} {PV' : Nat → Option Nat} {CF' : Nat → Int → Int} {CN' : Nat → Int} {Ha' : Int → Nat} {hN' : Int}
/-- the house has kept a chunk meanwhile -/
theorem LFI.keep (hL : LFI g hB ho a rr rra rh rha eo CA0 PV0 CF0 CN0 Ha0 hN0 HK1 HN La len G Eg q CA PV CF CN Ha hN fq1 fq2 K HL hn h) (hsub : hB ho ≠ none) (hS' : HS g CA' PV' CF' CN' Ha' hN' h') (hH' : h' ho = some (oE 4 [va_rf (ptr Ha' hN' 0), .int (iI hN')])) (hX : HX h CA PV CF CN Ha hN CA' PV' CF' CN' Ha' hN') (hfr : ∀ b : Nat, h b ≠ none → b ≠ ho → h' b = h b) : LFI g hB ho a rr rra rh rha eo CA0 PV0 CF0 CN0 Ha0 hN0 HK1 HN La len G Eg q CA' PV' CF' CN' Ha' hN' fq1 fq2 K HL hn h' := by
  obtain ⟨p1, p2, p3, p4, p5, p6, p7, p8, p9, p10⟩ := hL
  have sub : ∀ b : Nat, hB b ≠ none → h b ≠ none := fun b hb => by
    by_cases z : b = ho
    · rw [z, p2]; exact fun y => by cases y
    · rw [p10 b hb z]; exact hb
  refine ⟨hS', hH', p3.trans hX sub, (hfr a (sm_ne p4) (oci_ne p4 p2 (by decide))).trans p4, p5.mv (hfr rr (sm_ne p5.1) (oci_ne p5.1 p2 (by decide))) (hfr rra (sm_ne p5.2.1) (fun z => qoe_ne p2 p5.2.1 z.symm)), p6.mv (hfr rh (sm_ne p6.1) (oci_ne p6.1 p2 (by decide))) (hfr rha (sm_ne p6.2.1) (fun z => qoe_ne p2 p6.2.1 z.symm)), fun j j0 j1 => ?_, p8, p9, fun b b0 b1 => (hfr b (sub b b0) b1).trans (p10 b b0 b1)⟩
  have h1 := p7 j j0 j1
  have h2 := hX.1 (K j) h1.1
  exact ⟨h2.1, by rw [h2.2.2.2.1, h2.2.2.2.2]; exact h1.2⟩
/-- the new link, or one behind it, holds the chunk: just when the part isn't to be held anew -/
theorem LFI.has {z : Nat} {LA : Int → Nat} {HK2 : Nat → Int → Nat} {HN2 : Nat → Int} (hL : LFI g hB ho a rr rra rh rha eo CA0 PV0 CF0 CN0 Ha0 hN0 HK1 HN La len G Eg q CA PV CF CN Ha hN fq1 fq2 K HL hn h) (hq : 0 ≤ q) (hz : inH Ha hN z) (hc : cont (CF z) (CN z) = chk G Eg q) (hch : ∀ i : Int, 0 ≤ i → i < len → ∀ j : Int, 0 ≤ j → j < HN (La i) → inH Ha0 hN0 (HK1 (La i) j)) (eA : LA 0 = a) (e0 : HK2 a = HL) (e1 : HN2 a = hn) (e2 : ∀ i : Int, 0 ≤ i → i < len → LA (i + 1) = La i ∧ HK2 (La i) = HK1 (La i) ∧ HN2 (La i) = HN (La i)) (hlen : 0 ≤ len) : chHas HK2 HN2 LA (len + 1) z ↔ ¬ flg CF0 CN0 HK1 HN La len G Eg q := by
  obtain ⟨p1, p2, p3, p4, p5, p6, p7, p8, p9, p10⟩ := hL
  have kch : ∀ i : Int, 0 ≤ i → i < len → ∀ j : Int, 0 ≤ j → j < HN (La i) → (HK1 (La i) j = z ↔ cont (CF0 (HK1 (La i) j)) (CN0 (HK1 (La i) j)) = chk G Eg q) := fun i i0 i1 j j0 j1 => by
    have h1 := hch i i0 i1 j j0 j1
    have h2 := p3.1 _ h1
    rw [← h2.2.2.2.1, ← h2.2.2.2.2]
    constructor
    · intro e; rw [e]; exact hc
    · intro e; exact p1.inj h2.1 hz (e.trans hc.symm)
  have kro : ∀ j : Int, 0 ≤ j → j < q → (K j = z ↔ chk G Eg j = chk G Eg q) := fun j j0 j1 => by
    have h1 := p7 j j0 j1
    rw [← h1.2, ← hc]
    constructor
    · intro e; rw [e]
    · intro e; exact p1.inj h1.1 hz e
  constructor
  · rintro ⟨i, i0, i1, j, j0, j1, e⟩ hfl
    by_cases y : i = 0
    · subst y
      rw [eA, e1] at j1
      replace e : HK2 (LA 0) j = z := e
      rw [eA, e0] at e
      rw [p8] at j1
      obtain ⟨t, t0, t1, t2, t3⟩ := cnt_surj j0 j1
      have := p9 t t0 (by omega) t2
      rw [t3, e] at this
      exact hfl.1 t t0 (by omega) ((kro t t0 (by omega)).mp this.symm)
    · have h2 := e2 (i - 1) (by omega) (by omega)
      rw [show i - 1 + 1 = i by omega] at h2
      rw [h2.1, h2.2.2] at j1
      replace e : HK2 (LA i) j = z := e
      rw [h2.1, h2.2.1] at e
      exact hfl.2 ⟨i - 1, by omega, by omega, j, j0, j1, (kch _ (by omega) (by omega) j j0 j1).mp e⟩
  · intro hnf
    by_cases y : chP CF0 CN0 HK1 HN La len (chk G Eg q)
    · obtain ⟨i, i0, i1, j, j0, j1, e⟩ := y
      have h2 := e2 i i0 i1
      refine ⟨i + 1, by omega, by omega, j, j0, by rw [h2.1, h2.2.2]; exact j1, ?_⟩
      show HK2 (LA (i + 1)) j = z
      rw [h2.1, h2.2.1]
      exact (kch i i0 i1 j j0 j1).mpr e
    · have hnfst : ¬ fstC (chk G Eg) q := fun w => hnf ⟨w, y⟩
      -- the first of these bytes
      have ex : ∀ n : Nat, (∃ j : Int, 0 ≤ j ∧ j < (n : Int) ∧ chk G Eg j = chk G Eg q) → ∃ j : Int, 0 ≤ j ∧ j < (n : Int) ∧ chk G Eg j = chk G Eg q ∧ fstC (chk G Eg) j := by
        intro n
        induction n with
        | zero => rintro ⟨j, j0, j1, _⟩; omega
        | succ n ih =>
          rintro ⟨j, j0, j1, e⟩
          by_cases w : ∃ j : Int, 0 ≤ j ∧ j < (n : Int) ∧ chk G Eg j = chk G Eg q
          · obtain ⟨t, t0, t1, t2, t3⟩ := ih w
            exact ⟨t, t0, by omega, t2, t3⟩
          · have hj : j = (n : Int) := by
              by_cases v : j < (n : Int)
              · exact absurd ⟨j, j0, v, e⟩ w
              · omega
            refine ⟨j, j0, j1, e, fun t t0 t1 s => w ⟨t, t0, by omega, ?_⟩⟩
            exact (show chk G Eg t = chk G Eg j from s).trans e
      have hex : ∃ j : Int, 0 ≤ j ∧ j < ((q.toNat : Nat) : Int) ∧ chk G Eg j = chk G Eg q := Classical.byContradiction fun w => hnfst fun t t0 t1 s => w ⟨t, t0, by omega, s⟩
      obtain ⟨t, t0, t1, t2, t3⟩ := ex q.toNat hex
      have hft : flg CF0 CN0 HK1 HN La len G Eg t := ⟨t3, by rw [t2]; exact y⟩
      have htq : t < q := by omega
      refine ⟨0, by omega, by omega, sumZ (fun j => bI (flg CF0 CN0 HK1 HN La len G Eg j)) t.toNat, (cnt_le _ _).1, ?_, ?_⟩
      · rw [eA, e1, p8]
        exact cnt_lt t0 htq hft
      · show HK2 (LA 0) _ = z
        rw [eA, e0, p9 t t0 htq hft]
        exact (kro t t0 htq).mpr t2
/-- one part more -/
theorem LFI.add {z : Nat} {HAS : Prop} (hL : LFI g hB ho a rr rra rh rha eo CA0 PV0 CF0 CN0 Ha0 hN0 HK1 HN La len G Eg q CA PV CF CN Ha hN fq1 fq2 K HL hn h) (hq : 0 ≤ q ∧ q < 48) (hz : inH Ha hN z) (hc : cont (CF z) (CN z) = chk G Eg q) (hhas : HAS ↔ ¬ flg CF0 CN0 HK1 HN La len G Eg q) (hd : hB rr = none ∧ hB rra = none ∧ hB rh = none ∧ hB rha = none) (q1 : h' a = some (oE 5 [va_rf eo, .ref rr, .ref rh])) (q2 : RW g rr rra (upQ fq1 q (some z)) (upK K q z) (q + 1) h') (q3 : HAS → RW g rh rha fq2 HL hn h') (q4 : ¬ HAS → RW g rh rha (upQ fq2 hn (some z)) (upK HL hn z) (hn + 1) h') (q5 : ∀ b : Nat, b ≠ rr → b ≠ rra → b ≠ rh → b ≠ rha → h' b = h b) : ∃ (fq2' : Int → Option Nat) (HL' : Int → Nat) (hn' : Int), LFI g hB ho a rr rra rh rha eo CA0 PV0 CF0 CN0 Ha0 hN0 HK1 HN La len G Eg (q + 1) CA PV CF CN Ha hN (upQ fq1 q (some z)) fq2' (upK K q z) HL' hn' h' := by
  obtain ⟨p1, p2, p3, p4, p5, p6, p7, p8, p9, p10⟩ := hL
  have hS' : HS g CA PV CF CN Ha hN h' := p1.mv (fun y hy => by
    have hk := p1.ck hy
    exact ⟨q5 y (oci_ne hk.1 p5.1 (by decide)) (qoe_ne hk.1 p5.2.1) (oci_ne hk.1 p6.1 (by decide)) (qoe_ne hk.1 p6.2.1), q5 (CA y) (fun w => ioe_ne p5.1 hk.2.1 w.symm) (fun w => qie_ne p5.2.1 hk.2.1 w.symm) (fun w => ioe_ne p6.1 hk.2.1 w.symm) (fun w => qie_ne p6.2.1 hk.2.1 w.symm)⟩)
  have hho : h' ho = some (oE 4 [va_rf (ptr Ha hN 0), .int (iI hN)]) := (q5 ho (oci_ne p2 p5.1 (by decide)) (qoe_ne p2 p5.2.1) (oci_ne p2 p6.1 (by decide)) (qoe_ne p2 p6.2.1)).trans p2
  have hfr : ∀ b : Nat, hB b ≠ none → b ≠ ho → h' b = hB b := fun b b0 b1 => (q5 b (fun w => b0 (by rw [w]; exact hd.1)) (fun w => b0 (by rw [w]; exact hd.2.1)) (fun w => b0 (by rw [w]; exact hd.2.2.1)) (fun w => b0 (by rw [w]; exact hd.2.2.2))).trans (p10 b b0 b1)
  have hrow : ∀ j : Int, 0 ≤ j → j < q + 1 → inH Ha hN (upK K q z j) ∧ cont (CF (upK K q z j)) (CN (upK K q z j)) = chk G Eg j := fun j j0 j1 => by
    by_cases y : j = q
    · have : upK K q z j = z := if_pos y
      rw [this, y]; exact ⟨hz, hc⟩
    · have : upK K q z j = K j := if_neg y
      rw [this]; exact p7 j j0 (by omega)
  have hs := sumZ_s (fun j => bI (flg CF0 CN0 HK1 HN La len G Eg j)) hq.1
  by_cases y : HAS
  · have hnf := hhas.mp y
    refine ⟨fq2, HL, hn, hS', hho, p3, q1, q2, q3 y, hrow, by rw [hs, bI_f hnf, p8]; omega, fun j j0 j1 hf => ?_, hfr⟩
    have hjq : ¬ j = q := fun w => by rw [w] at hf; exact hnf hf
    have : upK K q z j = K j := if_neg hjq
    rw [this]; exact p9 j j0 (by omega) hf
  · have hf0 : flg CF0 CN0 HK1 HN La len G Eg q := Classical.byContradiction fun w => y (hhas.mpr w)
    refine ⟨upQ fq2 hn (some z), upK HL hn z, hn + 1, hS', hho, p3, q1, q2, q4 y, hrow, by rw [hs, bI_t hf0, p8], fun j j0 j1 hf => ?_, hfr⟩
    by_cases w : j = q
    · rw [w, ← p8]
      have e1 : upK HL hn z hn = z := if_pos rfl
      have e2 : upK K q z q = z := if_pos rfl
      rw [e1, e2]
    · have e2 : upK K q z j = K j := if_neg w
      have hlt := cnt_lt (P := flg CF0 CN0 HK1 HN La len G Eg) j0 (show j < q by omega) hf
      have e1 : ∀ t : Int, t < hn → upK HL hn z t = HL t := fun t ht => if_neg (by omega)
      rw [e2, e1 _ (by rw [p8]; exact hlt)]
      exact p9 j j0 (by omega) hf
end
