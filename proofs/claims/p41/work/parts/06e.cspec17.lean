theorem linkAdd (l : Launch) (g : GG) (sz0 : Nat) {hB : AH} {LE : Nat → Option Nat} {RK1 : Nat → Int → Nat} {RN : Nat → Int} {ho a rr rra rh rha : Nat} {CA0 : Nat → Nat} {PV0 : Nat → Option Nat} {CF0 : Nat → Int → Int} {CN0 : Nat → Int} {Ha0 : Int → Nat} {hN0 : Int} {HK1 : Nat → Int → Nat} {HN : Nat → Int} {La : Int → Nat} {len : Int} {G Eg : Int → Int} {q : Int} {CA : Nat → Nat} {PV : Nat → Option Nat} {CF : Nat → Int → Int} {CN : Nat → Int} {Ha : Int → Nat} {hN : Int} {fq1 fq2 : Int → Option Nat} {K HL : Int → Nat} {hn : Int} {h : AH} {z : Nat} {vs vo : List Value} (hCH : CHN g LE RK1 RN HK1 HN La len hB) (hlen : 0 ≤ len) (hL : LFI g hB ho a rr rra rh rha (ptr La len 0) CA0 PV0 CF0 CN0 Ha0 hN0 HK1 HN La len G Eg q CA PV CF CN Ha hN fq1 fq2 K HL hn h) (na : hB a = none) (hd : hB rr = none ∧ hB rra = none ∧ hB rh = none ∧ hB rha = none) (hne : rh ≠ rr ∧ rha ≠ rra) (hHO : hB ho = some (oE 4 vo)) (hz : h z = some (oE 1 vs)) (hq : q < 48) (hn1 : hn < 48) : CT l yX5_add wsX5_add rmX5_add g sz0 [.ref a, .ref z] h (fun v h' => v = none ∧ h' a = some (oE 5 [va_rf (ptr La len 0), .ref rr, .ref rh]) ∧ RW g rr rra (upQ fq1 q (some z)) (upK K q z) (q + 1) h' ∧ (chHas (updN HK1 a HL) (updN HN a hn) (consH a La) (len + 1) z → RW g rh rha fq2 HL hn h') ∧ (¬ chHas (updN HK1 a HL) (updN HN a hn) (consH a La) (len + 1) z → RW g rh rha (upQ fq2 hn (some z)) (upK HL hn z) (hn + 1) h') ∧ (∀ b : Nat, b ≠ rr → b ≠ rra → b ≠ rh → b ≠ rha → h' b = h b)) := by
  obtain ⟨p1, p2, p3, p4, p5, p6, p7, p8, p9, p10⟩ := hL
  have nLa : ∀ i : Int, 0 ≤ i → i < len → La i ≠ a := fun i i0 i1 w => by
    obtain ⟨_, _, _, _, _, _, r1, _, _⟩ := (hCH i i0 i1).2
    rw [w, na] at r1
    cases r1
  have hn0 : ∀ b : Nat, hB b = none → (fun b => if b = ho then none else hB b) b = none := fun b hb => by
    show (if b = ho then none else hB b) = none
    split
    · rfl
    · exact hb
  have hk : ∀ (b : Nat) (x : va_E), b ≠ ho → hB b = some x → (fun b => if b = ho then none else hB b) b = some x := fun b x hb e => (if_neg hb).trans e
  have key := ct_X5_add l g sz0 (hB := fun b => if b = ho then none else hB b) (h := h) (LE := updN LE a (ptr La len 0)) (RK1 := updN RK1 a K) (RN := updN RN a q) (HK1 := updN HK1 a HL) (HN := updN HN a hn) (La := consH a La) (len := len + 1) (rr := rr) (rra := rra) (rh := rh) (rha := rha) (fq1 := fq1) (fq2 := fq2) z (vs := vs) (by omega) (by rw [consH_0, updN_at]; exact p4) (by rw [consH_0, updN_at, updN_at]; exact p5) (by rw [consH_0, updN_at, updN_at]; exact p6) ?_ (fun b hb => ?_) (by rw [consH_0]; exact ⟨hn0 _ na, hn0 _ hd.1, hn0 _ hd.2.1⟩) hne hz (by rw [consH_0, updN_at, updN_at]; exact ⟨hq, hn1⟩)
  · rw [consH_0, updN_at, updN_at, updN_at, updN_at, updN_at] at key
    exact key
  · refine ⟨by rw [consH_0, updN_at]; exact (ptr_cons a La (by omega)).symm, fun i i0 i1 => ?_⟩
    have hc := hCH (i - 1) (by omega) (by omega)
    have hne1 := nLa (i - 1) (by omega) (by omega)
    rw [consH_s _ _ (by omega)]
    refine ⟨?_, ?_⟩
    · rw [updN_ne _ _ hne1, hc.1, ptr_cons a La (by omega), show i - 1 + 1 = i by omega]
    · obtain ⟨r1, r1a, r2, r2a, f1, f2, e1, e2, e3⟩ := hc.2
      refine ⟨r1, r1a, r2, r2a, f1, f2, ?_, ?_, ?_⟩
      · rw [updN_ne _ _ hne1]
        exact hk _ _ (oci_ne e1 hHO (by decide)) e1
      · rw [updN_ne _ _ hne1, updN_ne _ _ hne1]
        exact ⟨hk _ _ (oci_ne e2.1 hHO (by decide)) e2.1, hk _ _ (fun w => qoe_ne hHO e2.2.1 w.symm) e2.2.1, e2.2.2⟩
      · rw [updN_ne _ _ hne1, updN_ne _ _ hne1]
        exact ⟨hk _ _ (oci_ne e3.1 hHO (by decide)) e3.1, hk _ _ (fun w => qoe_ne hHO e3.2.1 w.symm) e3.2.1, e3.2.2⟩
  · have hb1 : b ≠ ho := fun w => hb (by rw [w]; exact if_pos rfl)
    have hb2 : hB b ≠ none := fun w => hb (hn0 b w)
    rw [p10 b hb2 hb1]
    exact (if_neg hb1).symm
