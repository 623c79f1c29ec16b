section
variable {WB NC OT AK : Int → Prop} {BS DF : Int → Int} {room : Int} {bd : Int → Int}
theorem tk_1 {c L : Int} (h1 : WB c) (h2 : BS c ≤ L) (ha : AK c) : wnt WB NC OT BS c L = 1 ∧ cst WB NC OT BS DF c L = BS c ∧ srv WB NC OT AK BS DF c L := by
  have e : wnt WB NC OT BS c L = 1 := wnt_1 ⟨h1, Or.inr h2⟩
  have e2 : cst WB NC OT BS DF c L = BS c := by unfold cst; rw [if_pos e]
  exact ⟨e, e2, ha, by rw [e]; omega, by rw [e2]; exact h2⟩
theorem tk_2 {c L : Int} (h1 : ¬ (WB c ∧ BS c ≤ L)) (h2 : OT c ∧ ¬ NC c) (h3 : DF c ≤ L) (ha : AK c) : wnt WB NC OT BS c L = 2 ∧ cst WB NC OT BS DF c L = DF c ∧ srv WB NC OT AK BS DF c L := by
  have e : wnt WB NC OT BS c L = 2 := wnt_2 (fun y => y.2.elim h2.2 (fun z => h1 ⟨y.1, z⟩)) h2.1
  have e2 : cst WB NC OT BS DF c L = DF c := by unfold cst; rw [if_neg (by omega), if_pos e]
  exact ⟨e, e2, ha, by rw [e]; omega, by rw [e2]; exact h3⟩
theorem tk_3 {c L : Int} (hNW : NC c → WB c) (h1 : ¬ (WB c ∧ BS c ≤ L)) (h2 : ¬ ((OT c ∧ ¬ NC c) ∧ DF c ≤ L)) : ¬ srv WB NC OT AK BS DF c L := by
  rintro ⟨_, s1, s2⟩
  by_cases y : WB c ∧ (NC c ∨ BS c ≤ L)
  · have e : wnt WB NC OT BS c L = 1 := wnt_1 y
    have e2 : cst WB NC OT BS DF c L = BS c := by unfold cst; rw [if_pos e]
    rw [e2] at s2
    exact h1 ⟨y.1, s2⟩
  · by_cases z : OT c
    · have e : wnt WB NC OT BS c L = 2 := wnt_2 y z
      have e2 : cst WB NC OT BS DF c L = DF c := by unfold cst; rw [if_neg (by omega), if_pos e]
      rw [e2] at s2
      exact h2 ⟨⟨z, fun w => y ⟨hNW w, Or.inl w⟩⟩, s2⟩
    · rw [wnt_0 y z] at s1
      omega
theorem lft_skip {t : Int → Int} : ∀ {n : Nat} {u : Nat}, u ≤ n → (∀ k : Int, (u : Int) ≤ k → k < (n : Int) → ¬ AK (t k)) → lft WB NC OT AK BS DF room t n = lft WB NC OT AK BS DF room t u
  | 0, u, h, _ => by rw [show u = 0 by omega]
  | n + 1, u, h, hk => by
    by_cases z : u = n + 1
    · rw [z]
    · have ih := lft_skip (n := n) (u := u) (by omega) (fun k k0 k1 => hk k k0 (by omega))
      have h1 := hk (n : Int) (by omega) (by omega)
      show lft WB NC OT AK BS DF room t n - bI (srv WB NC OT AK BS DF (t (n : Int)) _) * _ = _
      rw [bI_f (fun y => h1 y.1), ih]
      omega
/-- what a client gets, once its turn is behind -/
noncomputable def gtS (WB NC OT AK : Int → Prop) (BS DF : Int → Int) (room : Int) (bd : Int → Int) (x : Int) : Int := bI (srv WB NC OT AK BS DF x (outL WB NC OT AK BS DF room bd x)) * wnt WB NC OT BS x (outL WB NC OT AK BS DF room bd x)
theorem gtS_na {x : Int} (h : ¬ AK x) : gtS WB NC OT AK BS DF room bd x = 0 := by unfold gtS; rw [bI_f (fun y => h y.1)]; omega
theorem gtS_nz {x : Int} : ¬ gtS WB NC OT AK BS DF room bd x = 0 ↔ srv WB NC OT AK BS DF x (outL WB NC OT AK BS DF room bd x) := by
  unfold gtS
  by_cases y : srv WB NC OT AK BS DF x (outL WB NC OT AK BS DF room bd x)
  · rw [bI_t y]
    have := y.2.1
    exact ⟨fun _ => y, fun _ => by omega⟩
  · rw [bI_f y]
    exact ⟨fun z => absurd (by omega) z, fun z => absurd z y⟩
/-- the state of the market behind q turns: those are behind it that have fewer than t ahead -/
def HI (WB NC OT AK : Int → Prop) (BS DF : Int → Int) (room : Int) (A : Nat → Nat) (bd : Int → Int) (q t : Int) (tu : Int → Int) (tq : Int → Option Nat) (wt gt : Int → Int) (L : Int) : Prop :=
  (0 ≤ t ∧ t ≤ 4) ∧ L = lft WB NC OT AK BS DF room (trn bd) t.toNat ∧ (∀ x : Int, 0 ≤ x → x ≤ 3 → wt x = bI (AK x ∧ t ≤ ahB bd x)) ∧ (∀ x : Int, 0 ≤ x → x ≤ 3 → (ahB bd x < t → gt x = gtS WB NC OT AK BS DF room bd x) ∧ (t ≤ ahB bd x → gt x = 0)) ∧ (∀ j : Int, 0 ≤ j → j < q → tq j = clO A (tu j) ∧ (-1 ≤ tu j ∧ tu j ≤ 3) ∧ (0 ≤ tu j → AK (tu j) ∧ ahB bd (tu j) < t)) ∧ (∀ i j : Int, 0 ≤ i → i < j → j < q → 0 ≤ tu j → 0 ≤ tu i ∧ ahB bd (tu i) < ahB bd (tu j)) ∧ (∀ x : Int, 0 ≤ x → x ≤ 3 → AK x → ahB bd x < t → ∃ j : Int, 0 ≤ j ∧ j < q ∧ tu j = x) ∧ (∀ x : Int, 0 ≤ x → x ≤ 3 → AK x → t ≤ ahB bd x → q ≤ t ∧ ∀ j : Int, 0 ≤ j → j < q → 0 ≤ tu j)
variable {A : Nat → Nat} {q t L : Int} {tu wt gt : Int → Int} {tq : Int → Option Nat}
theorem HI.init (h1 : ∀ x : Int, 0 ≤ x → x ≤ 3 → wt x = bI (AK x)) (h2 : ∀ x : Int, 0 ≤ x → x ≤ 3 → gt x = 0) : HI WB NC OT AK BS DF room A bd 0 0 tu tq wt gt room := by
  refine ⟨by omega, rfl, fun x x0 x1 => ?_, fun x x0 x1 => ⟨fun y => ?_, fun _ => h2 x x0 x1⟩, fun j j0 j1 => by omega, fun i j i0 i1 j1 => by omega, fun x x0 x1 _ y => ?_, fun x x0 x1 _ _ => ⟨by omega, fun j j0 j1 => by omega⟩⟩
  · rw [h1 x x0 x1]
    exact bI_eq ⟨fun y => ⟨y, (ahB_rng bd ⟨x0, x1⟩).1⟩, fun y => y.1⟩
  · have := (ahB_rng bd ⟨x0, x1⟩).1; omega
  · have := (ahB_rng bd ⟨x0, x1⟩).1; omega
theorem HI.non (hI : HI WB NC OT AK BS DF room A bd q t tu tq wt gt L) (hq : 0 ≤ q) (hn : nxW wt bd 4 = -1) : HI WB NC OT AK BS DF room A bd (q + 1) t (upZ tu q (-1)) (upQ tq q none) wt gt L := by
  obtain ⟨p1, p2, p3, p4, p5, p6, p7, p8⟩ := hI
  have hno : ∀ x : Int, 0 ≤ x → x ≤ 3 → ¬ (AK x ∧ t ≤ ahB bd x) := fun x x0 x1 y => by
    have := (nxW_ok wt bd 4).1 hn x x0 (by omega)
    rw [p3 x x0 x1, bI_t y] at this
    omega
  refine ⟨p1, p2, p3, p4, fun j j0 j1 => ?_, fun i j i0 i1 j1 jt => ?_, fun x x0 x1 xa xt => ?_, fun x x0 x1 xa xt => absurd ⟨xa, xt⟩ (hno x x0 x1)⟩
  · by_cases z : j = q
    · rw [z, upZ_at, upQ_at]
      exact ⟨(clO_n (by omega)).symm, by omega, fun y => by omega⟩
    · rw [upZ_ne _ _ z, upQ_ne _ _ z]
      exact p5 j j0 (by omega)
  · by_cases z : j = q
    · rw [z, upZ_at] at jt; omega
    · rw [upZ_ne _ _ z] at jt ⊢
      rw [upZ_ne _ _ (by omega)]
      exact p6 i j i0 i1 (by omega) jt
  · obtain ⟨j, j0, j1, e⟩ := p7 x x0 x1 xa xt
    exact ⟨j, j0, by omega, by rw [upZ_ne _ _ (by omega)]; exact e⟩
theorem HI.som {x1 : Int} {gt2 : Int → Int} (hI : HI WB NC OT AK BS DF room A bd q t tu tq wt gt L) (hq : 0 ≤ q) (hc : 0 ≤ nxW wt bd 4) (hx : x1 = bI (srv WB NC OT AK BS DF (nxW wt bd 4) L) * cst WB NC OT BS DF (nxW wt bd 4) L) (hg : gt2 = upZ gt (nxW wt bd 4) (bI (srv WB NC OT AK BS DF (nxW wt bd 4) L) * wnt WB NC OT BS (nxW wt bd 4) L)) : AK (nxW wt bd 4) ∧ HI WB NC OT AK BS DF room A bd (q + 1) (ahB bd (nxW wt bd 4) + 1) (upZ tu q (nxW wt bd 4)) (upQ tq q (clO A (nxW wt bd 4))) (upZ wt (nxW wt bd 4) 0) gt2 (L - x1) := by
  have hr := nxW_rng wt bd 4
  have hok := (nxW_ok wt bd 4).2 (by omega)
  generalize hcc : nxW wt bd 4 = c at *
  have c3 : c ≤ 3 := by omega
  obtain ⟨p1, p2, p3, p4, p5, p6, p7, p8⟩ := hI
  have hcA : AK c ∧ t ≤ ahB bd c := Classical.byContradiction fun y => hok.1 (by rw [p3 c hc c3, bI_f y])
  have hmin : ∀ x : Int, 0 ≤ x → x ≤ 3 → AK x → t ≤ ahB bd x → x = c ∨ ahB bd c < ahB bd x := fun x x0 x2 xa xt => by
    rcases hok.2 x x0 (by omega) (by rw [p3 x x0 x2, bI_t ⟨xa, xt⟩]; decide) with z | z
    · exact Or.inl z
    · exact Or.inr (ahB_lt bd ⟨hc, c3⟩ z)
  have har := ahB_rng bd ⟨hc, c3⟩
  have hLc : lft WB NC OT AK BS DF room (trn bd) (ahB bd c).toNat = L := by
    rw [p2]
    refine lft_skip (by omega) (fun k k0 k1 y => ?_)
    have h1 := (trn_ok bd).2 k (by omega) (by omega)
    rcases hmin _ h1.1.1 h1.1.2 y (by rw [h1.2]; omega) with z | z
    · rw [z] at h1; omega
    · rw [h1.2] at z; omega
  have hoL : outL WB NC OT AK BS DF room bd c = L := hLc
  have htc : trn bd (ahB bd c) = c := (trn_ok bd).1 c hc c3
  refine ⟨hcA.1, by omega, ?_, fun x x0 x2 => ?_, fun x x0 x2 => ?_, fun j j0 j1 => ?_, fun i j i0 i1 j1 jt => ?_, fun x x0 x2 xa xt => ?_, fun x x0 x2 xa xt => ?_⟩
  · rw [lft_s _ _ _ _ _ _ _ _ har.1, htc, hLc, hx]
  · by_cases z : x = c
    · rw [z, upZ_at, bI_f (by omega)]
    · rw [upZ_ne _ _ z, p3 x x0 x2]
      refine bI_eq ⟨fun y => ⟨y.1, ?_⟩, fun y => ⟨y.1, by omega⟩⟩
      rcases hmin x x0 x2 y.1 y.2 with w | w
      · exact absurd w z
      · omega
  · rw [hg]
    by_cases z : x = c
    · rw [z, upZ_at]
      refine ⟨fun _ => ?_, fun y => by omega⟩
      unfold gtS
      rw [hoL]
    · rw [upZ_ne _ _ z]
      refine ⟨fun y => ?_, fun y => (p4 x x0 x2).2 (by omega)⟩
      by_cases w : ahB bd x < t
      · exact (p4 x x0 x2).1 w
      · rw [(p4 x x0 x2).2 (by omega)]
        refine (gtS_na fun v => ?_).symm
        rcases hmin x x0 x2 v (by omega) with u | u
        · exact z u
        · have hne : ¬ ahB bd x = ahB bd c := fun e => z (ahB_inj bd ⟨x0, x2⟩ ⟨hc, c3⟩ e)
          omega
  · by_cases z : j = q
    · rw [z, upZ_at, upQ_at]
      exact ⟨rfl, by omega, fun _ => ⟨hcA.1, by omega⟩⟩
    · rw [upZ_ne _ _ z, upQ_ne _ _ z]
      have h5 := p5 j j0 (by omega)
      exact ⟨h5.1, h5.2.1, fun y => ⟨(h5.2.2 y).1, by have := (h5.2.2 y).2; omega⟩⟩
  · by_cases z : j = q
    · have h8 := (p8 c hc c3 hcA.1 hcA.2).2 i i0 (by omega)
      have h5 := (p5 i i0 (by omega)).2.2 h8
      rw [z, upZ_at, upZ_ne _ _ (by omega)]
      exact ⟨h8, by omega⟩
    · rw [upZ_ne _ _ z] at jt ⊢
      rw [upZ_ne _ _ (by omega)]
      exact p6 i j i0 i1 (by omega) jt
  · by_cases z : x = c
    · exact ⟨q, hq, by omega, by rw [upZ_at]; exact z.symm⟩
    · have : ahB bd x < t := by
        by_cases w : ahB bd x < t
        · exact w
        · rcases hmin x x0 x2 xa (by omega) with u | u
          · exact absurd u z
          · omega
      obtain ⟨j, j0, j1, e⟩ := p7 x x0 x2 xa this
      exact ⟨j, j0, by omega, by rw [upZ_ne _ _ (by omega)]; exact e⟩
  · have h8 := p8 c hc c3 hcA.1 hcA.2
    refine ⟨by omega, fun j j0 j1 => ?_⟩
    by_cases z : j = q
    · rw [z, upZ_at]; exact hc
    · rw [upZ_ne _ _ z]; exact h8.2 j j0 (by omega)
/-- behind all four turns -/
theorem HI.fin (hI : HI WB NC OT AK BS DF room A bd 4 t tu tq wt gt L) : (∀ x : Int, 0 ≤ x → x ≤ 3 → gt x = gtS WB NC OT AK BS DF room bd x) ∧ (∀ x : Int, 0 ≤ x → x ≤ 3 → AK x → ∃ j : Int, 0 ≤ j ∧ j < 4 ∧ tu j = x) := by
  obtain ⟨p1, p2, p3, p4, p5, p6, p7, p8⟩ := hI
  have hall : ∀ x : Int, 0 ≤ x → x ≤ 3 → AK x → ahB bd x < t := fun x x0 x1 xa => by
    by_cases w : ahB bd x < t
    · exact w
    · have := (p8 x x0 x1 xa (by omega)).1
      have := ahB_rng bd ⟨x0, x1⟩
      omega
  refine ⟨fun x x0 x1 => ?_, fun x x0 x1 xa => p7 x x0 x1 xa (hall x x0 x1 xa)⟩
  by_cases y : ahB bd x < t
  · exact (p4 x x0 x1).1 y
  · rw [(p4 x x0 x1).2 (by omega)]
    exact (gtS_na fun w => y (hall x x0 x1 w)).symm
/-- the greatest bid of some, at least the reserve -/
def isPr (P : Int → Prop) (bd : Int → Int) (rs v : Int) : Prop := rs ≤ v ∧ (∀ d : Int, P d → bd d ≤ v) ∧ (v = rs ∨ ∃ d : Int, P d ∧ v = bd d)
theorem isPr.uniq {P P' : Int → Prop} {rs v v' : Int} (h : isPr P bd rs v) (h' : isPr P' bd rs v') (hp : ∀ d, P d ↔ P' d) : v = v' := by
  have h1 : v' ≤ v := by
    rcases h'.2.2 with z | ⟨d, d1, d2⟩
    · have := h.1; omega
    · have := h.2.1 d ((hp d).mpr d1); omega
  have h2 : v ≤ v' := by
    rcases h.2.2 with z | ⟨d, d1, d2⟩
    · have := h'.1; omega
    · have := h'.2.1 d ((hp d).mp d1); omega
  omega
theorem prc_is (t AS SV : Int → Int) (rs k : Int) : ∀ n : Nat, isPr (fun d => ∃ j : Int, k < j ∧ j ≤ k + (n : Int) ∧ t j = d ∧ AS d ≠ 0 ∧ SV d = 0) bd rs (prc bd t AS SV rs k n)
  | 0 => ⟨Int.le_refl _, fun d ⟨j, j0, j1, _⟩ => by omega, Or.inl rfl⟩
  | n + 1 => by
    have ih := prc_is t AS SV rs k n
    by_cases z : AS (t (k + 1 + (n : Int))) ≠ 0 ∧ SV (t (k + 1 + (n : Int))) = 0 ∧ prc bd t AS SV rs k n < bd (t (k + 1 + (n : Int)))
    · have e : prc bd t AS SV rs k (n + 1) = bd (t (k + 1 + (n : Int))) := by unfold prc; exact @if_pos _ (Classical.propDecidable _) z _ _ _
      rw [e]
      refine ⟨by have := ih.1; omega, fun d ⟨j, j0, j1, j2, j3⟩ => ?_, Or.inr ⟨_, ⟨k + 1 + (n : Int), by omega, by omega, rfl, z.1, z.2.1⟩, rfl⟩⟩
      by_cases y : j = k + 1 + (n : Int)
      · rw [← j2, y]; omega
      · have := ih.2.1 d ⟨j, j0, by omega, j2, j3⟩; omega
    · have e : prc bd t AS SV rs k (n + 1) = prc bd t AS SV rs k n := by conv => lhs; unfold prc
                                                                         exact @if_neg _ (Classical.propDecidable _) z _ _ _
      rw [e]
      refine ⟨ih.1, fun d ⟨j, j0, j1, j2, j3⟩ => ?_, ?_⟩
      · by_cases y : j = k + 1 + (n : Int)
        · subst y
          subst j2
          by_cases w : prc bd t AS SV rs k n < bd (t (k + 1 + (n : Int)))
          · exact absurd ⟨j3.1, j3.2, w⟩ z
          · omega
        · exact ih.2.1 d ⟨j, j0, by omega, j2, j3⟩
      · rcases ih.2.2 with y | ⟨d, ⟨j, j0, j1, j2⟩, d2⟩
        · exact Or.inl y
        · exact Or.inr ⟨d, ⟨j, j0, by omega, j2⟩, d2⟩
theorem prS_is (pc : Int → Int) (rs : Int) : ∀ n : Nat, n ≤ 4 → isPr (fun d => ∃ j : Int, 3 - (n : Int) < j ∧ j ≤ 3 ∧ tu j = d ∧ 0 ≤ d ∧ gt d = 0) bd rs (prS gt bd tu rs pc n).1
  | 0, _ => ⟨Int.le_refl _, fun d ⟨j, j0, j1, _⟩ => by omega, Or.inl rfl⟩
  | n + 1, hn => by
    have ih := prS_is pc rs n (by omega)
    have mono : isPr (fun d => ∃ j : Int, 3 - (n : Int) < j ∧ j ≤ 3 ∧ tu j = d ∧ 0 ≤ d ∧ gt d = 0) bd rs (prS gt bd tu rs pc n).1 → (¬ (0 ≤ tu (3 - (n : Int)) ∧ gt (tu (3 - (n : Int))) = 0)) → isPr (fun d => ∃ j : Int, 3 - ((n + 1 : Nat) : Int) < j ∧ j ≤ 3 ∧ tu j = d ∧ 0 ≤ d ∧ gt d = 0) bd rs (prS gt bd tu rs pc n).1 := fun i hno => by
      refine ⟨i.1, fun d ⟨j, j0, j1, j2, j3⟩ => ?_, ?_⟩
      · by_cases y : j = 3 - (n : Int)
        · subst y; subst j2; exact absurd j3 hno
        · exact i.2.1 d ⟨j, by omega, j1, j2, j3⟩
      · rcases i.2.2 with y | ⟨d, ⟨j, j0, j1, j2⟩, d2⟩
        · exact Or.inl y
        · exact Or.inr ⟨d, ⟨j, by omega, j1, j2⟩, d2⟩
    unfold prS
    split
    · exact mono ih (by omega)
    · split
      · rename_i h1 h2
        show isPr _ bd rs (mxZ _ _)
        have hle : ∀ a b : Int, a ≤ mxZ a b ∧ b ≤ mxZ a b ∧ (mxZ a b = a ∨ mxZ a b = b) := fun a b => by unfold mxZ; split <;> omega
        have hm := hle (prS gt bd tu rs pc n).1 (bd (tu (3 - (n : Int))))
        refine ⟨by have := ih.1; omega, fun d ⟨j, j0, j1, j2, j3⟩ => ?_, ?_⟩
        · by_cases y : j = 3 - (n : Int)
          · subst y; subst j2; exact hm.2.1
          · have := ih.2.1 d ⟨j, by omega, j1, j2, j3⟩; omega
        · rcases hm.2.2 with y | y
          · rw [y]
            rcases ih.2.2 with y | ⟨d, ⟨j, j0, j1, j2⟩, d2⟩
            · exact Or.inl y
            · exact Or.inr ⟨d, ⟨j, by omega, j1, j2⟩, d2⟩
          · exact Or.inr ⟨_, ⟨3 - (n : Int), by omega, by omega, rfl, by omega, h2⟩, y⟩
      · rename_i h1 h2
        exact mono ih (fun y => h2 y.2)
/-- a client's price stays behind its turn -/
theorem prS_at (pc : Int → Int) (rs : Int) {j : Int} (hj : 0 ≤ j ∧ j < 4) (h0 : 0 ≤ tu j) (hg : ¬ gt (tu j) = 0) (hd : ∀ i : Int, 0 ≤ i → i < j → tu i ≠ tu j) : ∀ n : Nat, 3 - j < (n : Int) → n ≤ 4 → (prS gt bd tu rs pc n).2 (tu j) = (prS gt bd tu rs pc (3 - j).toNat).1
  | 0, h, _ => by omega
  | n + 1, h, hn => by
    by_cases z : j = 3 - (n : Int)
    · have e : (3 - j).toNat = n := by omega
      rw [e]
      conv => lhs; unfold prS
      rw [← z, if_neg (by omega), if_neg hg]
      exact upZ_at _ _ _
    · have ih := prS_at pc rs hj h0 hg hd n (by omega) (by omega)
      have hne := hd (3 - (n : Int)) (by omega) (by omega)
      rw [← ih]
      conv => lhs; unfold prS
      split
      · rfl
      · split
        · rfl
        · exact upZ_ne _ _ hne.symm
end
