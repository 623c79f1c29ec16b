def wbP (mkind mbound mcheap : Int → Int) (nights reserve x : Int) : Prop := dfN (colF mkind x) nights.toNat = -1 ∨ (mbound x ≤ dfN (colF mkind x) nights.toNat ∧ reserve ≤ mcheap x)
/-- the row of chunks is another one than that of the latest day -/
def otP (G E : Int → Int) (n : Int) (mdata mends mmany : Int → Int) (x d : Int) : Prop := d = -1 ∨ ¬ mmany (60 * x + d) = n ∨ exN (fun j => ¬ chk G E j = chk (rowF mdata (60 * x + d)) (rowF mends (60 * x + d)) j) n
theorem otP_congr {G E mdata mends mmany mends' mmany' : Int → Int} {n x d : Int} (hx : 0 ≤ x ∧ x ≤ 3) (hd : -1 ≤ d ∧ d < 60) (ho : LKo mends mmany) (he : LKe mends mmany mends' mmany') : otP G E n mdata mends mmany x d ↔ otP G E n mdata mends' mmany' x d := by
  unfold otP
  by_cases h1 : d = -1
  · simp [h1]
  · have h2 := he (60 * x + d) (by omega) (by omega)
    have h3 := ho (60 * x + d) (by omega) (by omega)
    rw [← h2.1]
    by_cases h4 : mmany (60 * x + d) = n
    · have hc : ∀ j : Int, 0 ≤ j → j < n → chk (rowF mdata (60 * x + d)) (rowF mends (60 * x + d)) j = chk (rowF mdata (60 * x + d)) (rowF mends' (60 * x + d)) j := fun j j0 j1 => chk_congr (n := n) (fun a a0 a1 => h2.2 a a0 (by omega)) j0 j1 (h3.2 j j0 (by omega)).1 (fun _ _ _ => rfl)
      constructor
      · rintro (q | q | ⟨j, j0, j1, q⟩)
        · exact Or.inl q
        · exact Or.inr (Or.inl q)
        · exact Or.inr (Or.inr ⟨j, j0, j1, by show ¬ _ = _; rw [← hc j j0 j1]; exact q⟩)
      · rintro (q | q | ⟨j, j0, j1, q⟩)
        · exact Or.inl q
        · exact Or.inr (Or.inl q)
        · exact Or.inr (Or.inr ⟨j, j0, j1, by show ¬ _ = _; rw [hc j j0 j1]; exact q⟩)
    · simp [h4]
/-- how many clients are ahead -/
def aheadP (mbid : Int → Int) (d c : Int) : Prop := mbid c < mbid d ∨ (mbid d = mbid c ∧ d < c)
noncomputable def ahB (mbid : Int → Int) (c : Int) : Int := sumZ (fun d => bI (aheadP mbid d c)) 4
theorem bI_rng01 (P : Prop) : 0 ≤ bI P ∧ bI P ≤ 1 := by rcases bI_01 P with h | h <;> omega
theorem ahB_eq (mbid : Int → Int) (c : Int) : ahB mbid c = bI (aheadP mbid 0 c) + bI (aheadP mbid 1 c) + bI (aheadP mbid 2 c) + bI (aheadP mbid 3 c) := by
  show 0 + bI (aheadP mbid 0 c) + bI (aheadP mbid 1 c) + bI (aheadP mbid 2 c) + bI (aheadP mbid 3 c) = _
  omega
theorem ahead_irr (mbid : Int → Int) (c : Int) : ¬ aheadP mbid c c := by unfold aheadP; omega
theorem ahB_rng (mbid : Int → Int) {c : Int} (hc : 0 ≤ c ∧ c ≤ 3) : 0 ≤ ahB mbid c ∧ ahB mbid c ≤ 3 := by
  rw [ahB_eq]
  have h0 := bI_rng01 (aheadP mbid 0 c)
  have h1 := bI_rng01 (aheadP mbid 1 c)
  have h2 := bI_rng01 (aheadP mbid 2 c)
  have h3 := bI_rng01 (aheadP mbid 3 c)
  rcases (show c = 0 ∨ c = 1 ∨ c = 2 ∨ c = 3 by omega) with h | h | h | h <;> subst h
  · have := bI_f (ahead_irr mbid 0); omega
  · have := bI_f (ahead_irr mbid 1); omega
  · have := bI_f (ahead_irr mbid 2); omega
  · have := bI_f (ahead_irr mbid 3); omega
theorem bI_mono {P Q : Prop} (h : P → Q) : bI P ≤ bI Q := by
  by_cases hp : P
  · rw [bI_t hp, bI_t (h hp)]; exact Int.le_refl _
  · rw [bI_f hp]; exact (bI_rng01 Q).1
/-- who is ahead has fewer ahead -/
theorem ahB_lt (mbid : Int → Int) {a b : Int} (ha : 0 ≤ a ∧ a ≤ 3) (h : aheadP mbid a b) : ahB mbid a < ahB mbid b := by
  have tr : ∀ d : Int, aheadP mbid d a → aheadP mbid d b := fun d hd => by unfold aheadP at *; omega
  have ir := bI_f (ahead_irr mbid a)
  have t := bI_t h
  rw [ahB_eq, ahB_eq]
  have h0 := bI_mono (tr 0)
  have h1 := bI_mono (tr 1)
  have h2 := bI_mono (tr 2)
  have h3 := bI_mono (tr 3)
  rcases (show a = 0 ∨ a = 1 ∨ a = 2 ∨ a = 3 by omega) with q | q | q | q <;> subst q <;> omega
theorem ahB_inj (mbid : Int → Int) {a b : Int} (ha : 0 ≤ a ∧ a ≤ 3) (hb : 0 ≤ b ∧ b ≤ 3) (h : ahB mbid a = ahB mbid b) : a = b := by
  by_cases hab : a = b
  · exact hab
  · rcases (show aheadP mbid a b ∨ aheadP mbid b a by unfold aheadP; omega) with q | q
    · have := ahB_lt mbid ha q; omega
    · have := ahB_lt mbid hb q; omega
/-- the turns -/
def turnOK (mbid t : Int → Int) : Prop := (∀ c : Int, 0 ≤ c → c ≤ 3 → t (ahB mbid c) = c) ∧ ∀ k : Int, 0 ≤ k → k ≤ 3 → (0 ≤ t k ∧ t k ≤ 3) ∧ ahB mbid (t k) = k
theorem turn_of {mbid t : Int → Int} (h : ∀ c : Int, 0 ≤ c → c ≤ 3 → t (ahB mbid c) = c) : turnOK mbid t := by
  refine ⟨h, fun k k0 k1 => ?_⟩
  have r0 := ahB_rng mbid (c := 0) (by omega)
  have r1 := ahB_rng mbid (c := 1) (by omega)
  have r2 := ahB_rng mbid (c := 2) (by omega)
  have r3 := ahB_rng mbid (c := 3) (by omega)
  have n01 : ¬ ahB mbid 0 = ahB mbid 1 := fun z => absurd (ahB_inj mbid (by omega) (by omega) z) (by decide)
  have n02 : ¬ ahB mbid 0 = ahB mbid 2 := fun z => absurd (ahB_inj mbid (by omega) (by omega) z) (by decide)
  have n03 : ¬ ahB mbid 0 = ahB mbid 3 := fun z => absurd (ahB_inj mbid (by omega) (by omega) z) (by decide)
  have n12 : ¬ ahB mbid 1 = ahB mbid 2 := fun z => absurd (ahB_inj mbid (by omega) (by omega) z) (by decide)
  have n13 : ¬ ahB mbid 1 = ahB mbid 3 := fun z => absurd (ahB_inj mbid (by omega) (by omega) z) (by decide)
  have n23 : ¬ ahB mbid 2 = ahB mbid 3 := fun z => absurd (ahB_inj mbid (by omega) (by omega) z) (by decide)
  rcases (show k = ahB mbid 0 ∨ k = ahB mbid 1 ∨ k = ahB mbid 2 ∨ k = ahB mbid 3 by omega) with q | q | q | q
  · rw [q, h 0 (by omega) (by omega)]; exact ⟨by omega, rfl⟩
  · rw [q, h 1 (by omega) (by omega)]; exact ⟨by omega, rfl⟩
  · rw [q, h 2 (by omega) (by omega)]; exact ⟨by omega, rfl⟩
  · rw [q, h 3 (by omega) (by omega)]; exact ⟨by omega, rfl⟩
/-- the market, by what each client would have at what is left -/
def wntP (WB NC : Int → Prop) (OT : Int → Prop) (BS : Int → Int) (c L : Int) : Prop × Prop := (WB c ∧ (NC c ∨ BS c ≤ L), OT c)
noncomputable def wnt (WB NC OT : Int → Prop) (BS : Int → Int) (c L : Int) : Int := @ite Int (WB c ∧ (NC c ∨ BS c ≤ L)) (Classical.propDecidable _) 1 (@ite Int (OT c) (Classical.propDecidable _) 2 0)
noncomputable def cst (WB NC OT : Int → Prop) (BS DF : Int → Int) (c L : Int) : Int := if wnt WB NC OT BS c L = 1 then BS c else if wnt WB NC OT BS c L = 2 then DF c else 0
def srv (WB NC OT AK : Int → Prop) (BS DF : Int → Int) (c L : Int) : Prop := AK c ∧ 0 < wnt WB NC OT BS c L ∧ cst WB NC OT BS DF c L ≤ L
noncomputable def lft (WB NC OT AK : Int → Prop) (BS DF : Int → Int) (room : Int) (t : Int → Int) : Nat → Int
  | 0 => room
  | k + 1 => lft WB NC OT AK BS DF room t k - bI (srv WB NC OT AK BS DF (t (k : Int)) (lft WB NC OT AK BS DF room t k)) * cst WB NC OT BS DF (t (k : Int)) (lft WB NC OT AK BS DF room t k)
theorem wnt_1 {WB NC OT : Int → Prop} {BS : Int → Int} {c L : Int} (h : WB c ∧ (NC c ∨ BS c ≤ L)) : wnt WB NC OT BS c L = 1 := by unfold wnt; exact @if_pos _ (Classical.propDecidable _) h _ _ _
theorem wnt_2 {WB NC OT : Int → Prop} {BS : Int → Int} {c L : Int} (h : ¬ (WB c ∧ (NC c ∨ BS c ≤ L))) (h2 : OT c) : wnt WB NC OT BS c L = 2 := by unfold wnt; exact (@if_neg _ (Classical.propDecidable _) h _ _ _).trans (@if_pos _ (Classical.propDecidable _) h2 _ _ _)
theorem wnt_0 {WB NC OT : Int → Prop} {BS : Int → Int} {c L : Int} (h : ¬ (WB c ∧ (NC c ∨ BS c ≤ L))) (h2 : ¬ OT c) : wnt WB NC OT BS c L = 0 := by unfold wnt; exact (@if_neg _ (Classical.propDecidable _) h _ _ _).trans (@if_neg _ (Classical.propDecidable _) h2 _ _ _)
theorem lft_s (WB NC OT AK : Int → Prop) (BS DF : Int → Int) (room : Int) (t : Int → Int) {k : Int} (hk : 0 ≤ k) : lft WB NC OT AK BS DF room t (k + 1).toNat = lft WB NC OT AK BS DF room t k.toNat - bI (srv WB NC OT AK BS DF (t k) (lft WB NC OT AK BS DF room t k.toNat)) * cst WB NC OT BS DF (t k) (lft WB NC OT AK BS DF room t k.toNat) := by
  rw [show (k + 1).toNat = k.toNat + 1 by omega]
  show lft WB NC OT AK BS DF room t k.toNat - bI (srv WB NC OT AK BS DF (t (k.toNat : Int)) _) * _ = _
  rw [show ((k.toNat : Nat) : Int) = k by omega]
/-- what one pays for a byte: the best of the rest -/
noncomputable def prc (mbid t AS SV : Int → Int) (best : Int) (k : Int) : Nat → Int
  | 0 => best
  | n + 1 => @ite Int (AS (t (k + 1 + (n : Int))) ≠ 0 ∧ SV (t (k + 1 + (n : Int))) = 0 ∧ prc mbid t AS SV best k n < mbid (t (k + 1 + (n : Int)))) (Classical.propDecidable _) (mbid (t (k + 1 + (n : Int)))) (prc mbid t AS SV best k n)
theorem prc_t (mbid t AS SV : Int → Int) (best k : Int) {q : Int} (hq : k + 1 ≤ q) (h : AS (t q) ≠ 0 ∧ SV (t q) = 0 ∧ prc mbid t AS SV best k (q - k - 1).toNat < mbid (t q)) : prc mbid t AS SV best k (q + 1 - k - 1).toNat = mbid (t q) := by
  rw [show (q + 1 - k - 1).toNat = (q - k - 1).toNat + 1 by omega]
  unfold prc
  rw [show k + 1 + (((q - k - 1).toNat : Nat) : Int) = q by omega]
  exact @if_pos _ (Classical.propDecidable _) h _ _ _
theorem prc_f (mbid t AS SV : Int → Int) (best k : Int) {q : Int} (hq : k + 1 ≤ q) (h : ¬ (AS (t q) ≠ 0 ∧ SV (t q) = 0 ∧ prc mbid t AS SV best k (q - k - 1).toNat < mbid (t q))) : prc mbid t AS SV best k (q + 1 - k - 1).toNat = prc mbid t AS SV best k (q - k - 1).toNat := by
  rw [show (q + 1 - k - 1).toNat = (q - k - 1).toNat + 1 by omega]
  conv => lhs; unfold prc
  rw [show k + 1 + (((q - k - 1).toNat : Nat) : Int) = q by omega]
  exact @if_neg _ (Classical.propDecidable _) h _ _ _
