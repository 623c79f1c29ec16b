-- ===== words of the document, as numbers and functions =====
def dstep (x : Int64) (b : Int) : Int64 := ((x <<< ((iI 5).toInt64 &&& 63)) ||| (x.toUInt64 >>> ((iI 59).toInt64.toUInt64 &&& Int64.toUInt64 63)).toInt64) ^^^ (iI b).toInt64
def dig (G : Int → Int) : Nat → Int64
  | 0 => Int64.ofNat 0
  | n + 1 => dstep (dig G n) (G (n : Int))
def rowF (D : Int → Int) (r : Int) : Int → Int := fun j => D (48 * r + j)
theorem dig_succ (G : Int → Int) {k : Int} (hk : 0 ≤ k) : dig G (k + 1).toNat = dstep (dig G k.toNat) (G k) := by
  rw [show (k + 1).toNat = k.toNat + 1 by omega]
  show dstep _ (G (k.toNat : Int)) = _
  rw [show ((k.toNat : Nat) : Int) = k by omega]
def mstep (v : Int32) (b : Int) : Int32 := (v <<< (iI 3 &&& 31) ||| v >>> (iI 13 &&& 31)) &&& iI 65535 ^^^ (iI (40503 * b) - iI (40503 * b) / iI 65536 * iI 65536)
def mkl (p : Int) : Int := if p < 3 then 0 else p - 3
def mkn (G : Int → Int) (lo : Int) : Nat → Int32
  | 0 => iI 0
  | n + 1 => mstep (mkn G lo n) (G (lo + (n : Int)))
def mkv (G : Int → Int) (p : Int) : Int32 := mkn G (mkl p) (p + 1 - mkl p).toNat
theorem mkn_succ (G : Int → Int) (lo : Int) {k : Int} (hk : lo ≤ k) : mkn G lo (k + 1 - lo).toNat = mstep (mkn G lo (k - lo).toNat) (G k) := by
  rw [show (k + 1 - lo).toNat = (k - lo).toNat + 1 by omega]
  show mstep _ (G (lo + ((k - lo).toNat : Int))) = _
  rw [show lo + (((k - lo).toNat : Nat) : Int) = k by omega]
def tPut (x k v n : Int) : Int := if ¬ (0 ≤ x ∧ x ≤ 3) ∨ ¬ (0 ≤ v ∧ v ≤ 255) then 1 else if ¬ (0 ≤ k ∧ k ≤ n) then 2 else if n = 48 then 3 else 0
def tSet (x k v n : Int) : Int := if ¬ (0 ≤ x ∧ x ≤ 3) ∨ ¬ (0 ≤ v ∧ v ≤ 255) then 1 else if ¬ (0 ≤ k ∧ k < n) then 2 else 0
def tCut (x k c n : Int) : Int := if ¬ (0 ≤ x ∧ x ≤ 3) then 1 else if ¬ (0 ≤ k ∧ 0 ≤ c ∧ k ≤ n ∧ c ≤ n - k) then 2 else 0
def tCopy (x k c y n n2 : Int) : Int := if ¬ (0 ≤ x ∧ x ≤ 3) ∨ ¬ (0 ≤ y ∧ y ≤ 3) then 1 else if ¬ (0 ≤ k ∧ 0 ≤ c ∧ k ≤ n ∧ c ≤ n - k) then 2 else if 48 < n2 + c then 3 else 0
def tCl (x : Int) : Int := if 0 ≤ x ∧ x ≤ 3 then 0 else 1
def tAt (x k n : Int) : Int := if ¬ (0 ≤ x ∧ x ≤ 3) then 1 else if ¬ (0 ≤ k ∧ k < n) then 2 else 0
noncomputable def tB (P : Prop) : Int := @ite Int P (Classical.propDecidable P) 0 1
def insF (D : Int → Int) (o n k v : Int) : Int → Int := fun j => if j = o + k then v else if o + k < j ∧ j ≤ o + n then D (j - 1) else D j
def shR (D : Int → Int) (o n k : Int) : Int → Int := fun j => if o + k < j ∧ j ≤ o + n then D (j - 1) else D j
theorem shR_0 (D : Int → Int) (o n : Int) : shR D o n n = D := by
  funext j; unfold shR; rw [if_neg (by omega)]
theorem shR_s (D : Int → Int) (o n : Int) {k : Int} (hk : k ≤ n) : upZ (shR D o n k) (o + k) (shR D o n k (o + k - 1)) = shR D o n (k - 1) := by
  funext j
  by_cases hj : j = o + k
  · subst hj
    rw [upZ_at]
    unfold shR
    rw [if_neg (by omega), if_pos (by omega)]
  · rw [upZ_ne _ _ hj]
    unfold shR
    by_cases h2 : o + k < j ∧ j ≤ o + n
    · rw [if_pos h2, if_pos (by omega)]
    · rw [if_neg h2, if_neg (by omega)]
theorem insF_of (D : Int → Int) (o n k v : Int) : upZ (shR D o n k) (o + k) v = insF D o n k v := by
  funext j
  unfold insF upZ shR
  rfl
def cutF (D : Int → Int) (o k c n2 : Int) : Int → Int := fun j => if o + k ≤ j ∧ j < o + n2 then D (j + c) else D j
theorem cutF_0 (D : Int → Int) (o k c : Int) : cutF D o k c k = D := by
  funext j; unfold cutF; rw [if_neg (by omega)]
theorem cutF_s (D : Int → Int) (o k c : Int) {q : Int} (hk : k ≤ q) (hc : 0 ≤ c) : upZ (cutF D o k c q) (o + q) (cutF D o k c q (o + q + c)) = cutF D o k c (q + 1) := by
  funext j
  by_cases hj : j = o + q
  · subst hj
    rw [upZ_at]
    unfold cutF
    rw [if_neg (by omega), if_pos (by omega)]
  · rw [upZ_ne _ _ hj]
    unfold cutF
    by_cases h2 : o + k ≤ j ∧ j < o + q
    · rw [if_pos h2, if_pos (by omega)]
    · rw [if_neg h2, if_neg (by omega)]
def cpyF (D : Int → Int) (to fr c : Int) : Int → Int := fun j => if to ≤ j ∧ j < to + c then D (fr + (j - to)) else D j
theorem cpyF_0 (D : Int → Int) (to fr : Int) : cpyF D to fr 0 = D := by
  funext j; unfold cpyF; rw [if_neg (by omega)]
theorem cpyF_s (D : Int → Int) (to fr : Int) {q : Int} (hq : 0 ≤ q) (hd : fr + q < to ∨ to + q ≤ fr) : upZ (cpyF D to fr q) (to + q) (cpyF D to fr q (fr + q)) = cpyF D to fr (q + 1) := by
  funext j
  by_cases hj : j = to + q
  · subst hj
    rw [upZ_at]
    unfold cpyF
    rw [if_neg (by omega), if_pos (by omega)]
    congr 1
    omega
  · rw [upZ_ne _ _ hj]
    unfold cpyF
    by_cases h2 : to ≤ j ∧ j < to + q
    · rw [if_pos h2, if_pos (by omega)]
    · rw [if_neg h2, if_neg (by omega)]
theorem upZ_upZ (F : Int → Int) (i x y : Int) : upZ (upZ F i x) i y = upZ F i y := by
  funext j; unfold upZ; split <;> rfl
