-- the class's marks and chunks
theorem i32_ext {a b : Int32} (h : a.toBitVec = b.toBitVec) : a = b := Int32.toBitVec.inj h
theorem K_xor (a b m : Int32) : ((a &&& m) ^^^ (b &&& m)) &&& m = (a &&& m) ^^^ (b &&& m) := by
  apply i32_ext
  rw [Int32.toBitVec_and, Int32.toBitVec_xor, Int32.toBitVec_and, Int32.toBitVec_and]
  generalize a.toBitVec = x, b.toBitVec = y, m.toBitVec = z
  apply BitVec.eq_of_getLsbD_eq
  intro i hi
  simp only [BitVec.getLsbD_and, BitVec.getLsbD_xor]
  cases x.getLsbD i <;> cases y.getLsbD i <;> cases z.getLsbD i <;> rfl
theorem K_msb {v : Int32} (h : v &&& iI 65535 = v) : v.toBitVec.msb = false := by
  have h1 : v.toBitVec &&& (iI 65535).toBitVec = v.toBitVec := by rw [← Int32.toBitVec_and, h]
  rw [← h1, BitVec.msb_and]
  have : (iI 65535).toBitVec.msb = false := by decide
  rw [this, Bool.and_false]
theorem shr13 {v : Int32} (h : v &&& iI 65535 = v) : (v.toUInt32 >>> ((iI 13).toUInt32 &&& Int32.toUInt32 31)).toInt32 = v >>> (iI 13 &&& 31) := by
  have e1 : iI 13 &&& 31 = 13 := by decide
  have e2 : (iI 13).toUInt32 &&& Int32.toUInt32 31 = 13 := by decide
  rw [e1, e2]
  apply i32_ext
  rw [Int32.toBitVec_shiftRight]
  have e3 : (13 : Int32).toBitVec.smod 32 = 13#32 := by decide
  rw [e3]
  show v.toBitVec >>> (13 : BitVec 32) = v.toBitVec.sshiftRight (13#32).toNat
  rw [BitVec.sshiftRight_eq_of_msb_false (K_msb h)]
  rfl
theorem mul16 : ∀ b : Fin 256, iI (40503 * (b.val : Int)) &&& iI 65535 = iI (40503 * (b.val : Int)) - iI (40503 * (b.val : Int)) / iI 65536 * iI 65536 := by decide +kernel
/-- the class's step of the mark -/
def cstep (v : Int32) (b : Int) : Int32 := ((v <<< (iI 3 &&& 31) ||| (v.toUInt32 >>> ((iI 13).toUInt32 &&& Int32.toUInt32 31)).toInt32) &&& iI 65535) ^^^ (iI (40503 * b) &&& iI 65535)
theorem cstep_eq {v : Int32} {b : Int} (h : v &&& iI 65535 = v) (hb : 0 ≤ b ∧ b ≤ 255) : cstep v b = mstep v b := by
  have h1 := mul16 ⟨b.toNat, by omega⟩
  rw [show (((⟨b.toNat, by omega⟩ : Fin 256).val : Nat) : Int) = b by show ((b.toNat : Nat) : Int) = b; omega] at h1
  unfold cstep mstep
  rw [shr13 h, h1]
theorem cstep_k (v : Int32) (b : Int) : cstep v b &&& iI 65535 = cstep v b := K_xor _ _ _
theorem mkn_k {G : Int → Int} (hG : ∀ j, 0 ≤ G j ∧ G j ≤ 255) (lo : Int) : ∀ n : Nat, mkn G lo n &&& iI 65535 = mkn G lo n
  | 0 => by show (0 : Int32) &&& _ = 0; decide
  | n + 1 => by
    show mstep (mkn G lo n) (G (lo + (n : Int))) &&& iI 65535 = mstep (mkn G lo n) (G (lo + (n : Int)))
    rw [← cstep_eq (mkn_k hG lo n) (hG _)]
    exact cstep_k _ _
theorem cut_ms (G : Int → Int) (sz b ls ms : Int) (hm : 1 ≤ ms) : ∀ k : Nat, (k : Int) - (cutSt G sz b ls ms k).1 < ms
  | 0 => by show ((0 : Nat) : Int) - 0 < ms; omega
  | k + 1 => by
    have ih := cut_ms G sz b ls ms hm k
    by_cases hc : cutC G sz b ls ms (k : Int) (cutSt G sz b ls ms k).1
    · have e := cutSt_t (G := G) (sz := sz) (b := b) (ls := ls) (ms := ms) (k := (k : Int)) (by omega) hc
      rw [show ((k : Int) + 1).toNat = k + 1 by omega] at e
      rw [e]
      show ((k + 1 : Nat) : Int) - ((k : Int) + 1) < ms
      omega
    · have e := cutSt_f (G := G) (sz := sz) (b := b) (ls := ls) (ms := ms) (k := (k : Int)) (by omega) hc
      rw [show ((k : Int) + 1).toNat = k + 1 by omega, show ((k : Int)).toNat = k by omega] at e
      rw [e]
      have : ¬ (k : Int) + 1 - (cutSt G sz b ls ms k).1 = ms := fun z => hc (Or.inr (Or.inl z))
      omega
theorem mkl_le {x i : Int} (hx : 0 ≤ x) (h1 : x - 3 ≤ i) (h0 : 0 ≤ i) : mkl x ≤ i := by unfold mkl; split <;> omega
theorem mkn_stop {G : Int → Int} {x q : Int} (h : x < q) (hq : q ≤ 3) (hx : 0 ≤ x) : mkn G (mkl x) (x - (q - 1) - mkl x).toNat = mkn G (mkl x) (x - q - mkl x).toNat := by
  have : mkl x = 0 := by unfold mkl; rw [if_pos (by omega)]
  rw [this, show (x - (q - 1) - 0).toNat = 0 by omega, show (x - q - 0).toNat = 0 by omega]
theorem putRow_s0 (old : Int → Int) {n : Int} (E : Int → Int) (v : Int) (hn : 0 ≤ n) : upZ (putRow old 0 n E) n v = putRow old 0 (n + 1) (upZ E n v) := by
  have := putRow_s old 0 E v hn
  rwa [Int.zero_add] at this
