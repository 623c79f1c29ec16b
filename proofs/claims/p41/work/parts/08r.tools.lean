theorem an_ex (v : Int32) {k : Int} (hk : 0 ≤ k ∧ k < 2147483648) : ∃ z : Int, v &&& iI k = iI z ∧ 0 ≤ z ∧ z ≤ k := by
  refine ⟨i32z (v &&& iI k), (iI_i32z _).symm, ?_⟩
  have e : (iI k).toBitVec.toNat = k.toNat := by
    show (BitVec.ofInt 32 k).toNat = k.toNat
    rw [BitVec.toNat_ofInt]
    omega
  have h1 : (v &&& iI k).toBitVec.toNat ≤ k.toNat := by
    rw [Int32.toBitVec_and, BitVec.toNat_and, e]
    exact Nat.and_le_right
  have h2 : i32z (v &&& iI k) = ((v &&& iI k).toBitVec.toNat : Int) := by
    show (v &&& iI k).toBitVec.toInt = _
    rw [BitVec.toInt_eq_toNat_cond, if_pos (by omega)]
  omega
theorem sh_ex {y n : Int} (k : Nat) (hs : ((iI n &&& 31).toBitVec.smod 32).toNat = k) (hy : 0 ≤ y ∧ y < 2147483648) : ∃ z : Int, iI y >>> (iI n &&& 31) = iI z ∧ 0 ≤ z ∧ z ≤ y := by
  have h1 : 0 ≤ y / (2 : Int) ^ k ∧ y / (2 : Int) ^ k ≤ y := ⟨Int.ediv_nonneg hy.1 (Int.le_of_lt (Int.pow_pos (by decide))), Int.ediv_le_self _ hy.1⟩
  refine ⟨y / (2 : Int) ^ k, ?_, h1⟩
  apply Int32.toInt_inj.mp
  rw [pk_shr _ _ k hs, iI_toInt (by omega), iI_toInt (by omega), Int.shiftRight_eq_div_pow]
  norm_cast
theorem rm_eq {a b : Int} (ha : 0 ≤ a ∧ a < 2147483648) (hb : 0 < b ∧ b < 2147483648) : iI a - iI a / iI b * iI b = iI (a % b) := by
  have hd : (iI a / iI b).toInt = a / b := by
    rw [Jvm.Kit.i32_div (by rw [iI_toInt (by omega), iI_toInt (by omega)]; omega), iI_toInt (by omega), iI_toInt (by omega), Int.tdiv_eq_ediv_of_nonneg ha.1]
  have e : iI a / iI b = iI (a / b) := by rw [← hd, iI_of]
  rw [e, iI_mul, iI_sub]
  congr 1
  rw [Int.emod_def, Int.mul_comm]
theorem rm_ex {a b : Int} (ha : 0 ≤ a ∧ a < 2147483648) (hb : 0 < b ∧ b < 2147483648) : ∃ z : Int, iI a - iI a / iI b * iI b = iI z ∧ 0 ≤ z ∧ z < b ∧ z = a % b := ⟨a % b, rm_eq ha hb, Int.emod_nonneg _ (by omega), Int.emod_lt_of_pos _ hb.1, rfl⟩
theorem iI_nz {b : Int} (hb : 0 < b ∧ b < 2147483648) : ¬ iI b = 0 := fun z => by
  have h2 := congrArg Int32.toInt z
  rw [iI_toInt (by omega)] at h2
  have h3 : (0 : Int32).toInt = 0 := by decide
  omega
theorem lcmp_same {x y : Int64} (e : x = y) : lg_cmp x y = 0 := (lg_cmp_eq x y).mpr e
theorem tAsk_3 {x k n kd : Int} (h : tAsk x k n kd = 3) : kd = 0 := by
  unfold tAsk at h
  (repeat' (split at h)) <;> omega
theorem tDif_2 {x d : Int} (h : tDif x d = 2) : d = -1 := by
  unfold tDif at h
  (repeat' (split at h)) <;> omega
theorem tDif_0 {x d : Int} (h : tDif x d = 0) : ¬ d = -1 := by
  unfold tDif at h
  (repeat' (split at h)) <;> omega
section LW3
variable {p : Program} {l : Launch} {e : Env} {R : Room} {s : State} {m : MethodId} {args : Array Value} {below : List Frame} {meth : Method} {c : Code} {cells slots : Nat} {Q : State → Prop}
variable {g : GG} {sz0 nL : Nat} {h : AH} {cc : ByteArray} {own : String} {Ts : List Cond} {lv : LVs} {pc : Nat} {rest : List Value}
theorem r_topL {x y : Int64} (e1 : x = y) (k : WA p l e R s m args below meth c g sz0 nL Q h cells slots lv pc (.long y :: rest)) : WA p l e R s m args below meth c g sz0 nL Q h cells slots lv pc (.long x :: rest) := by subst e1; exact k
theorem r_topf {x y : UInt32} (e1 : x = y) (k : WA p l e R s m args below meth c g sz0 nL Q h cells slots lv pc (.float y :: rest)) : WA p l e R s m args below meth c g sz0 nL Q h cells slots lv pc (.float x :: rest) := by subst e1; exact k
end LW3
section STX
variable {g : GG} {A : Nat → Nat} {Z : Nat → Prop} {h hz h2 : AH} {mnights mbits mleast mmost mroom mreserve mmount mspeed : Int} {mdata msize mends mmany mkind mchain mholds mbid mbound mcheap mpromised mcoin mpaid mowed : Int → Int}
theorem ST.ro (hT : ST g A Z hz mdata msize mends mmany mkind mchain mholds mnights mbits mleast mmost mroom mreserve mmount mspeed mbid mbound mcheap mpromised mcoin mpaid mowed h) : ∃ fs : List Value, h (A 0) = some (oE 9 fs) := by
  obtain ⟨hK, LE, RK1, RN, HK1, HN, CA, PV, CF, CN, Ha, hN, tq, G, Eg, sz, pt, wt, gt, pc, LN, lt, hC, hSub, hZn, hX, hM⟩ := hT
  exact ⟨_, hC.ro⟩
theorem ST.tr (hf : ∀ q : Nat, hz q ≠ none → (∀ i : Nat, i < 27 → q ≠ A i) → h q = hz q) (hT : ST g A Z h mdata msize mends mmany mkind mchain mholds mnights mbits mleast mmost mroom mreserve mmount mspeed mbid mbound mcheap mpromised mcoin mpaid mowed h2) : ST g A Z hz mdata msize mends mmany mkind mchain mholds mnights mbits mleast mmost mroom mreserve mmount mspeed mbid mbound mcheap mpromised mcoin mpaid mowed h2 := by
  obtain ⟨hK, LE, RK1, RN, HK1, HN, CA, PV, CF, CN, Ha, hN, tq, G, Eg, sz, pt, wt, gt, pc, LN, lt, hC, hSub, hZn, hX, hM⟩ := hT
  exact ⟨hK, LE, RK1, RN, HK1, HN, CA, PV, CF, CN, Ha, hN, tq, G, Eg, sz, pt, wt, gt, pc, LN, lt, hC.tr hf, hSub, hZn, hX, hM⟩
end STX
