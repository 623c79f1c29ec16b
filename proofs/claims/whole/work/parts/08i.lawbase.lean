/-- the script's ints -/
def vaZ (xs : Nat → Int32) (i : Int) : Int := (xs i.toNat).toInt
theorem vaZ_rng (xs : Nat → Int32) (i : Int) : -2147483648 ≤ vaZ xs i ∧ vaZ xs i < 2147483648 := by
  have h1 := Int32.toInt_lt (xs i.toNat)
  have h2 := Int32.le_toInt (xs i.toNat)
  unfold vaZ
  omega
theorem lgc_self {x y : Int64} (h : x = y) : lg_cmp x y = 0 := by
  subst h
  unfold lg_cmp
  rw [if_neg (fun z => Int64.lt_irrefl z), if_pos rfl]
theorem dcl_self {x y : UInt64} (h : x = y) (hn : Jvm.FP.Core.dIsNaN x = false) : Op.cmpValue (FP.dcmp x y) .l = 0 := by
  subst h
  have h1 : FP.dcmp x x = some .eq := Jvm.FP.Core.dcmp_self (fun z => by rw [(Jvm.FP.Core.dIsNaN_iff x).mpr z] at hn; cases hn)
  rw [h1]
  decide
section LW
variable {p : Program} {l : Launch} {e : Env} {R : Room} {s : State} {m : MethodId} {args : Array Value} {below : List Frame} {meth : Method} {c : Code} {cells slots : Nat} {Q : State → Prop}
variable {g : GG} {sz0 nL : Nat} {h : AH} {cc : ByteArray} {own : String} {Ts : List Cond} {lv : LVs} {pc : Nat} {rest : List Value}
theorem r_sld (B : FX p s m args c cc own Ts nL g sz0) {b L : Nat} {xs : Nat → Int32} (hX : va_X b L xs s s.heap) (hbl : b < s.heap.size) (hbA : ¬ A0 sz0 b) (hL : L < 2147483648) {i : Int} (d : decode cc pc = .ok (.iaload, 1)) (h0 : 0 ≤ i) (h1 : i < (L : Int)) (k : WA p l e R s m args below meth c g sz0 nL Q h cells slots lv (pc + 1) (.int (iI (vaZ xs i)) :: rest)) : WA p l e R s m args below meth c g sz0 nL Q h cells slots lv pc (.int (iI i) :: .ref b :: rest) := fun H locs ls hR hS hl => by
  refine va_sld B.1 B.2.1 hX hbl hbA hS (iI_in hL h0 h1) d ?_
  rw [iI_nat h0 (by omega)]
  have hk := k H locs ls hR hS hl
  unfold vaZ at hk
  rw [iI_of] at hk
  exact hk
theorem r_slen (B : FX p s m args c cc own Ts nL g sz0) {b L : Nat} {xs : Nat → Int32} (hX : va_X b L xs s s.heap) (hbl : b < s.heap.size) (hbA : ¬ A0 sz0 b) (d : decode cc pc = .ok (.arraylength, 1)) (k : WA p l e R s m args below meth c g sz0 nL Q h cells slots lv (pc + 1) (.int (iI (L : Int)) :: rest)) : WA p l e R s m args below meth c g sz0 nL Q h cells slots lv pc (.ref b :: rest) := fun H locs ls hR hS hl => by
  refine va_slen B.1 B.2.1 hX hbl hbA hS d ?_
  exact k H locs ls hR hS hl
theorem r_tabIn (B : FX p s m args c cc own Ts nL g sz0) {dflt lo hi : Int} {offs : Array Int} {len : Nat} {x off : Int} {tgt : Nat} (d : decode cc pc = .ok (.tableswitch dflt lo hi offs, len)) (hx : -2147483648 ≤ x ∧ x < 2147483648) (h1 : lo ≤ x) (h2 : x ≤ hi) (ho : offs[(x - lo).toNat]? = some off) (ht : (pc : Int) + off = (tgt : Int)) (k : WA p l e R s m args below meth c g sz0 nL Q h cells slots lv tgt rest) : WA p l e R s m args below meth c g sz0 nL Q h cells slots lv pc (.int (iI x) :: rest) := fun H locs ls hR hS hl => lv_tableIn (off := off) B.1 B.2.1 d (by rw [iI_toInt hx]; omega) (by rw [iI_toInt hx]; omega) (by rw [iI_toInt hx]; exact ho) ht (k H locs ls hR hS hl)
theorem r_tabOut (B : FX p s m args c cc own Ts nL g sz0) {dflt lo hi : Int} {offs : Array Int} {len : Nat} {x : Int} {tgt : Nat} (d : decode cc pc = .ok (.tableswitch dflt lo hi offs, len)) (hx : -2147483648 ≤ x ∧ x < 2147483648) (h1 : x < lo ∨ hi < x) (ht : (pc : Int) + dflt = (tgt : Int)) (k : WA p l e R s m args below meth c g sz0 nL Q h cells slots lv tgt rest) : WA p l e R s m args below meth c g sz0 nL Q h cells slots lv pc (.int (iI x) :: rest) := fun H locs ls hR hS hl => lv_tableOut B.1 B.2.1 d (by rw [iI_toInt hx]; exact h1) ht (k H locs ls hR hS hl)
theorem r_dcmp (B : FX p s m args c cc own Ts nL g sz0) {x y : UInt64} {op : CmpOp} (d : decode cc pc = .ok (.dcmp op, 1)) (k : WA p l e R s m args below meth c g sz0 nL Q h cells slots lv (pc + 1) (.int (Op.cmpValue (FP.dcmp x y) op) :: rest)) : WA p l e R s m args below meth c g sz0 nL Q h cells slots lv pc (.double y :: .double x :: rest) := fun H locs ls hR hS hl => lv_dcmp B.1 B.2.1 d (k H locs ls hR hS hl)
end LW
/-- where all lies: the class's parts, the model's, the two arrays for what comes back -/
def LA (A ad : Nat → Nat) (o1 o2 : Nat) (Z : Nat → Prop) : Prop := AOK A ∧ ADok ad ∧ (∀ q : Nat, Z q ↔ (q = o1 ∨ q = o2 ∨ ∃ k ∈ AK0, q = ad k)) ∧ o1 ≠ o2 ∧ (∀ i : Nat, i < 27 → A i ≠ o1 ∧ A i ≠ o2 ∧ ∀ k ∈ AK0, A i ≠ ad k) ∧ ∀ k ∈ AK0, ad k ≠ o1 ∧ ad k ≠ o2
section LI
variable {g : GG} {A ad : Nat → Nat} {Z : Nat → Prop} {o1 o2 : Nat} {h h1 h2 : AH} {mthrown mnights mbits mleast mmost mroom mreserve mmount mspeed : Int} {mdata msize mends mmany mkind mchain mholds mbid mbound mcheap mpromised mcoin mpaid mowed mturn misAsking mwant mcost misServed mitsRow mitsChunk : Int → Int}
/-- the model told, at a heap, from another one -/
theorem MW.mv {h0 h' : AH} (hM : MW g ad h0 mthrown mdata msize mends mmany mkind mchain mholds mnights mbits mleast mmost mroom mreserve mmount mspeed mbid mbound mcheap mpromised mcoin mpaid mowed mturn misAsking mwant mcost misServed mitsRow mitsChunk h) (hk : ∀ k ∈ AK0, h' (ad k) = h (ad k)) : MW g ad h' mthrown mdata msize mends mmany mkind mchain mholds mnights mbits mleast mmost mroom mreserve mmount mspeed mbid mbound mcheap mpromised mcoin mpaid mowed mturn misAsking mwant mcost misServed mitsRow mitsChunk h' := by
  unfold MW at *
  obtain ⟨m0_, m1_, m2_, m3_, m4_, m5_, m6_, m7_, m8_, m9_, m10_, m11_, m12_, m13_, m14_, m15_, m16_, m17_, m18_, m19_, m20_, m21_, hr, hf⟩ := hM
  exact ⟨(hk 0 (by decide)).trans m0_, (hk 1 (by decide)).trans m1_, (hk 2 (by decide)).trans m2_, (hk 3 (by decide)).trans m3_, (hk 4 (by decide)).trans m4_, (hk 5 (by decide)).trans m5_, (hk 6 (by decide)).trans m6_, (hk 7 (by decide)).trans m7_, (hk 16 (by decide)).trans m8_, (hk 17 (by decide)).trans m9_, (hk 18 (by decide)).trans m10_, (hk 19 (by decide)).trans m11_, (hk 20 (by decide)).trans m12_, (hk 21 (by decide)).trans m13_, (hk 22 (by decide)).trans m14_, (hk 23 (by decide)).trans m15_, (hk 24 (by decide)).trans m16_, (hk 25 (by decide)).trans m17_, (hk 26 (by decide)).trans m18_, (hk 27 (by decide)).trans m19_, (hk 28 (by decide)).trans m20_, (hk 29 (by decide)).trans m21_, hr, fun _ _ => rfl⟩
theorem MW.ks {h0 : AH} (hM : MW g ad h0 mthrown mdata msize mends mmany mkind mchain mholds mnights mbits mleast mmost mroom mreserve mmount mspeed mbid mbound mcheap mpromised mcoin mpaid mowed mturn misAsking mwant mcost misServed mitsRow mitsChunk h) : ∀ k ∈ AK0, h (ad k) ≠ none := by
  unfold MW at hM
  obtain ⟨m0_, m1_, m2_, m3_, m4_, m5_, m6_, m7_, m8_, m9_, m10_, m11_, m12_, m13_, m14_, m15_, m16_, m17_, m18_, m19_, m20_, m21_, hr, hf⟩ := hM
  intro k hk
  unfold AK0 at hk
  simp only [List.mem_cons, List.not_mem_nil, or_false] at hk
  rcases hk with rfl | rfl | rfl | rfl | rfl | rfl | rfl | rfl | rfl | rfl | rfl | rfl | rfl | rfl | rfl | rfl | rfl | rfl | rfl | rfl | rfl | rfl
  · rw [m0_]; exact fun z => by cases z
  · rw [m1_]; exact fun z => by cases z
  · rw [m2_]; exact fun z => by cases z
  · rw [m3_]; exact fun z => by cases z
  · rw [m4_]; exact fun z => by cases z
  · rw [m5_]; exact fun z => by cases z
  · rw [m6_]; exact fun z => by cases z
  · rw [m7_]; exact fun z => by cases z
  · rw [m8_]; exact fun z => by cases z
  · rw [m9_]; exact fun z => by cases z
  · rw [m10_]; exact fun z => by cases z
  · rw [m11_]; exact fun z => by cases z
  · rw [m12_]; exact fun z => by cases z
  · rw [m13_]; exact fun z => by cases z
  · rw [m14_]; exact fun z => by cases z
  · rw [m15_]; exact fun z => by cases z
  · rw [m16_]; exact fun z => by cases z
  · rw [m17_]; exact fun z => by cases z
  · rw [m18_]; exact fun z => by cases z
  · rw [m19_]; exact fun z => by cases z
  · rw [m20_]; exact fun z => by cases z
  · rw [m21_]; exact fun z => by cases z
theorem ST.dat {hz : AH} (hT : ST g A Z hz mdata msize mends mmany mkind mchain mholds mnights mbits mleast mmost mroom mreserve mmount mspeed mbid mbound mcheap mpromised mcoin mpaid mowed h) : ∀ i : Int, 0 ≤ i → i < 11712 → 0 ≤ mdata i ∧ mdata i ≤ 255 := by
  obtain ⟨hK, LE, RK1, RN, HK1, HN, CA, PV, CF, CN, Ha, hN, tq, G, Eg, sz, pt, wt, gt, pc, LN, lt, hC, hSub, hZn, hX, hM⟩ := hT
  exact hM.2
theorem ST.lko {hz : AH} (hT : ST g A Z hz mdata msize mends mmany mkind mchain mholds mnights mbits mleast mmost mroom mreserve mmount mspeed mbid mbound mcheap mpromised mcoin mpaid mowed h) : LKo mends mmany := by
  obtain ⟨hK, LE, RK1, RN, HK1, HN, CA, PV, CF, CN, Ha, hN, tq, G, Eg, sz, pt, wt, gt, pc, LN, lt, hC, hSub, hZn, hX, hM⟩ := hT
  exact hX.1
theorem ST.lke {hz : AH} {e1 m1 : Int → Int} (hn : 0 ≤ mnights ∧ mnights ≤ 60) (hT : ST g A Z hz mdata msize mends mmany mkind mchain mholds mnights mbits mleast mmost mroom mreserve mmount mspeed mbid mbound mcheap mpromised mcoin mpaid mowed h) (hE : LKe mends mmany e1 m1) : ST g A Z hz mdata msize e1 m1 mkind mchain mholds mnights mbits mleast mmost mroom mreserve mmount mspeed mbid mbound mcheap mpromised mcoin mpaid mowed h := ST.cg hn (fun z z0 z1 => rowE.lke z0 z1 hE) (fun x x0 x1 => ⟨rfl, fun q q0 q1 => rfl⟩) hT.dat hT
/-- both sides hold the same -/
def LK (g : GG) (A : Nat → Nat) (Z : Nat → Prop) (ad : Nat → Nat) (o1 o2 : Nat) (mthrown : Int) (h : AH) : Prop := ∃ (mnights mbits mleast mmost mroom mreserve mmount mspeed : Int) (mdata msize mends mmany mkind mchain mholds mbid mbound mcheap mpromised mcoin mpaid mowed mturn misAsking mwant mcost misServed mitsRow mitsChunk : Int → Int), MW g ad h mthrown mdata msize mends mmany mkind mchain mholds mnights mbits mleast mmost mroom mreserve mmount mspeed mbid mbound mcheap mpromised mcoin mpaid mowed mturn misAsking mwant mcost misServed mitsRow mitsChunk h ∧ ST g A Z h mdata msize mends mmany mkind mchain mholds mnights mbits mleast mmost mroom mreserve mmount mspeed mbid mbound mcheap mpromised mcoin mpaid mowed h ∧ RGm mnights mbits mleast mmost mroom mreserve mmount mspeed msize mbid mbound mcheap mpromised mcoin mpaid mowed ∧ (∃ F : Nat → Int64, h o1 = some (lE g 1 F)) ∧ ∃ F : Nat → UInt64, h o2 = some (dE g 1 F)
/-- the model's world stands while only the class's cells and an answer's cell are written -/
theorem LA.mw (hL : LA A ad o1 o2 Z) {o : Nat} (ho : o = o1 ∨ o = o2) (hM : MW g ad h mthrown mdata msize mends mmany mkind mchain mholds mnights mbits mleast mmost mroom mreserve mmount mspeed mbid mbound mcheap mpromised mcoin mpaid mowed mturn misAsking mwant mcost misServed mitsRow mitsChunk h) (hf : ∀ q : Nat, h q ≠ none → (∀ i : Nat, i < 27 → q ≠ A i) → q ≠ o → h1 q = h q) : MW g ad h1 mthrown mdata msize mends mmany mkind mchain mholds mnights mbits mleast mmost mroom mreserve mmount mspeed mbid mbound mcheap mpromised mcoin mpaid mowed mturn misAsking mwant mcost misServed mitsRow mitsChunk h1 := hM.mv (fun k hk => hf (ad k) (hM.ks k hk) (fun i hi z => (hL.2.2.2.2.1 i hi).2.2 k hk z.symm) (fun z => by
  rcases ho with y | y
  · exact (hL.2.2.2.2.2 k hk).1 (z.trans y)
  · exact (hL.2.2.2.2.2 k hk).2 (z.trans y)))
theorem LA.oZ (hL : LA A ad o1 o2 Z) : Z o1 ∧ Z o2 := ⟨(hL.2.2.1 o1).mpr (Or.inl rfl), (hL.2.2.1 o2).mpr (Or.inr (Or.inl rfl))⟩
theorem LA.oA (hL : LA A ad o1 o2 Z) : (∀ i : Nat, i < 27 → o1 ≠ A i) ∧ ∀ i : Nat, i < 27 → o2 ≠ A i := ⟨fun i hi z => (hL.2.2.2.2.1 i hi).1 z.symm, fun i hi z => (hL.2.2.2.2.1 i hi).2.1 z.symm⟩
theorem LA.ok (hL : LA A ad o1 o2 Z) {hz : AH} (hM : MW g ad hz mthrown mdata msize mends mmany mkind mchain mholds mnights mbits mleast mmost mroom mreserve mmount mspeed mbid mbound mcheap mpromised mcoin mpaid mowed mturn misAsking mwant mcost misServed mitsRow mitsChunk h) {F : Nat → Int64} (hO : h o1 = some (lE g 1 F)) {F2 : Nat → UInt64} (hO2 : h o2 = some (dE g 1 F2)) : ∀ q : Nat, Z q → h q ≠ none := fun q hq => by
  rcases (hL.2.2.1 q).mp hq with z | z | ⟨k, hk, z⟩
  · rw [z, hO]; exact fun y => by cases y
  · rw [z, hO2]; exact fun y => by cases y
  · rw [z]; exact hM.ks k hk
/-- after the model's call -/
theorem LK.mk (hL : LA A ad o1 o2 Z) {T : Int} (eT : T = mthrown) (hM : MW g ad h1 mthrown mdata msize mends mmany mkind mchain mholds mnights mbits mleast mmost mroom mreserve mmount mspeed mbid mbound mcheap mpromised mcoin mpaid mowed mturn misAsking mwant mcost misServed mitsRow mitsChunk h2) (hT : ST g A Z h1 mdata msize mends mmany mkind mchain mholds mnights mbits mleast mmost mroom mreserve mmount mspeed mbid mbound mcheap mpromised mcoin mpaid mowed h1) (hG : RGm mnights mbits mleast mmost mroom mreserve mmount mspeed msize mbid mbound mcheap mpromised mcoin mpaid mowed) {F : Nat → Int64} (hO : h1 o1 = some (lE g 1 F)) {F2 : Nat → UInt64} (hO2 : h1 o2 = some (dE g 1 F2)) : LK g A Z ad o1 o2 T h2 := by
  have hf : ∀ q : Nat, ¬ Z q → h2 q = h1 q := fun q hq => hM.fr q (fun k hk z => hq ((hL.2.2.1 q).mpr (Or.inr (Or.inr ⟨k, hk, z⟩))))
  have e1 : h2 o1 = h1 o1 := hM.fr o1 (fun k hk z => (hL.2.2.2.2.2 k hk).1 z.symm)
  have e2 : h2 o2 = h1 o2 := hM.fr o2 (fun k hk z => (hL.2.2.2.2.2 k hk).2 z.symm)
  have hA : ∀ i : Nat, i < 27 → h2 (A i) = h1 (A i) := fun i hi => hM.fr (A i) (fun k hk => (hL.2.2.2.2.1 i hi).2.2 k hk)
  rw [eT]
  exact ⟨_, _, _, _, _, _, _, _, _, _, _, _, _, _, _, _, _, _, _, _, _, _, _, _, _, _, _, _, _, hM.mv (fun _ _ => rfl), hT.mv (fun q _ hq => hf q hq) hA, hG, ⟨F, e1.trans hO⟩, F2, e2.trans hO2⟩
end LI
