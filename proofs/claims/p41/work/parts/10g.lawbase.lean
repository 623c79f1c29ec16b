/-- the script's ints -/
def vaZ (xs : Nat → Int32) (i : Int) : Int := (xs i.toNat).toInt
theorem vaZ_rng (xs : Nat → Int32) (i : Int) : -2147483648 ≤ vaZ xs i ∧ vaZ xs i < 2147483648 := by
  have h1 := Int32.toInt_lt (xs i.toNat)
  have h2 := Int32.le_toInt (xs i.toNat)
  unfold vaZ
  omega
section LW
variable {p : Program} {l : Launch} {e : Env} {R : Room} {s : State} {m : MethodId} {args : Array Value} {below : List Frame} {meth : Method} {c : Code} {cells slots : Nat} {Q : State → Prop}
variable {g : GG} {sz0 nL : Nat} {h : AH} {cc : ByteArray} {own : String} {Ts : List Cond} {lv : LVs} {pc : Nat} {rest : List Value}
theorem r_sld (B : FX p s m args c cc own Ts nL g sz0) {b L : Nat} {xs : Nat → Int32} (hX : va_X b L xs s s.heap) (hbl : b < s.heap.size) (hbA : ¬ A0 sz0 b) (hL : L < 2147483648) {i : Int} (d : decode cc pc = .ok (.iaload, 1)) (h0 : 0 ≤ i) (h1 : i < (L : Int)) (k : WA p l e R s m args below meth c g sz0 nL Q h cells slots lv (pc + 1) (.int (iI (vaZ xs i)) :: rest)) : WA p l e R s m args below meth c g sz0 nL Q h cells slots lv pc (.int (iI i) :: .ref b :: rest) := fun H locs ls hR hS hl => by
  refine va_sld B.1 B.2.1 hX hbl hbA hS (iI_in hL h0 h1) d ?_
  rw [iI_nat h0 (by omega)]
  have hk := k H locs ls hR hS hl
  unfold vaZ at hk
  rw [iI_of] at hk
  exact hk
theorem r_slen (B : FX p s m args c cc own Ts nL g sz0) {b L : Nat} {xs : Nat → Int32} (hX : va_X b L xs s s.heap) (hbl : b < s.heap.size) (hbA : ¬ A0 sz0 b) (d : decode cc pc = .ok (.arraylength, 1)) (k : WA p l e R s m args below meth c g sz0 nL Q h cells slots lv (pc + 1) (.int (iI (L : Int)) :: rest)) : WA p l e R s m args below meth c g sz0 nL Q h cells slots lv pc (.ref b :: rest) := fun H locs ls hR hS hl => by
  refine va_slen B.1 B.2.1 hX hbl hbA hS d ?_
  exact k H locs ls hR hS hl
theorem r_icmp_neS (B : FX p s m args c cc own Ts nL g sz0) {x y : Int32} {off : Int} {tgt : Nat} (d : decode cc pc = .ok (.if_icmp .ne off, 3)) (ht : (pc : Int) + off = (tgt : Int)) (e9 : x = y) (k : WA p l e R s m args below meth c g sz0 nL Q h cells slots lv (pc + 3) rest) : WA p l e R s m args below meth c g sz0 nL Q h cells slots lv pc (.int y :: .int x :: rest) := fun H locs ls hR hS hl => lv_icmp_ne (tgt := tgt) B.1 B.2.1 d ht (fun c9 => absurd e9 c9) (fun _ => k H locs ls hR hS hl)
theorem r_shz {y n : Int} (j : Nat) (hs : ((iI n &&& 31).toBitVec.smod 32).toNat = j) (hy : 0 ≤ y ∧ y < 2147483648) (k : ∀ z : Int, iI y >>> (iI n &&& 31) = iI z → 0 ≤ z → z ≤ y → WA p l e R s m args below meth c g sz0 nL Q h cells slots lv pc (.int (iI z) :: rest)) : WA p l e R s m args below meth c g sz0 nL Q h cells slots lv pc (.int (iI y >>> (iI n &&& 31)) :: rest) := by
  obtain ⟨z, e1, z0, z1⟩ := sh_ex j hs hy
  rw [e1]
  exact k z e1 z0 z1
theorem r_anz {v : Int32} {n : Int} (hn : 0 ≤ n ∧ n < 2147483648) (k : ∀ z : Int, v &&& iI n = iI z → 0 ≤ z → z ≤ n → WA p l e R s m args below meth c g sz0 nL Q h cells slots lv pc (.int (iI z) :: rest)) : WA p l e R s m args below meth c g sz0 nL Q h cells slots lv pc (.int (v &&& iI n) :: rest) := by
  obtain ⟨z, e1, z0, z1⟩ := an_ex v hn
  rw [e1]
  exact k z e1 z0 z1
theorem r_rmz {a b : Int} (ha : 0 ≤ a ∧ a < 2147483648) (hb : 0 < b ∧ b < 2147483648) (k : ∀ z : Int, z = a % b → 0 ≤ z → z < b → WA p l e R s m args below meth c g sz0 nL Q h cells slots lv pc (.int (iI z) :: rest)) : WA p l e R s m args below meth c g sz0 nL Q h cells slots lv pc (.int (iI a - iI a / iI b * iI b) :: rest) := by
  obtain ⟨z, e1, z0, z1, z2⟩ := rm_ex ha hb
  rw [e1]
  exact k z z2 z0 z1
end LW
section LI
variable {g : GG} {A : Nat → Nat} {Z : Nat → Prop} {h h1 h2 hz : AH} {mnights mbits mleast mmost mroom mreserve mmount mspeed : Int} {mdata msize mends mmany mkind mchain mholds mbid mbound mcheap mpromised mcoin mpaid mowed : Int → Int}
theorem ST.dat {hz : AH} (hT : ST g A Z hz mdata msize mends mmany mkind mchain mholds mnights mbits mleast mmost mroom mreserve mmount mspeed mbid mbound mcheap mpromised mcoin mpaid mowed h) : ∀ i : Int, 0 ≤ i → i < 11712 → 0 ≤ mdata i ∧ mdata i ≤ 255 := by
  obtain ⟨hK, LE, RK1, RN, HK1, HN, CA, PV, CF, CN, Ha, hN, tq, G, Eg, sz, pt, wt, gt, pc, LN, lt, hC, hSub, hZn, hX, hM⟩ := hT
  exact hM.2
theorem RGm.size (hG : RGm mnights mbits mleast mmost mroom mreserve mmount mspeed msize mbid mbound mcheap mpromised mcoin mpaid mowed) {x v : Int} (hv : 0 ≤ v ∧ v ≤ 48) : RGm mnights mbits mleast mmost mroom mreserve mmount mspeed (upZ msize (240 + x) v) mbid mbound mcheap mpromised mcoin mpaid mowed := ⟨hG.1, hG.2.1, hG.2.2.1, hG.2.2.2.1, hG.2.2.2.2.1, fun z z0 z1 => by
  unfold upZ
  split
  · exact hv
  · exact hG.2.2.2.2.2 z z0 z1⟩
theorem RGm.cl (hG : RGm mnights mbits mleast mmost mroom mreserve mmount mspeed msize mbid mbound mcheap mpromised mcoin mpaid mowed) {x : Int} {b' o' c' p' q' w' : Int → Int} (hv : ∀ y : Int, 0 ≤ y → y ≤ 3 → (b' y = mbid y ∨ (0 ≤ b' y ∧ b' y ≤ 100)) ∧ (o' y = mbound y ∨ (0 ≤ o' y ∧ o' y ≤ 30)) ∧ (c' y = mcheap y ∨ (0 ≤ c' y ∧ c' y ≤ 50)) ∧ (p' y = mpromised y ∨ (0 ≤ p' y ∧ p' y ≤ 600)) ∧ (q' y = mcoin y ∨ (0 ≤ q' y ∧ q' y ≤ 100)) ∧ (w' y = mowed y ∨ inR (w' y))) : RGm mnights mbits mleast mmost mroom mreserve mmount mspeed msize b' o' c' p' q' mpaid w' := ⟨hG.1, hG.2.1, hG.2.2.1, hG.2.2.2.1, fun y y0 y1 => by
  obtain ⟨g1, g2, g3, g4, g5, g6, g7⟩ := hG.2.2.2.2.1 y y0 y1
  obtain ⟨v1, v2, v3, v4, v5, v6⟩ := hv y y0 y1
  refine ⟨by omega, by omega, by omega, by omega, by omega, g6, ?_⟩
  rcases v6 with z | z
  · rw [z]; exact g7
  · exact z, hG.2.2.2.2.2⟩
theorem upZ_or {F : Int → Int} {x v lo hi y : Int} (hv : lo ≤ v ∧ v ≤ hi) : upZ F x v y = F y ∨ (lo ≤ upZ F x v y ∧ upZ F x v y ≤ hi) := by
  unfold upZ
  split
  · exact Or.inr hv
  · exact Or.inl rfl
theorem RGm.night {tt AS WT CS SV dd ss ee mm kk cc hh pp : Int → Int} (hG : RGm mnights mbits mleast mmost mroom mreserve mmount mspeed msize mbid mbound mcheap mpromised mcoin mpaid mowed) (h60 : ¬ mnights = 60) (z1 : turnOK mbid tt) (z2 : gI (wbP mkind mbound mcheap mnights mreserve) (mNC mkind mnights) (mOT mdata msize mends mmany mkind mnights mbits mleast mmost) (mAK mdata msize mends mmany mkind mbid mbound mcheap mnights mreserve mbits mleast mmost) (mBS mdata msize mbits mleast mmost) (mDF mdata msize mends mmany mkind mchain mholds mnights mbits mleast mmost) mroom tt AS WT CS SV 4) (z3 : ∀ y : Int, 0 ≤ y → y ≤ 3 → nwC mdata msize mends mmany mkind mchain mholds mnights mbits mleast mmost (WT y) (SV y) dd ss ee mm kk cc hh y) (z4 : ∀ y : Int, 0 ≤ y → y ≤ 3 → pp y = mpaid y + payF mbid tt AS SV CS mreserve 4 y) : RGm (mnights + 1) mbits mleast mmost mroom mreserve mmount mspeed ss mbid mbound mcheap mpromised mcoin pp mowed := by
  refine ⟨by have := hG.1; omega, hG.2.1, hG.2.2.1, hG.2.2.2.1, fun y y0 y1 => ?_, fun z w0 w1 => ?_⟩
  · obtain ⟨g1, g2, g3, g4, g5, g6, g7⟩ := hG.2.2.2.2.1 y y0 y1
    refine ⟨g1, g2, g3, g4, g5, ?_, g7⟩
    have hq := ahB_rng mbid (c := y) ⟨y0, y1⟩
    have hpf : 0 ≤ payF mbid tt AS SV CS mreserve 4 y ∧ payF mbid tt AS SV CS mreserve 4 y ≤ 300000 := by
      by_cases z : ahB mbid y < 4 ∧ ¬ SV y = 0
      · rw [payF_t z]
        have htr := z1.1 y y0 y1
        have hgq := z2 (ahB mbid y) hq.1 (by omega)
        rw [htr] at hgq
        have hsz := hG.2.2.2.2.2 (240 + y) (by omega) (by omega)
        have hco := cutR_ok (rowF mdata (240 + y)) (b := mbits) (ls := mleast) (ms := mmost) hsz.1 hsz.2
        have hbs : 0 ≤ mBS mdata msize mbits mleast mmost y ∧ mBS mdata msize mbits mleast mmost y ≤ 3000 := baseB_rng (n := (cutR (rowF mdata (240 + y)) (msize (240 + y)) mbits mleast mmost).2.1) ⟨hco.1, Int.le_trans hco.2.1 hsz.2⟩ hco.2.2
        have hdf : 0 ≤ mDF mdata msize mends mmany mkind mchain mholds mnights mbits mleast mmost y ∧ mDF mdata msize mends mmany mkind mchain mholds mnights mbits mleast mmost y ≤ 3000 := difB_rng (n := (cutR (rowF mdata (240 + y)) (msize (240 + y)) mbits mleast mmost).2.1) ⟨hco.1, Int.le_trans hco.2.1 hsz.2⟩ hco.2.2
        have hcs : 0 ≤ CS y ∧ CS y ≤ 3000 := by rw [hgq.2.2.1]; exact cst_rng hbs hdf _
        have hpr := prc_rng (mbid := mbid) (t := tt) (A := AS) (S := SV) (best := mreserve) (k := ahB mbid y) (n := (4 - ahB mbid y - 1).toNat) ⟨hG.2.2.1.2.1, by have := hG.2.2.1.2; omega⟩ (fun j j0 j1 => by
          have h9 := (z1.2 j (by omega) (by omega)).1
          exact (hG.2.2.2.2.1 _ h9.1 h9.2).1)
        exact mul_rng hpr hcs
      · rw [payF_f z]
        omega
    have h4 := z4 y y0 y1
    omega
  · have hZ := hG.2.2.2.2.2 z w0 w1
    have hn := hG.1
    by_cases y : z < 240
    · obtain ⟨x, j, hx, hj, e⟩ : ∃ x j : Int, (0 ≤ x ∧ x ≤ 3) ∧ (0 ≤ j ∧ j < 60) ∧ z = 60 * x + j := ⟨z / 60, z % 60, by omega, by omega, by omega⟩
      have h3 := z3 x hx.1 hx.2
      by_cases q : j = mnights
      · subst q
        by_cases w : SV x = 0
        · rw [e, ← (h3.2.2.1 w).1, ← e]; exact hZ
        · rw [e, (h3.2.2.2 w).1]; exact hG.2.2.2.2.2 _ (by omega) (by omega)
      · rw [e, ← (h3.1 j hj.1 hj.2 q).1, ← e]; exact hZ
    · obtain ⟨x, hx, e⟩ : ∃ x : Int, (0 ≤ x ∧ x ≤ 3) ∧ z = 240 + x := ⟨z - 240, by omega, by omega⟩
      rw [e, ← (z3 x hx.1 hx.2).2.1.1, ← e]; exact hZ
/-- where the law's five arrays lie -/
def LY (A : Nat → Nat) (Z : Nat → Prop) (od ob oc op oo : Nat) : Prop := AOK A ∧ (∀ q : Nat, Z q ↔ (q = od ∨ q = ob ∨ q = oc ∨ q = op ∨ q = oo)) ∧ (∀ i : Nat, i < 27 → od ≠ A i ∧ ob ≠ A i ∧ oc ≠ A i ∧ op ≠ A i ∧ oo ≠ A i) ∧ ((ob ≠ od ∧ oc ≠ od ∧ op ≠ od ∧ oo ≠ od) ∧ (oc ≠ ob ∧ op ≠ ob ∧ oo ≠ ob) ∧ (op ≠ oc ∧ oo ≠ oc) ∧ oo ≠ op)
/-- what they hold -/
def AR (g : GG) (od ob oc op oo : Nat) (D : Nat → Int64) (Fb Fc Fp Fo : Int → Int) (h : AH) : Prop := h od = some (lE g 64 D) ∧ h ob = some (iE g 4 Fb) ∧ h oc = some (iE g 4 Fc) ∧ h op = some (iE g 4 Fp) ∧ h oo = some (iE g 4 Fo)
section
variable {od ob oc op oo : Nat} {D D' : Nat → Int64} {Fb Fc Fp Fo F' : Int → Int}
theorem AR.fr (hL : LY A Z od ob oc op oo) (hR : AR g od ob oc op oo D Fb Fc Fp Fo h) (hf : ∀ q : Nat, h q ≠ none → (∀ i : Nat, i < 27 → q ≠ A i) → h1 q = h q) : AR g od ob oc op oo D Fb Fc Fp Fo h1 := ⟨(hf od (sm_ne hR.1) (fun i hi => (hL.2.2.1 i hi).1)).trans hR.1, (hf ob (sm_ne hR.2.1) (fun i hi => (hL.2.2.1 i hi).2.1)).trans hR.2.1, (hf oc (sm_ne hR.2.2.1) (fun i hi => (hL.2.2.1 i hi).2.2.1)).trans hR.2.2.1, (hf op (sm_ne hR.2.2.2.1) (fun i hi => (hL.2.2.1 i hi).2.2.2.1)).trans hR.2.2.2.1, (hf oo (sm_ne hR.2.2.2.2) (fun i hi => (hL.2.2.1 i hi).2.2.2.2)).trans hR.2.2.2.2⟩
theorem AR.zs (hL : LY A Z od ob oc op oo) (hR : AR g od ob oc op oo D Fb Fc Fp Fo h) : ∀ q : Nat, Z q → h q ≠ none := fun q hq => by
  rcases (hL.2.1 q).mp hq with z | z | z | z | z
  · rw [z]; exact sm_ne hR.1
  · rw [z]; exact sm_ne hR.2.1
  · rw [z]; exact sm_ne hR.2.2.1
  · rw [z]; exact sm_ne hR.2.2.2.1
  · rw [z]; exact sm_ne hR.2.2.2.2
theorem AR.wd (hL : LY A Z od ob oc op oo) (hR : AR g od ob oc op oo D Fb Fc Fp Fo h) : AR g od ob oc op oo D' Fb Fc Fp Fo (ah_up h od (lE g 64 D')) := ⟨ah_same _ _ _, ah_at hL.2.2.2.1.1 hR.2.1, ah_at hL.2.2.2.1.2.1 hR.2.2.1, ah_at hL.2.2.2.1.2.2.1 hR.2.2.2.1, ah_at hL.2.2.2.1.2.2.2 hR.2.2.2.2⟩
theorem AR.wb (hL : LY A Z od ob oc op oo) (hR : AR g od ob oc op oo D Fb Fc Fp Fo h) : AR g od ob oc op oo D F' Fc Fp Fo (ah_up h ob (iE g 4 F')) := ⟨ah_at (Ne.symm hL.2.2.2.1.1) hR.1, ah_same _ _ _, ah_at hL.2.2.2.2.1.1 hR.2.2.1, ah_at hL.2.2.2.2.1.2.1 hR.2.2.2.1, ah_at hL.2.2.2.2.1.2.2 hR.2.2.2.2⟩
theorem AR.wc (hL : LY A Z od ob oc op oo) (hR : AR g od ob oc op oo D Fb Fc Fp Fo h) : AR g od ob oc op oo D Fb F' Fp Fo (ah_up h oc (iE g 4 F')) := ⟨ah_at (Ne.symm hL.2.2.2.1.2.1) hR.1, ah_at (Ne.symm hL.2.2.2.2.1.1) hR.2.1, ah_same _ _ _, ah_at hL.2.2.2.2.2.1.1 hR.2.2.2.1, ah_at hL.2.2.2.2.2.1.2 hR.2.2.2.2⟩
theorem AR.wp (hL : LY A Z od ob oc op oo) (hR : AR g od ob oc op oo D Fb Fc Fp Fo h) : AR g od ob oc op oo D Fb Fc F' Fo (ah_up h op (iE g 4 F')) := ⟨ah_at (Ne.symm hL.2.2.2.1.2.2.1) hR.1, ah_at (Ne.symm hL.2.2.2.2.1.2.1) hR.2.1, ah_at (Ne.symm hL.2.2.2.2.2.1.1) hR.2.2.1, ah_same _ _ _, ah_at hL.2.2.2.2.2.2 hR.2.2.2.2⟩
theorem AR.wo (hL : LY A Z od ob oc op oo) (hR : AR g od ob oc op oo D Fb Fc Fp Fo h) : AR g od ob oc op oo D Fb Fc Fp F' (ah_up h oo (iE g 4 F')) := ⟨ah_at (Ne.symm hL.2.2.2.1.2.2.2) hR.1, ah_at (Ne.symm hL.2.2.2.2.1.2.2) hR.2.1, ah_at (Ne.symm hL.2.2.2.2.2.1.2) hR.2.2.1, ah_at (Ne.symm hL.2.2.2.2.2.2) hR.2.2.2.1, ah_same _ _ _⟩
/-- a write into one of the law's arrays leaves the class's state -/
theorem ST.wr (hL : LY A Z od ob oc op oo) {o : Nat} {ev : va_E} (ho : o = od ∨ o = ob ∨ o = oc ∨ o = op ∨ o = oo) (hT : ST g A Z h mdata msize mends mmany mkind mchain mholds mnights mbits mleast mmost mroom mreserve mmount mspeed mbid mbound mcheap mpromised mcoin mpaid mowed h) : ST g A Z (ah_up h o ev) mdata msize mends mmany mkind mchain mholds mnights mbits mleast mmost mroom mreserve mmount mspeed mbid mbound mcheap mpromised mcoin mpaid mowed (ah_up h o ev) := hT.mv (fun q _ q1 => if_neg (fun z => q1 ((hL.2.1 q).mpr (by rw [z]; exact ho)))) (fun i hi => if_neg (fun z => by
  have h9 := hL.2.2.1 i hi
  rcases ho with y | y | y | y | y <;> rw [y] at z
  · exact h9.1 z.symm
  · exact h9.2.1 z.symm
  · exact h9.2.2.1 z.symm
  · exact h9.2.2.2.1 z.symm
  · exact h9.2.2.2.2 z.symm))
end
/-- the law's arrays hold the state's numbers -/
def FE (Fb Fc Fp Fo mbid mcoin mpaid mowed : Int → Int) : Prop := ∀ y : Int, 0 ≤ y → y ≤ 3 → Fb y = mbid y ∧ Fc y = mcoin y ∧ Fp y = mpaid y ∧ Fo y = mowed y
/-- between two turns -/
def JL (g : GG) (A : Nat → Nat) (Z : Nat → Prop) (od ob oc op oo : Nat) (mnights mleast mmost mmount mspeed mroom mreserve : Int) (h : AH) : Prop := ∃ (mbits : Int) (mdata msize mends mmany mkind mchain mholds mbid mbound mcheap mpromised mcoin mpaid mowed : Int → Int) (D : Nat → Int64) (Fb Fc Fp Fo : Int → Int), ST g A Z h mdata msize mends mmany mkind mchain mholds mnights mbits mleast mmost mroom mreserve mmount mspeed mbid mbound mcheap mpromised mcoin mpaid mowed h ∧ RGm mnights mbits mleast mmost mroom mreserve mmount mspeed msize mbid mbound mcheap mpromised mcoin mpaid mowed ∧ AR g od ob oc op oo D Fb Fc Fp Fo h ∧ DGI D mdata msize mkind mnights ∧ FE Fb Fc Fp Fo mbid mcoin mpaid mowed ∧ mnights ≤ 16
end LI
