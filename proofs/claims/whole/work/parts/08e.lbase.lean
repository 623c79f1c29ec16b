theorem fd_of {x : UInt32} (h : Jvm.FP.Core.fIsNaN x = false) : vf_n64 (FP.f2d x) := by
  have h0 : Jvm.FP.Core.dIsNaN (FP.f2d x) = false := (FP.f2d_nan x).trans h
  have h1 : (FP.f2d x).toNat % 9223372036854775808 ≤ 9218868437227405312 := (Jvm.FP.Core.ne_nan (FP.f2d x)).mp (fun z => by rw [(Jvm.FP.Core.dIsNaN_iff _).mpr z] at h0; cases h0)
  show FP.f2d x &&& 0x7fffffffffffffff ≤ 0x7ff0000000000000
  rw [UInt64.le_iff_toNat_le, UInt64.toNat_and]
  show (FP.f2d x).toNat &&& (2 ^ 63 - 1) ≤ 9218868437227405312
  rw [Nat.and_two_pow_sub_one_eq_mod]
  exact h1
section LB
variable {p : Program} {l : Launch} {e : Env} {R : Room} {s : State} {m : MethodId} {args : Array Value} {below : List Frame} {meth : Method} {c : Code} {cells slots : Nat} {Q : State → Prop}
variable {g : GG} {sz0 nL : Nat} {h : AH} {cc : ByteArray} {own : String} {Ts : List Cond} {lv : LVs} {pc : Nat} {rest : List Value}
theorem r_catch (B : FX p s m args c cc own Ts nL g sz0) {hh : List (Nat × Nat × Nat × Nat)} (htab : c.exceptionTable.toList = tableOf hh) (pre : List ExceptionTableEntry) (x : ExceptionTableEntry) (suf : List ExceptionTableEntry) (hsp : tableOf hh = pre ++ x :: suf) {E : String} (hE : E ∈ xcs) (hpre : ∀ z ∈ pre, z.catchType ≠ 0 ∧ ∃ nm : String, nm ∈ xcs ∧ E ≠ nm ∧ Cond.classLink own z.catchType nm ∈ Ts) (hx : covers x pc = true) (h0 : x.catchType ≠ 0) (hlink : Cond.classLink own x.catchType E ∈ Ts) {h' : AH} (kk : ∀ q : Nat, WA p l e R s m args below meth c g sz0 nL Q h' cells slots lv x.handlerPc [.ref q]) : ∀ (H : Heap) (locs : List Loc) (ls : Array Slot) (ce : Cell) (q : Addr), Rl g sz0 h' H → va_S (A0 sz0) s.heap H locs → LV ls nL lv → H[q]? = some ce → ce.vm = .none → s.vm.findClass E = some ce.cls → vx_W p l e R s m args below meth c H locs cells slots Q (F0 m pc ls rest) q := fun H locs ls ce q hR hS hl h1 h2 h3 => by
  obtain ⟨hx0, hb, hown, hts, hml, hCX, -⟩ := B
  refine vx_catch hown pre x suf (htab.trans hsp) (fun z hz => ?_) hx h0 (hts _ hlink) (va_Nw.use rfl (hCX.2.2.2.1.2.2.2.1 E hE)) h1 h2 h3 (kk q H locs ls hR hS hl)
  obtain ⟨z1, nm, z2, z3, z4⟩ := hpre z hz
  exact Or.inr ⟨z1, nm, hts _ z4, hCX.2.2.2.1.2.2.2.2.1 E hE nm z2 z3⟩
theorem r_callSW (B : FX p s m args c cc own Ts nL g sz0) {index maxL n : Nat} {y : MethodName} {bytes : ByteArray} {ret : Option FieldType} {hh : List (Nat × Nat × Nat × Nat)} {ws ws' : List Cond} {rm : Room} {As st0 : List Value} {post1 : Option Value → AH → Prop} (d : decode cc pc = .ok (.invokestatic index, 3)) (hM : CTX l y ws rm g sz0 As h post1 (fun _ _ => False)) (hg : GoodIn Ts (va_wsS own index y ws)) (hw : ws = Cond.codeWith y bytes maxL ret hh :: ws') (hd : y.cls ≠ "java/lang/invoke/MethodHandle" ∧ y.cls ≠ "java/lang/invoke/VarHandle" ∧ (parseMethodDescriptor y.desc).map (fun d => d.parameters.length) = some n) (hRm : rm.frames + 1 ≤ R.frames ∧ 8 + (maxL + 11) + rm.locals ≤ R.locals) (hn : As.length = n) (hst0 : st0 = As.reverse ++ rest) (hst : (rest.map fun v => v.category).sum ≤ 8) (hcells : cells + rm.cells ≤ R.cells) (hslots : slots + rm.slots ≤ R.slots)
    (kk : ∀ (v : Option Value) (h' : AH), post1 v h' → WA p l e R s m args below meth c g sz0 nL Q h' (cells + rm.cells) (slots + rm.slots) lv (pc + 3) (v.toList ++ rest)) : WA p l e R s m args below meth c g sz0 nL Q h cells slots lv pc st0 := by
  obtain ⟨hx, hb1, hown, hts, hml, hCX, -⟩ := B
  refine r_runX (a := As.toArray) (fun H locs ls hR hS hl => ?_) (fun E h' hp => False.elim hp) kk
  exact vx_runSX (As := As) (rest := rest) ⟨hx, hb1, hml, hown, hts⟩ hM (vx_cwSW n hts hg hw rfl rfl hd hRm) ⟨PP.blind _ _ _ _, fun U hU hW => ⟨rfl, hCX.moved hS hU hW, by rw [hU]; exact hR⟩⟩ rfl hn hl.1 hst0 (lv_room hst) d ⟨hcells, hslots⟩
theorem r_f2d (B : FX p s m args c cc own Ts nL g sz0) {x : UInt32} (d : decode cc pc = .ok (.f2d, 1)) (hn : Jvm.FP.Core.fIsNaN x = false) (k : WA p l e R s m args below meth c g sz0 nL Q h cells slots lv (pc + 1) (.double (FP.f2d x) :: rest)) : WA p l e R s m args below meth c g sz0 nL Q h cells slots lv pc (.float x :: rest) := fun H locs ls hR hS hl => lv_f2d B.1 B.2.1 d (fd_of hn) (k H locs ls hR hS hl)
end LB
theorem CTX.ofH {l : Launch} {y : MethodName} {ws ws' : List Cond} {rm : Room} {g : GG} {sz0 : Nat} {As : List Value} {h : AH} {post : Option Value → AH → Prop} {px : String → AH → Prop} {cc : ByteArray} {maxL : Nat} {ret : Option FieldType} {hh : List (Nat × Nat × Nat × Nat)} (hy : plainName y.cls = true) (hw : ws = Cond.codeWith y cc maxL ret hh :: ws') (lv : LVs) (hlv : lvl lv 0 = lv_args 0 As) (hlen : (lg_sl As).length ≤ maxL)
    (body : ∀ (p : Program) (e : Env) (s : State) (m : MethodId) (args : Array Value) (below : List Frame) (meth : Method) (c : Code), FX p s m args c cc y.cls ws maxL g sz0 → meth.sig.returnType = ret → meth.locks = false → c.exceptionTable.toList = tableOf hh → WA p l e rm s m args below meth c g sz0 maxL (vx_MQ below (QQ g sz0 post) (XQ g sz0 px) args s rm.cells rm.slots (A0 sz0)) h 0 0 lv 0 []) : CTX l y ws rm g sz0 As h post px := by
  refine vx_ofWH (cc := cc) (maxL := maxL) (ret := ret) (hh := hh) hy hw ?_
  intro p e s m args below meth c s₁ B hml hv
  obtain ⟨rfl, hCX, hR⟩ := hv
  have hl := lv_entry As (n := maxL) hlen
  have hat := atoms_spec (ws := ws) B.pre
  have htab := vx_table (x := y) B (hat _ (by rw [hw]; exact List.mem_cons_self))
  have hb := body p e s m _ below meth c ⟨B.exec, B.bytes, findClass_of_methodNamed B.named, hat, hml, hCX, hR.1⟩ B.returns B.notSynchronized htab
  rw [lg_entry_eq]
  exact hb s.heap [] _ hR va_S.rf (LV.entry hl hlv)

theorem ST.ro {g : GG} {A : Nat → Nat} {Z : Nat → Prop} {h hz : AH} {mnights mbits mleast mmost mroom mreserve mmount mspeed : Int} {mdata msize mends mmany mkind mchain mholds mbid mbound mcheap mpromised mcoin mpaid mowed : Int → Int} (hT : ST g A Z hz mdata msize mends mmany mkind mchain mholds mnights mbits mleast mmost mroom mreserve mmount mspeed mbid mbound mcheap mpromised mcoin mpaid mowed h) : ∃ fs : List Value, h (A 0) = some (oE 9 fs) := by
  obtain ⟨hK, LE, RK1, RN, HK1, HN, CA, PV, CF, CN, Ha, hN, tq, G, Eg, sz, pt, wt, gt, pc, LN, lt, hC, hSub, hZn, hX, hM⟩ := hT
  exact ⟨_, hC.ro⟩
theorem ST.out {g : GG} {A : Nat → Nat} {Z : Nat → Prop} {h hz : AH} {mnights mbits mleast mmost mroom mreserve mmount mspeed : Int} {mdata msize mends mmany mkind mchain mholds mbid mbound mcheap mpromised mcoin mpaid mowed : Int → Int} {o1 : Nat} {ev : va_E} (hT : ST g A Z hz mdata msize mends mmany mkind mchain mholds mnights mbits mleast mmost mroom mreserve mmount mspeed mbid mbound mcheap mpromised mcoin mpaid mowed h) (hZo : Z o1) (hAo : ∀ i : Nat, i < 27 → o1 ≠ A i) : ST g A Z (ah_up h o1 ev) mdata msize mends mmany mkind mchain mholds mnights mbits mleast mmost mroom mreserve mmount mspeed mbid mbound mcheap mpromised mcoin mpaid mowed (ah_up h o1 ev) := hT.mv (fun q _ q1 => if_neg (fun z => q1 (by rw [z]; exact hZo))) (fun i hi => if_neg (fun z => hAo i hi z.symm))
