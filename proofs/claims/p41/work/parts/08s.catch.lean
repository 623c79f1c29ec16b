section LB
variable {p : Program} {l : Launch} {e : Env} {R : Room} {s : State} {m : MethodId} {args : Array Value} {below : List Frame} {meth : Method} {c : Code} {cells slots : Nat} {Q : State → Prop}
variable {g : GG} {sz0 nL : Nat} {h : AH} {cc : ByteArray} {own : String} {Ts : List Cond} {lv : LVs} {pc : Nat} {rest : List Value}
theorem r_catch (B : FX p s m args c cc own Ts nL g sz0) {hh : List (Nat × Nat × Nat × Nat)} (htab : c.exceptionTable.toList = tableOf hh) (pre : List ExceptionTableEntry) (x : ExceptionTableEntry) (suf : List ExceptionTableEntry) (hsp : tableOf hh = pre ++ x :: suf) {E : String} (hE : E ∈ xcs) (hpre : ∀ z ∈ pre, z.catchType ≠ 0 ∧ ∃ nm : String, nm ∈ xcs2 ∧ E ≠ nm ∧ Cond.classLink own z.catchType nm ∈ Ts) (hx : covers x pc = true) (h0 : x.catchType ≠ 0) (hlink : Cond.classLink own x.catchType E ∈ Ts) {h' : AH} (kk : ∀ q : Nat, WA p l e R s m args below meth c g sz0 nL Q h' cells slots lv x.handlerPc [.ref q]) : ∀ (H : Heap) (locs : List Loc) (ls : Array Slot) (ce : Cell) (q : Addr), Rl g sz0 h' H → va_S (A0 sz0) s.heap H locs → LV ls nL lv → H[q]? = some ce → ce.vm = .none → s.vm.findClass E = some ce.cls → vx_W p l e R s m args below meth c H locs cells slots Q (F0 m pc ls rest) q := fun H locs ls ce q hR hS hl h1 h2 h3 => by
  obtain ⟨hx0, hb, hown, hts, hml, hCX, -⟩ := B
  refine vx_catch hown pre x suf (htab.trans hsp) (fun z hz => ?_) hx h0 (hts _ hlink) (va_Nw.use rfl (hCX.2.2.2.1.2.2.2.1 E hE)) h1 h2 h3 (kk q H locs ls hR hS hl)
  obtain ⟨z1, nm, z2, z3, z4⟩ := hpre z hz
  exact Or.inr ⟨z1, nm, hts _ z4, hCX.2.2.2.1.2.2.2.2.1 E hE nm z2 z3⟩
theorem r_callSW (B : FX p s m args c cc own Ts nL g sz0) {index maxL n : Nat} {y : MethodName} {bytes : ByteArray} {ret : Option FieldType} {hh : List (Nat × Nat × Nat × Nat)} {ws ws' : List Cond} {rm : Room} {As st0 : List Value} {post1 : Option Value → AH → Prop} (d : decode cc pc = .ok (.invokestatic index, 3)) (hM : CTX l y ws rm g sz0 As h post1 (fun _ _ => False)) (hg : GoodIn Ts (va_wsS own index y ws)) (hw : ws = Cond.codeWith y bytes maxL ret hh :: ws') (hd : y.cls ≠ "java/lang/invoke/MethodHandle" ∧ y.cls ≠ "java/lang/invoke/VarHandle" ∧ (parseMethodDescriptor y.desc).map (fun d => d.parameters.length) = some n) (hRm : rm.frames + 1 ≤ R.frames ∧ 8 + (maxL + 11) + rm.locals ≤ R.locals) (hn : As.length = n) (hst0 : st0 = As.reverse ++ rest) (hst : (rest.map fun v => v.category).sum ≤ 8) (hcells : cells + rm.cells ≤ R.cells) (hslots : slots + rm.slots ≤ R.slots)
    (kk : ∀ (v : Option Value) (h' : AH), post1 v h' → WA p l e R s m args below meth c g sz0 nL Q h' (cells + rm.cells) (slots + rm.slots) lv (pc + 3) (v.toList ++ rest)) : WA p l e R s m args below meth c g sz0 nL Q h cells slots lv pc st0 := by
  obtain ⟨hx, hb1, hown, hts, hml, hCX, -⟩ := B
  refine r_runX (a := As.toArray) (fun H locs ls hR hS hl => ?_) (fun E h' hp => False.elim hp) kk
  exact vx_runSX (As := As) (rest := rest) ⟨hx, hb1, hml, hown, hts⟩ hM (vx_cwSW n hts hg hw rfl rfl hd hRm) ⟨PP.blind _ _ _ _, fun U hU hW => ⟨rfl, hCX.moved hS hU hW, by rw [hU]; exact hR⟩⟩ rfl hn hl.1 hst0 (lv_room hst) d ⟨hcells, hslots⟩
end LB
theorem CTX.ofH {l : Launch} {y : MethodName} {ws ws' : List Cond} {rm : Room} {g : GG} {sz0 : Nat} {As : List Value} {h : AH} {post : Option Value → AH → Prop} {px : String → AH → Prop} {cc : ByteArray} {maxL : Nat} {ret : Option FieldType} {hh : List (Nat × Nat × Nat × Nat)} (hy : plainName y.cls = true) (hw : ws = Cond.codeWith y cc maxL ret hh :: ws') (lv : LVs) (hlv : lvl lv 0 = lv_args 0 As) (hlen : (lg_sl As).length ≤ maxL)
    (body : ∀ (p : Program) (e : Env) (s : State) (m : MethodId) (args : Array Value) (below : List Frame) (meth : Method) (c : Code), FX p s m args c cc y.cls ws maxL g sz0 → meth.sig.returnType = ret → meth.locks = false → c.exceptionTable.toList = tableOf hh → WA p l e rm s m args below meth c g sz0 maxL (vx_MQ below (QQ g sz0 post) (XQ g sz0 px) args s rm.cells rm.slots (A0 sz0)) h 0 0 lv 0 []) : CTX l y ws rm g sz0 As h post px := by
  refine vx_ofWH (cc := cc) (maxL := maxL) (ret := ret) (hh := hh) hy hw ?_
  intro p e s m args below meth c s₁ B hml hv
  obtain ⟨rfl, hCX, hR⟩ := hv
  have hl := lv_entry As (n := maxL) hlen
  have hat := atoms_spec (ws := ws) B.pre
  have htab := vx_table (x := y) B (hat _ (by rw [hw]; exact List.mem_cons_self))
  have hb := body p e s m _ below meth c ⟨B.exec, B.bytes, findClass_of_methodNamed B.named, hat, hml, hCX, hR.1⟩ B.returns B.notSynchronized htab
  rw [lg_entry_eq]
  exact hb s.heap [] _ hR va_S.rf (LV.entry hl hlv)
