-- ===== contracts =====
def QQ (g : GG) (sz0 : Nat) (post : Option Value → AH → Prop) : Array Value → State → Outcome → State → Prop := fun _ st o t => ∃ (v : Option Value) (h' : AH), o = .returned v ∧ post v h' ∧ Rl g sz0 h' t.heap ∧ va_F (A0 sz0) st t
def PP (g : GG) (sz0 : Nat) (As : List Value) (h : AH) : Array Value → State → Prop := va_Pc As (fun U => CX g sz0 U ∧ Rl g sz0 h U.heap)
def XQ (g : GG) (sz0 : Nat) (px : String → AH → Prop) : String → State → State → Prop := fun E st t => ∃ h' : AH, px E h' ∧ Rl g sz0 h' t.heap ∧ va_F (A0 sz0) st t
def CT (l : Launch) (y : MethodName) (ws : List Cond) (rm : Room) (g : GG) (sz0 : Nat) (As : List Value) (h : AH) (post : Option Value → AH → Prop) : Prop := Met l y ws rm (PP g sz0 As h) (QQ g sz0 post) rm.cells rm.slots (A0 sz0)
def CTX (l : Launch) (y : MethodName) (ws : List Cond) (rm : Room) (g : GG) (sz0 : Nat) (As : List Value) (h : AH) (post : Option Value → AH → Prop) (px : String → AH → Prop) : Prop := vx_Met l y ws rm (PP g sz0 As h) (QQ g sz0 post) (XQ g sz0 px) rm.cells rm.slots (A0 sz0)
theorem PP.blind (g : GG) (sz0 : Nat) (As : List Value) (h : AH) : FrameBlind (PP g sz0 As h) := fun _ _ _ _ q => ⟨q.1, q.2.1.calling, q.2.2⟩
theorem CT.mono {l : Launch} {y : MethodName} {ws : List Cond} {rm : Room} {g : GG} {sz0 : Nat} {As : List Value} {h : AH} {post post' : Option Value → AH → Prop} (k : CT l y ws rm g sz0 As h post) (hp : ∀ v h', post v h' → post' v h') : CT l y ws rm g sz0 As h post' := by
  intro p e ha hc hk s m args below hf happ hP hK
  obtain ⟨n, o, h1, h2, h3, ⟨v, h', q1, q2, q3⟩, q4⟩ := k p e ha hc hk s m args below hf happ hP hK
  exact ⟨n, o, h1, h2, h3, ⟨v, h', q1, hp v h' q2, q3⟩, q4⟩
/-- the locals at the entry -/
def lvl : LVs → Nat → List (Nat × Value)
  | [], _ => []
  | none :: r, i => lvl r (i + 1)
  | some v :: r, i => (i, v) :: lvl r (i + 1)
theorem lvl_at : ∀ (lv : LVs) (k i : Nat) (v : Value), lv[i]? = some (some v) → (k + i, v) ∈ lvl lv k
  | [], k, i, v, h => by simp at h
  | none :: r, k, 0, v, h => by simp at h
  | none :: r, k, i + 1, v, h => by
    have := lvl_at r (k + 1) i v (by simpa using h)
    rw [show k + 1 + i = k + (i + 1) by omega] at this
    exact this
  | some w :: r, k, 0, v, h => by
    have hwv : w = v := by simpa using h
    subst hwv
    exact List.mem_cons_self
  | some w :: r, k, i + 1, v, h => by
    have := lvl_at r (k + 1) i v (by simpa using h)
    rw [show k + 1 + i = k + (i + 1) by omega] at this
    exact List.mem_cons_of_mem _ this
theorem LV.entry {ls : Array Slot} {nL : Nat} {lv : LVs} {As : List Value} (h : lv_has ls nL (lv_args 0 As)) (e : lvl lv 0 = lv_args 0 As) : LV ls nL lv :=
  ⟨h.1, h.2.1, fun i v hi => h.2.2 (i, v) (by rw [← e]; have := lvl_at lv 0 i v hi; rwa [Nat.zero_add] at this)⟩
theorem CT.of {l : Launch} {y : MethodName} {ws ws' : List Cond} {rm : Room} {g : GG} {sz0 : Nat} {As : List Value} {h : AH} {post : Option Value → AH → Prop} {cc : ByteArray} {maxL : Nat} {ret : Option FieldType} (hy : plainName y.cls = true) (hw : ws = Cond.code y cc maxL ret :: ws') (lv : LVs) (hlv : lvl lv 0 = lv_args 0 As) (hlen : (lg_sl As).length ≤ maxL)
    (body : ∀ (p : Program) (e : Env) (s : State) (m : MethodId) (args : Array Value) (below : List Frame) (meth : Method) (c : Code), FX p s m args c cc y.cls ws maxL g sz0 → meth.sig.returnType = ret → meth.locks = false → meth.name = y.name → WA p l e rm s m args below meth c g sz0 maxL (MQ below (QQ g sz0 post) args s rm.cells rm.slots (A0 sz0)) h 0 0 lv 0 []) : CT l y ws rm g sz0 As h post := by
  refine Met.ofW (cc := cc) (maxL := maxL) (ret := ret) hy hw ?_
  intro p e s m args below meth c s₁ B hml hv
  obtain ⟨rfl, hCX, hR⟩ := hv
  have hl := lv_entry As (n := maxL) hlen
  have hb := body p e s m _ below meth c ⟨B.exec, B.bytes, findClass_of_methodNamed B.named, atoms_spec (ws := ws) B.pre, hml, hCX, hR.1⟩ B.returns B.notSynchronized (name_of_methodNamed B.named B.method).1
  rw [lg_entry_eq]
  exact hb s.heap [] _ hR va_S.rf (LV.entry hl hlv)
theorem CTX.of {l : Launch} {y : MethodName} {ws ws' : List Cond} {rm : Room} {g : GG} {sz0 : Nat} {As : List Value} {h : AH} {post : Option Value → AH → Prop} {px : String → AH → Prop} {cc : ByteArray} {maxL : Nat} {ret : Option FieldType} (hy : plainName y.cls = true) (hw : ws = Cond.code y cc maxL ret :: ws') (lv : LVs) (hlv : lvl lv 0 = lv_args 0 As) (hlen : (lg_sl As).length ≤ maxL)
    (body : ∀ (p : Program) (e : Env) (s : State) (m : MethodId) (args : Array Value) (below : List Frame) (meth : Method) (c : Code), FX p s m args c cc y.cls ws maxL g sz0 → meth.sig.returnType = ret → meth.locks = false → (∀ x ∈ c.exceptionTable.toList, False) → WA p l e rm s m args below meth c g sz0 maxL (vx_MQ below (QQ g sz0 post) (XQ g sz0 px) args s rm.cells rm.slots (A0 sz0)) h 0 0 lv 0 []) : CTX l y ws rm g sz0 As h post px := by
  refine vx_ofW (cc := cc) (maxL := maxL) (ret := ret) hy hw ?_
  intro p e s m args below meth c s₁ B hml hout hv
  obtain ⟨rfl, hCX, hR⟩ := hv
  have hl := lv_entry As (n := maxL) hlen
  have hb := body p e s m _ below meth c ⟨B.exec, B.bytes, findClass_of_methodNamed B.named, atoms_spec (ws := ws) B.pre, hml, hCX, hR.1⟩ B.returns B.notSynchronized hout
  rw [lg_entry_eq]
  exact hb s.heap [] _ hR va_S.rf (LV.entry hl hlv)
section RET
variable {p : Program} {l : Launch} {e : Env} {R : Room} {s : State} {m : MethodId} {args : Array Value} {below : List Frame} {meth : Method} {c : Code} {cells slots mc ms : Nat} {Q : State → Prop}
variable {g : GG} {sz0 nL : Nat} {h : AH} {cc : ByteArray} {own : String} {Ts : List Cond} {lv : LVs} {pc : Nat} {rest : List Value} {post : Option Value → AH → Prop} {px : String → AH → Prop}
theorem QQ.ret {H : Heap} {locs : List Loc} {v : Option Value} (hp : post v h) (hR : Rl g sz0 h H) (hS : va_S (A0 sz0) s.heap H locs) : ∀ t : State, t.heap = H → s.WarmedH t.vm → QQ g sz0 post args s (.returned v) t := fun t ht _ => ⟨v, h, rfl, hp, by rw [ht]; exact hR, hS.F ht⟩
theorem r_iret (B : FX p s m args c cc own Ts nL g sz0) {x : Int32} (hr : meth.sig.returnType = some .int) (hlk : meth.locks = false) (d : decode cc pc = .ok (.ireturn, 1)) (hc : cells ≤ mc) (hs : slots ≤ ms) (hp : post (some (.int x)) h) : WA p l e R s m args below meth c g sz0 nL (MQ below (QQ g sz0 post) args s mc ms (A0 sz0)) h cells slots lv pc [.int x] := fun H locs ls hR hS hl => W.widen hc hs (W.iret B.1 B.2.1 hr (QQ.ret hp hR hS) hS.2.2 d hlk)
theorem r_zret (B : FX p s m args c cc own Ts nL g sz0) {x : Int32} (hr : meth.sig.returnType = some .boolean) (hlk : meth.locks = false) (d : decode cc pc = .ok (.ireturn, 1)) (hc : cells ≤ mc) (hs : slots ≤ ms) (hn : narrow .boolean (.int x) = .int x) (hp : post (some (.int x)) h) : WA p l e R s m args below meth c g sz0 nL (MQ below (QQ g sz0 post) args s mc ms (A0 sz0)) h cells slots lv pc [.int x] := fun H locs ls hR hS hl => W.widen hc hs (W.zret B.1 B.2.1 hr hn (QQ.ret hp hR hS) hS.2.2 d hlk)
theorem r_lret (B : FX p s m args c cc own Ts nL g sz0) {x : Int64} (hr : meth.sig.returnType = some .long) (hlk : meth.locks = false) (d : decode cc pc = .ok (.lreturn, 1)) (hc : cells ≤ mc) (hs : slots ≤ ms) (hp : post (some (.long x)) h) : WA p l e R s m args below meth c g sz0 nL (MQ below (QQ g sz0 post) args s mc ms (A0 sz0)) h cells slots lv pc [.long x] := fun H locs ls hR hS hl => W.widen hc hs (W.lret B.1 B.2.1 hr (QQ.ret hp hR hS) hS.2.2 d hlk)
theorem r_fret (B : FX p s m args c cc own Ts nL g sz0) {x : UInt32} (hr : meth.sig.returnType = some .float) (hlk : meth.locks = false) (d : decode cc pc = .ok (.freturn, 1)) (hc : cells ≤ mc) (hs : slots ≤ ms) (hp : post (some (.float x)) h) : WA p l e R s m args below meth c g sz0 nL (MQ below (QQ g sz0 post) args s mc ms (A0 sz0)) h cells slots lv pc [.float x] := fun H locs ls hR hS hl => W.widen hc hs (W.fret B.1 B.2.1 hr (QQ.ret hp hR hS) hS.2.2 d hlk)
theorem r_vret (B : FX p s m args c cc own Ts nL g sz0) (hr : meth.sig.returnType = none) (hlk : meth.locks = false) (d : decode cc pc = .ok (.return_, 1)) (hc : cells ≤ mc) (hs : slots ≤ ms) (hp : post none h) : WA p l e R s m args below meth c g sz0 nL (MQ below (QQ g sz0 post) args s mc ms (A0 sz0)) h cells slots lv pc [] := fun H locs ls hR hS hl => W.widen hc hs (W.vret B.1 B.2.1 hr (QQ.ret hp hR hS) hS.2.2 d hlk)
theorem r_aret (B : FX p s m args c cc own Ts nL g sz0) {v : Value} {C : String} (hr : meth.sig.returnType = some (.object C)) (hlk : meth.locks = false) (d : decode cc pc = .ok (.areturn, 1)) (hv : v.isRef = true) (hc : cells ≤ mc) (hs : slots ≤ ms) (hp : post (some v) h) : WA p l e R s m args below meth c g sz0 nL (MQ below (QQ g sz0 post) args s mc ms (A0 sz0)) h cells slots lv pc [v] := fun H locs ls hR hS hl => W.widen hc hs (W.aret B.1 B.2.1 hr (Or.inl ⟨C, rfl⟩) (by cases v <;> first | exact Or.inl rfl | exact Or.inr ⟨_, rfl⟩ | simp [Value.isRef] at hv) (QQ.ret hp hR hS) hS.2.2 d hlk)
theorem x_ret {XC : String → State → State → Prop} {Qc : Array Value → State → Outcome → State → Prop} {st : List Value} (k : WA p l e R s m args below meth c g sz0 nL (MQ below Qc args s mc ms (A0 sz0)) h cells slots lv pc st) : WA p l e R s m args below meth c g sz0 nL (vx_MQ below Qc XC args s mc ms (A0 sz0)) h cells slots lv pc st := fun H locs ls hR hS hl => vx_ret (k H locs ls hR hS hl)
theorem r_isubr (B : FX p s m args c cc own Ts nL g sz0) {x y : Int32} (d : decode cc pc = .ok (.isub, 1)) (k : WA p l e R s m args below meth c g sz0 nL Q h cells slots lv (pc + 1) (.int (x - y) :: rest)) : WA p l e R s m args below meth c g sz0 nL Q h cells slots lv pc (.int y :: .int x :: rest) := fun H locs ls hR hS hl => lv_isub B.1 B.2.1 d (k H locs ls hR hS hl)
theorem r_iaddr (B : FX p s m args c cc own Ts nL g sz0) {x y : Int32} (d : decode cc pc = .ok (.iadd, 1)) (k : WA p l e R s m args below meth c g sz0 nL Q h cells slots lv (pc + 1) (.int (x + y) :: rest)) : WA p l e R s m args below meth c g sz0 nL Q h cells slots lv pc (.int y :: .int x :: rest) := fun H locs ls hR hS hl => lv_iadd B.1 B.2.1 d (k H locs ls hR hS hl)
-- ===== calls =====
theorem r_run {mc1 ms1 : Nat} {a : Array Value} {st0 : List Value} {post1 : Option Value → AH → Prop} (hr : ∀ (H : Heap) (locs : List Loc) (ls : Array Slot), Rl g sz0 h H → va_S (A0 sz0) s.heap H locs → LV ls nL lv → va_Run p l e R s m args below meth c H locs cells slots mc1 ms1 (F0 m pc ls st0) rest (QQ g sz0 post1 a) (A0 sz0)) (kk : ∀ (v : Option Value) (h' : AH), post1 v h' → WA p l e R s m args below meth c g sz0 nL Q h' (cells + mc1) (slots + ms1) lv (pc + 3) (v.toList ++ rest)) : WA p l e R s m args below meth c g sz0 nL Q h cells slots lv pc st0 := by
  intro H locs ls hR hS hl T hT X
  obtain ⟨v, st₀, t, T', L, h0, X', hL, e1, e2, ⟨v', h', hv, hp, hR', hF⟩, st⟩ := hr H locs ls hR hS hl T hT X
  cases hv
  obtain ⟨k1, k2, k3⟩ := vx_keep (A0 := A0 sz0) (A1 := A0 sz0) h0 e1 hS (fun _ _ q => q) (fun _ q => q) hL hF
  obtain ⟨t2, a1, b1⟩ := kk v h' hp T'.heap (locs ++ L) ls (by rw [e1]; exact hR') k3 hl T' rfl X'
  exact ⟨t2, st t2 a1, b1⟩
theorem r_callV (B : FX p s m args c cc own Ts nL g sz0) {C : String} {T : u_T} {N ci index maxL n b : Nat} {y : MethodName} {bytes : ByteArray} {ret : Option FieldType} {ws ws' : List Cond} {rm : Room} {As fs st0 : List Value} {post1 : Option Value → AH → Prop} (d : decode cc pc = .ok (.invokevirtual index, 3)) (hM : CT l y ws rm g sz0 (.ref b :: As) h post1) (hg : GoodIn Ts (wsV own index C y ws)) (hw : ws = Cond.code y bytes maxL ret :: ws') (hd : y.cls = C ∧ y.cls ≠ "java/lang/invoke/MethodHandle" ∧ y.cls ≠ "java/lang/invoke/VarHandle" ∧ (parseMethodDescriptor y.desc).map (fun d => d.parameters.length) = some n) (hRm : rm.frames + 1 ≤ R.frames ∧ 8 + (maxL + 11) + rm.locals ≤ R.locals) (hb : h b = some (oE ci fs)) (hc : vwCl[ci]? = some (C, T, N)) (hn : As.length = n) (hst0 : st0 = As.reverse ++ .ref b :: rest) (hst : (rest.map fun v => v.category).sum ≤ 8) (hcells : cells + rm.cells ≤ R.cells) (hslots : slots + rm.slots ≤ R.slots)
    (kk : ∀ (v : Option Value) (h' : AH), post1 v h' → WA p l e R s m args below meth c g sz0 nL Q h' (cells + rm.cells) (slots + rm.slots) lv (pc + 3) (v.toList ++ rest)) : WA p l e R s m args below meth c g sz0 nL Q h cells slots lv pc st0 := by
  obtain ⟨hx, hb1, hown, hts, hml, hCX, -⟩ := B
  refine r_run (a := (Value.ref b :: As).toArray) (fun H locs ls hR hS hl => ?_) kk
  exact va_runV (As := As) (rest := rest) ⟨hx, hb1, hml, hown, hts⟩ hM (cwV n hts hg hw rfl rfl hd hRm) ⟨PP.blind _ _ _ _, va_recv hCX.1 (hR.one hb) hc (q0 := 0) rfl, fun U hU hW => ⟨rfl, hCX.moved hS hU hW, by rw [hU]; exact hR⟩⟩ rfl hn hl.1 hst0 (lv_room hst) d ⟨hcells, hslots⟩
theorem r_callS (B : FX p s m args c cc own Ts nL g sz0) {index maxL n : Nat} {y : MethodName} {bytes : ByteArray} {ret : Option FieldType} {ws ws' : List Cond} {rm : Room} {As st0 : List Value} {post1 : Option Value → AH → Prop} (d : decode cc pc = .ok (.invokestatic index, 3)) (hM : CT l y ws rm g sz0 As h post1) (hg : GoodIn Ts (va_wsS own index y ws)) (hw : ws = Cond.code y bytes maxL ret :: ws') (hd : y.cls ≠ "java/lang/invoke/MethodHandle" ∧ y.cls ≠ "java/lang/invoke/VarHandle" ∧ (parseMethodDescriptor y.desc).map (fun d => d.parameters.length) = some n) (hRm : rm.frames + 1 ≤ R.frames ∧ 8 + (maxL + 11) + rm.locals ≤ R.locals) (hn : As.length = n) (hst0 : st0 = As.reverse ++ rest) (hst : (rest.map fun v => v.category).sum ≤ 8) (hcells : cells + rm.cells ≤ R.cells) (hslots : slots + rm.slots ≤ R.slots)
    (kk : ∀ (v : Option Value) (h' : AH), post1 v h' → WA p l e R s m args below meth c g sz0 nL Q h' (cells + rm.cells) (slots + rm.slots) lv (pc + 3) (v.toList ++ rest)) : WA p l e R s m args below meth c g sz0 nL Q h cells slots lv pc st0 := by
  obtain ⟨hx, hb1, hown, hts, hml, hCX, -⟩ := B
  refine r_run (a := As.toArray) (fun H locs ls hR hS hl => ?_) kk
  exact va_runS (As := As) (rest := rest) ⟨hx, hb1, hml, hown, hts⟩ hM (va_cwS n hts hg hw rfl rfl hd hRm) ⟨PP.blind _ _ _ _, fun U hU hW => ⟨rfl, hCX.moved hS hU hW, by rw [hU]; exact hR⟩⟩ rfl hn hl.1 hst0 (lv_room hst) d ⟨hcells, hslots⟩
theorem r_callI (B : FX p s m args c cc own Ts nL g sz0) {index maxL n b : Nat} {y : MethodName} {bytes : ByteArray} {ws ws' : List Cond} {rm : Room} {As st0 : List Value} {post1 : Option Value → AH → Prop} (d : decode cc pc = .ok (.invokespecial index, 3)) (hM : CT l y ws rm g sz0 (.ref b :: As) h post1) (hg : GoodIn Ts ws) (hw : ws = Cond.code y bytes maxL none :: ws') (hini : Cond.initialized y.cls ∈ Ts) (hlk : Cond.methodLink own index y ∈ Ts) (hin : Cond.instanceMethod y ∈ Ts) (hy1 : y.name = "<init>") (hd : y.cls ≠ "java/lang/invoke/MethodHandle" ∧ y.cls ≠ "java/lang/invoke/VarHandle" ∧ (parseMethodDescriptor y.desc).map (fun d => d.parameters.length) = some n) (hRm : rm.frames + 1 ≤ R.frames ∧ 8 + (maxL + 11) + rm.locals ≤ R.locals) (hn : As.length = n) (hst0 : st0 = As.reverse ++ .ref b :: rest) (hst : (rest.map fun v => v.category).sum ≤ 8) (hcells : cells + rm.cells ≤ R.cells) (hslots : slots + rm.slots ≤ R.slots)
    (kk : ∀ (v : Option Value) (h' : AH), post1 v h' → WA p l e R s m args below meth c g sz0 nL Q h' (cells + rm.cells) (slots + rm.slots) lv (pc + 3) (v.toList ++ rest)) : WA p l e R s m args below meth c g sz0 nL Q h cells slots lv pc st0 := by
  obtain ⟨hx, hb1, hown, hts, hml, hCX, -⟩ := B
  refine r_run (a := (Value.ref b :: As).toArray) (fun H locs ls hR hS hl => ?_) kk
  exact va_runI (As := As) (rest := rest) ⟨hx, hb1, hml, hown, hts⟩ hM (cwI n hts hg hw rfl rfl (hts _ hini) (hts _ hlk) (hts _ hin) hy1 hd hRm) ⟨PP.blind _ _ _ _, fun U hU hW => ⟨rfl, hCX.moved hS hU hW, by rw [hU]; exact hR⟩⟩ rfl hn hl.1 hst0 (lv_room hst) d ⟨hcells, hslots⟩
theorem r_callIN (B : FX p s m args c cc own Ts nL g sz0) {index maxL n b : Nat} {y : MethodName} {bytes : ByteArray} {ws ws' : List Cond} {rm : Room} {As st0 : List Value} {post1 : Option Value → AH → Prop} (d : decode cc pc = .ok (.invokespecial index, 3)) (hM : CT l y ws rm g sz0 (.ref b :: As) h post1) (hg : GoodIn Ts ws) (hw : ws = Cond.code y bytes maxL none :: ws') (hini : Cond.initialized y.cls ∈ Ts) (hlk : (own, index, y) ∈ nests) (hin : Cond.instanceMethod y ∈ Ts) (hy1 : y.name = "<init>") (hd : y.cls ≠ "java/lang/invoke/MethodHandle" ∧ y.cls ≠ "java/lang/invoke/VarHandle" ∧ (parseMethodDescriptor y.desc).map (fun d => d.parameters.length) = some n) (hRm : rm.frames + 1 ≤ R.frames ∧ 8 + (maxL + 11) + rm.locals ≤ R.locals) (hn : As.length = n) (hst0 : st0 = As.reverse ++ .ref b :: rest) (hst : (rest.map fun v => v.category).sum ≤ 8) (hcells : cells + rm.cells ≤ R.cells) (hslots : slots + rm.slots ≤ R.slots)
    (kk : ∀ (v : Option Value) (h' : AH), post1 v h' → WA p l e R s m args below meth c g sz0 nL Q h' (cells + rm.cells) (slots + rm.slots) lv (pc + 3) (v.toList ++ rest)) : WA p l e R s m args below meth c g sz0 nL Q h cells slots lv pc st0 := by
  obtain ⟨hx, hb1, hown, hts, hml, hCX, -⟩ := B
  refine r_run (a := (Value.ref b :: As).toArray) (fun H locs ls hR hS hl => ?_) kk
  exact va_runIN (As := As) (rest := rest) ⟨hx, hb1, hml, hown, hts⟩ hM ⟨va_cnB n hts hg hw rfl rfl (hCX.2.2.2.2.2 _ hlk) (hts _ hini) hd hRm, hy1, hts _ hin⟩ ⟨PP.blind _ _ _ _, fun U hU hW => ⟨rfl, hCX.moved hS hU hW, by rw [hU]; exact hR⟩⟩ rfl hn hl.1 hst0 (lv_room hst) d ⟨hcells, hslots⟩
theorem r_callSN (B : FX p s m args c cc own Ts nL g sz0) {index maxL n : Nat} {y : MethodName} {bytes : ByteArray} {ret : Option FieldType} {ws ws' : List Cond} {rm : Room} {As st0 : List Value} {post1 : Option Value → AH → Prop} (d : decode cc pc = .ok (.invokestatic index, 3)) (hM : CT l y ws rm g sz0 As h post1) (hg : GoodIn Ts ws) (hw : ws = Cond.code y bytes maxL ret :: ws') (hini : Cond.initialized y.cls ∈ Ts) (hlk : (own, index, y) ∈ nests) (hst1 : Cond.static y ∈ Ts) (hd : y.cls ≠ "java/lang/invoke/MethodHandle" ∧ y.cls ≠ "java/lang/invoke/VarHandle" ∧ (parseMethodDescriptor y.desc).map (fun d => d.parameters.length) = some n) (hRm : rm.frames + 1 ≤ R.frames ∧ 8 + (maxL + 11) + rm.locals ≤ R.locals) (hn : As.length = n) (hst0 : st0 = As.reverse ++ rest) (hst : (rest.map fun v => v.category).sum ≤ 8) (hcells : cells + rm.cells ≤ R.cells) (hslots : slots + rm.slots ≤ R.slots)
    (kk : ∀ (v : Option Value) (h' : AH), post1 v h' → WA p l e R s m args below meth c g sz0 nL Q h' (cells + rm.cells) (slots + rm.slots) lv (pc + 3) (v.toList ++ rest)) : WA p l e R s m args below meth c g sz0 nL Q h cells slots lv pc st0 := by
  obtain ⟨hx, hb1, hown, hts, hml, hCX, -⟩ := B
  refine r_run (a := As.toArray) (fun H locs ls hR hS hl => ?_) kk
  exact va_runSN (As := As) (rest := rest) ⟨hx, hb1, hml, hown, hts⟩ hM ⟨va_cnB n hts hg hw rfl rfl (hCX.2.2.2.2.2 _ hlk) (hts _ hini) hd hRm, hts _ hst1, trivial⟩ ⟨PP.blind _ _ _ _, fun U hU hW => ⟨rfl, hCX.moved hS hU hW, by rw [hU]; exact hR⟩⟩ rfl hn hl.1 hst0 (lv_room hst) d ⟨hcells, hslots⟩
theorem r_objInit (B : FX p s m args c cc own Ts nL g sz0) {idx a : Nat} (d : decode cc pc = .ok (.invokespecial idx, 3)) (h1 : Cond.methodLink own idx Lib.objectInit ∈ Ts) (h2 : Cond.instanceMethod Lib.objectInit ∈ Ts) (h3 : Cond.code Lib.objectInit ⟨#[0xb1]⟩ 1 none ∈ Ts) (hf : 1 ≤ R.frames) (hl1 : (rest.map fun v => v.category).sum + 12 ≤ R.locals) (k : WA p l e R s m args below meth c g sz0 nL Q h cells slots lv (pc + 3) rest) : WA p l e R s m args below meth c g sz0 nL Q h cells slots lv pc (.ref a :: rest) := fun H locs ls hR hS hl =>
  W.objInit B.1 B.2.1 B.2.2.1 (B.2.2.2.1 _ h1) (B.2.2.2.1 _ h2) (B.2.2.2.1 _ h3) rfl (by rw [B.2.2.2.2.1]; exact hl.1) rfl d hf (by simpa [JFrame.monitorRoom] using hl1) (k H locs ls hR hS hl)
-- calls of methods that may throw
theorem r_runX {mc1 ms1 : Nat} {a : Array Value} {st0 : List Value} {post1 : Option Value → AH → Prop} {px1 : String → AH → Prop} (hr : ∀ (H : Heap) (locs : List Loc) (ls : Array Slot), Rl g sz0 h H → va_S (A0 sz0) s.heap H locs → LV ls nL lv → vx_Run p l e R s m args below meth c H locs cells slots mc1 ms1 (F0 m pc ls st0) rest (QQ g sz0 post1 a) (XQ g sz0 px1) (A0 sz0))
    (kx : ∀ (E : String) (h' : AH), px1 E h' → ∀ (H : Heap) (locs : List Loc) (ls : Array Slot) (ce : Cell) (q : Addr), Rl g sz0 h' H → va_S (A0 sz0) s.heap H locs → LV ls nL lv → H[q]? = some ce → ce.vm = .none → s.vm.findClass E = some ce.cls → vx_W p l e R s m args below meth c H locs (cells + mc1) (slots + ms1) Q (F0 m pc ls rest) q)
    (kk : ∀ (v : Option Value) (h' : AH), post1 v h' → WA p l e R s m args below meth c g sz0 nL Q h' (cells + mc1) (slots + ms1) lv (pc + 3) (v.toList ++ rest)) : WA p l e R s m args below meth c g sz0 nL Q h cells slots lv pc st0 := by
  intro H locs ls hR hS hl T hT X
  rcases hr H locs ls hR hS hl T hT X with ⟨v, st₀, t, T', L, h0, X', hL, e1, e2, ⟨v', h', hv, hp, hR', hF⟩, st⟩ | ⟨q, st₀, t, T', L, E, ce, h0, X', hL, e1, e2, ⟨h', hp, hR', hF⟩, hce, hcv, hcl, st⟩
  · cases hv
    obtain ⟨k1, k2, k3⟩ := vx_keep (A0 := A0 sz0) (A1 := A0 sz0) h0 e1 hS (fun _ _ q => q) (fun _ q => q) hL hF
    obtain ⟨t2, a1, b1⟩ := kk v h' hp T'.heap (locs ++ L) ls (by rw [e1]; exact hR') k3 hl T' rfl X'
    exact ⟨t2, st t2 a1, b1⟩
  · obtain ⟨k1, k2, k3⟩ := vx_keep (A0 := A0 sz0) (A1 := A0 sz0) h0 e1 hS (fun _ _ q => q) (fun _ q => q) hL hF
    obtain ⟨t2, a1, b1⟩ := kx E h' hp T'.heap (locs ++ L) ls ce q (by rw [e1]; exact hR') k3 hl (by rw [e1]; exact hce) hcv hcl T' rfl X'
    exact ⟨t2, st.trans a1, b1⟩
/-- thrown past this method -/
theorem wx_out {Qc : Array Value → State → Outcome → State → Prop} {E : String} {h' : AH} {k n : Nat} (hout : ∀ x ∈ c.exceptionTable.toList, False) (hlk : meth.locks = false) (hp : px E h') (hc : k ≤ mc) (hs : n ≤ ms) : ∀ (H : Heap) (locs : List Loc) (ls : Array Slot) (ce : Cell) (q : Addr), Rl g sz0 h' H → va_S (A0 sz0) s.heap H locs → LV ls nL lv → H[q]? = some ce → ce.vm = .none → s.vm.findClass E = some ce.cls → vx_W p l e R s m args below meth c H locs k n (vx_MQ below Qc (XQ g sz0 px) args s mc ms (A0 sz0)) (F0 m pc ls rest) q := fun H locs ls ce q hR hS hl h1 h2 h3 =>
  vx_out (fun x hx => (hout x hx).elim) hlk h1 h2 h3 (fun t ht hA => ⟨h', hp, by rw [ht]; exact hR, hS.F ht⟩) hS.2.2 hc hs
theorem r_callVX (B : FX p s m args c cc own Ts nL g sz0) {C : String} {T : u_T} {N ci index maxL n b : Nat} {y : MethodName} {bytes : ByteArray} {ret : Option FieldType} {ws ws' : List Cond} {rm : Room} {As fs st0 : List Value} {post1 : Option Value → AH → Prop} {px1 : String → AH → Prop} (d : decode cc pc = .ok (.invokevirtual index, 3)) (hM : CTX l y ws rm g sz0 (.ref b :: As) h post1 px1) (hg : GoodIn Ts (wsV own index C y ws)) (hw : ws = Cond.code y bytes maxL ret :: ws') (hd : y.cls = C ∧ y.cls ≠ "java/lang/invoke/MethodHandle" ∧ y.cls ≠ "java/lang/invoke/VarHandle" ∧ (parseMethodDescriptor y.desc).map (fun d => d.parameters.length) = some n) (hRm : rm.frames + 1 ≤ R.frames ∧ 8 + (maxL + 11) + rm.locals ≤ R.locals) (hb : h b = some (oE ci fs)) (hc : vwCl[ci]? = some (C, T, N)) (hn : As.length = n) (hst0 : st0 = As.reverse ++ .ref b :: rest) (hst : (rest.map fun v => v.category).sum ≤ 8) (hcells : cells + rm.cells ≤ R.cells) (hslots : slots + rm.slots ≤ R.slots)
    (kx : ∀ (E : String) (h' : AH), px1 E h' → ∀ (H : Heap) (locs : List Loc) (ls : Array Slot) (ce : Cell) (q : Addr), Rl g sz0 h' H → va_S (A0 sz0) s.heap H locs → LV ls nL lv → H[q]? = some ce → ce.vm = .none → s.vm.findClass E = some ce.cls → vx_W p l e R s m args below meth c H locs (cells + rm.cells) (slots + rm.slots) Q (F0 m pc ls rest) q)
    (kk : ∀ (v : Option Value) (h' : AH), post1 v h' → WA p l e R s m args below meth c g sz0 nL Q h' (cells + rm.cells) (slots + rm.slots) lv (pc + 3) (v.toList ++ rest)) : WA p l e R s m args below meth c g sz0 nL Q h cells slots lv pc st0 := by
  obtain ⟨hx, hb1, hown, hts, hml, hCX, -⟩ := B
  refine r_runX (a := (Value.ref b :: As).toArray) (fun H locs ls hR hS hl => ?_) kx kk
  exact vx_runV (As := As) (rest := rest) ⟨hx, hb1, hml, hown, hts⟩ hM (cwV n hts hg hw rfl rfl hd hRm) ⟨PP.blind _ _ _ _, va_recv hCX.1 (hR.one hb) hc (q0 := 0) rfl, fun U hU hW => ⟨rfl, hCX.moved hS hU hW, by rw [hU]; exact hR⟩⟩ rfl hn hl.1 hst0 (lv_room hst) d ⟨hcells, hslots⟩
theorem r_callSX (B : FX p s m args c cc own Ts nL g sz0) {index maxL n : Nat} {y : MethodName} {bytes : ByteArray} {ret : Option FieldType} {ws ws' : List Cond} {rm : Room} {As st0 : List Value} {post1 : Option Value → AH → Prop} {px1 : String → AH → Prop} (d : decode cc pc = .ok (.invokestatic index, 3)) (hM : CTX l y ws rm g sz0 As h post1 px1) (hg : GoodIn Ts (va_wsS own index y ws)) (hw : ws = Cond.code y bytes maxL ret :: ws') (hd : y.cls ≠ "java/lang/invoke/MethodHandle" ∧ y.cls ≠ "java/lang/invoke/VarHandle" ∧ (parseMethodDescriptor y.desc).map (fun d => d.parameters.length) = some n) (hRm : rm.frames + 1 ≤ R.frames ∧ 8 + (maxL + 11) + rm.locals ≤ R.locals) (hn : As.length = n) (hst0 : st0 = As.reverse ++ rest) (hst : (rest.map fun v => v.category).sum ≤ 8) (hcells : cells + rm.cells ≤ R.cells) (hslots : slots + rm.slots ≤ R.slots)
    (kx : ∀ (E : String) (h' : AH), px1 E h' → ∀ (H : Heap) (locs : List Loc) (ls : Array Slot) (ce : Cell) (q : Addr), Rl g sz0 h' H → va_S (A0 sz0) s.heap H locs → LV ls nL lv → H[q]? = some ce → ce.vm = .none → s.vm.findClass E = some ce.cls → vx_W p l e R s m args below meth c H locs (cells + rm.cells) (slots + rm.slots) Q (F0 m pc ls rest) q)
    (kk : ∀ (v : Option Value) (h' : AH), post1 v h' → WA p l e R s m args below meth c g sz0 nL Q h' (cells + rm.cells) (slots + rm.slots) lv (pc + 3) (v.toList ++ rest)) : WA p l e R s m args below meth c g sz0 nL Q h cells slots lv pc st0 := by
  obtain ⟨hx, hb1, hown, hts, hml, hCX, -⟩ := B
  refine r_runX (a := As.toArray) (fun H locs ls hR hS hl => ?_) kx kk
  exact vx_runS (As := As) (rest := rest) ⟨hx, hb1, hml, hown, hts⟩ hM (va_cwS n hts hg hw rfl rfl hd hRm) ⟨PP.blind _ _ _ _, fun U hU hW => ⟨rfl, hCX.moved hS hU hW, by rw [hU]; exact hR⟩⟩ rfl hn hl.1 hst0 (lv_room hst) d ⟨hcells, hslots⟩
-- throw new E("text")
abbrev xnm : List String := ["java/lang/RuntimeException", "java/lang/Exception"]
def xbad (cls : String) : List Cond := Cond.castable cls cls :: xdecl.map Cond.declares
def xat (ic : Nat) (cls : String) : Prop := (∀ w ∈ (vx_atS RX9 ic cls xnm).filter (fun w => !goodWord w), w ∈ xbad cls) ∧ (∀ w ∈ vx_atS RX9 ic cls xnm, vx_ot w = true) ∧ Bundle.fit cls = true ∧ cls ∈ xcs
theorem xat_IO : xat 69 "java/lang/IndexOutOfBoundsException" := ⟨by decide +kernel, by decide +kernel, by decide +kernel, by decide +kernel⟩
theorem xat_IS : xat 80 "java/lang/IllegalStateException" := ⟨by decide +kernel, by decide +kernel, by decide +kernel, by decide +kernel⟩
theorem xat_IA : xat 267 "java/lang/IllegalArgumentException" := ⟨by decide +kernel, by decide +kernel, by decide +kernel, by decide +kernel⟩
theorem xnm_fit : ∀ n ∈ xnm, Bundle.fit n = true := by decide +kernel
theorem r_throwS (B : FX p s m args c cc RX9 Ts nL g sz0) (hl0 : l.stackTraces = false) {cls text : String} {ik is ic : Nat} (hxa : xat ic cls) (hkw : Cond.classLink RX9 ik cls ∈ Ts) (hiw : Cond.initialized cls ∈ Ts) (hgw : ∀ w ∈ (vx_atS RX9 ic cls xnm).filter goodWord, w ∈ Ts) (hstr : (is, text) ∈ strs) (d0 : decode cc pc = .ok (.new ik, 3)) (d3 : decode cc (pc + 3) = .ok (.dup, 1)) (d4 : decode cc (pc + 4) = .ok (.ldc is, 2)) (d6 : decode cc (pc + 6) = .ok (.invokespecial ic, 3)) (d9 : decode cc (pc + 9) = .ok (.athrow, 1)) (hout : ∀ x ∈ c.exceptionTable.toList, False) (hlk : meth.locks = false) (hRf : 5 < R.frames) (hRl : (rest.map fun v => v.category).sum + 82 ≤ R.locals) (hcells : cells + 1 ≤ R.cells) (hslots : slots + 6 ≤ R.slots) (hc : cells + 1 ≤ mc) (hs : slots + 6 ≤ ms) {Qc : Array Value → State → Outcome → State → Prop} (hp : px cls h) : WA p l e R s m args below meth c g sz0 nL (vx_MQ below Qc (XQ g sz0 px) args s mc ms (A0 sz0)) h cells slots lv pc rest := fun H locs ls hR hS hl => by
  obtain ⟨hx, hb, hown, hts, hml, hCX, -⟩ := B
  obtain ⟨xa, xb, xc, xd⟩ := hxa
  refine vx_throwS hx hb hl0 (names := xnm) (sa := g.2.2 is) (A := A0 sz0) hown xc xnm_fit (hts _ hkw) (hts _ hiw) (hCX.2.2.2.2.1 (is, text) hstr) (vx_hat (B := xbad cls) (fun w hw => hts w (hgw w hw)) xa (vx_c (va_Nw.use rfl (hCX.2.2.2.1.2.2.2.1 cls xd)) (fun w hw => by obtain ⟨y, hy, rfl⟩ := List.mem_map.mp hw; exact va_Nw.use rfl (hCX.2.2.2.1.2.2.2.2.2 y hy)))) ?_ hCX.2.1 hCX.2.2.1 hS (hl.1.trans hml.symm) d0 d3 d4 d6 d9 (fun x hx => (hout x hx).elim) (by show 2 + 3 < R.frames; omega) (by show _ + (13 * (2 + 1) + 43) ≤ _; omega) hcells hslots hlk (fun t hA hz ho => ⟨h, hp, hR.kept hz ho, Nat.le_trans hS.1 hz, fun q h1 h2 => (ho q (Nat.lt_of_lt_of_le h1 hS.1)).trans (hS.2.1 q h1 h2)⟩) hS.2.2 hc hs
  intro w hw
  rcases List.mem_cons.mp hw with h1 | h1
  · subst h1; rfl
  rcases List.mem_cons.mp h1 with h2 | h2
  · subst h2; rfl
  exact xb w h2
theorem r_throwSW (B : FX p s m args c cc RX9 Ts nL g sz0) (hl0 : l.stackTraces = false) {cls text : String} {ik is ic : Nat} (hxa : xat ic cls) (hkw : Cond.classLink RX9 ik cls ∈ Ts) (hiw : Cond.initialized cls ∈ Ts) (hgw : ∀ w ∈ (vx_atS RX9 ic cls xnm).filter goodWord, w ∈ Ts) (hstr : (is, text) ∈ strs) (d0 : decode cc pc = .ok (.new ik, 3)) (d3 : decode cc (pc + 3) = .ok (.dup, 1)) (d4 : decode cc (pc + 4) = .ok (.ldc_w is, 3)) (d6 : decode cc (pc + 7) = .ok (.invokespecial ic, 3)) (d9 : decode cc (pc + 10) = .ok (.athrow, 1)) (hout : ∀ x ∈ c.exceptionTable.toList, False) (hlk : meth.locks = false) (hRf : 5 < R.frames) (hRl : (rest.map fun v => v.category).sum + 82 ≤ R.locals) (hcells : cells + 1 ≤ R.cells) (hslots : slots + 6 ≤ R.slots) (hc : cells + 1 ≤ mc) (hs : slots + 6 ≤ ms) {Qc : Array Value → State → Outcome → State → Prop} (hp : px cls h) : WA p l e R s m args below meth c g sz0 nL (vx_MQ below Qc (XQ g sz0 px) args s mc ms (A0 sz0)) h cells slots lv pc rest := fun H locs ls hR hS hl => by
  obtain ⟨hx, hb, hown, hts, hml, hCX, -⟩ := B
  obtain ⟨xa, xb, xc, xd⟩ := hxa
  refine vx_throwSW hx hb hl0 (names := xnm) (sa := g.2.2 is) (A := A0 sz0) hown xc xnm_fit (hts _ hkw) (hts _ hiw) (hCX.2.2.2.2.1 (is, text) hstr) (vx_hat (B := xbad cls) (fun w hw => hts w (hgw w hw)) xa (vx_c (va_Nw.use rfl (hCX.2.2.2.1.2.2.2.1 cls xd)) (fun w hw => by obtain ⟨y, hy, rfl⟩ := List.mem_map.mp hw; exact va_Nw.use rfl (hCX.2.2.2.1.2.2.2.2.2 y hy)))) ?_ hCX.2.1 hCX.2.2.1 hS (hl.1.trans hml.symm) d0 d3 d4 d6 d9 (fun x hx => (hout x hx).elim) (by show 2 + 3 < R.frames; omega) (by show _ + (13 * (2 + 1) + 43) ≤ _; omega) hcells hslots hlk (fun t hA hz ho => ⟨h, hp, hR.kept hz ho, Nat.le_trans hS.1 hz, fun q h1 h2 => (ho q (Nat.lt_of_lt_of_le h1 hS.1)).trans (hS.2.1 q h1 h2)⟩) hS.2.2 hc hs
  intro w hw
  rcases List.mem_cons.mp hw with h1 | h1
  · subst h1; rfl
  rcases List.mem_cons.mp h1 with h2 | h2
  · subst h2; rfl
  exact xb w h2
end RET
-- truth values
noncomputable def bI (P : Prop) : Int := @ite Int P (Classical.propDecidable P) 1 0
theorem bI_t {P : Prop} (hp : P) : bI P = 1 := by unfold bI; exact @if_pos P (Classical.propDecidable P) hp Int 1 0
theorem bI_f {P : Prop} (hp : ¬ P) : bI P = 0 := by unfold bI; exact @if_neg P (Classical.propDecidable P) hp Int 1 0
theorem bI_01 (P : Prop) : bI P = 0 ∨ bI P = 1 := by
  rcases Classical.em P with hp | hp
  · exact Or.inr (bI_t hp)
  · exact Or.inl (bI_f hp)
theorem bI_eq {P Q : Prop} (hpq : P ↔ Q) : bI P = bI Q := by rw [propext hpq]
theorem bI_0 {P : Prop} : bI P = 0 ↔ ¬ P := ⟨fun q hp => by rw [bI_t hp] at q; exact absurd q (by decide), bI_f⟩
theorem bI_1 {P : Prop} : bI P = 1 ↔ P := ⟨fun q => Classical.byContradiction fun hp => by rw [bI_f hp] at q; exact absurd q (by decide), bI_t⟩
theorem nar_0 : narrow .boolean (.int (iI 0)) = .int (iI 0) := rfl
theorem nar_1 : narrow .boolean (.int (iI 1)) = .int (iI 1) := rfl
theorem nar_bI (P : Prop) : narrow .boolean (.int (iI (bI P))) = .int (iI (bI P)) := by
  rcases bI_01 P with hp | hp <;> rw [hp] <;> rfl
theorem bI_rng (P : Prop) : -2147483648 ≤ bI P ∧ bI P < 2147483648 := by rcases bI_01 P with hp | hp <;> rw [hp] <;> decide
theorem lvLe_nil {l : LVs} : lvLe [] l := trivial
theorem lvLe_n {r l : LVs} (h : lvLe r l.tail) : lvLe (none :: r) l := h
theorem lvLe_s {v : Value} {r l : LVs} (h1 : l.head? = some (some v)) (h2 : lvLe r l.tail) : lvLe (some v :: r) l := ⟨h1, h2⟩
theorem nar_rf (C : String) (r : Option Nat) : narrow (.object C) (va_rf r) = va_rf r := by cases r <;> rfl
theorem fit_rf (C : String) (r : Option Nat) : fits (.object C) (va_rf r) = true := by cases r <;> rfl
theorem bI_n0 {P : Prop} : ¬ bI P = 0 ↔ P := ⟨fun q => Classical.byContradiction fun hp => q (bI_f hp), fun hp q => bI_0.mp q hp⟩
