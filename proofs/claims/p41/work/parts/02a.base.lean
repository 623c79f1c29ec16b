-- ===== the abstract heap: what each cell of ours holds, by its address =====
abbrev AH : Type := Nat → Option va_E
def ah_up (h : AH) (a : Nat) (e : va_E) : AH := fun q => if q = a then some e else h q
theorem ah_same (h : AH) (a : Nat) (e : va_E) : ah_up h a e a = some e := if_pos rfl
theorem ah_ne (h : AH) {a q : Nat} (e : va_E) (hq : q ≠ a) : ah_up h a e q = h q := if_neg hq
theorem ah_at {h : AH} {a q : Nat} {e e' : va_E} (hq : q ≠ a) (hh : h q = some e') : ah_up h a e q = some e' := (ah_ne h e hq).trans hh
theorem ah_upup (h : AH) (a : Nat) (e e' : va_E) : ah_up (ah_up h a e) a e' = ah_up h a e' := by
  funext q
  by_cases hq : q = a
  · simp [ah_up, hq]
  · simp [ah_up, hq]
theorem ah_self {h : AH} {a : Nat} {e : va_E} (hh : h a = some e) : ah_up h a e = h := by
  funext q
  by_cases hq : q = a
  · simp [ah_up, hq, hh]
  · simp [ah_up, hq]
abbrev GG : Type := va_G × (Nat → ClassId) × (Nat → Nat)
abbrev tysA (g : GG) : List (ClassId × FieldType) := [(g.2.1 0, .int), (g.2.1 1, .int), (g.2.1 2, .long), (g.2.1 3, .long), (g.2.1 4, .object RX1), (g.2.1 5, .object RX3), (g.2.1 6, .object RX5)]
def iI (z : Int) : Int32 := Int32.ofInt z
def iE (g : GG) (n : Nat) (F : Int → Int) : va_E := .inl (g.2.1 0, n, .inl (fun k => iI (F (k : Int))))
def lE (g : GG) (n : Nat) (f : Nat → Int64) : va_E := .inl (g.2.1 2, n, .inr (.inl f))
def qE (g : GG) (t n : Nat) (f : Int → Option Nat) : va_E := .inl (g.2.1 t, n, .inr (.inr (.inr (.inr (fun k => f (k : Int))))))
def oE (ci : Nat) (fs : List Value) : va_E := .inr (ci, fs)
abbrev A0 (sz0 : Nat) : Nat → Prop := fun q => sz0 ≤ q
def Rl (g : GG) (sz0 : Nat) (h : AH) (H : Heap) : Prop := sz0 ≤ H.size ∧ ∀ (q : Nat) (e : va_E), h q = some e → sz0 ≤ q ∧ va_at g.1 vwCl (q, e) H
theorem Rl.one {g : GG} {sz0 : Nat} {h : AH} {H : Heap} (hR : Rl g sz0 h H) {a : Nat} {e : va_E} (ha : h a = some e) : va_P g.1 vwCl [(a, e)] H := fun k q hk => by
  match k, hk with
  | 0, hk => cases hk; exact (hR.2 a e ha).2
  | k + 1, hk => simp at hk
theorem Rl.lt {g : GG} {sz0 : Nat} {h : AH} {H : Heap} (hR : Rl g sz0 h H) {a : Nat} {e : va_E} (ha : h a = some e) : a < H.size := va_at.lt (hR.2 a e ha).2
theorem Rl.fresh {g : GG} {sz0 : Nat} {h : AH} {H : Heap} (hR : Rl g sz0 h H) : h H.size = none := by
  cases hh : h H.size with
  | none => rfl
  | some e => exact absurd (hR.lt hh) (Nat.lt_irrefl _)
theorem Rl.set {g : GG} {sz0 : Nat} {h : AH} {H H1 : Heap} (hR : Rl g sz0 h H) {a : Nat} {e0 e : va_E} (ha : h a = some e0) (z : H1.size = H.size) (he : va_at g.1 vwCl (a, e) H1) (oq : ∀ q : Nat, q ≠ a → H1[q]? = H[q]?) : Rl g sz0 (ah_up h a e) H1 := by
  refine ⟨by rw [z]; exact hR.1, fun q e' hq => ?_⟩
  by_cases hqa : q = a
  · subst hqa
    rw [ah_same] at hq
    cases hq
    exact ⟨(hR.2 q e0 ha).1, he⟩
  · rw [ah_ne h e hqa] at hq
    exact ⟨(hR.2 q e' hq).1, (hR.2 q e' hq).2.kept (oq q hqa)⟩
theorem Rl.push {g : GG} {sz0 : Nat} {h : AH} {H H1 : Heap} (hR : Rl g sz0 h H) {e : va_E} (z : H1.size = H.size + 1) (he : va_at g.1 vwCl (H.size, e) H1) (oq : ∀ q : Nat, q < H.size → H1[q]? = H[q]?) : Rl g sz0 (ah_up h H.size e) H1 := by
  refine ⟨by rw [z]; exact Nat.le_succ_of_le hR.1, fun q e' hq => ?_⟩
  by_cases hqa : q = H.size
  · subst hqa
    rw [ah_same] at hq
    cases hq
    exact ⟨hR.1, he⟩
  · rw [ah_ne h e hqa] at hq
    exact ⟨(hR.2 q e' hq).1, (hR.2 q e' hq).2.kept (oq q (hR.lt hq))⟩
theorem Rl.kept {g : GG} {sz0 : Nat} {h : AH} {H H1 : Heap} (hR : Rl g sz0 h H) (z : H.size ≤ H1.size) (oq : ∀ q : Nat, q < H.size → H1[q]? = H[q]?) : Rl g sz0 h H1 :=
  ⟨Nat.le_trans hR.1 z, fun q e hq => ⟨(hR.2 q e hq).1, (hR.2 q e hq).2.kept (oq q (hR.lt hq))⟩⟩
-- ===== what stays true of the machine's tables and its old cells =====
def strs : List (Nat × String) := [(67, "no such place"), (78, "the file is full"), (100, "the other file would be too long"), (133, "no such chunk"), (164, "the client has no chain"), (173, "all nights have gone by"), (252, "the client has no day"), (265, "no such client"), (268, "out of range"), (270, "no byte at this place"), (276, "no such bytes"), (278, "no such night has gone by"), (280, "the client was not served in this night")]
def nests : List (String × Nat × MethodName) := [(RX9, 17, yX7_init), (RX9, 24, yX4_init), (RX9, 31, yX6_init), (RX9, 38, yX8_init), (RX9, 47, yX3_init), (RX0, 54, yX9_foldIn), (RX1, 30, yX9_foldIn), (RX3, 11, yX0_init), (RX5, 9, yX2_init)]
def xIA : String := "java/lang/IllegalArgumentException"
def xIO : String := "java/lang/IndexOutOfBoundsException"
def xIS : String := "java/lang/IllegalStateException"
def xcs : List String := [xIA, xIO, xIS]
def xcs2 : List String := [xIO, xIS]
def xdecl : List MethodName := [Bundle.initS "java/lang/RuntimeException", Bundle.initS "java/lang/Exception", Bundle.initS "java/lang/Throwable"]
def CX1 (U : State) : Prop := va_AO RX1 U ∧ va_AO RX3 U ∧ va_AO RX5 U ∧ (∀ E ∈ xcs, va_Nw (.castable E E) U) ∧ (∀ E ∈ xcs, ∀ E' ∈ xcs2, E ≠ E' → va_Nc E E' U) ∧ ∀ y ∈ xdecl, va_Nw (.declares y) U
def CX2 (g : GG) (U : State) : Prop := (∀ q ∈ strs, vk_R RX9 q.1 q.2 (g.2.2 q.1) U) ∧ (∀ q ∈ nests, va_Nw (.methodLinkNest q.1 q.2.1 q.2.2 "DeltaNights") U)
def CX (g : GG) (sz0 : Nat) (U : State) : Prop := va_K g.1 vwCl (tysA g) U ∧ vx_Zq Bundle.tN "UNASSIGNED_STACK" Bundle.steD (A0 sz0) U U.heap ∧ vx_Zq Bundle.tN "SUPPRESSED_SENTINEL" Bundle.listD (A0 sz0) U U.heap ∧ CX1 U ∧ CX2 g U
theorem CX1.moved {s U : State} (h : CX1 s) (hW : s.WarmedH U.vm) : CX1 U :=
  ⟨va_AO.moved hW.alike h.1, va_AO.moved hW.alike h.2.1, va_AO.moved hW.alike h.2.2.1, fun E hE => va_Nw.warmC hW (h.2.2.2.1 E hE), fun E hE E' hE' hne => va_Nc.moved hW.alike (h.2.2.2.2.1 E hE E' hE' hne), fun y hy => va_Nw.warmD hW (h.2.2.2.2.2 y hy)⟩
theorem CX1.same {s U : State} (h : CX1 s) (hv : s.vm = U.vm) : CX1 U := by
  have ha : s.vm.Alike U.vm := by rw [hv]; exact Vm.Alike.refl U.vm
  exact ⟨va_AO.moved ha h.1, va_AO.moved ha h.2.1, va_AO.moved ha h.2.2.1, fun E hE => va_Nw.same rfl hv (h.2.2.2.1 E hE), fun E hE E' hE' hne => va_Nc.moved ha (h.2.2.2.2.1 E hE E' hE' hne), fun y hy => va_Nw.same rfl hv (h.2.2.2.2.2 y hy)⟩
theorem CX2.moved {g : GG} {s U : State} (h : CX2 g s) (hW : s.WarmedH U.vm) : CX2 g U := ⟨fun q hq => vk_R.warm hW (h.1 q hq), fun q hq => va_Nw.warmM hW (h.2 q hq)⟩
theorem CX2.same {g : GG} {s U : State} (h : CX2 g s) (hv : U.vm = s.vm) : CX2 g U := ⟨fun q hq => vk_R.same hv (h.1 q hq), fun q hq => va_Nw.same rfl hv.symm (h.2 q hq)⟩
theorem CX.moved {g : GG} {sz0 : Nat} {s U : State} {H : Heap} {locs : List Loc} (h : CX g sz0 s) (hS : va_S (A0 sz0) s.heap H locs) (hU : U.heap = H) (hW : s.WarmedH U.vm) : CX g sz0 U := by
  obtain ⟨h1, h2, h3, h4, h5⟩ := h
  refine ⟨va_K.moved hW.alike h1, ?_, ?_, h4.moved hW, h5.moved hW⟩
  · rw [hU]; exact vx_Zq.moved hW.alike (h2.kept hS.2.1)
  · rw [hU]; exact vx_Zq.moved hW.alike (h3.kept hS.2.1)
theorem CX.calling {g : GG} {sz0 : Nat} {U : State} {a : Array Value} {gf : JFrame} {mk : MethodId} (h : CX g sz0 U) : CX g sz0 (U.calling gf mk a) := by
  obtain ⟨h1, h2, h3, h4, h5⟩ := h
  exact ⟨va_K.moved (u := U) (U := U.calling gf mk a) (Vm.Alike.refl U.vm) h1, vx_Zq.moved (u := U) (U := U.calling gf mk a) (Vm.Alike.refl U.vm) h2, vx_Zq.moved (u := U) (U := U.calling gf mk a) (Vm.Alike.refl U.vm) h3, CX1.same (U := U.calling gf mk a) h4 rfl, CX2.same (U := U.calling gf mk a) h5 rfl⟩
-- ===== locals =====
abbrev LVs : Type := List (Option Value)
def LV (ls : Array Slot) (nL : Nat) (lv : LVs) : Prop := ls.size = nL ∧ lv_wf ls ∧ ∀ (i : Nat) (v : Value), lv[i]? = some (some v) → ls[i]? = some (.val v)
theorem LV.at {ls : Array Slot} {nL : Nat} {lv : LVs} (h : LV ls nL lv) {i : Nat} {v : Value} (hi : lv[i]? = some (some v)) : ls[i]? = some (.val v) := h.2.2 i v hi
def lcat (lv : LVs) (i : Nat) : Prop := i = 0 ∨ ∀ v : Value, lv[i - 1]? = some (some v) → v.category ≠ 2
theorem LV.store1 {ls : Array Slot} {nL : Nat} {lv : LVs} {i : Nat} {v : Value} (h : LV ls nL lv) (hi : i < nL) (hc : v.category = 1) (hk : lcat lv i) : ∃ ls', storeLocals ls i v = some ls' ∧ LV ls' nL (lv.set i (some v)) := by
  obtain ⟨ls', e0, h0⟩ := lv_store1 (l := []) (v := v) ⟨h.1, h.2.1, fun q hq => by cases hq⟩ hi hc
  refine ⟨ls', e0, h0.1, h0.2.1, fun j w hj => ?_⟩
  by_cases hji : j = i
  · subst hji
    have hlt : j < (lv.set j (some v)).length := (List.getElem?_eq_some_iff.mp hj).1
    rw [List.getElem?_set_self (by simpa using hlt)] at hj
    cases hj
    exact h0.2.2 (j, v) List.mem_cons_self
  · rw [List.getElem?_set_ne (Ne.symm hji)] at hj
    obtain ⟨ls2, e2, h2⟩ := lv_store1 (l := [(j, w)]) (v := v) ⟨h.1, h.2.1, fun q hq => by rw [List.mem_singleton.mp hq]; exact h.2.2 j w hj⟩ hi hc
    cases e0.symm.trans e2
    refine h2.2.2 (j, w) (List.mem_cons_of_mem _ (List.mem_filter.mpr ⟨List.mem_singleton.mpr rfl, ?_⟩))
    by_cases hj1 : j + 1 = i
    · rcases hk with hk | hk
      · omega
      · have := hk w (by rw [show i - 1 = j by omega]; exact hj)
        simp [hji, this]
    · simp [hji, hj1]
theorem LV.store2 {ls : Array Slot} {nL : Nat} {lv : LVs} {i : Nat} {v : Value} (h : LV ls nL lv) (hi : i + 1 < nL) (hc : v.category = 2) (hk : lcat lv i) : ∃ ls', storeLocals ls i v = some ls' ∧ LV ls' nL ((lv.set i (some v)).set (i + 1) none) := by
  obtain ⟨ls', e0, h0⟩ := lv_store2 (l := []) (v := v) ⟨h.1, h.2.1, fun q hq => by cases hq⟩ hi hc
  refine ⟨ls', e0, h0.1, h0.2.1, fun j w hj => ?_⟩
  by_cases hj2 : j = i + 1
  · subst hj2
    have hlt : i + 1 < ((lv.set i (some v)).set (i + 1) none).length := (List.getElem?_eq_some_iff.mp hj).1
    rw [List.getElem?_set_self (by simpa using hlt)] at hj
    cases hj
  rw [List.getElem?_set_ne (Ne.symm hj2)] at hj
  by_cases hji : j = i
  · subst hji
    have hlt : j < (lv.set j (some v)).length := (List.getElem?_eq_some_iff.mp hj).1
    rw [List.getElem?_set_self (by simpa using hlt)] at hj
    cases hj
    exact h0.2.2 (j, v) List.mem_cons_self
  · rw [List.getElem?_set_ne (Ne.symm hji)] at hj
    obtain ⟨ls2, e2, h2⟩ := lv_store2 (l := [(j, w)]) (v := v) ⟨h.1, h.2.1, fun q hq => by rw [List.mem_singleton.mp hq]; exact h.2.2 j w hj⟩ hi hc
    cases e0.symm.trans e2
    refine h2.2.2 (j, w) (List.mem_cons_of_mem _ (List.mem_filter.mpr ⟨List.mem_singleton.mpr rfl, ?_⟩))
    by_cases hj1 : j + 1 = i
    · rcases hk with hk | hk
      · omega
      · have := hk w (by rw [show i - 1 = j by omega]; exact hj)
        simp [hji, hj2, this]
    · simp [hji, hj1, hj2]
theorem LV.weaken {ls : Array Slot} {nL : Nat} {lv lv' : LVs} (h : LV ls nL lv) (hw : ∀ (i : Nat) (v : Value), lv'[i]? = some (some v) → lv[i]? = some (some v)) : LV ls nL lv' := ⟨h.1, h.2.1, fun i v hi => h.2.2 i v (hw i v hi)⟩
def lvLe : LVs → LVs → Prop
  | [], _ => True
  | none :: r, l => lvLe r l.tail
  | some v :: r, l => l.head? = some (some v) ∧ lvLe r l.tail
theorem lvLe_at : ∀ (lv' lv : LVs), lvLe lv' lv → ∀ (i : Nat) (v : Value), lv'[i]? = some (some v) → lv[i]? = some (some v)
  | [], _, _, i, v, hi => by simp at hi
  | none :: r, l, h, 0, v, hi => by simp at hi
  | none :: r, l, h, i + 1, v, hi => by
    have := lvLe_at r l.tail h i v (by simpa using hi)
    cases l with
    | nil => simp at this
    | cons a t => simpa using this
  | some w :: r, l, h, 0, v, hi => by
    have hwv : w = v := by simpa using hi
    subst hwv
    cases l with
    | nil => simp [lvLe] at h
    | cons a t => simpa using h.1
  | some w :: r, l, h, i + 1, v, hi => by
    have := lvLe_at r l.tail h.2 i v (by simpa using hi)
    cases l with
    | nil => simp at this
    | cons a t => simpa using this
theorem lcat_0 {lv : LVs} : lcat lv 0 := Or.inl rfl
theorem lcat_n {lv : LVs} {i : Nat} (h : lv[i - 1]? = some none) : lcat lv i := Or.inr fun v hv => by rw [h] at hv; cases hv
theorem lcat_o {lv : LVs} {i : Nat} (h : lv[i - 1]? = none) : lcat lv i := Or.inr fun v hv => by rw [h] at hv; cases hv
theorem lcat_v {lv : LVs} {i : Nat} {w : Value} (h : lv[i - 1]? = some (some w)) (hw : w.category = 1) : lcat lv i := Or.inr fun v hv => by rw [h] at hv; cases hv; omega
theorem va_rf_cat (r : Option Nat) : (va_rf r).category = 1 := by cases r <;> rfl
theorem va_rf_isRef (r : Option Nat) : (va_rf r).isRef = true := by cases r <;> rfl

theorem iI_add (a b : Int) : iI a + iI b = iI (a + b) := (Int32.ofInt_add a b).symm
theorem iI_sub (a b : Int) : iI a - iI b = iI (a - b) := (Int32.ofInt_sub a b).symm
theorem iI_mul (a b : Int) : iI a * iI b = iI (a * b) := (Int32.ofInt_mul a b).symm
theorem iI_toInt {a : Int} (h : -2147483648 ≤ a ∧ a < 2147483648) : (iI a).toInt = a := Int32.toInt_ofInt_of_le h.1 h.2
theorem iI_of (x : Int32) : iI x.toInt = x := Int32.ofInt_toInt x
theorem iI_lt {a b : Int} (ha : -2147483648 ≤ a ∧ a < 2147483648) (hb : -2147483648 ≤ b ∧ b < 2147483648) : iI a < iI b ↔ a < b := by
  rw [Int32.lt_iff_toInt_lt, iI_toInt ha, iI_toInt hb]
theorem iI_le {a b : Int} (ha : -2147483648 ≤ a ∧ a < 2147483648) (hb : -2147483648 ≤ b ∧ b < 2147483648) : iI a ≤ iI b ↔ a ≤ b := by
  rw [Int32.le_iff_toInt_le, iI_toInt ha, iI_toInt hb]
theorem iI_eq {a b : Int} (ha : -2147483648 ≤ a ∧ a < 2147483648) (hb : -2147483648 ≤ b ∧ b < 2147483648) : iI a = iI b ↔ a = b := by
  rw [← Int32.toInt_inj, iI_toInt ha, iI_toInt hb]
theorem iI_0 : iI 0 = 0 := rfl
theorem iI_nat {a : Int} (h0 : 0 ≤ a) (h1 : a < 2147483648) : (iI a).toNatClampNeg = a.toNat := Int32.toNatClampNeg_ofInt_of_le (by omega) h1
theorem iI_natc {a : Int} (h0 : 0 ≤ a) (h1 : a < 2147483648) : (((iI a).toNatClampNeg : Nat) : Int) = a := by rw [iI_nat h0 h1]; omega
theorem iI_in {a : Int} {n : Nat} (hn : n < 2147483648) (h0 : 0 ≤ a) (h1 : a < (n : Int)) : vp_in (iI a) n := by
  rintro (q | q)
  · have := (iI_lt (a := a) (b := 0) (by omega) (by omega)).mp q
    omega
  · rw [iI_nat h0 (by omega)] at q
    omega
def upZ (F : Int → Int) (i x : Int) : Int → Int := fun j => if j = i then x else F j
def upQ (f : Int → Option Nat) (i : Int) (x : Option Nat) : Int → Option Nat := fun j => if j = i then x else f j
theorem upZ_at (F : Int → Int) (i x : Int) : upZ F i x i = x := if_pos rfl
theorem upZ_ne (F : Int → Int) {i j : Int} (x : Int) (hj : j ≠ i) : upZ F i x j = F j := if_neg hj
theorem upQ_at (F : Int → Option Nat) (i : Int) (x : Option Nat) : upQ F i x i = x := if_pos rfl
theorem upQ_ne (F : Int → Option Nat) {i j : Int} (x : Option Nat) (hj : j ≠ i) : upQ F i x j = F j := if_neg hj
-- ===== the method's fixed facts; the walk over the abstract heap =====
abbrev FX (p : Program) (s : State) (m : MethodId) (args : Array Value) (c : Code) (cc : ByteArray) (own : String) (Ts : List Cond) (nL : Nat) (g : GG) (sz0 : Nat) : Prop :=
  p.tables.exec = Jvm.exec ∧ c.code = cc ∧ s.vm.findClass own = some m.cls ∧ (∀ w ∈ Ts, w.before args s = true) ∧ c.maxLocals = nL ∧ CX g sz0 s ∧ sz0 ≤ s.heap.size
def WA (p : Program) (l : Launch) (e : Env) (R : Room) (s : State) (m : MethodId) (args : Array Value) (below : List Frame) (meth : Method) (c : Code) (g : GG) (sz0 nL : Nat) (Q : State → Prop) (h : AH) (cells slots : Nat) (lv : LVs) (pc : Nat) (st : List Value) : Prop :=
  ∀ (H : Heap) (locs : List Loc) (ls : Array Slot), Rl g sz0 h H → va_S (A0 sz0) s.heap H locs → LV ls nL lv → W p l e R s m args below meth c H locs cells slots Q (F0 m pc ls st)
section RWA
variable {p : Program} {l : Launch} {e : Env} {R : Room} {s : State} {m : MethodId} {args : Array Value} {below : List Frame} {meth : Method} {c : Code} {cells slots : Nat} {Q : State → Prop}
variable {g : GG} {sz0 nL : Nat} {h : AH} {cc : ByteArray} {own : String} {Ts : List Cond} {lv : LVs} {pc : Nat} {rest : List Value}

theorem r_iconst (B : FX p s m args c cc own Ts nL g sz0) {n : Int} (d : decode cc pc = .ok (.iconst n, 1))  (k : WA p l e R s m args below meth c g sz0 nL Q h cells slots lv (pc + 1) (.int (iI n) :: rest)) : WA p l e R s m args below meth c g sz0 nL Q h cells slots lv (pc) (rest) := fun H locs ls hR hS hl => lv_iconst B.1 B.2.1 d rfl (k H locs ls hR hS hl)
theorem r_bipush (B : FX p s m args c cc own Ts nL g sz0) {n : Int} (d : decode cc pc = .ok (.bipush n, 2)) (hv : (Int8.ofInt n).toInt32 = iI n) (k : WA p l e R s m args below meth c g sz0 nL Q h cells slots lv (pc + 2) (.int (iI n) :: rest)) : WA p l e R s m args below meth c g sz0 nL Q h cells slots lv (pc) (rest) := fun H locs ls hR hS hl => lv_bipush B.1 B.2.1 d hv (k H locs ls hR hS hl)
theorem r_sipush (B : FX p s m args c cc own Ts nL g sz0) {n : Int} (d : decode cc pc = .ok (.sipush n, 3)) (hv : (Int16.ofInt n).toInt32 = iI n) (k : WA p l e R s m args below meth c g sz0 nL Q h cells slots lv (pc + 3) (.int (iI n) :: rest)) : WA p l e R s m args below meth c g sz0 nL Q h cells slots lv (pc) (rest) := fun H locs ls hR hS hl => lv_sipush B.1 B.2.1 d hv (k H locs ls hR hS hl)
theorem r_ldc (B : FX p s m args c cc own Ts nL g sz0) {i : Nat} {v : Int} (d : decode cc pc = .ok (.ldc i, 2)) (hw : Cond.constant own i (iI v) ∈ Ts) (k : WA p l e R s m args below meth c g sz0 nL Q h cells slots lv (pc + 2) (.int (iI v) :: rest)) : WA p l e R s m args below meth c g sz0 nL Q h cells slots lv (pc) (rest) := fun H locs ls hR hS hl => lv_ldc B.1 B.2.1 B.2.2.1 (B.2.2.2.1 _ hw) d (k H locs ls hR hS hl)
theorem r_ldcw (B : FX p s m args c cc own Ts nL g sz0) {i : Nat} {v : Int} (d : decode cc pc = .ok (.ldc_w i, 3)) (hw : Cond.constant own i (iI v) ∈ Ts) (k : WA p l e R s m args below meth c g sz0 nL Q h cells slots lv (pc + 3) (.int (iI v) :: rest)) : WA p l e R s m args below meth c g sz0 nL Q h cells slots lv (pc) (rest) := fun H locs ls hR hS hl => lv_ldcw B.1 B.2.1 B.2.2.1 (B.2.2.2.1 _ hw) d (k H locs ls hR hS hl)
theorem r_lconst (B : FX p s m args c cc own Ts nL g sz0) {n : Fin 2} {v : Int64} (d : decode cc pc = .ok (.lconst n, 1)) (hv : Int64.ofNat (n : Nat) = v) (k : WA p l e R s m args below meth c g sz0 nL Q h cells slots lv (pc + 1) (.long v :: rest)) : WA p l e R s m args below meth c g sz0 nL Q h cells slots lv (pc) (rest) := fun H locs ls hR hS hl => lv_lconst B.1 B.2.1 d hv (k H locs ls hR hS hl)
theorem r_iload_n (B : FX p s m args c cc own Ts nL g sz0) {k0 : Fin 4} {x : Int32} (d : decode cc pc = .ok (.iload_n k0, 1)) (hk : lv[(k0 : Nat)]? = some (some (.int x))) (k : WA p l e R s m args below meth c g sz0 nL Q h cells slots lv (pc + 1) (.int x :: rest)) : WA p l e R s m args below meth c g sz0 nL Q h cells slots lv (pc) (rest) := fun H locs ls hR hS hl => lv_iload_n B.1 B.2.1 d rfl (hl.at hk) (k H locs ls hR hS hl)
theorem r_iload (B : FX p s m args c cc own Ts nL g sz0) {i : Nat} {x : Int32} (d : decode cc pc = .ok (.iload i, 2)) (hk : lv[i]? = some (some (.int x))) (k : WA p l e R s m args below meth c g sz0 nL Q h cells slots lv (pc + 2) (.int x :: rest)) : WA p l e R s m args below meth c g sz0 nL Q h cells slots lv (pc) (rest) := fun H locs ls hR hS hl => lv_iload B.1 B.2.1 d (hl.at hk) (k H locs ls hR hS hl)
theorem r_lload_n (B : FX p s m args c cc own Ts nL g sz0) {k0 : Fin 4} {x : Int64} (d : decode cc pc = .ok (.lload_n k0, 1)) (hk : lv[(k0 : Nat)]? = some (some (.long x))) (k : WA p l e R s m args below meth c g sz0 nL Q h cells slots lv (pc + 1) (.long x :: rest)) : WA p l e R s m args below meth c g sz0 nL Q h cells slots lv (pc) (rest) := fun H locs ls hR hS hl => lv_lload_n B.1 B.2.1 d rfl (hl.at hk) (k H locs ls hR hS hl)
theorem r_lload (B : FX p s m args c cc own Ts nL g sz0) {i : Nat} {x : Int64} (d : decode cc pc = .ok (.lload i, 2)) (hk : lv[i]? = some (some (.long x))) (k : WA p l e R s m args below meth c g sz0 nL Q h cells slots lv (pc + 2) (.long x :: rest)) : WA p l e R s m args below meth c g sz0 nL Q h cells slots lv (pc) (rest) := fun H locs ls hR hS hl => lv_lload B.1 B.2.1 d (hl.at hk) (k H locs ls hR hS hl)
theorem r_fload_n (B : FX p s m args c cc own Ts nL g sz0) {k0 : Fin 4} {x : UInt32} (d : decode cc pc = .ok (.fload_n k0, 1)) (hk : lv[(k0 : Nat)]? = some (some (.float x))) (k : WA p l e R s m args below meth c g sz0 nL Q h cells slots lv (pc + 1) (.float x :: rest)) : WA p l e R s m args below meth c g sz0 nL Q h cells slots lv (pc) (rest) := fun H locs ls hR hS hl => lv_fload_n B.1 B.2.1 d rfl (hl.at hk) (k H locs ls hR hS hl)
theorem r_fload (B : FX p s m args c cc own Ts nL g sz0) {i : Nat} {x : UInt32} (d : decode cc pc = .ok (.fload i, 2)) (hk : lv[i]? = some (some (.float x))) (k : WA p l e R s m args below meth c g sz0 nL Q h cells slots lv (pc + 2) (.float x :: rest)) : WA p l e R s m args below meth c g sz0 nL Q h cells slots lv (pc) (rest) := fun H locs ls hR hS hl => lv_fload B.1 B.2.1 d (hl.at hk) (k H locs ls hR hS hl)
theorem r_aload_n (B : FX p s m args c cc own Ts nL g sz0) {k0 : Fin 4} {v : Value} (d : decode cc pc = .ok (.aload_n k0, 1)) (hk : lv[(k0 : Nat)]? = some (some v)) (hv : v.isRef = true) (k : WA p l e R s m args below meth c g sz0 nL Q h cells slots lv (pc + 1) (v :: rest)) : WA p l e R s m args below meth c g sz0 nL Q h cells slots lv (pc) (rest) := fun H locs ls hR hS hl => by
  cases v <;> first | exact lv_aload_nN B.1 B.2.1 d rfl (hl.at hk) (k H locs ls hR hS hl) | exact lv_aload_n B.1 B.2.1 d rfl (hl.at hk) (k H locs ls hR hS hl) | simp [Value.isRef] at hv
theorem r_aload (B : FX p s m args c cc own Ts nL g sz0) {i : Nat} {v : Value} (d : decode cc pc = .ok (.aload i, 2)) (hk : lv[i]? = some (some v)) (hv : v.isRef = true) (k : WA p l e R s m args below meth c g sz0 nL Q h cells slots lv (pc + 2) (v :: rest)) : WA p l e R s m args below meth c g sz0 nL Q h cells slots lv (pc) (rest) := fun H locs ls hR hS hl => by
  cases v <;> first | exact lv_aloadN B.1 B.2.1 d (hl.at hk) (k H locs ls hR hS hl) | exact lv_aload B.1 B.2.1 d (hl.at hk) (k H locs ls hR hS hl) | simp [Value.isRef] at hv
theorem r_istore_n (B : FX p s m args c cc own Ts nL g sz0) {k0 : Fin 4} {i : Nat} {x : Int32} (d : decode cc pc = .ok (.istore_n k0, 1)) (hi : (k0 : Nat) = i) (hn : i < nL) (hc : lcat lv i) (k : WA p l e R s m args below meth c g sz0 nL Q h cells slots (lv.set i (some (.int x))) (pc + 1) (rest)) : WA p l e R s m args below meth c g sz0 nL Q h cells slots lv (pc) (.int x :: rest) := fun H locs ls hR hS hl => by
  subst hi
  obtain ⟨ls', e', h'⟩ := hl.store1 (v := .int x) hn rfl hc
  intro T hT X
  obtain ⟨t, a, b⟩ := k H locs ls' hR hS h' T hT X
  refine ⟨t, ?_, b⟩
  have hexec := B.1
  have hb := B.2.1
  jvm_step X.here [X.here.top, ↓top_set X.here.top, hexec, hb, d, e']
  exact a
theorem r_istore (B : FX p s m args c cc own Ts nL g sz0) {i : Nat} {x : Int32} (d : decode cc pc = .ok (.istore i, 2)) (hn : i < nL) (hc : lcat lv i) (k : WA p l e R s m args below meth c g sz0 nL Q h cells slots (lv.set i (some (.int x))) (pc + 2) (rest)) : WA p l e R s m args below meth c g sz0 nL Q h cells slots lv (pc) (.int x :: rest) := fun H locs ls hR hS hl => by
  obtain ⟨ls', e', h'⟩ := hl.store1 (v := .int x) hn rfl hc
  intro T hT X
  obtain ⟨t, a, b⟩ := k H locs ls' hR hS h' T hT X
  refine ⟨t, ?_, b⟩
  have hexec := B.1
  have hb := B.2.1
  jvm_step X.here [X.here.top, ↓top_set X.here.top, hexec, hb, d, e']
  exact a
theorem r_lstore_n (B : FX p s m args c cc own Ts nL g sz0) {k0 : Fin 4} {i : Nat} {x : Int64} (d : decode cc pc = .ok (.lstore_n k0, 1)) (hi : (k0 : Nat) = i) (hn : i + 1 < nL) (hc : lcat lv i) (k : WA p l e R s m args below meth c g sz0 nL Q h cells slots ((lv.set i (some (.long x))).set (i + 1) none) (pc + 1) (rest)) : WA p l e R s m args below meth c g sz0 nL Q h cells slots lv (pc) (.long x :: rest) := fun H locs ls hR hS hl => by
  subst hi
  obtain ⟨ls', e', h'⟩ := hl.store2 (v := .long x) hn rfl hc
  intro T hT X
  obtain ⟨t, a, b⟩ := k H locs ls' hR hS h' T hT X
  refine ⟨t, ?_, b⟩
  have hexec := B.1
  have hb := B.2.1
  jvm_step X.here [X.here.top, ↓top_set X.here.top, hexec, hb, d, e']
  exact a
theorem r_lstore (B : FX p s m args c cc own Ts nL g sz0) {i : Nat} {x : Int64} (d : decode cc pc = .ok (.lstore i, 2)) (hn : i + 1 < nL) (hc : lcat lv i) (k : WA p l e R s m args below meth c g sz0 nL Q h cells slots ((lv.set i (some (.long x))).set (i + 1) none) (pc + 2) (rest)) : WA p l e R s m args below meth c g sz0 nL Q h cells slots lv (pc) (.long x :: rest) := fun H locs ls hR hS hl => by
  obtain ⟨ls', e', h'⟩ := hl.store2 (v := .long x) hn rfl hc
  intro T hT X
  obtain ⟨t, a, b⟩ := k H locs ls' hR hS h' T hT X
  refine ⟨t, ?_, b⟩
  have hexec := B.1
  have hb := B.2.1
  jvm_step X.here [X.here.top, ↓top_set X.here.top, hexec, hb, d, e']
  exact a
theorem r_fstore_n (B : FX p s m args c cc own Ts nL g sz0) {k0 : Fin 4} {i : Nat} {x : UInt32} (d : decode cc pc = .ok (.fstore_n k0, 1)) (hi : (k0 : Nat) = i) (hn : i < nL) (hc : lcat lv i) (k : WA p l e R s m args below meth c g sz0 nL Q h cells slots (lv.set i (some (.float x))) (pc + 1) (rest)) : WA p l e R s m args below meth c g sz0 nL Q h cells slots lv (pc) (.float x :: rest) := fun H locs ls hR hS hl => by
  subst hi
  obtain ⟨ls', e', h'⟩ := hl.store1 (v := .float x) hn rfl hc
  intro T hT X
  obtain ⟨t, a, b⟩ := k H locs ls' hR hS h' T hT X
  refine ⟨t, ?_, b⟩
  have hexec := B.1
  have hb := B.2.1
  jvm_step X.here [X.here.top, ↓top_set X.here.top, hexec, hb, d, e']
  exact a
theorem r_fstore (B : FX p s m args c cc own Ts nL g sz0) {i : Nat} {x : UInt32} (d : decode cc pc = .ok (.fstore i, 2)) (hn : i < nL) (hc : lcat lv i) (k : WA p l e R s m args below meth c g sz0 nL Q h cells slots (lv.set i (some (.float x))) (pc + 2) (rest)) : WA p l e R s m args below meth c g sz0 nL Q h cells slots lv (pc) (.float x :: rest) := fun H locs ls hR hS hl => by
  obtain ⟨ls', e', h'⟩ := hl.store1 (v := .float x) hn rfl hc
  intro T hT X
  obtain ⟨t, a, b⟩ := k H locs ls' hR hS h' T hT X
  refine ⟨t, ?_, b⟩
  have hexec := B.1
  have hb := B.2.1
  jvm_step X.here [X.here.top, ↓top_set X.here.top, hexec, hb, d, e']
  exact a
theorem r_astore_n (B : FX p s m args c cc own Ts nL g sz0) {k0 : Fin 4} {i : Nat} {v : Value} (d : decode cc pc = .ok (.astore_n k0, 1)) (hi : (k0 : Nat) = i) (hv : v.isRef = true) (hn : i < nL) (hc : lcat lv i) (k : WA p l e R s m args below meth c g sz0 nL Q h cells slots (lv.set i (some v)) (pc + 1) (rest)) : WA p l e R s m args below meth c g sz0 nL Q h cells slots lv (pc) (v :: rest) := fun H locs ls hR hS hl => by
  subst hi
  have hcat : v.category = 1 := by cases v <;> first | rfl | simp [Value.isRef] at hv
  obtain ⟨ls', e', h'⟩ := hl.store1 (v := v) hn hcat hc
  intro T hT X
  obtain ⟨t, a, b⟩ := k H locs ls' hR hS h' T hT X
  refine ⟨t, ?_, b⟩
  have hexec := B.1
  have hb := B.2.1
  cases v <;> first | (jvm_step X.here [X.here.top, ↓top_set X.here.top, hexec, hb, d, e', Value.isRef]; exact a) | simp [Value.isRef] at hv
theorem r_astore (B : FX p s m args c cc own Ts nL g sz0) {i : Nat} {v : Value} (d : decode cc pc = .ok (.astore i, 2)) (hv : v.isRef = true) (hn : i < nL) (hc : lcat lv i) (k : WA p l e R s m args below meth c g sz0 nL Q h cells slots (lv.set i (some v)) (pc + 2) (rest)) : WA p l e R s m args below meth c g sz0 nL Q h cells slots lv (pc) (v :: rest) := fun H locs ls hR hS hl => by
  have hcat : v.category = 1 := by cases v <;> first | rfl | simp [Value.isRef] at hv
  obtain ⟨ls', e', h'⟩ := hl.store1 (v := v) hn hcat hc
  intro T hT X
  obtain ⟨t, a, b⟩ := k H locs ls' hR hS h' T hT X
  refine ⟨t, ?_, b⟩
  have hexec := B.1
  have hb := B.2.1
  cases v <;> first | (jvm_step X.here [X.here.top, ↓top_set X.here.top, hexec, hb, d, e', Value.isRef]; exact a) | simp [Value.isRef] at hv
theorem r_iinc (B : FX p s m args c cc own Ts nL g sz0) {i : Nat} {n x : Int} (d : decode cc pc = .ok (.iinc i n, 3)) (hk : lv[i]? = some (some (.int (iI x)))) (hn : i < nL) (hc : lcat lv i) (k : WA p l e R s m args below meth c g sz0 nL Q h cells slots (lv.set i (some (.int (iI (x + n))))) (pc + 3) (rest)) : WA p l e R s m args below meth c g sz0 nL Q h cells slots lv (pc) (rest) := fun H locs ls hR hS hl => by
  have hg := hl.at hk
  obtain ⟨ls', e', h'⟩ := hl.store1 (v := .int (iI x + Int32.ofInt n)) hn rfl hc
  have e2 : iI x + Int32.ofInt n = iI (x + n) := iI_add x n
  rw [e2] at h'
  intro T hT X
  obtain ⟨t, a, b⟩ := k H locs ls' hR hS h' T hT X
  refine ⟨t, ?_, b⟩
  have hexec := B.1
  have hb := B.2.1
  jvm_step X.here [X.here.top, ↓top_set X.here.top, hexec, hb, d, hg, e']
  exact a
theorem r_iadd (B : FX p s m args c cc own Ts nL g sz0) {x y : Int} (d : decode cc pc = .ok (.iadd, 1))  (k : WA p l e R s m args below meth c g sz0 nL Q h cells slots lv (pc + 1) (.int (iI (x + y)) :: rest)) : WA p l e R s m args below meth c g sz0 nL Q h cells slots lv (pc) (.int (iI y) :: .int (iI x) :: rest) := fun H locs ls hR hS hl => lv_iadd B.1 B.2.1 d (by rw [iI_add]; exact k H locs ls hR hS hl)
theorem r_isub (B : FX p s m args c cc own Ts nL g sz0) {x y : Int} (d : decode cc pc = .ok (.isub, 1))  (k : WA p l e R s m args below meth c g sz0 nL Q h cells slots lv (pc + 1) (.int (iI (x - y)) :: rest)) : WA p l e R s m args below meth c g sz0 nL Q h cells slots lv (pc) (.int (iI y) :: .int (iI x) :: rest) := fun H locs ls hR hS hl => lv_isub B.1 B.2.1 d (by rw [iI_sub]; exact k H locs ls hR hS hl)
theorem r_imul (B : FX p s m args c cc own Ts nL g sz0) {x y : Int} (d : decode cc pc = .ok (.imul, 1))  (k : WA p l e R s m args below meth c g sz0 nL Q h cells slots lv (pc + 1) (.int (iI (x * y)) :: rest)) : WA p l e R s m args below meth c g sz0 nL Q h cells slots lv (pc) (.int (iI y) :: .int (iI x) :: rest) := fun H locs ls hR hS hl => lv_imul B.1 B.2.1 d (by rw [iI_mul]; exact k H locs ls hR hS hl)
theorem r_iand (B : FX p s m args c cc own Ts nL g sz0) {x y : Int32} (d : decode cc pc = .ok (.iand, 1))  (k : WA p l e R s m args below meth c g sz0 nL Q h cells slots lv (pc + 1) (.int (x &&& y) :: rest)) : WA p l e R s m args below meth c g sz0 nL Q h cells slots lv (pc) (.int y :: .int x :: rest) := fun H locs ls hR hS hl => lv_iand B.1 B.2.1 d (k H locs ls hR hS hl)
theorem r_ior (B : FX p s m args c cc own Ts nL g sz0) {x y : Int32} (d : decode cc pc = .ok (.ior, 1))  (k : WA p l e R s m args below meth c g sz0 nL Q h cells slots lv (pc + 1) (.int (x ||| y) :: rest)) : WA p l e R s m args below meth c g sz0 nL Q h cells slots lv (pc) (.int y :: .int x :: rest) := fun H locs ls hR hS hl => lv_ior B.1 B.2.1 d (k H locs ls hR hS hl)
theorem r_ixor (B : FX p s m args c cc own Ts nL g sz0) {x y : Int32} (d : decode cc pc = .ok (.ixor, 1))  (k : WA p l e R s m args below meth c g sz0 nL Q h cells slots lv (pc + 1) (.int (x ^^^ y) :: rest)) : WA p l e R s m args below meth c g sz0 nL Q h cells slots lv (pc) (.int y :: .int x :: rest) := fun H locs ls hR hS hl => lv_ixor B.1 B.2.1 d (k H locs ls hR hS hl)
theorem r_irem (B : FX p s m args c cc own Ts nL g sz0) {x y : Int32} (d : decode cc pc = .ok (.irem, 1)) (hne : ¬ y = 0) (k : WA p l e R s m args below meth c g sz0 nL Q h cells slots lv (pc + 1) (.int (x - x / y * y) :: rest)) : WA p l e R s m args below meth c g sz0 nL Q h cells slots lv (pc) (.int y :: .int x :: rest) := fun H locs ls hR hS hl => lv_irem B.1 B.2.1 d hne (k H locs ls hR hS hl)
theorem r_ishl (B : FX p s m args c cc own Ts nL g sz0) {x y : Int32} (d : decode cc pc = .ok (.ishl, 1))  (k : WA p l e R s m args below meth c g sz0 nL Q h cells slots lv (pc + 1) (.int (x <<< (y &&& 31)) :: rest)) : WA p l e R s m args below meth c g sz0 nL Q h cells slots lv (pc) (.int y :: .int x :: rest) := fun H locs ls hR hS hl => lv_ishl B.1 B.2.1 d (k H locs ls hR hS hl)
theorem r_ishr (B : FX p s m args c cc own Ts nL g sz0) {x y : Int32} (d : decode cc pc = .ok (.ishr, 1))  (k : WA p l e R s m args below meth c g sz0 nL Q h cells slots lv (pc + 1) (.int (x >>> (y &&& 31)) :: rest)) : WA p l e R s m args below meth c g sz0 nL Q h cells slots lv (pc) (.int y :: .int x :: rest) := fun H locs ls hR hS hl => lv_ishr B.1 B.2.1 d (k H locs ls hR hS hl)
theorem r_iushr (B : FX p s m args c cc own Ts nL g sz0) {x y v : Int32} (d : decode cc pc = .ok (.iushr, 1)) (hv : (x.toUInt32 >>> (y.toUInt32 &&& Int32.toUInt32 31)).toInt32 = v) (k : WA p l e R s m args below meth c g sz0 nL Q h cells slots lv (pc + 1) (.int v :: rest)) : WA p l e R s m args below meth c g sz0 nL Q h cells slots lv (pc) (.int y :: .int x :: rest) := fun H locs ls hR hS hl => lv_iushr B.1 B.2.1 d hv (k H locs ls hR hS hl)
theorem r_lushr (B : FX p s m args c cc own Ts nL g sz0) {x v : Int64} {y : Int32} (d : decode cc pc = .ok (.lushr, 1)) (hv : (x.toUInt64 >>> (y.toInt64.toUInt64 &&& Int64.toUInt64 63)).toInt64 = v) (k : WA p l e R s m args below meth c g sz0 nL Q h cells slots lv (pc + 1) (.long v :: rest)) : WA p l e R s m args below meth c g sz0 nL Q h cells slots lv (pc) (.int y :: .long x :: rest) := fun H locs ls hR hS hl => lv_lushr B.1 B.2.1 d hv (k H locs ls hR hS hl)
theorem r_lshl (B : FX p s m args c cc own Ts nL g sz0) {x v : Int64} {y : Int32} (d : decode cc pc = .ok (.lshl, 1)) (hv : x <<< (y.toInt64 &&& 63) = v) (k : WA p l e R s m args below meth c g sz0 nL Q h cells slots lv (pc + 1) (.long v :: rest)) : WA p l e R s m args below meth c g sz0 nL Q h cells slots lv (pc) (.int y :: .long x :: rest) := fun H locs ls hR hS hl => lv_lshl B.1 B.2.1 d hv (k H locs ls hR hS hl)
theorem r_lor (B : FX p s m args c cc own Ts nL g sz0) {x y : Int64} (d : decode cc pc = .ok (.lor, 1))  (k : WA p l e R s m args below meth c g sz0 nL Q h cells slots lv (pc + 1) (.long (x ||| y) :: rest)) : WA p l e R s m args below meth c g sz0 nL Q h cells slots lv (pc) (.long y :: .long x :: rest) := fun H locs ls hR hS hl => lv_lor B.1 B.2.1 d (k H locs ls hR hS hl)
theorem r_lxor (B : FX p s m args c cc own Ts nL g sz0) {x y : Int64} (d : decode cc pc = .ok (.lxor, 1))  (k : WA p l e R s m args below meth c g sz0 nL Q h cells slots lv (pc + 1) (.long (x ^^^ y) :: rest)) : WA p l e R s m args below meth c g sz0 nL Q h cells slots lv (pc) (.long y :: .long x :: rest) := fun H locs ls hR hS hl => lv_lxor B.1 B.2.1 d (k H locs ls hR hS hl)
theorem r_i2l (B : FX p s m args c cc own Ts nL g sz0) {x : Int32} (d : decode cc pc = .ok (.i2l, 1))  (k : WA p l e R s m args below meth c g sz0 nL Q h cells slots lv (pc + 1) (.long x.toInt64 :: rest)) : WA p l e R s m args below meth c g sz0 nL Q h cells slots lv (pc) (.int x :: rest) := fun H locs ls hR hS hl => lv_i2l B.1 B.2.1 d rfl (k H locs ls hR hS hl)
theorem r_lcmp (B : FX p s m args c cc own Ts nL g sz0) {x y : Int64} (d : decode cc pc = .ok (.lcmp, 1))  (k : WA p l e R s m args below meth c g sz0 nL Q h cells slots lv (pc + 1) (.int (lg_cmp x y) :: rest)) : WA p l e R s m args below meth c g sz0 nL Q h cells slots lv (pc) (.long y :: .long x :: rest) := fun H locs ls hR hS hl => W.lcmp B.1 B.2.1 d (k H locs ls hR hS hl)
theorem r_dup (B : FX p s m args c cc own Ts nL g sz0) {v : Value} (d : decode cc pc = .ok (.dup, 1)) (hv : v.category = 1) (k : WA p l e R s m args below meth c g sz0 nL Q h cells slots lv (pc + 1) (v :: v :: rest)) : WA p l e R s m args below meth c g sz0 nL Q h cells slots lv (pc) (v :: rest) := fun H locs ls hR hS hl => lv_dup B.1 B.2.1 d hv (k H locs ls hR hS hl)
theorem r_dup2 (B : FX p s m args c cc own Ts nL g sz0) {v w : Value} (d : decode cc pc = .ok (.dup2, 1)) (hv : v.category = 1) (hw : w.category = 1) (k : WA p l e R s m args below meth c g sz0 nL Q h cells slots lv (pc + 1) (v :: w :: v :: w :: rest)) : WA p l e R s m args below meth c g sz0 nL Q h cells slots lv (pc) (v :: w :: rest) := fun H locs ls hR hS hl => lv_dup2_11 B.1 B.2.1 d hv hw (k H locs ls hR hS hl)
theorem r_null (B : FX p s m args c cc own Ts nL g sz0)  (d : decode cc pc = .ok (.aconst_null, 1))  (k : WA p l e R s m args below meth c g sz0 nL Q h cells slots lv (pc + 1) (.null :: rest)) : WA p l e R s m args below meth c g sz0 nL Q h cells slots lv (pc) (rest) := fun H locs ls hR hS hl => lv_null B.1 B.2.1 d (k H locs ls hR hS hl)
theorem r_icmp_eq (B : FX p s m args c cc own Ts nL g sz0) {x y off : Int} {tgt : Nat} (d : decode cc pc = .ok (.if_icmp .eq off, 3)) (ht : (pc : Int) + off = (tgt : Int)) (hx : -2147483648 ≤ x ∧ x < 2147483648) (hy : -2147483648 ≤ y ∧ y < 2147483648) (kt : x = y → WA p l e R s m args below meth c g sz0 nL Q h cells slots lv (tgt) (rest)) (kf : ¬ x = y → WA p l e R s m args below meth c g sz0 nL Q h cells slots lv (pc + 3) (rest)) : WA p l e R s m args below meth c g sz0 nL Q h cells slots lv (pc) (.int (iI y) :: .int (iI x) :: rest) := fun H locs ls hR hS hl => by
  have hi := iI_eq hx hy
  refine lv_icmp_eq B.1 B.2.1 d ht (fun q => kt ?_ H locs ls hR hS hl) (fun q => kf ?_ H locs ls hR hS hl)
  · first | exact hi.mp q | (intro z; exact q (hi.mpr z))
  · first | exact hi.mp q | (intro z; exact q (hi.mpr z))
theorem r_if_eq (B : FX p s m args c cc own Ts nL g sz0) {x off : Int} {tgt : Nat} (d : decode cc pc = .ok (.ifCond .eq off, 3)) (ht : (pc : Int) + off = (tgt : Int)) (hx : -2147483648 ≤ x ∧ x < 2147483648) (kt : x = 0 → WA p l e R s m args below meth c g sz0 nL Q h cells slots lv (tgt) (rest)) (kf : ¬ x = 0 → WA p l e R s m args below meth c g sz0 nL Q h cells slots lv (pc + 3) (rest)) : WA p l e R s m args below meth c g sz0 nL Q h cells slots lv (pc) (.int (iI x) :: rest) := fun H locs ls hR hS hl => by
  have hi : iI x = iI 0 ↔ x = 0 := iI_eq hx (by omega)
  rw [iI_0] at hi
  refine lv_if_eq B.1 B.2.1 d ht (fun q => kt ?_ H locs ls hR hS hl) (fun q => kf ?_ H locs ls hR hS hl)
  · first | exact hi.mp q | (intro z; exact q (hi.mpr z))
  · first | exact hi.mp q | (intro z; exact q (hi.mpr z))
theorem r_ifr_eq (B : FX p s m args c cc own Ts nL g sz0) {x : Int32} {off : Int} {tgt : Nat} (d : decode cc pc = .ok (.ifCond .eq off, 3)) (ht : (pc : Int) + off = (tgt : Int)) (kt : x = 0 → WA p l e R s m args below meth c g sz0 nL Q h cells slots lv (tgt) (rest)) (kf : ¬ x = 0 → WA p l e R s m args below meth c g sz0 nL Q h cells slots lv (pc + 3) (rest)) : WA p l e R s m args below meth c g sz0 nL Q h cells slots lv (pc) (.int x :: rest) := fun H locs ls hR hS hl => lv_if_eq B.1 B.2.1 d ht (fun q => kt q H locs ls hR hS hl) (fun q => kf q H locs ls hR hS hl)
theorem r_icmp_ne (B : FX p s m args c cc own Ts nL g sz0) {x y off : Int} {tgt : Nat} (d : decode cc pc = .ok (.if_icmp .ne off, 3)) (ht : (pc : Int) + off = (tgt : Int)) (hx : -2147483648 ≤ x ∧ x < 2147483648) (hy : -2147483648 ≤ y ∧ y < 2147483648) (kt : ¬ x = y → WA p l e R s m args below meth c g sz0 nL Q h cells slots lv (tgt) (rest)) (kf : x = y → WA p l e R s m args below meth c g sz0 nL Q h cells slots lv (pc + 3) (rest)) : WA p l e R s m args below meth c g sz0 nL Q h cells slots lv (pc) (.int (iI y) :: .int (iI x) :: rest) := fun H locs ls hR hS hl => by
  have hi := iI_eq hx hy
  refine lv_icmp_ne B.1 B.2.1 d ht (fun q => kt ?_ H locs ls hR hS hl) (fun q => kf ?_ H locs ls hR hS hl)
  · first | exact hi.mp q | (intro z; exact q (hi.mpr z))
  · first | exact hi.mp q | (intro z; exact q (hi.mpr z))
theorem r_if_ne (B : FX p s m args c cc own Ts nL g sz0) {x off : Int} {tgt : Nat} (d : decode cc pc = .ok (.ifCond .ne off, 3)) (ht : (pc : Int) + off = (tgt : Int)) (hx : -2147483648 ≤ x ∧ x < 2147483648) (kt : ¬ x = 0 → WA p l e R s m args below meth c g sz0 nL Q h cells slots lv (tgt) (rest)) (kf : x = 0 → WA p l e R s m args below meth c g sz0 nL Q h cells slots lv (pc + 3) (rest)) : WA p l e R s m args below meth c g sz0 nL Q h cells slots lv (pc) (.int (iI x) :: rest) := fun H locs ls hR hS hl => by
  have hi : iI x = iI 0 ↔ x = 0 := iI_eq hx (by omega)
  rw [iI_0] at hi
  refine lv_if_ne B.1 B.2.1 d ht (fun q => kt ?_ H locs ls hR hS hl) (fun q => kf ?_ H locs ls hR hS hl)
  · first | exact hi.mp q | (intro z; exact q (hi.mpr z))
  · first | exact hi.mp q | (intro z; exact q (hi.mpr z))
theorem r_ifr_ne (B : FX p s m args c cc own Ts nL g sz0) {x : Int32} {off : Int} {tgt : Nat} (d : decode cc pc = .ok (.ifCond .ne off, 3)) (ht : (pc : Int) + off = (tgt : Int)) (kt : ¬ x = 0 → WA p l e R s m args below meth c g sz0 nL Q h cells slots lv (tgt) (rest)) (kf : x = 0 → WA p l e R s m args below meth c g sz0 nL Q h cells slots lv (pc + 3) (rest)) : WA p l e R s m args below meth c g sz0 nL Q h cells slots lv (pc) (.int x :: rest) := fun H locs ls hR hS hl => lv_if_ne B.1 B.2.1 d ht (fun q => kt q H locs ls hR hS hl) (fun q => kf q H locs ls hR hS hl)
theorem r_icmp_lt (B : FX p s m args c cc own Ts nL g sz0) {x y off : Int} {tgt : Nat} (d : decode cc pc = .ok (.if_icmp .lt off, 3)) (ht : (pc : Int) + off = (tgt : Int)) (hx : -2147483648 ≤ x ∧ x < 2147483648) (hy : -2147483648 ≤ y ∧ y < 2147483648) (kt : x < y → WA p l e R s m args below meth c g sz0 nL Q h cells slots lv (tgt) (rest)) (kf : ¬ x < y → WA p l e R s m args below meth c g sz0 nL Q h cells slots lv (pc + 3) (rest)) : WA p l e R s m args below meth c g sz0 nL Q h cells slots lv (pc) (.int (iI y) :: .int (iI x) :: rest) := fun H locs ls hR hS hl => by
  have hi := iI_lt hx hy
  refine lv_icmp_lt B.1 B.2.1 d ht (fun q => kt ?_ H locs ls hR hS hl) (fun q => kf ?_ H locs ls hR hS hl)
  · first | exact hi.mp q | (intro z; exact q (hi.mpr z))
  · first | exact hi.mp q | (intro z; exact q (hi.mpr z))
theorem r_if_lt (B : FX p s m args c cc own Ts nL g sz0) {x off : Int} {tgt : Nat} (d : decode cc pc = .ok (.ifCond .lt off, 3)) (ht : (pc : Int) + off = (tgt : Int)) (hx : -2147483648 ≤ x ∧ x < 2147483648) (kt : x < 0 → WA p l e R s m args below meth c g sz0 nL Q h cells slots lv (tgt) (rest)) (kf : ¬ x < 0 → WA p l e R s m args below meth c g sz0 nL Q h cells slots lv (pc + 3) (rest)) : WA p l e R s m args below meth c g sz0 nL Q h cells slots lv (pc) (.int (iI x) :: rest) := fun H locs ls hR hS hl => by
  have hi : iI x < iI 0 ↔ x < 0 := iI_lt hx (by omega)
  rw [iI_0] at hi
  refine lv_if_lt B.1 B.2.1 d ht (fun q => kt ?_ H locs ls hR hS hl) (fun q => kf ?_ H locs ls hR hS hl)
  · first | exact hi.mp q | (intro z; exact q (hi.mpr z))
  · first | exact hi.mp q | (intro z; exact q (hi.mpr z))
theorem r_ifr_lt (B : FX p s m args c cc own Ts nL g sz0) {x : Int32} {off : Int} {tgt : Nat} (d : decode cc pc = .ok (.ifCond .lt off, 3)) (ht : (pc : Int) + off = (tgt : Int)) (kt : x < 0 → WA p l e R s m args below meth c g sz0 nL Q h cells slots lv (tgt) (rest)) (kf : ¬ x < 0 → WA p l e R s m args below meth c g sz0 nL Q h cells slots lv (pc + 3) (rest)) : WA p l e R s m args below meth c g sz0 nL Q h cells slots lv (pc) (.int x :: rest) := fun H locs ls hR hS hl => lv_if_lt B.1 B.2.1 d ht (fun q => kt q H locs ls hR hS hl) (fun q => kf q H locs ls hR hS hl)
theorem r_icmp_ge (B : FX p s m args c cc own Ts nL g sz0) {x y off : Int} {tgt : Nat} (d : decode cc pc = .ok (.if_icmp .ge off, 3)) (ht : (pc : Int) + off = (tgt : Int)) (hx : -2147483648 ≤ x ∧ x < 2147483648) (hy : -2147483648 ≤ y ∧ y < 2147483648) (kt : y ≤ x → WA p l e R s m args below meth c g sz0 nL Q h cells slots lv (tgt) (rest)) (kf : ¬ y ≤ x → WA p l e R s m args below meth c g sz0 nL Q h cells slots lv (pc + 3) (rest)) : WA p l e R s m args below meth c g sz0 nL Q h cells slots lv (pc) (.int (iI y) :: .int (iI x) :: rest) := fun H locs ls hR hS hl => by
  have hi := iI_le hy hx
  refine lv_icmp_ge B.1 B.2.1 d ht (fun q => kt ?_ H locs ls hR hS hl) (fun q => kf ?_ H locs ls hR hS hl)
  · first | exact hi.mp q | (intro z; exact q (hi.mpr z))
  · first | exact hi.mp q | (intro z; exact q (hi.mpr z))
theorem r_if_ge (B : FX p s m args c cc own Ts nL g sz0) {x off : Int} {tgt : Nat} (d : decode cc pc = .ok (.ifCond .ge off, 3)) (ht : (pc : Int) + off = (tgt : Int)) (hx : -2147483648 ≤ x ∧ x < 2147483648) (kt : 0 ≤ x → WA p l e R s m args below meth c g sz0 nL Q h cells slots lv (tgt) (rest)) (kf : ¬ 0 ≤ x → WA p l e R s m args below meth c g sz0 nL Q h cells slots lv (pc + 3) (rest)) : WA p l e R s m args below meth c g sz0 nL Q h cells slots lv (pc) (.int (iI x) :: rest) := fun H locs ls hR hS hl => by
  have hi : iI 0 ≤ iI x ↔ 0 ≤ x := iI_le (by omega) hx
  rw [iI_0] at hi
  refine lv_if_ge B.1 B.2.1 d ht (fun q => kt ?_ H locs ls hR hS hl) (fun q => kf ?_ H locs ls hR hS hl)
  · first | exact hi.mp q | (intro z; exact q (hi.mpr z))
  · first | exact hi.mp q | (intro z; exact q (hi.mpr z))
theorem r_ifr_ge (B : FX p s m args c cc own Ts nL g sz0) {x : Int32} {off : Int} {tgt : Nat} (d : decode cc pc = .ok (.ifCond .ge off, 3)) (ht : (pc : Int) + off = (tgt : Int)) (kt : 0 ≤ x → WA p l e R s m args below meth c g sz0 nL Q h cells slots lv (tgt) (rest)) (kf : ¬ 0 ≤ x → WA p l e R s m args below meth c g sz0 nL Q h cells slots lv (pc + 3) (rest)) : WA p l e R s m args below meth c g sz0 nL Q h cells slots lv (pc) (.int x :: rest) := fun H locs ls hR hS hl => lv_if_ge B.1 B.2.1 d ht (fun q => kt q H locs ls hR hS hl) (fun q => kf q H locs ls hR hS hl)
theorem r_icmp_gt (B : FX p s m args c cc own Ts nL g sz0) {x y off : Int} {tgt : Nat} (d : decode cc pc = .ok (.if_icmp .gt off, 3)) (ht : (pc : Int) + off = (tgt : Int)) (hx : -2147483648 ≤ x ∧ x < 2147483648) (hy : -2147483648 ≤ y ∧ y < 2147483648) (kt : y < x → WA p l e R s m args below meth c g sz0 nL Q h cells slots lv (tgt) (rest)) (kf : ¬ y < x → WA p l e R s m args below meth c g sz0 nL Q h cells slots lv (pc + 3) (rest)) : WA p l e R s m args below meth c g sz0 nL Q h cells slots lv (pc) (.int (iI y) :: .int (iI x) :: rest) := fun H locs ls hR hS hl => by
  have hi := iI_lt hy hx
  refine lv_icmp_gt B.1 B.2.1 d ht (fun q => kt ?_ H locs ls hR hS hl) (fun q => kf ?_ H locs ls hR hS hl)
  · first | exact hi.mp q | (intro z; exact q (hi.mpr z))
  · first | exact hi.mp q | (intro z; exact q (hi.mpr z))
theorem r_if_gt (B : FX p s m args c cc own Ts nL g sz0) {x off : Int} {tgt : Nat} (d : decode cc pc = .ok (.ifCond .gt off, 3)) (ht : (pc : Int) + off = (tgt : Int)) (hx : -2147483648 ≤ x ∧ x < 2147483648) (kt : 0 < x → WA p l e R s m args below meth c g sz0 nL Q h cells slots lv (tgt) (rest)) (kf : ¬ 0 < x → WA p l e R s m args below meth c g sz0 nL Q h cells slots lv (pc + 3) (rest)) : WA p l e R s m args below meth c g sz0 nL Q h cells slots lv (pc) (.int (iI x) :: rest) := fun H locs ls hR hS hl => by
  have hi : iI 0 < iI x ↔ 0 < x := iI_lt (by omega) hx
  rw [iI_0] at hi
  refine lv_if_gt B.1 B.2.1 d ht (fun q => kt ?_ H locs ls hR hS hl) (fun q => kf ?_ H locs ls hR hS hl)
  · first | exact hi.mp q | (intro z; exact q (hi.mpr z))
  · first | exact hi.mp q | (intro z; exact q (hi.mpr z))
theorem r_ifr_gt (B : FX p s m args c cc own Ts nL g sz0) {x : Int32} {off : Int} {tgt : Nat} (d : decode cc pc = .ok (.ifCond .gt off, 3)) (ht : (pc : Int) + off = (tgt : Int)) (kt : 0 < x → WA p l e R s m args below meth c g sz0 nL Q h cells slots lv (tgt) (rest)) (kf : ¬ 0 < x → WA p l e R s m args below meth c g sz0 nL Q h cells slots lv (pc + 3) (rest)) : WA p l e R s m args below meth c g sz0 nL Q h cells slots lv (pc) (.int x :: rest) := fun H locs ls hR hS hl => lv_if_gt B.1 B.2.1 d ht (fun q => kt q H locs ls hR hS hl) (fun q => kf q H locs ls hR hS hl)
theorem r_icmp_le (B : FX p s m args c cc own Ts nL g sz0) {x y off : Int} {tgt : Nat} (d : decode cc pc = .ok (.if_icmp .le off, 3)) (ht : (pc : Int) + off = (tgt : Int)) (hx : -2147483648 ≤ x ∧ x < 2147483648) (hy : -2147483648 ≤ y ∧ y < 2147483648) (kt : x ≤ y → WA p l e R s m args below meth c g sz0 nL Q h cells slots lv (tgt) (rest)) (kf : ¬ x ≤ y → WA p l e R s m args below meth c g sz0 nL Q h cells slots lv (pc + 3) (rest)) : WA p l e R s m args below meth c g sz0 nL Q h cells slots lv (pc) (.int (iI y) :: .int (iI x) :: rest) := fun H locs ls hR hS hl => by
  have hi := iI_le hx hy
  refine lv_icmp_le B.1 B.2.1 d ht (fun q => kt ?_ H locs ls hR hS hl) (fun q => kf ?_ H locs ls hR hS hl)
  · first | exact hi.mp q | (intro z; exact q (hi.mpr z))
  · first | exact hi.mp q | (intro z; exact q (hi.mpr z))
theorem r_if_le (B : FX p s m args c cc own Ts nL g sz0) {x off : Int} {tgt : Nat} (d : decode cc pc = .ok (.ifCond .le off, 3)) (ht : (pc : Int) + off = (tgt : Int)) (hx : -2147483648 ≤ x ∧ x < 2147483648) (kt : x ≤ 0 → WA p l e R s m args below meth c g sz0 nL Q h cells slots lv (tgt) (rest)) (kf : ¬ x ≤ 0 → WA p l e R s m args below meth c g sz0 nL Q h cells slots lv (pc + 3) (rest)) : WA p l e R s m args below meth c g sz0 nL Q h cells slots lv (pc) (.int (iI x) :: rest) := fun H locs ls hR hS hl => by
  have hi : iI x ≤ iI 0 ↔ x ≤ 0 := iI_le hx (by omega)
  rw [iI_0] at hi
  refine lv_if_le B.1 B.2.1 d ht (fun q => kt ?_ H locs ls hR hS hl) (fun q => kf ?_ H locs ls hR hS hl)
  · first | exact hi.mp q | (intro z; exact q (hi.mpr z))
  · first | exact hi.mp q | (intro z; exact q (hi.mpr z))
theorem r_ifr_le (B : FX p s m args c cc own Ts nL g sz0) {x : Int32} {off : Int} {tgt : Nat} (d : decode cc pc = .ok (.ifCond .le off, 3)) (ht : (pc : Int) + off = (tgt : Int)) (kt : x ≤ 0 → WA p l e R s m args below meth c g sz0 nL Q h cells slots lv (tgt) (rest)) (kf : ¬ x ≤ 0 → WA p l e R s m args below meth c g sz0 nL Q h cells slots lv (pc + 3) (rest)) : WA p l e R s m args below meth c g sz0 nL Q h cells slots lv (pc) (.int x :: rest) := fun H locs ls hR hS hl => lv_if_le B.1 B.2.1 d ht (fun q => kt q H locs ls hR hS hl) (fun q => kf q H locs ls hR hS hl)
theorem r_goto (B : FX p s m args c cc own Ts nL g sz0) {off : Int} {tgt : Nat} (d : decode cc pc = .ok (.goto off, 3)) (ht : (pc : Int) + off = (tgt : Int)) (k : WA p l e R s m args below meth c g sz0 nL Q h cells slots lv (tgt) (rest)) : WA p l e R s m args below meth c g sz0 nL Q h cells slots lv (pc) (rest) := fun H locs ls hR hS hl => lv_goto B.1 B.2.1 d ht (k H locs ls hR hS hl)
theorem r_ifnull (B : FX p s m args c cc own Ts nL g sz0) {r : Option Nat} {off : Int} {tgt : Nat} (d : decode cc pc = .ok (.ifnull off, 3)) (ht : (pc : Int) + off = (tgt : Int)) (kt : r = none → WA p l e R s m args below meth c g sz0 nL Q h cells slots lv (tgt) (rest)) (kf : ∀ a, r = some a → WA p l e R s m args below meth c g sz0 nL Q h cells slots lv (pc + 3) (rest)) : WA p l e R s m args below meth c g sz0 nL Q h cells slots lv (pc) (va_rf r :: rest) := fun H locs ls hR hS hl => by
  cases r with
  | none => exact lv_ifnullN B.1 B.2.1 d ht (kt rfl H locs ls hR hS hl)
  | some a => exact lv_ifnull B.1 B.2.1 d (kf a rfl H locs ls hR hS hl)
theorem r_ifnonnull (B : FX p s m args c cc own Ts nL g sz0) {r : Option Nat} {off : Int} {tgt : Nat} (d : decode cc pc = .ok (.ifnonnull off, 3)) (ht : (pc : Int) + off = (tgt : Int)) (kt : ∀ a, r = some a → WA p l e R s m args below meth c g sz0 nL Q h cells slots lv (tgt) (rest)) (kf : r = none → WA p l e R s m args below meth c g sz0 nL Q h cells slots lv (pc + 3) (rest)) : WA p l e R s m args below meth c g sz0 nL Q h cells slots lv (pc) (va_rf r :: rest) := fun H locs ls hR hS hl => by
  cases r with
  | none => exact lv_ifnonnullN B.1 B.2.1 d (kf rfl H locs ls hR hS hl)
  | some a => exact lv_ifnonnull B.1 B.2.1 d ht (kt a rfl H locs ls hR hS hl)
theorem r_ifnull_r (B : FX p s m args c cc own Ts nL g sz0) {a : Nat} {off : Int} (d : decode cc pc = .ok (.ifnull off, 3)) (k : WA p l e R s m args below meth c g sz0 nL Q h cells slots lv (pc + 3) (rest)) : WA p l e R s m args below meth c g sz0 nL Q h cells slots lv (pc) (.ref a :: rest) := fun H locs ls hR hS hl => lv_ifnull B.1 B.2.1 d (k H locs ls hR hS hl)
theorem r_ifnonnull_r (B : FX p s m args c cc own Ts nL g sz0) {a : Nat} {off : Int} {tgt : Nat} (d : decode cc pc = .ok (.ifnonnull off, 3)) (ht : (pc : Int) + off = (tgt : Int)) (k : WA p l e R s m args below meth c g sz0 nL Q h cells slots lv (tgt) (rest)) : WA p l e R s m args below meth c g sz0 nL Q h cells slots lv (pc) (.ref a :: rest) := fun H locs ls hR hS hl => lv_ifnonnull B.1 B.2.1 d ht (k H locs ls hR hS hl)
theorem r_acmp_ne (B : FX p s m args c cc own Ts nL g sz0) {rx ry : Option Nat} {off : Int} {tgt : Nat} (d : decode cc pc = .ok (.if_acmp .ne off, 3)) (ht : (pc : Int) + off = (tgt : Int)) (kt : ¬ rx = ry → WA p l e R s m args below meth c g sz0 nL Q h cells slots lv (tgt) (rest)) (kf : rx = ry → WA p l e R s m args below meth c g sz0 nL Q h cells slots lv (pc + 3) (rest)) : WA p l e R s m args below meth c g sz0 nL Q h cells slots lv (pc) (va_rf ry :: va_rf rx :: rest) := fun H locs ls hR hS hl => lv_acmp_ne B.1 B.2.1 d ht (fun q => kt q H locs ls hR hS hl) (fun q => kf q H locs ls hR hS hl)
theorem r_eq {lv' : LVs} {st st' : List Value} {pc' : Nat} (e1 : lv = lv') (e2 : pc = pc') (e3 : st = st') (k : WA p l e R s m args below meth c g sz0 nL Q h cells slots lv' (pc') (st')) : WA p l e R s m args below meth c g sz0 nL Q h cells slots lv (pc) (st) := by subst e1; subst e2; subst e3; exact k
theorem r_lv {lv' : LVs} (hw : lvLe lv' lv) (k : WA p l e R s m args below meth c g sz0 nL Q h cells slots lv' (pc) (rest)) : WA p l e R s m args below meth c g sz0 nL Q h cells slots lv (pc) (rest) := fun H locs ls hR hS hl => k H locs ls hR hS (hl.weaken (lvLe_at lv' lv hw))
theorem r_widen {k n : Nat} (h1 : cells ≤ k) (h2 : slots ≤ n) (kk : WA p l e R s m args below meth c g sz0 nL Q h k n lv (pc) (rest)) : WA p l e R s m args below meth c g sz0 nL Q h cells slots lv (pc) (rest) := fun H locs ls hR hS hl => W.widen h1 h2 (kk H locs ls hR hS hl)
theorem r_top {x y : Int32} (e1 : x = y) (k : WA p l e R s m args below meth c g sz0 nL Q h cells slots lv (pc) (.int y :: rest)) : WA p l e R s m args below meth c g sz0 nL Q h cells slots lv (pc) (.int x :: rest) := by subst e1; exact k
theorem r_topz {x y : Int} (e1 : x = y) (k : WA p l e R s m args below meth c g sz0 nL Q h cells slots lv (pc) (.int (iI y) :: rest)) : WA p l e R s m args below meth c g sz0 nL Q h cells slots lv (pc) (.int (iI x) :: rest) := by subst e1; exact k
theorem r_get (B : FX p s m args c cc own Ts nL g sz0) {ref C : String} {T : u_T} {N ci index a : Nat} {fs : List Value} {v : Value} (d : decode cc pc = .ok (.getfield index, 3)) (hin : ∀ w ∈ u_ws C T N, w ∈ Ts) (hc : vwCl[ci]? = some (C, T, N)) (k : Nat) (hk : k < N) (hlink : Cond.fieldLink own index ref (T k).2.1 (T k).2.2.1 ∈ Ts) (href : (T k).1 = ref) (ha : h a = some (oE ci fs)) (hv : fs[k]? = some v) (kk : WA p l e R s m args below meth c g sz0 nL Q h cells slots lv (pc + 3) (v :: rest)) : WA p l e R s m args below meth c g sz0 nL Q h cells slots lv (pc) (.ref a :: rest) := fun H locs ls hR hS hl =>
  va_get (D := g.1) (cl := vwCl) (ws := [(a, .inr (ci, fs))]) B.1 B.2.1 B.2.2.2.1 hin B.2.2.1 B.2.2.2.2.2.1.1 (hR.one ha) 0 rfl hc k hk (B.2.2.2.1 _ hlink) (fun x hx => by rw [← href]; exact hx) hv d (kk H locs ls hR hS hl)
theorem r_put (B : FX p s m args c cc own Ts nL g sz0) {ref C : String} {T : u_T} {N ci index a : Nat} {fs : List Value} {v : Value} {ty : FieldType} (d : decode cc pc = .ok (.putfield index, 3)) (hin : ∀ w ∈ u_ws C T N, w ∈ Ts) (ty0 : Nat → FieldType) (hty : ∀ k, k < N → parseFieldDescriptor (T k).2.2.1 = some (ty0 k)) (hnm : ∀ a, a < N → ∀ b, b < N → a ≠ b → (T a).2.1 ≠ (T b).2.1) (hc : vwCl[ci]? = some (C, T, N)) (k : Nat) (hk : k < N) (hlink : Cond.fieldLink own index ref (T k).2.1 (T k).2.2.1 ∈ Ts) (href : (T k).1 = ref) (hfin : (T k).2.2.2 = false) (hd : parseFieldDescriptor (T k).2.2.1 = some ty) (hn : narrow ty v = v) (hfit : fits ty v = true) (ha : h a = some (oE ci fs)) (hlen : k < fs.length) (kk : WA p l e R s m args below meth c g sz0 nL Q (ah_up h a (oE ci (fs.set k v))) cells slots lv (pc + 3) (rest)) : WA p l e R s m args below meth c g sz0 nL Q h cells slots lv (pc) (v :: .ref a :: rest) := fun H locs ls hR hS hl => by
  obtain ⟨hexec, hb, hown, hts, -, hCX, -⟩ := B
  have hK := hCX.1
  have hap := va_apart (own := own) hts hin ty0 hty hnm hK hc
  obtain ⟨hlo, r, h1, cell, q1, q2, q3, q4⟩ := hR.2 a _ ha
  have hr : r = (C, T, N) := Option.some.inj (h1.symm.trans hc)
  subst hr
  obtain ⟨hSl, hfc, kC, hkC, hkind⟩ := hK.1 ci _ hc
  obtain ⟨cf, kf, fi, f, hi, hsl⟩ := hSl k hk
  have hlay := hts _ (hin _ (u_in_lay hk))
  unfold u_lay at hlay
  rw [if_neg (by rw [hfin]; decide)] at hlay
  have hst := (u_facts hfc hkC (u_lays hts hin hk) hi).1
  have h6 := u_store hfc hkC hkind hlay hi hd hn hfit
  refine W.putK hexec hb (f := f) ⟨hown, hts _ hlink, ⟨_, _, _, by rw [← href]; exact hi⟩, hst⟩ (by rw [q2]; exact h6) q1 q3 (by rw [hsl]; exact k2_hasslot (q4 k hk)) rfl rfl d fun H' e1 e2 e3 => ?_
  rw [hsl] at e1 ⊢
  exact kk H' _ ls (hR.set ha e2 ⟨_, hc, t_OB.to (V := updV (vp_V fs) k v) ⟨_, e1, q2, q3, t_set q4 hap hk v⟩ (fun j _ => vp_updV_set hlen v j)⟩ e3) (hS.put e2 e3 hlo) hl
theorem r_putF (B : FX p s m args c cc own Ts nL g sz0) {ref C : String} {T : u_T} {N ci index a : Nat} {fs : List Value} {v : Value} {ty : FieldType} (d : decode cc pc = .ok (.putfield index, 3)) (hin : ∀ w ∈ u_ws C T N, w ∈ Ts) (ty0 : Nat → FieldType) (hty : ∀ k, k < N → parseFieldDescriptor (T k).2.2.1 = some (ty0 k)) (hnm : ∀ a, a < N → ∀ b, b < N → a ≠ b → (T a).2.1 ≠ (T b).2.1) (hc : vwCl[ci]? = some (C, T, N)) (k : Nat) (hk : k < N) (hlink : Cond.fieldLink own index ref (T k).2.1 (T k).2.2.1 ∈ Ts) (href : (T k).1 = ref) (hfin : (T k).2.2.2 = true) (hin2 : meth.name = "<init>") (hdecl : (T k).1 = own) (hd : parseFieldDescriptor (T k).2.2.1 = some ty) (hn : narrow ty v = v) (hfit : fits ty v = true) (ha : h a = some (oE ci fs)) (hlen : k < fs.length) (kk : WA p l e R s m args below meth c g sz0 nL Q (ah_up h a (oE ci (fs.set k v))) cells slots lv (pc + 3) (rest)) : WA p l e R s m args below meth c g sz0 nL Q h cells slots lv (pc) (v :: .ref a :: rest) := fun H locs ls hR hS hl => by
  obtain ⟨hexec, hb, hown, hts, -, hCX, -⟩ := B
  have hK := hCX.1
  have hap := va_apart (own := own) hts hin ty0 hty hnm hK hc
  obtain ⟨hlo, r, h1, cell, q1, q2, q3, q4⟩ := hR.2 a _ ha
  have hr : r = (C, T, N) := Option.some.inj (h1.symm.trans hc)
  subst hr
  obtain ⟨hSl, hfc, kC, hkC, hkind⟩ := hK.1 ci _ hc
  obtain ⟨cf, kf, fi, f, hi, hsl⟩ := hSl k hk
  have hlay := hts _ (hin _ (u_in_lay hk))
  unfold u_lay at hlay
  rw [if_pos hfin] at hlay
  have hst := (u_facts hfc hkC (u_lays hts hin hk) hi).1
  have hcf : m.cls = cf := by
    obtain ⟨_, _, c', _, _, _, -, -, hf', -, -, -, hown2, -⟩ := Cond.laysFinal_spec hlay
    have e1 : c' = cf := by have := hi.symm.trans hf'; simp at this; exact this.1.symm
    rw [hdecl] at hown2
    rw [← e1]; exact Option.some.inj (hown.symm.trans hown2)
  have h6 := u_fits hfc hkC hkind (Or.inr hlay) hi hd hn hfit
  refine W.putFinK hexec hb hown (hts _ hlink) (by rw [← href]; exact hi) hst hcf hin2 (by rw [q2]; exact h6) q1 q3 (by rw [hsl]; exact k2_hasslot (q4 k hk)) rfl rfl d fun H' e1 e2 e3 => ?_
  rw [hsl] at e1 ⊢
  exact kk H' _ ls (hR.set ha e2 ⟨_, hc, t_OB.to (V := updV (vp_V fs) k v) ⟨_, e1, q2, q3, t_set q4 hap hk v⟩ (fun j _ => vp_updV_set hlen v j)⟩ e3) (hS.put e2 e3 hlo) hl
theorem r_iald (B : FX p s m args c cc own Ts nL g sz0) {a n : Nat} {F : Int → Int} {i : Int} (d : decode cc pc = .ok (.iaload, 1)) (ha : h a = some (iE g n F)) (hn : n < 2147483648) (h0 : 0 ≤ i) (h1 : i < (n : Int)) (k : WA p l e R s m args below meth c g sz0 nL Q h cells slots lv (pc + 1) (.int (iI (F i)) :: rest)) : WA p l e R s m args below meth c g sz0 nL Q h cells slots lv (pc) (.int (iI i) :: .ref a :: rest) := fun H locs ls hR hS hl => by
  refine va_iald (D := g.1) (cl := vwCl) (ws := [(a, iE g n F)]) B.1 B.2.1 B.2.2.2.2.2.1.1 (hR.one ha) 0 0 rfl rfl (iI_in hn h0 h1) d ?_
  rw [iI_natc h0 (by omega)]
  exact k H locs ls hR hS hl
theorem r_lald (B : FX p s m args c cc own Ts nL g sz0) {a n : Nat} {f : Nat → Int64} {i : Int} (d : decode cc pc = .ok (.laload, 1)) (ha : h a = some (lE g n f)) (hn : n < 2147483648) (h0 : 0 ≤ i) (h1 : i < (n : Int)) (k : WA p l e R s m args below meth c g sz0 nL Q h cells slots lv (pc + 1) (.long (f i.toNat) :: rest)) : WA p l e R s m args below meth c g sz0 nL Q h cells slots lv (pc) (.int (iI i) :: .ref a :: rest) := fun H locs ls hR hS hl => by
  refine va_lald (D := g.1) (cl := vwCl) (ws := [(a, lE g n f)]) B.1 B.2.1 B.2.2.2.2.2.1.1 (hR.one ha) 0 2 rfl rfl (iI_in hn h0 h1) d ?_
  rw [iI_nat h0 (by omega)]
  exact k H locs ls hR hS hl
theorem r_aald (B : FX p s m args c cc own Ts nL g sz0) {a n t0 : Nat} {C : String} {f : Int → Option Nat} {i : Int} (d : decode cc pc = .ok (.aaload, 1)) (ht : (tysA g)[t0]? = some (g.2.1 t0, .object C)) (ha : h a = some (qE g t0 n f)) (hn : n < 2147483648) (h0 : 0 ≤ i) (h1 : i < (n : Int)) (k : WA p l e R s m args below meth c g sz0 nL Q h cells slots lv (pc + 1) (va_rf (f i) :: rest)) : WA p l e R s m args below meth c g sz0 nL Q h cells slots lv (pc) (.int (iI i) :: .ref a :: rest) := fun H locs ls hR hS hl => by
  refine va_aldq (D := g.1) (cl := vwCl) (ws := [(a, qE g t0 n f)]) B.1 B.2.1 B.2.2.2.2.2.1.1 (hR.one ha) 0 t0 rfl ht (iI_in hn h0 h1) d ?_
  rw [iI_natc h0 (by omega)]
  exact k H locs ls hR hS hl
theorem r_alen (B : FX p s m args c cc own Ts nL g sz0) {a n : Nat} {cA : ClassId} {x : (Nat → Int32) ⊕ (Nat → Int64) ⊕ (Nat → UInt32) ⊕ (Nat → UInt64) ⊕ (Nat → Option Nat)} {t0 : Nat} {ty : FieldType} (d : decode cc pc = .ok (.arraylength, 1)) (ht : (tysA g)[t0]? = some (cA, ty)) (ha : h a = some (.inl (cA, n, x))) (k : WA p l e R s m args below meth c g sz0 nL Q h cells slots lv (pc + 1) (.int (iI (n : Int)) :: rest)) : WA p l e R s m args below meth c g sz0 nL Q h cells slots lv (pc) (.ref a :: rest) := fun H locs ls hR hS hl =>
  va_alen (D := g.1) (cl := vwCl) (ws := [(a, .inl (cA, n, x))]) B.1 B.2.1 B.2.2.2.2.2.1.1 (hR.one ha) 0 t0 rfl ht rfl d (k H locs ls hR hS hl)
theorem r_alen_i (B : FX p s m args c cc own Ts nL g sz0) {a n : Nat} {F : Int → Int} (d : decode cc pc = .ok (.arraylength, 1)) (ha : h a = some (iE g n F)) (k : WA p l e R s m args below meth c g sz0 nL Q h cells slots lv (pc + 1) (.int (iI (n : Int)) :: rest)) : WA p l e R s m args below meth c g sz0 nL Q h cells slots lv (pc) (.ref a :: rest) := r_alen B d (t0 := 0) rfl ha k
theorem r_alen_q (B : FX p s m args c cc own Ts nL g sz0) {a n t0 : Nat} {C : String} {f : Int → Option Nat} (d : decode cc pc = .ok (.arraylength, 1)) (ht : (tysA g)[t0]? = some (g.2.1 t0, .object C)) (ha : h a = some (qE g t0 n f)) (k : WA p l e R s m args below meth c g sz0 nL Q h cells slots lv (pc + 1) (.int (iI (n : Int)) :: rest)) : WA p l e R s m args below meth c g sz0 nL Q h cells slots lv (pc) (.ref a :: rest) := r_alen B d (t0 := t0) ht ha k
theorem upd_iI (F : Int → Int) {i x : Int} (h0 : 0 ≤ i) (h1 : i < 2147483648) : upd (fun k : Nat => iI (F (k : Int))) (iI i).toNatClampNeg (iI x) = fun k : Nat => iI (upZ F i x (k : Int)) := by
  funext k
  rw [iI_nat h0 h1]
  by_cases hk : k = i.toNat
  · subst hk
    simp [upd, upZ, Int.toNat_of_nonneg h0]
  · have hk2 : ¬ (k : Int) = i := by omega
    simp [upd, upZ, hk, hk2]
theorem r_iast (B : FX p s m args c cc own Ts nL g sz0) {a n : Nat} {F : Int → Int} {i x : Int} (d : decode cc pc = .ok (.iastore, 1)) (ha : h a = some (iE g n F)) (hn : n < 2147483648) (h0 : 0 ≤ i) (h1 : i < (n : Int)) (k : WA p l e R s m args below meth c g sz0 nL Q (ah_up h a (iE g n (upZ F i x))) cells slots lv (pc + 1) (rest)) : WA p l e R s m args below meth c g sz0 nL Q h cells slots lv (pc) (.int (iI x) :: .int (iI i) :: .ref a :: rest) := fun H locs ls hR hS hl => by
  have hlo := (hR.2 a _ ha).1
  refine W.iast B.1 B.2.1 (hR.2 a _ ha).2 ((B.2.2.2.2.2.1.1.2 0 _ rfl).1 n (fun j => .int (iI (F (j : Int))))) (fun q => by cases q) (by show ¬ (_ < 0 ∨ (arrV _ _ _).slots.size ≤ _); rw [arrV_size]; exact iI_in hn h0 h1) rfl rfl d fun H1 e1 z oq => ?_
  refine k H1 _ ls (hR.set ha z ?_ oq) (hS.put z oq hlo) hl
  show H1[a]? = some (vp_cell (g.2.1 0) (n, .inl (fun k => iI (upZ F i x (k : Int)))))
  rw [e1, ← upd_iI F h0 (by omega)]
  show some ((vp_cell (g.2.1 0) (n, .inl (fun k => iI (F (k : Int))))).setSlot _ _) = _
  rw [vp_cell_i, vp_cell_i, arrV_store]
  congr 2
  funext q
  by_cases hq : q = (iI i).toNatClampNeg
  · subst hq
    simp [updV, upd]
  · simp [updV, upd, hq]
theorem r_last (B : FX p s m args c cc own Ts nL g sz0) {a n : Nat} {f : Nat → Int64} {i : Int} {x : Int64} (d : decode cc pc = .ok (.lastore, 1)) (ha : h a = some (lE g n f)) (hn : n < 2147483648) (h0 : 0 ≤ i) (h1 : i < (n : Int)) (k : WA p l e R s m args below meth c g sz0 nL Q (ah_up h a (lE g n (vp_updL f i.toNat x))) cells slots lv (pc + 1) (rest)) : WA p l e R s m args below meth c g sz0 nL Q h cells slots lv (pc) (.long x :: .int (iI i) :: .ref a :: rest) := fun H locs ls hR hS hl => by
  have hlo := (hR.2 a _ ha).1
  refine W.last B.1 B.2.1 (hR.2 a _ ha).2 ((B.2.2.2.2.2.1.1.2 2 _ rfl).1 n (fun j => .long (f j))) (fun q => by cases q) (by show ¬ (_ < 0 ∨ (arrV _ _ _).slots.size ≤ _); rw [arrV_size]; exact iI_in hn h0 h1) rfl rfl d fun H1 e1 z oq => ?_
  refine k H1 _ ls (hR.set ha z ?_ oq) (hS.put z oq hlo) hl
  show H1[a]? = some (vp_cell (g.2.1 2) (n, .inr (.inl (vp_updL f i.toNat x))))
  rw [e1, ← iI_nat h0 (by omega)]
  show some ((vp_cell (g.2.1 2) (n, .inr (.inl f))).setSlot _ _) = _
  rw [vp_cell_l, vp_cell_l, arrV_store]
  congr 2
  funext q
  by_cases hq : q = (iI i).toNatClampNeg
  · subst hq
    simp [updV, vp_updL]
  · simp [updV, vp_updL, hq]
theorem r_aast (B : FX p s m args c cc own Ts nL g sz0) {a n v t0 ci : Nat} {r : vw_C} {vs : List Value} {f : Int → Option Nat} {i : Int} (d : decode cc pc = .ok (.aastore, 1)) (ht : (tysA g)[t0]? = some (g.2.1 t0, .object r.1)) (hc : vwCl[ci]? = some r) (ha : h a = some (qE g t0 n f)) (hv : h v = some (oE ci vs)) (hn : n < 2147483648) (h0 : 0 ≤ i) (h1 : i < (n : Int)) (k : WA p l e R s m args below meth c g sz0 nL Q (ah_up h a (qE g t0 n (upQ f i (some v)))) cells slots lv (pc + 1) (rest)) : WA p l e R s m args below meth c g sz0 nL Q h cells slots lv (pc) (.ref v :: .int (iI i) :: .ref a :: rest) := fun H locs ls hR hS hl => by
  have hlo := (hR.2 a _ ha).1
  have hK := B.2.2.2.2.2.1.1
  have hin := iI_in hn h0 h1
  have hlt : (iI i).toNatClampNeg < n := Nat.not_le.mp fun q => hin (Or.inr q)
  have hz0 : ¬ iI i < 0 := fun q => hin (Or.inl q)
  obtain ⟨-, r', hr', cellV, g1, g2, g3, -⟩ := hR.2 v _ hv
  have hcls := (hK.1 ci r hc).2
  obtain ⟨kA, comp, k1, k2, k3, -⟩ := (hK.2 t0 _ ht).2
  have hcomp : comp = g.1.1 ci := Option.some.inj (k3.symm.trans hcls.1)
  subst hcomp
  obtain ⟨kC, hkC, -⟩ := hcls.2
  refine W.aast B.1 B.2.1 (hR.2 a _ ha).2 (fun q h => by cases h) (fun h => by cases h) k1 k2 rfl hkC ⟨hz0, by show _ < (arrV _ _ _).slots.size; rw [arrV_size]; exact hlt⟩ g1 (fun q h => by rw [g3] at h; cases h) (by rw [g2]; exact hkC) (by rw [g2]; exact va_assign hcls) rfl rfl d fun H1 e1 z oq => ?_
  refine k H1 _ ls (hR.set ha z ?_ oq) (hS.put z oq hlo) hl
  show H1[a]? = some (vp_cell (g.2.1 t0) (n, .inr (.inr (.inr (.inr (fun k => upQ f i (some v) (k : Int)))))))
  rw [e1]
  show some ((vp_cell (g.2.1 t0) (n, .inr (.inr (.inr (.inr (fun k => f (k : Int))))))).setSlot _ _) = _
  rw [vp_cell_q, vp_cell_q, arrV_store]
  congr 2
  funext q
  by_cases hq : q = (iI i).toNatClampNeg
  · subst hq
    simp [updV, upQ, va_rf, iI_natc h0 (show i < 2147483648 by omega)]
  · have hq2 : ¬ (q : Int) = i := fun z => hq (by rw [iI_nat h0 (by omega)]; omega)
    simp [updV, upQ, hq, hq2]
theorem r_aastN (B : FX p s m args c cc own Ts nL g sz0) {a n t0 : Nat} {C : String} {f : Int → Option Nat} {i : Int} (d : decode cc pc = .ok (.aastore, 1)) (ht : (tysA g)[t0]? = some (g.2.1 t0, .object C)) (ha : h a = some (qE g t0 n f)) (hn : n < 2147483648) (h0 : 0 ≤ i) (h1 : i < (n : Int)) (k : WA p l e R s m args below meth c g sz0 nL Q (ah_up h a (qE g t0 n (upQ f i none))) cells slots lv (pc + 1) (rest)) : WA p l e R s m args below meth c g sz0 nL Q h cells slots lv (pc) (.null :: .int (iI i) :: .ref a :: rest) := fun H locs ls hR hS hl => by
  have hlo := (hR.2 a _ ha).1
  have hK := B.2.2.2.2.2.1.1
  refine va_WaastN (C := C) B.1 B.2.1 (hR.2 a _ ha).2 ((hK.2 t0 _ ht).1 n (fun j => va_rf (f (j : Int)))) (fun h => by cases h) (by show ¬ (_ < 0 ∨ (arrV _ _ _).slots.size ≤ _); rw [arrV_size]; exact iI_in hn h0 h1) rfl rfl d fun H1 e1 z oq => ?_
  refine k H1 _ ls (hR.set ha z ?_ oq) (hS.put z oq hlo) hl
  show H1[a]? = some (vp_cell (g.2.1 t0) (n, .inr (.inr (.inr (.inr (fun k => upQ f i none (k : Int)))))))
  rw [e1]
  show some ((vp_cell (g.2.1 t0) (n, .inr (.inr (.inr (.inr (fun k => f (k : Int))))))).setSlot _ _) = _
  rw [vp_cell_q, vp_cell_q, arrV_store]
  congr 2
  funext q
  by_cases hq : q = (iI i).toNatClampNeg
  · subst hq
    simp [updV, upQ, va_rf, iI_natc h0 (show i < 2147483648 by omega)]
  · have hq2 : ¬ (q : Int) = i := fun z => hq (by rw [iI_nat h0 (by omega)]; omega)
    simp [updV, upQ, hq, hq2]
theorem va_S.push {A : Nat → Prop} {H0 H H1 : Heap} {locs : List Loc} (hS : va_S A H0 H locs) (z : H1.size = H.size + 1) (oq : ∀ q : Nat, q < H.size → H1[q]? = H[q]?) : va_S A H0 H1 locs :=
  ⟨Nat.le_trans hS.1 (by omega), fun x h1 h2 => (oq x (Nat.lt_of_lt_of_le h1 hS.1)).trans (hS.2.1 x h1 h2), hS.2.2⟩
theorem r_new (B : FX p s m args c cc own Ts nL g sz0) {C : String} {T : u_T} {N ci index : Nat} {fs : List Value} (d : decode cc pc = .ok (.new index, 3)) (hin : ∀ w ∈ u_ws C T N, w ∈ Ts) (ty : Nat → FieldType) (hty : ∀ k, k < N → parseFieldDescriptor (T k).2.2.1 = some (ty k)) (hcl : Cond.classLink own index C ∈ Ts) (hinst : Cond.instantiable C N ∈ Ts) (hini : Cond.initialized C ∈ Ts) (hc : vwCl[ci]? = some (C, T, N)) (hfs : ∀ j, j < N → defaultValue (ty j) = vp_V fs j) (hcells : cells + 1 ≤ R.cells) (hslots : slots + N ≤ R.slots) (kk : ∀ q : Nat, sz0 ≤ q → h q = none → WA p l e R s m args below meth c g sz0 nL Q (ah_up h q (oE ci fs)) (cells + 1) (slots + N) lv (pc + 3) (.ref q :: rest)) : WA p l e R s m args below meth c g sz0 nL Q h cells slots lv (pc) (rest) := fun H locs ls hR hS hl => by
  obtain ⟨hexec, hb, hown, hts, -, hCX, -⟩ := B
  have hK := hCX.1
  have hKn := hK.1 ci _ hc
  refine W.newcK hexec hb hown (hts _ hcl) (hts _ hinst) (hts _ hini) rfl d hcells hslots hKn.2.1 rfl fun H1 kC hkC e1 z1 o1 => ?_
  exact kk H.size hR.1 hR.fresh H1 locs ls (hR.push z1 ⟨_, hc, (u_born ty hts hin hKn hkC e1 hty).to hfs⟩ o1) (hS.push z1 o1) hl
theorem r_newa (B : FX p s m args c cc own Ts nL g sz0) {atype : ArrayType} {n : Int} {ty : FieldType} {t0 : Nat} {x : (Nat → Int32) ⊕ (Nat → Int64) ⊕ (Nat → UInt32) ⊕ (Nat → UInt64) ⊕ (Nat → Option Nat)} (d : decode cc pc = .ok (.newarray atype, 2)) (harr : Cond.arrayClass (newarray.typeOf atype) ∈ Ts) (hty : newarray.typeOf atype = ty) (ht : (tysA g)[t0]? = some (g.2.1 t0, ty)) (hnr : ∀ U : State, ∀ cA : ClassId, va_RA U cA ty = (U.vm.findClass ("[" ++ ty.toString) = some cA)) (h0 : 0 ≤ n) (h1 : n < 1000000) (hx : ∀ cA : ClassId, vp_cell cA (n.toNat, x) = arrV cA n.toNat (fun _ => defaultValue ty)) (hcb : componentBytes ty ≤ 8) (hcells : cells + 1 ≤ R.cells) (hslots : slots + n.toNat ≤ R.slots) (kk : ∀ q : Nat, sz0 ≤ q → h q = none → WA p l e R s m args below meth c g sz0 nL Q (ah_up h q (.inl (g.2.1 t0, n.toNat, x))) (cells + 1) (slots + n.toNat) lv (pc + 2) (.ref q :: rest)) : WA p l e R s m args below meth c g sz0 nL Q h cells slots lv (pc) (.int (iI n) :: rest) := fun H locs ls hR hS hl => by
  subst hty
  obtain ⟨hexec, hb, hown, hts, -, hCX, -⟩ := B
  have hK := hCX.1
  have hbytes : n.toNat * componentBytes (newarray.typeOf atype) ≤ 536870912 := by
    have : n.toNat * componentBytes (newarray.typeOf atype) ≤ n.toNat * 8 := Nat.mul_le_mul_left _ hcb
    omega
  refine va_newaK (n := iI n) (N := n.toNat) hexec hb (hts _ harr) rfl d rfl (fun q => ?_) (iI_nat h0 (by omega)) hbytes hcells hslots rfl fun H1 cA e1 z1 o1 hAr hNm => ?_
  · have := (iI_lt (a := n) (b := 0) (by omega) (by omega)).mp q
    omega
  · have hcA : cA = g.2.1 t0 := by
      have h2 := (hK.2 t0 _ ht).2
      rw [hnr] at h2
      exact Option.some.inj (hNm.symm.trans h2)
    subst hcA
    exact kk H.size hR.1 hR.fresh H1 locs ls (hR.push z1 (by show H1[H.size]? = some (vp_cell _ _); rw [hx]; exact e1) o1) (hS.push z1 o1) hl
theorem r_newi (B : FX p s m args c cc own Ts nL g sz0) {n : Int} (d : decode cc pc = .ok (.newarray .int, 2)) (harr : Cond.arrayClass .int ∈ Ts) (h0 : 0 ≤ n) (h1 : n < 1000000) (hcells : cells + 1 ≤ R.cells) (hslots : slots + n.toNat ≤ R.slots) (kk : ∀ q : Nat, sz0 ≤ q → h q = none → WA p l e R s m args below meth c g sz0 nL Q (ah_up h q (iE g n.toNat (fun _ => 0))) (cells + 1) (slots + n.toNat) lv (pc + 2) (.ref q :: rest)) : WA p l e R s m args below meth c g sz0 nL Q h cells slots lv (pc) (.int (iI n) :: rest) :=
  r_newa B (t0 := 0) (ty := .int) (x := .inl (fun _ => iI 0)) d harr rfl rfl (fun _ _ => rfl) h0 h1 (fun _ => rfl) (by decide) hcells hslots kk
theorem r_newl (B : FX p s m args c cc own Ts nL g sz0) {n : Int} (d : decode cc pc = .ok (.newarray .long, 2)) (harr : Cond.arrayClass .long ∈ Ts) (h0 : 0 ≤ n) (h1 : n < 1000000) (hcells : cells + 1 ≤ R.cells) (hslots : slots + n.toNat ≤ R.slots) (kk : ∀ q : Nat, sz0 ≤ q → h q = none → WA p l e R s m args below meth c g sz0 nL Q (ah_up h q (lE g n.toNat (fun _ => 0))) (cells + 1) (slots + n.toNat) lv (pc + 2) (.ref q :: rest)) : WA p l e R s m args below meth c g sz0 nL Q h cells slots lv (pc) (.int (iI n) :: rest) :=
  r_newa B (t0 := 2) (ty := .long) (x := .inr (.inl (fun _ => 0))) d harr rfl rfl (fun _ _ => rfl) h0 h1 (fun _ => rfl) (by decide) hcells hslots kk
theorem r_newq (B : FX p s m args c cc own Ts nL g sz0) {C : String} {index t0 : Nat} {n : Int} (d : decode cc pc = .ok (.anewarray index, 3)) (hclink : Cond.classLink own index C ∈ Ts) (hover : va_AO C s) (ht : (tysA g)[t0]? = some (g.2.1 t0, .object C)) (h0 : 0 ≤ n) (h1 : n < 1000000) (hcells : cells + 1 ≤ R.cells) (hslots : slots + n.toNat ≤ R.slots) (kk : ∀ q : Nat, sz0 ≤ q → h q = none → WA p l e R s m args below meth c g sz0 nL Q (ah_up h q (qE g t0 n.toNat (fun _ => none))) (cells + 1) (slots + n.toNat) lv (pc + 3) (.ref q :: rest)) : WA p l e R s m args below meth c g sz0 nL Q h cells slots lv (pc) (.int (iI n) :: rest) := fun H locs ls hR hS hl => by
  obtain ⟨hexec, hb, hown, hts, -, hCX, -⟩ := B
  have hK := hCX.1
  have hnn := iI_nat h0 (show n < 2147483648 by omega)
  refine W.anew hexec hb hown (hts _ hclink) (va_AO.use hover) rfl d rfl (n := iI n) (fun q => ?_) (by rw [hnn]; omega) hcells (by rw [hnn]; exact hslots) fun cA kA comp f1 f2 f3 f4 => ?_
  · have := (iI_lt (a := n) (b := 0) (by omega) (by omega)).mp q
    omega
  · have hcA : cA = g.2.1 t0 := by
      obtain ⟨_, _, _, _, _, h2⟩ := (hK.2 t0 _ ht).2
      exact Option.some.inj (f1.symm.trans h2)
    subst hcA
    rw [hnn]
    generalize hH1 : H.push ({ cls := g.2.1 t0, slots := Array.replicate n.toNat .null, vm := .none } : Cell) = H1
    have z1 : H1.size = H.size + 1 := by rw [← hH1, Array.size_push]
    have e1 : H1[H.size]? = some (arrV (g.2.1 t0) n.toNat (fun _ => .null)) := by rw [← hH1, Array.getElem?_push_size, ← arrV_new]
    have o1 : ∀ q : Nat, q < H.size → H1[q]? = H[q]? := fun q hq => by rw [← hH1, Array.getElem?_push, if_neg (Nat.ne_of_lt hq)]
    exact kk H.size hR.1 hR.fresh H1 locs ls (hR.push z1 (by show H1[H.size]? = some (vp_cell (g.2.1 t0) (n.toNat, .inr (.inr (.inr (.inr (fun _ => none)))))); rw [vp_cell_q]; exact e1) o1) (hS.push z1 o1) hl
end RWA
