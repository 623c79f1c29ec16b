/-- a model that is being built: its object, and the arrays made so far, newest first -/
def PW (a : Nat) (fs : List Value) (L : List (Nat × va_E)) (h0 h : AH) : Prop := h a = some (oE 10 fs) ∧ (∀ x ∈ L, h x.1 = some x.2) ∧ (a :: L.map (fun x => x.1)).Nodup ∧ ∀ q : Nat, q ≠ a → ¬ q ∈ L.map (fun x => x.1) → h q = h0 q
theorem PW.base {a : Nat} {fs : List Value} {h : AH} (ha : h a = some (oE 10 fs)) : PW a fs [] h h := ⟨ha, fun x hx => absurd hx (by simp), by simp, fun q _ _ => rfl⟩
theorem PW.put {a : Nat} {fs fs' : List Value} {L : List (Nat × va_E)} {h0 h : AH} (hP : PW a fs L h0 h) : PW a fs' L h0 (ah_up h a (oE 10 fs')) := by
  obtain ⟨p1, p2, p3, p4⟩ := hP
  have hn : ∀ x ∈ L, x.1 ≠ a := fun x hx z => by
    rw [List.nodup_cons] at p3
    exact p3.1 (List.mem_map.mpr ⟨x, hx, z⟩)
  refine ⟨if_pos rfl, fun x hx => (if_neg (hn x hx)).trans (p2 x hx), p3, fun q q0 q1 => (if_neg q0).trans (p4 q q0 q1)⟩
theorem PW.new {a q : Nat} {fs : List Value} {L : List (Nat × va_E)} {h0 h : AH} {E : va_E} (hP : PW a fs L h0 h) (hq : h q = none) : PW a fs ((q, E) :: L) h0 (ah_up h q E) := by
  obtain ⟨p1, p2, p3, p4⟩ := hP
  have ha : a ≠ q := fun z => by rw [z, hq] at p1; cases p1
  have hn : ∀ x ∈ L, x.1 ≠ q := fun x hx z => by have := p2 x hx; rw [z, hq] at this; cases this
  refine ⟨(if_neg ha).trans p1, fun x hx => ?_, ?_, fun r r0 r1 => ?_⟩
  · rcases List.mem_cons.mp hx with z | z
    · subst z; exact if_pos rfl
    · exact (if_neg (hn x z)).trans (p2 x z)
  · rw [List.nodup_cons] at p3
    show (a :: q :: L.map (fun x => x.1)).Nodup
    rw [List.nodup_cons, List.nodup_cons]
    refine ⟨fun z => ?_, fun z => ?_, p3.2⟩
    · rcases List.mem_cons.mp z with y | y
      · exact ha y
      · exact p3.1 y
    · obtain ⟨x, hx, y⟩ := List.mem_map.mp z
      exact hn x hx y
  · have hr : ¬ r ∈ L.map (fun x => x.1) := fun z => r1 (List.mem_cons_of_mem _ z)
    have hr2 : r ≠ q := fun z => r1 (by rw [z]; exact List.mem_cons_self)
    exact (if_neg hr2).trans (p4 r r0 hr)
theorem nd_ne {N : List Nat} (h : N.Nodup) : ∀ {i j : Nat}, i < N.length → j < N.length → i ≠ j → N.getD i 0 ≠ N.getD j 0 := by
  intro i j hi hj hne z
  have gd : ∀ {k : Nat} (hk : k < N.length), N.getD k 0 = N[k] := fun hk => by rw [List.getD_eq_getElem?_getD, List.getElem?_eq_getElem hk]; rfl
  rw [gd hi, gd hj] at z
  have h2 := List.pairwise_iff_getElem.mp h
  rcases Nat.lt_or_ge i j with y | y
  · exact h2 i j hi hj y z
  · exact h2 j i hj hi (by omega) z.symm
/-- where the model's parts lie -/
def adL (N : List Nat) : Nat → Nat := fun i => N.getD (if i = 0 then 0 else if i < 8 then 22 - i else 30 - i) 0
section KN
variable {p : Program} {l : Launch} {e : Env} {R : Room} {s : State} {m : MethodId} {args : Array Value} {below : List Frame} {meth : Method} {c : Code} {cells slots : Nat} {Q : State → Prop}
variable {g : GG} {sz0 nL : Nat} {h : AH} {lv : LVs} {pc : Nat} {st : List Value}
theorem k_next {P : AH → Prop} (hp : P h) (k : ∀ h : AH, P h → WA p l e R s m args below meth c g sz0 nL Q h cells slots lv pc st) : WA p l e R s m args below meth c g sz0 nL Q h cells slots lv pc st := k h hp
end KN
/-- four cells, filled up to k -/
def fil4 (v k : Int) : Int → Int := fun i => if 0 ≤ i ∧ i < k then v else 0
theorem fil4_0 (v : Int) : fil4 v 0 = fun _ => 0 := by funext i; unfold fil4; rw [if_neg (by omega)]
theorem fil4_s (v : Int) {k : Int} (hk : 0 ≤ k) : upZ (fil4 v k) k v = fil4 v (k + 1) := by
  funext i
  unfold upZ fil4
  by_cases z : i = k
  · rw [if_pos z, if_pos (by omega)]
  · rw [if_neg z]
    by_cases y : 0 ≤ i ∧ i < k
    · rw [if_pos y, if_pos (by omega)]
    · rw [if_neg y, if_neg (by omega)]
theorem inR_0 : inR ((fun _ : Int => (0 : Int)) 0) := ⟨by decide, by decide⟩
