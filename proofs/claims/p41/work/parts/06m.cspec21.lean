/-- these parts stand, each at its own address; all else is as it was -/
def AL (L : List (Nat × va_E)) (h0 h : AH) : Prop := (∀ x ∈ L, h x.1 = some x.2) ∧ (L.map Prod.fst).Nodup ∧ ∀ q : Nat, ¬ q ∈ L.map Prod.fst → h q = h0 q
theorem nd_get {N : List Nat} (h : N.Nodup) {i j : Nat} (hi : i < N.length) (hj : j < N.length) (e : N[i] = N[j]) : i = j := by
  have h2 := List.pairwise_iff_getElem.mp h
  rcases Nat.lt_trichotomy i j with y | y | y
  · exact absurd e (h2 i j hi hj y)
  · exact y
  · exact absurd e.symm (h2 j i hj hi y)
theorem AL.at {L : List (Nat × va_E)} {h0 h : AH} (hL : AL L h0 h) {i a : Nat} {e : va_E} (hi : L[i]? = some (a, e)) : h a = some e := hL.1 (a, e) (List.mem_of_getElem? hi)
theorem AL.one {h : AH} {a : Nat} {e : va_E} (ha : h a = some e) : AL [(a, e)] h h := ⟨fun x hx => by rw [List.mem_singleton.mp hx]; exact ha, by simp, fun _ _ => rfl⟩
theorem AL.non {L : List (Nat × va_E)} {h0 h : AH} (hL : AL L h0 h) {q : Nat} (hq : h q = none) : ¬ q ∈ L.map Prod.fst ∧ h0 q = none := by
  have h1 : ¬ q ∈ L.map Prod.fst := fun z => by
    obtain ⟨x, hx, e⟩ := List.mem_map.mp z
    have := hL.1 x hx
    rw [e, hq] at this
    cases this
  exact ⟨h1, by rw [← hL.2.2 q h1]; exact hq⟩
theorem AL.new {L : List (Nat × va_E)} {h0 h : AH} (hL : AL L h0 h) {q : Nat} {E : va_E} (hq : h q = none) : AL ((q, E) :: L) h0 (ah_up h q E) := by
  have hn := (hL.non hq).1
  refine ⟨fun x hx => ?_, ?_, fun r hr => ?_⟩
  · rcases List.mem_cons.mp hx with z | z
    · subst z; exact if_pos rfl
    · exact (if_neg fun e => hn (by rw [← e]; exact List.mem_map.mpr ⟨x, z, rfl⟩)).trans (hL.1 x z)
  · exact List.nodup_cons.mpr ⟨hn, hL.2.1⟩
  · exact (if_neg fun e => hr (by rw [e]; exact List.mem_cons_self)).trans (hL.2.2 r fun z => hr (List.mem_cons_of_mem _ z))
theorem fst_set {L : List (Nat × va_E)} {i a : Nat} {e e' : va_E} (hi : L[i]? = some (a, e)) : (L.set i (a, e')).map Prod.fst = L.map Prod.fst := by
  refine List.ext_getElem? fun j => ?_
  rw [List.getElem?_map, List.getElem?_map]
  by_cases z : i = j
  · subst z
    have hlt := (List.getElem?_eq_some_iff.mp hi).1
    rw [List.getElem?_set_self hlt, hi]
    rfl
  · rw [List.getElem?_set_ne z]
theorem AL.oth {L : List (Nat × va_E)} {h0 h : AH} (hL : AL L h0 h) {i a : Nat} {e e' : va_E} (hi : L[i]? = some (a, e)) {x : Nat × va_E} (hx : x ∈ L.set i (a, e')) : x = (a, e') ∨ (x ∈ L ∧ x.1 ≠ a) := by
  obtain ⟨j, hj⟩ := List.mem_iff_getElem?.mp hx
  by_cases z : i = j
  · subst z
    have hlt := (List.getElem?_eq_some_iff.mp hi).1
    rw [List.getElem?_set_self hlt] at hj
    exact Or.inl (Option.some.inj hj).symm
  · rw [List.getElem?_set_ne z] at hj
    refine Or.inr ⟨List.mem_of_getElem? hj, fun w => z ?_⟩
    have h1 := (List.getElem?_eq_some_iff.mp hi)
    have h2 := (List.getElem?_eq_some_iff.mp hj)
    obtain ⟨a1, a2⟩ := h1
    obtain ⟨b1, b2⟩ := h2
    refine nd_get hL.2.1 (by simpa using a1) (by simpa using b1) ?_
    rw [List.getElem_map, List.getElem_map, a2, b2]
    exact w.symm
theorem AL.put {L : List (Nat × va_E)} {h0 h : AH} {i a : Nat} {e e' : va_E} (hL : AL L h0 h) (hi : L[i]? = some (a, e)) : AL (L.set i (a, e')) h0 (ah_up h a e') := by
  refine ⟨fun x hx => ?_, by rw [fst_set hi]; exact hL.2.1, fun q hq => ?_⟩
  · rcases hL.oth hi hx with z | ⟨z1, z2⟩
    · subst z; exact if_pos rfl
    · exact (if_neg z2).trans (hL.1 x z1)
  · rw [fst_set hi] at hq
    refine (if_neg fun z => hq ?_).trans (hL.2.2 q hq)
    rw [z]
    exact List.mem_map.mpr ⟨(a, e), List.mem_of_getElem? hi, rfl⟩
theorem AL.cat {L M : List (Nat × va_E)} {h0 h h' : AH} {i a : Nat} {e e' : va_E} (hL : AL L h0 h) (hi : L[i]? = some (a, e)) (hM : AL (M ++ [(a, e')]) h h') (hn : ∀ x ∈ M, h x.1 = none) : AL (M ++ L.set i (a, e')) h0 h' ∧ ∀ x ∈ M, h0 x.1 = none := by
  have hn2 : ∀ x ∈ M, ¬ x.1 ∈ L.map Prod.fst ∧ h0 x.1 = none := fun x hx => hL.non (hn x hx)
  have hma : (M ++ [(a, e')]).map Prod.fst = M.map Prod.fst ++ [a] := by rw [List.map_append]; rfl
  have hnd := hM.2.1
  rw [hma] at hnd
  refine ⟨⟨fun x hx => ?_, ?_, fun q hq => ?_⟩, fun x hx => (hn2 x hx).2⟩
  · rcases List.mem_append.mp hx with z | z
    · exact hM.1 x (List.mem_append_left _ z)
    · rcases hL.oth hi z with y | ⟨y1, y2⟩
      · exact hM.1 x (List.mem_append_right _ (by rw [y]; exact List.mem_singleton.mpr rfl))
      · refine (hM.2.2 x.1 fun w => ?_).trans (hL.1 x y1)
        rw [hma] at w
        rcases List.mem_append.mp w with v | v
        · obtain ⟨u, hu, eu⟩ := List.mem_map.mp v
          exact (hn2 u hu).1 (by rw [eu]; exact List.mem_map.mpr ⟨x, y1, rfl⟩)
        · exact y2 (List.mem_singleton.mp v)
  · rw [List.map_append, fst_set hi]
    refine List.nodup_append.mpr ⟨(List.nodup_append.mp hnd).1, hL.2.1, fun u hu v hv e => ?_⟩
    obtain ⟨x, hx, ex⟩ := List.mem_map.mp hu
    exact (hn2 x hx).1 (by rw [ex, e]; exact hv)
  · rw [List.map_append, fst_set hi] at hq
    have hq1 : ¬ q ∈ L.map Prod.fst := fun z => hq (List.mem_append_right _ z)
    refine (hM.2.2 q fun w => ?_).trans (hL.2.2 q hq1)
    rw [hma] at w
    rcases List.mem_append.mp w with v | v
    · exact hq (List.mem_append_left _ v)
    · exact hq1 (by rw [List.mem_singleton.mp v]; exact List.mem_map.mpr ⟨(a, e), List.mem_of_getElem? hi, rfl⟩)
