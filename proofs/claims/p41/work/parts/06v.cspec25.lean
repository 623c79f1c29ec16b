theorem dig_congr {G G' : Int → Int} : ∀ {n : Nat}, (∀ j : Int, 0 ≤ j → j < (n : Int) → G j = G' j) → dig G n = dig G' n
  | 0, _ => rfl
  | n + 1, h => by
    show dstep (dig G n) (G (n : Int)) = dstep (dig G' n) (G' (n : Int))
    rw [dig_congr (n := n) (fun j j0 j1 => h j j0 (by omega)), h (n : Int) (by omega) (by omega)]
theorem nodup_le {α : Type} : ∀ {L M : List α}, L.Nodup → (∀ w ∈ L, w ∈ M) → L.length ≤ M.length
  | [], _, _, _ => Nat.zero_le _
  | a :: L, M, h, hs => by
    obtain ⟨s, t, e⟩ := List.append_of_mem (hs a List.mem_cons_self)
    have h1 := List.nodup_cons.mp h
    have ih := nodup_le (L := L) (M := s ++ t) h1.2 (fun w hw => by
      have := hs w (List.mem_cons_of_mem _ hw)
      rw [e] at this
      rcases List.mem_append.mp this with y | y
      · exact List.mem_append_left _ y
      · rcases List.mem_cons.mp y with z | z
        · rw [z] at hw; exact absurd hw h1.1
        · exact List.mem_append_right _ z)
    have e2 : (a :: t).length = t.length + 1 := rfl
    rw [e, List.length_append, e2]
    rw [List.length_append] at ih
    show L.length + 1 ≤ _
    omega
