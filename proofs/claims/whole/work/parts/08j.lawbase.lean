section LW2
variable {p : Program} {l : Launch} {e : Env} {R : Room} {s : State} {m : MethodId} {args : Array Value} {below : List Frame} {meth : Method} {c : Code} {cells slots : Nat} {Q : State → Prop}
variable {g : GG} {sz0 nL : Nat} {h : AH} {cc : ByteArray} {own : String} {Ts : List Cond} {lv : LVs} {pc : Nat} {rest : List Value}
theorem r_icmp_eqS (B : FX p s m args c cc own Ts nL g sz0) {x y : Int32} {off : Int} {tgt : Nat} (d : decode cc pc = .ok (.if_icmp .eq off, 3)) (ht : (pc : Int) + off = (tgt : Int)) (e9 : x = y) (k : WA p l e R s m args below meth c g sz0 nL Q h cells slots lv tgt rest) : WA p l e R s m args below meth c g sz0 nL Q h cells slots lv pc (.int y :: .int x :: rest) := fun H locs ls hR hS hl => lv_icmp_eq (tgt := tgt) B.1 B.2.1 d ht (fun _ => k H locs ls hR hS hl) (fun c9 => absurd e9 c9)
theorem r_if_eqS (B : FX p s m args c cc own Ts nL g sz0) {x : Int32} {off : Int} {tgt : Nat} (d : decode cc pc = .ok (.ifCond .eq off, 3)) (ht : (pc : Int) + off = (tgt : Int)) (e9 : x = 0) (k : WA p l e R s m args below meth c g sz0 nL Q h cells slots lv tgt rest) : WA p l e R s m args below meth c g sz0 nL Q h cells slots lv pc (.int x :: rest) := r_ifr_eq B d ht (fun _ => k) (fun c9 => absurd e9 c9)
end LW2
section LI2
variable {g : GG} {A ad : Nat → Nat} {Z : Nat → Prop} {o1 o2 : Nat} {h h1 h2 : AH} {mthrown mnights mbits mleast mmost mroom mreserve mmount mspeed : Int} {mdata msize mends mmany mkind mchain mholds mbid mbound mcheap mpromised mcoin mpaid mowed mturn misAsking mwant mcost misServed mitsRow mitsChunk : Int → Int}
theorem LA.of (hL : LA A ad o1 o2 Z) (hM : MW g ad h1 mthrown mdata msize mends mmany mkind mchain mholds mnights mbits mleast mmost mroom mreserve mmount mspeed mbid mbound mcheap mpromised mcoin mpaid mowed mturn misAsking mwant mcost misServed mitsRow mitsChunk h2) : h2 o1 = h1 o1 ∧ h2 o2 = h1 o2 := ⟨hM.fr o1 (fun k hk z => (hL.2.2.2.2.2 k hk).1 z.symm), hM.fr o2 (fun k hk z => (hL.2.2.2.2.2 k hk).2 z.symm)⟩
theorem RGm.size (hG : RGm mnights mbits mleast mmost mroom mreserve mmount mspeed msize mbid mbound mcheap mpromised mcoin mpaid mowed) {x v : Int} (hv : 0 ≤ v ∧ v ≤ 48) : RGm mnights mbits mleast mmost mroom mreserve mmount mspeed (upZ msize (240 + x) v) mbid mbound mcheap mpromised mcoin mpaid mowed := ⟨hG.1, hG.2.1, hG.2.2.1, hG.2.2.2.1, hG.2.2.2.2.1, fun z z0 z1 => by
  unfold upZ
  split
  · exact hv
  · exact hG.2.2.2.2.2 z z0 z1⟩
theorem RGm.cl (hG : RGm mnights mbits mleast mmost mroom mreserve mmount mspeed msize mbid mbound mcheap mpromised mcoin mpaid mowed) {x : Int} {b' o' c' p' q' w' : Int → Int} (hv : ∀ y : Int, 0 ≤ y → y ≤ 3 → (b' y = mbid y ∨ (0 ≤ b' y ∧ b' y ≤ 100)) ∧ (o' y = mbound y ∨ (0 ≤ o' y ∧ o' y ≤ 30)) ∧ (c' y = mcheap y ∨ (0 ≤ c' y ∧ c' y ≤ 50)) ∧ (p' y = mpromised y ∨ (0 ≤ p' y ∧ p' y ≤ 600)) ∧ (q' y = mcoin y ∨ (0 ≤ q' y ∧ q' y ≤ 100)) ∧ (w' y = mowed y ∨ inR (w' y))) : RGm mnights mbits mleast mmost mroom mreserve mmount mspeed msize b' o' c' p' q' mpaid w' := ⟨hG.1, hG.2.1, hG.2.2.1, hG.2.2.2.1, fun y y0 y1 => by
  obtain ⟨g1, g2, g3, g4, g5, g6, g7⟩ := hG.2.2.2.2.1 y y0 y1
  obtain ⟨v1, v2, v3, v4, v5, v6⟩ := hv y y0 y1
  refine ⟨by omega, by omega, by omega, by omega, by omega, g6, ?_⟩
  rcases v6 with z | z
  · rw [z]; exact g7
  · exact z, hG.2.2.2.2.2⟩
theorem upZ_or {F : Int → Int} {x v lo hi y : Int} (hv : lo ≤ v ∧ v ≤ hi) : upZ F x v y = F y ∨ (lo ≤ upZ F x v y ∧ upZ F x v y ≤ hi) := by
  unfold upZ
  split
  · exact Or.inr hv
  · exact Or.inl rfl
end LI2
