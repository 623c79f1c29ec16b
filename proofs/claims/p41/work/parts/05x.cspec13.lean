section RTN
variable {p : Program} {l : Launch} {e : Env} {R : Room} {s : State} {m : MethodId} {args : Array Value} {below : List Frame} {meth : Method} {c : Code} {cells slots : Nat} {Q : State → Prop}
variable {g : GG} {sz0 nL : Nat} {h : AH} {lv : LVs} {pc : Nat} {rest : List Value}
theorem r_topn (k : WA p l e R s m args below meth c g sz0 nL Q h cells slots lv pc (va_rf none :: rest)) : WA p l e R s m args below meth c g sz0 nL Q h cells slots lv pc (.null :: rest) := k
end RTN
