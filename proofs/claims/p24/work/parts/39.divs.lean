section ZDV
variable {p : Program} {l : Launch} {e : Env} {R : Room} {s : State} {m : MethodId} {args : Array Value} {below : List Frame} {meth : Method} {c : Code} {H : Heap} {locs : List Loc} {cells slots : Nat} {Q : State → Prop}
variable {cc : ByteArray} {pc : Nat} {ls : Array Slot} {rest : List Value}
theorem zz_idivw (hx : p.tables.exec = Jvm.exec) (hb : c.code = cc) {x y w : Int} (hw : x / y = w) (hdg : decode cc pc = .ok (.idiv, 1)) (gx : zg x) (gy : zg y) (h0 : 0 ≤ x) (h1 : 0 < y)
    (k : W p l e R s m args below meth c H locs cells slots Q (F0 m (pc + 1) ls (.int (zi w) :: rest))) : W p l e R s m args below meth c H locs cells slots Q (F0 m pc ls (.int (zi y) :: .int (zi x) :: rest)) := zz_idiv hx hb hdg gx gy h0 h1 (by rw [hw]; exact k)
theorem zz_iremw (hx : p.tables.exec = Jvm.exec) (hb : c.code = cc) {x y w : Int} (hw : x % y = w) (hdg : decode cc pc = .ok (.irem, 1)) (gx : zg x) (gy : zg y) (h0 : 0 ≤ x) (h1 : 0 < y)
    (k : W p l e R s m args below meth c H locs cells slots Q (F0 m (pc + 1) ls (.int (zi w) :: rest))) : W p l e R s m args below meth c H locs cells slots Q (F0 m pc ls (.int (zi y) :: .int (zi x) :: rest)) := zz_irem hx hb hdg gx gy h0 h1 (by rw [hw]; exact k)
end ZDV
