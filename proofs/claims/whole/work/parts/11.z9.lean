theorem zcI (x : Int32) : (Value.int x).category = 1 := rfl
theorem zcL (x : Int64) : (Value.long x).category = 2 := rfl
theorem zcR (x : Nat) : (Value.ref x).category = 1 := rfl
section ZTB
variable {p : Program} {l : Launch} {e : Env} {R : Room} {s : State} {m : MethodId} {args : Array Value} {below : List Frame} {meth : Method} {c : Code} {H : Heap} {locs : List Loc} {cells slots : Nat} {Q : State → Prop}
variable {pc : Nat} {ls : Array Slot} {rest : List Value} {D : va_G} {cy : Nat → ClassId} {own : String} {cc : ByteArray} {nL : Nat}
theorem z_tabIn (hC : zC p s m args c own cc nL D cy) {dflt lo hi : Int} {offs : Array Int} {len : Nat} {x v : Int32} (hv : x = v) {off : Int} {tgt : Nat} (hdg : decode cc pc = .ok (.tableswitch dflt lo hi offs, len)) (h1 : ¬ v.toInt < lo) (h2 : ¬ hi < v.toInt) (ho : offs[(v.toInt - lo).toNat]? = some off) (ht : (pc : Int) + off = (tgt : Int))
    (k : W p l e R s m args below meth c H locs cells slots Q (F0 m tgt ls rest)) : W p l e R s m args below meth c H locs cells slots Q (F0 m pc ls (.int x :: rest)) := by
  rw [hv]
  exact lv_tableIn hC.1.1 hC.1.2.1 hdg h1 h2 ho ht k
end ZTB
