/-! the law's wrappers: a long written, a table of handlers -/
def setL (w : Wd) (k j : Nat) (y : Int64) : Wd := (w.1, w.2.1, w.2.2.1, w.2.2.2.1, w.2.2.2.2.1, w.2.2.2.2.2.1, w.2.2.2.2.2.2.1, fun k' j' => if k' = k ∧ j' = j then y else w.2.2.2.2.2.2.2 k' j')
section FLATT
variable {p : Program} {l : Launch} {e : Env} {R : Room} {s : State} {m : MethodId} {args : Array Value} {below : List Frame} {meth : Method} {c : Code} {Q : State → Prop} {t : Mt} {w : Wd} {cs sl pc nx : Nat} {loc : List (Option VV)} {st : List VV} {sg : Sg} {hh : List (Nat × Nat × Nat × Nat)}
end FLATT

