/-! the reference: rows copied, actions -/
def cpy (f g : Nat → Int32) (n : Nat) : Nat → Int32 := fun z => if z < n then f z else g z
theorem cpy_0 (f g : Nat → Int32) : cpy f g 0 = g := by funext z; simp [cpy]
theorem cpy_s (f g : Nat → Int32) (n : Nat) : upd (cpy f g n) n (f n) = cpy f g (n + 1) := by
  funext z
  unfold cpy upd
  by_cases h : z = n
  · subst h; simp
  · rw [if_neg h]
    by_cases h2 : z < n
    · show (if z < n then f z else g z) = _
      rw [if_pos h2, if_pos (by omega)]
    · show (if z < n then f z else g z) = _
      rw [if_neg h2, if_neg (by omega)]
theorem nI_lit {x : Int32} {n : Nat} (h : x = nI n) : nI n ≤ x := by rw [h]; exact Int32.le_refl _
def F_thatN (g : Gs) (what : Int32) : Nat → Int32
  | 0 => 0
  | n + 1 => F_thatN g what n + b01 (0 < gB g (nI n) (if what = 0 then 2 else 3))
def F_servedN (g : Gs) (a : Int32) : Nat → Int32
  | 0 => 0
  | n + 1 => F_servedN g a n ||| (if gB g (nI n) 2 = a + 1 then 1 <<< (nI n &&& 31) else 0)
def F_tells (g : Gs) (what : Int32) : Int32 := if what < 3 then g (tn (4 + what)) else if what < 5 then F_thatN g (what - 3) (tn (g 5)) else g (tn (7 + what - 5))
