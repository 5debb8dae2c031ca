/-! the reference: reading the text -/
def fm (a : Int32) (i : Nat) : Nat × Int32 × Int32 :=
  if a = 108 then (match i with | 0 => (3, 0, 199) | 1 => (2, 10, 99) | 2 => (1, 0, 2) | 3 => (2, 1, 20) | 4 => (1, 1, 6) | _ => (1, 0, 6))
  else if a = 98 then (match i with | 0 => (3, 0, 199) | _ => (2, 0, 12))
  else if a = 107 then (match i with | 0 => (1, 0, 7) | _ => (2, 1, 99))
  else if a = 118 then (match i with | 0 => (1, 0, 7) | _ => (2, 0, 12))
  else if a = 109 then (3, 0, 100)
  else (2, 1, 60)
