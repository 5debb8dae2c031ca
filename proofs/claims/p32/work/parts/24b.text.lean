/-! the class: its text, pure -/
def TR (sg : Sg) (t : Nat) (tx : Gs) (n : Nat) : Prop := sg t 2 = nI n ∧ n ≤ 120 ∧ (∀ i, i < n → sg (t + 1) i = tx i) ∧ ∀ i, i < n → inI (tx i) 0 255
theorem TR.fr {sg sg' : Sg} {t : Nat} {tx : Gs} {n : Nat} (h : TR sg t tx n) (e1 : sg' t 2 = sg t 2) (e2 : sg' (t + 1) = sg (t + 1)) : TR sg' t tx n := ⟨e1.trans h.1, h.2.1, fun i hi => by rw [e2]; exact h.2.2.1 i hi, h.2.2.2⟩
/-! the forms of the commands -/
def kx (a : Int32) : Nat := if a = 108 then 3 else if a = 98 then 4 else if a = 107 then 5 else if a = 118 then 6 else if a = 109 then 7 else 8
