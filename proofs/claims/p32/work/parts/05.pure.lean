/-! the reference's state, as its row of 140 ints, and what its methods do to it: pure -/
def b01 (c : Prop) [Decidable c] : Int32 := if c then 1 else 0
theorem b01_t {c : Prop} [Decidable c] (h : c) : b01 c = 1 := if_pos h
theorem b01_f {c : Prop} [Decidable c] (h : ¬ c) : b01 c = 0 := if_neg h
theorem b01e {c : Prop} [Decidable c] : b01 c = 0 ↔ ¬ c := by unfold b01; split <;> simp_all
theorem b01n {c : Prop} [Decidable c] : ¬ b01 c = 0 ↔ c := by unfold b01; split <;> simp_all
theorem b01i {c : Prop} [Decidable c] : b01 c = 1 ↔ c := by unfold b01; split <;> simp_all
theorem b01_z (c : Prop) [Decidable c] : b01 c = 0 ∨ b01 c = 1 := by unfold b01; split <;> simp
abbrev tn (x : Int32) : Nat := x.toNatClampNeg
abbrev rm (x y : Int32) : Int32 := x - x / y * y
abbrev Gs : Type := Nat → Int32
def gL (g : Gs) (l j : Int32) : Int32 := g (tn (12 + 8 * l + j))
def gB (g : Gs) (b j : Int32) : Int32 := g (tn (60 + 10 * b + j))
def pB (g : Gs) (b j v : Int32) : Gs := upd g (tn (60 + 10 * b + j)) v
abbrev inn (v a b : Int32) : Prop := a ≤ v ∧ v ≤ b
def F_bright (g : Gs) (l p : Int32) : Int32 :=
  if gL g l 2 = 1 then (if rm (g 6 / gL g l 3) 2 = 1 then gL g l 1 * 100 / (10 + (if p - gL g l 0 < 0 then -(p - gL g l 0) else p - gL g l 0)) / 2 else gL g l 1 * 100 / (10 + (if p - gL g l 0 < 0 then -(p - gL g l 0) else p - gL g l 0)))
  else if gL g l 2 = 2 ∧ (if rm (gL g l 3) 2 = 1 then p - gL g l 0 < 0 else 0 < p - gL g l 0) then 0 else gL g l 1 * 100 / (10 + (if p - gL g l 0 < 0 then -(p - gL g l 0) else p - gL g l 0))
def F_worth (g : Gs) (l p : Int32) : Int32 := F_bright g l p + gL g l 6
def F_servesN (g : Gs) (l : Int32) : Nat → Int32
  | 0 => 0
  | n + 1 => F_servesN g l n + b01 (gB g (nI n) 2 = l + 1)
def F_serves (g : Gs) (l : Int32) : Int32 := F_servesN g l (tn (g 5))
def F_bestN (g : Gs) (p : Int32) : Nat → Int32
  | 0 => -1
  | n + 1 => if F_bestN g p n = -1 ∨ F_worth g (F_bestN g p n) p < F_worth g (nI n) p then nI n else F_bestN g p n
def F_best (g : Gs) (p : Int32) : Int32 := F_bestN g p (tn (g 4))
def F_sails (g : Gs) (b : Int32) : Gs := if inn (gB g b 0 + gB g b 1) 0 199 then pB g b 0 (gB g b 0 + gB g b 1) else pB g b 1 (-(gB g b 1))
def F_dropsA (g : Gs) (b : Int32) : Gs := pB (pB (pB g b 2 0) b 4 0) b 5 0
def F_drops (g : Gs) (b : Int32) : Gs := pB (upd (F_dropsA g b) 10 (F_dropsA g b 10 + b01 (0 < gB (F_dropsA g b) b 3))) b 3 0
def F_wishedN (g : Gs) (b : Int32) : Nat → Int32
  | 0 => -1
  | n + 1 => if (¬ nI n = gB g b 2 - 1 ∧ F_worth g (gB g b 2 - 1) (gB g b 0) + g 0 ≤ F_worth g (nI n) (gB g b 0)) ∧ (F_wishedN g b n = -1 ∨ F_worth g (F_wishedN g b n) (gB g b 0) < F_worth g (nI n) (gB g b 0)) then nI n else F_wishedN g b n
def F_wished (g : Gs) (b : Int32) : Int32 := F_wishedN g b (tn (g 4))
def F_findsN (g : Gs) (b : Int32) : Nat → Int32
  | 0 => -1
  | n + 1 => if (g 2 ≤ F_bright g (nI n) (gB g b 0) ∧ F_serves g (nI n) < gL g (nI n) 4 - gL g (nI n) 5) ∧ (F_findsN g b n = -1 ∨ F_worth g (F_findsN g b n) (gB g b 0) < F_worth g (nI n) (gB g b 0)) then nI n else F_findsN g b n
def F_finds (g : Gs) (b : Int32) : Gs :=
  let f := F_findsN g b (tn (g 4))
  let g1 := pB g b 2 (f + 1)
  upd g1 11 (g1 11 + (if f = -1 then 0 else 1))
def F_isBack (g : Gs) (b to : Int32) : Int32 := b01 (gB g b 6 = to + 1 ∧ g 6 - gB g b 9 ≤ g 3)
def F_handsA (g : Gs) (b to : Int32) : Gs := pB (pB (pB (pB g b 2 (to + 1)) b 4 0) b 5 0) b 6 (gB g b 2)
def F_handsB (g : Gs) (b : Int32) : Gs := pB g b 9 (g 6)
def F_inc (g : Gs) (j : Nat) (x : Int32) : Gs := upd g j (g j + x)
def F_hands (g : Gs) (b to : Int32) : Gs :=
  F_inc (F_inc (F_inc (F_inc (F_inc (F_handsB (F_handsA g b to) b) (tn (60 + 10 * b + 7)) 1) (tn (60 + 10 * b + 8)) (F_isBack g b to)) (tn (12 + 8 * to + 7)) 1) 7 1) 8 (F_isBack g b to)
def F_wticks (g : Gs) (b wi : Int32) : Int32 := if wi = -1 then 0 else if wi + 1 = gB g b 4 then gB g b 5 + 1 else 1
def F_wishA (g : Gs) (b : Int32) : Gs := pB (pB g b 4 (F_wished g b + 1)) b 5 (F_wticks g b (F_wished g b))
def F_wishes (g : Gs) (b : Int32) : Gs :=
  if F_wished g b = -1 ∨ F_wticks g b (F_wished g b) < F_wishA g b 1 then F_wishA g b
  else if F_serves (F_wishA g b) (F_wished g b) = gL (F_wishA g b) (F_wished g b) 4 then F_inc (F_wishA g b) 9 1
  else F_hands (F_wishA g b) b (F_wished g b)
def F_onA (g : Gs) (b : Int32) : Gs :=
  if ¬ gB g b 2 - 1 = -1 ∧ F_bright g (gB g b 2 - 1) (gB g b 0) < g 2 then F_drops g b else if ¬ gB g b 2 - 1 = -1 then F_wishes g b else g
def F_onB (g : Gs) (b : Int32) : Gs := if gB g b 2 = 0 then F_finds g b else g
def F_onC (g : Gs) (b : Int32) : Gs := pB g b 3 (if 0 < gB g b 3 then gB g b 3 - 1 else 0)
def F_goesOn (g : Gs) (b : Int32) : Gs := F_onC (F_onB (F_onA (F_sails g b) b) b) b
def F_tickN (g : Gs) : Nat → Gs
  | 0 => F_inc g 6 1
  | n + 1 => F_goesOn (F_tickN g n) (nI n)
def F_tick (g : Gs) : Gs := F_tickN g (tn (g 5))
def F_ticks (g : Gs) : Nat → Gs
  | 0 => g
  | n + 1 => F_tick (F_ticks g n)

