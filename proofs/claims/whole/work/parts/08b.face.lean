/-! the reference's face: how a call of it ends: with the code K (0: it answers R and leaves G) -/
def fM (mo : Nat) (sg : Sg) (K R : Int32) (G : Sg) : Option VV → Sg → Prop := fun r g' => if K = 0 then r = some (vI R) ∧ g' = ups G mo 0 0 else r = some (vI 0) ∧ g' = ups sg mo 0 K
theorem fM_ok {mo : Nat} {sg g' G : Sg} {K R r : Int32} (hK : K = 0) (hr : r = R) (hg : g' = ups G mo 0 0) : fM mo sg K R G (some (vI r)) g' := by
  unfold fM
  rw [if_pos hK, hr]
  exact ⟨by with_reducible rfl, hg⟩
theorem fM_no {mo : Nat} {sg g' G : Sg} {K R : Int32} (k : Int32) (hK : K = k) (hk : ¬ k = 0) (hg : g' = ups sg mo 0 k) : fM mo sg K R G (some (vI 0)) g' := by
  unfold fM
  rw [if_neg (by rw [hK]; exact hk), hK]
  exact ⟨by with_reducible rfl, hg⟩
theorem upd_upd (f : Nat → Int32) (k : Nat) (x y : Int32) : upd (upd f k x) k y = upd f k y := by
  funext j
  unfold upd
  split <;> rfl
theorem ups_ups (sg : Sg) (k j : Nat) (x y : Int32) : ups (ups sg k j x) k j y = ups sg k j y := by
  unfold ups
  rw [upr_at, upr_upr, upd_upd]
theorem ups_upr (sg : Sg) {k k' : Nat} (j : Nat) (x : Int32) (r : Nat → Int32) (h : k' ≠ k) : ups (upr sg k r) k' j x = upr (ups sg k' j x) k r := by
  unfold ups
  rw [upr_ne _ _ h, upr_comm _ _ _ (Ne.symm h)]
def F_begins (g : Gs) : Gs := upd (upd (upd (upd (cpy (fun _ => 0) g 140) 0 10) 1 3) 2 60) 3 12
def K_about (a : Int32) : Int32 := if inn a 0 9 then 0 else 1
def K_lightOf (g : Gs) (a b : Int32) : Int32 := if inn a 0 (g 4 - 1) then (if inn b 0 8 then 0 else 2) else 1
def R_lightOf (g : Gs) (a b : Int32) : Int32 := if b < 7 then gL g a b else if b = 7 then F_servedN g a (tn (g 5)) else gL g a 7
def K_boatOf (g : Gs) (a b : Int32) : Int32 := if inn a 0 (g 5 - 1) then (if inn b 0 8 then 0 else 2) else 1
def R_boatOf (g : Gs) (a b : Int32) : Int32 := gB g a b - b01 (b = 2 ∨ b = 4 ∨ b = 6)
def K_brightness (g : Gs) (a b : Int32) : Int32 := if inn a 0 (g 4 - 1) ∧ inn b 0 199 then 0 else 1
def K_bestAt (a b : Int32) : Int32 := if inn a 0 199 then (if inn b 0 1 then 0 else 2) else 1
def R_bestAt (g : Gs) (a b : Int32) : Int32 := if b = 0 then F_best g a else if F_best g a = -1 then 0 else F_worth g (F_best g a) a
def K_setting (a : Int32) : Int32 := if inn a 0 3 then 0 else 1
