/-! the reference's actions: pure -/
abbrev cLamp (st k n bo re : Int32) : Prop := (inn st 10 99 ∧ inn k 0 2 ∧ inn n 1 20) ∧ inn bo 1 6 ∧ inn re 0 bo
abbrev cLight (g : Gs) (q st k n bo re : Int32) : Prop := inn q 0 199 ∧ cLamp st k n bo re ∧ g 4 < 6
def F_addLight (g : Gs) (q st k n bo re : Int32) : Gs := F_inc (upd (upd (upd (upd (upd (upd g (tn (12 + 8 * g 4 + 0)) q) (tn (12 + 8 * g 4 + 1)) st) (tn (12 + 8 * g 4 + 2)) k) (tn (12 + 8 * g 4 + 3)) n) (tn (12 + 8 * g 4 + 4)) bo) (tn (12 + 8 * g 4 + 5)) re) 4 1
abbrev cBoat (g : Gs) (q v : Int32) : Prop := inn q 0 199 ∧ inn v (-6) 6 ∧ g 5 < 8
def F_addBoat (g : Gs) (q v : Int32) : Gs := F_inc (pB (pB g (g 5) 0 q) (g 5) 1 v) 5 1
abbrev cSteer (g : Gs) (b v : Int32) : Prop := inn b 0 (g 5 - 1) ∧ inn v (-6) 6
abbrev cTalk (g : Gs) (b n : Int32) : Prop := inn b 0 (g 5 - 1) ∧ inn n 1 99 ∧ 0 < gB g b 2
abbrev cLean (g : Gs) (a v : Int32) : Prop := inn a 0 (g 4 - 1) ∧ inn v (-30) 30
abbrev cDim (g : Gs) (a v : Int32) : Prop := inn a 0 (g 4 - 1) ∧ inn v 10 99
def F_lean (g : Gs) (a v : Int32) : Gs := upd g (tn (12 + 8 * a + 6)) v
def F_dim (g : Gs) (a v : Int32) : Gs := upd g (tn (12 + 8 * a + 1)) v
def F_most (what : Int32) : Int32 := if what = 0 then 100 else if what = 1 then 10 else if what = 2 then 300 else 50
abbrev cSet (what v : Int32) : Prop := inn what 0 3 ∧ inn v (b01 (what = 1 ∨ what = 2)) (F_most what)
theorem in_L {x a : Int32} (hx : 0 ≤ x.toInt ∧ x.toInt ≤ 6) (h : inn a 0 (x - 1)) : ∃ n, n < tn x ∧ a = nI n := by
  obtain ⟨h1, h2⟩ := cnt_in (n := 6) hx.1 hx.2
  have h3 := Int32.le_iff_toInt_le.mp h.1
  have h4 := Int32.le_iff_toInt_le.mp h.2
  have z1 : (1 : Int32).toInt = 1 := rfl
  have z0 : (0 : Int32).toInt = 0 := rfl
  rw [fb_subI (by omega) (by omega)] at h4
  obtain ⟨h5, h6⟩ := cnt_in (x := a) (n := 6) (by omega) (by omega)
  refine ⟨tn a, ?_, h6⟩
  have e1 : (tn x : Int) = x.toInt := by rw [h2, nI_toInt (by omega), show tn (nI (tn x)) = tn x from nI_clamp (by omega)]
  have e2 : (tn a : Int) = a.toInt := by rw [h6, nI_toInt (by omega), show tn (nI (tn a)) = tn a from nI_clamp (by omega)]
  omega
theorem in_B {x a : Int32} (hx : 0 ≤ x.toInt ∧ x.toInt ≤ 8) (h : inn a 0 (x - 1)) : ∃ n, n < tn x ∧ a = nI n := by
  obtain ⟨h1, h2⟩ := cnt_in (n := 8) hx.1 hx.2
  have h3 := Int32.le_iff_toInt_le.mp h.1
  have h4 := Int32.le_iff_toInt_le.mp h.2
  have z1 : (1 : Int32).toInt = 1 := rfl
  have z0 : (0 : Int32).toInt = 0 := rfl
  rw [fb_subI (by omega) (by omega)] at h4
  obtain ⟨h5, h6⟩ := cnt_in (x := a) (n := 8) (by omega) (by omega)
  refine ⟨tn a, ?_, h6⟩
  have e1 : (tn x : Int) = x.toInt := by rw [h2, nI_toInt (by omega), show tn (nI (tn x)) = tn x from nI_clamp (by omega)]
  have e2 : (tn a : Int) = a.toInt := by rw [h6, nI_toInt (by omega), show tn (nI (tn a)) = tn a from nI_clamp (by omega)]
  omega
theorem vp_lt {x : Int32} {n : Nat} (h0 : 0 ≤ x.toInt) (h : x.toInt < n) : vp_in x n := vp_in_iff.mpr ⟨h0, h⟩
theorem inn_vp {x : Int32} {m : Nat} {M : Int32} (hM : M.toInt < m) (h : inn x 0 M) : vp_in x m := by
  have h3 := Int32.le_iff_toInt_le.mp h.1
  have h4 := Int32.le_iff_toInt_le.mp h.2
  have z0 : (0 : Int32).toInt = 0 := rfl
  exact vp_lt (by omega) (by omega)

