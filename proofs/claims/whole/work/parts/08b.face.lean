/-! the reference's face: how a call of it ends: with the code K (0: it answers R and leaves G) -/
def fM (mo : Nat) (sg : Sg) (K R : Int32) (G : Sg) : Option VV → Sg → Prop := fun r g' => if K = 0 then r = some (vI R) ∧ g' = ups G mo 0 0 else r = some (vI 0) ∧ g' = ups sg mo 0 K
theorem fM_ok {mo : Nat} {sg g' G : Sg} {K R r : Int32} (hK : K = 0) (hr : r = R) (hg : g' = ups G mo 0 0) : fM mo sg K R G (some (vI r)) g' := by
  unfold fM
  rw [if_pos hK, hr]
  exact ⟨by with_reducible rfl, hg⟩
theorem fM_no {mo : Nat} {sg g' G : Sg} {K R : Int32} (k : Int32) (hK : K = k) (hk : ¬ k = 0) (hg : g' = ups sg mo 0 k) : fM mo sg K R G (some (vI 0)) g' := by
  unfold fM
  rw [if_neg (by rw [hK]; exact hk), hK]
  exact ⟨by with_reducible rfl, hg⟩
theorem upd_upd (f : Nat → Int32) (k : Nat) (x y : Int32) : upd (upd f k x) k y = upd f k y := by
  funext j
  unfold upd
  split <;> rfl
theorem ups_ups (sg : Sg) (k j : Nat) (x y : Int32) : ups (ups sg k j x) k j y = ups sg k j y := by
  unfold ups
  rw [upr_at, upr_upr, upd_upd]
theorem ups_upr (sg : Sg) {k k' : Nat} (j : Nat) (x : Int32) (r : Nat → Int32) (h : k' ≠ k) : ups (upr sg k r) k' j x = upr (ups sg k' j x) k r := by
  unfold ups
  rw [upr_ne _ _ h, upr_comm _ _ _ (Ne.symm h)]
def F_begins (g : Gs) : Gs := upd (upd (upd (upd (cpy (fun _ => 0) g 140) 0 10) 1 3) 2 60) 3 12
def K_about (a : Int32) : Int32 := if inn a 0 9 then 0 else 1
def K_lightOf (g : Gs) (a b : Int32) : Int32 := if inn a 0 (g 4 - 1) then (if inn b 0 8 then 0 else 2) else 1
def R_lightOf (g : Gs) (a b : Int32) : Int32 := if b < 7 then gL g a b else if b = 7 then F_servedN g a (tn (g 5)) else gL g a 7
def K_boatOf (g : Gs) (a b : Int32) : Int32 := if inn a 0 (g 5 - 1) then (if inn b 0 8 then 0 else 2) else 1
def R_boatOf (g : Gs) (a b : Int32) : Int32 := gB g a b - b01 (b = 2 ∨ b = 4 ∨ b = 6)
def K_brightness (g : Gs) (a b : Int32) : Int32 := if inn a 0 (g 4 - 1) ∧ inn b 0 199 then 0 else 1
def K_bestAt (a b : Int32) : Int32 := if inn a 0 199 then (if inn b 0 1 then 0 else 2) else 1
def R_bestAt (g : Gs) (a b : Int32) : Int32 := if b = 0 then F_best g a else if F_best g a = -1 then 0 else F_worth g (F_best g a) a
def K_setting (a : Int32) : Int32 := if inn a 0 3 then 0 else 1
def csv (c : Nat) : Nat := if c = 14 then 13 else c
theorem csv_le {c : Nat} (h : c ≤ 14) : csv c ≤ 13 := by unfold csv; split <;> omega
def F_sv (sv g : Nat → Int32) (c : Nat) : Nat → Int32 := fb_put (if c = 14 then cpy (fun z => sv (z + 140)) sv 1820 else sv) g (140 * csv c) 140
def G_saves (sg : Sg) (mo c : Nat) : Sg := ups (upr sg (mo + 3) (F_sv (sg (mo + 3)) (sg (mo + 1)) c)) mo 4 (nI (csv c + 1))
theorem upd_comm (f : Nat → Int32) {k j : Nat} (x y : Int32) (h : k ≠ j) : upd (upd f k x) j y = upd (upd f j y) k x := by
  funext i
  unfold upd
  by_cases h1 : i = j
  · subst h1
    rw [if_pos rfl, if_neg (Ne.symm h), if_pos rfl]
  · rw [if_neg h1]
    split <;> rfl
theorem ups_comm (sg : Sg) (k : Nat) {i j : Nat} (x y : Int32) (h : i ≠ j) : ups (ups sg k i x) k j y = ups (ups sg k j y) k i x := by
  unfold ups
  rw [upr_at, upr_upr, upr_at, upr_upr, upd_comm _ _ _ h]
theorem saves_thr (sg : Sg) (mo c : Nat) (x : Int32) : G_saves (ups sg mo 0 x) mo c = ups (G_saves sg mo c) mo 0 x := by
  unfold G_saves
  rw [ups_ne sg 0 x (show mo + 3 ≠ mo by omega), ups_ne sg 0 x (show mo + 1 ≠ mo by omega), ← ups_upr sg (k := mo + 3) (k' := mo) 0 x _ (by omega), ups_comm _ _ _ _ (by decide : (0 : Nat) ≠ 4)]
theorem saves_1 (sg : Sg) (mo c : Nat) : G_saves sg mo c (mo + 1) = sg (mo + 1) := by
  unfold G_saves
  rw [ups_ne _ _ _ (by omega), upr_ne _ _ (by omega)]
def K_light (g : Gs) (q st k n bo re : Int32) : Int32 := if inn q 0 199 then (if cLamp st k n bo re then (if g 4 = 6 then 3 else 0) else 2) else 1
def K_boat (g : Gs) (q v : Int32) : Int32 := if inn q 0 199 then (if inn v (-6) 6 then (if g 5 = 8 then 3 else 0) else 2) else 1
def K_steer (g : Gs) (b v : Int32) : Int32 := if inn b 0 (g 5 - 1) then (if inn v (-6) 6 then 0 else 2) else 1
def K_talk (g : Gs) (b v : Int32) : Int32 := if inn b 0 (g 5 - 1) then (if inn v 1 99 then (if 0 < gB g b 2 then 0 else 3) else 2) else 1
def K_lean (g : Gs) (a v : Int32) : Int32 := if inn a 0 (g 4 - 1) then (if inn v (-30) 30 then 0 else 2) else 1
def K_dim (g : Gs) (a v : Int32) : Int32 := if inn a 0 (g 4 - 1) then (if inn v 10 99 then 0 else 2) else 1
def K_set (a v : Int32) : Int32 := if cSet a v then 0 else 1
def K_ticks (a : Int32) : Int32 := if inn a 1 60 then 0 else 1
def K_undo (c : Nat) : Int32 := if c = 0 then 1 else 0
def G_undo (sg : Sg) (mo c : Nat) : Sg := ups (upr sg (mo + 1) (cpy (fun z => sg (mo + 3) (140 * (c - 1) + z)) (sg (mo + 1)) 140)) mo 4 (nI (c - 1))
def K_slot (a : Int32) : Int32 := if inn a 0 1 then 0 else 1
def G_save (sg : Sg) (mo a : Nat) : Sg := upr (upr sg (mo + 4) (fb_put (sg (mo + 4)) (sg (mo + 1)) (140 * a) 140)) (mo + 5) (upd (sg (mo + 5)) a 1)
def K_restore (sg : Sg) (mo : Nat) (a : Int32) : Int32 := if inn a 0 1 then (if sg (mo + 5) (tn a) = 0 then 2 else 0) else 1
def G_restore (sg : Sg) (mo a : Nat) : Sg := ups (upr sg (mo + 1) (cpy (fun z => sg (mo + 4) (140 * a + z)) (sg (mo + 1)) 140)) mo 4 0
theorem nlt6 {x : Int32} (h : 0 ≤ x.toInt ∧ x.toInt ≤ 6) (hn : ¬ x = 6) : vp_in x 6 := vp_lt h.1 (by
  rcases Int.lt_or_eq_of_le h.2 with z | z
  · exact z
  · exact absurd (Int32.toInt_inj.mp z) hn)
theorem nlt8 {x : Int32} (h : 0 ≤ x.toInt ∧ x.toInt ≤ 8) (hn : ¬ x = 8) : vp_in x 8 := vp_lt h.1 (by
  rcases Int.lt_or_eq_of_le h.2 with z | z
  · exact z
  · exact absurd (Int32.toInt_inj.mp z) hn)
theorem ix_in {a c i N : Nat} (h : a * c + i < N) (hN : N < 2 ^ 31) {A C : Int32} (hA : A = nI a) (hC : C = nI c) : vp_in (A * C + nI i) N := by
  rw [hA, hC, pk_mul, nI_add]
  exact vp_in_nI h hN
theorem ix_eq {a c i : Nat} (h : a * c + i < 2 ^ 31) {A C : Int32} (hA : A = nI a) (hC : C = nI c) : (A * C + nI i).toNatClampNeg = a * c + i := by
  rw [hA, hC, pk_mul, nI_add]
  exact nI_clamp h
