/-! the reference's face: how a call of it ends: with the code K (0: it answers R and leaves G) -/
def F_begins (g : Gs) : Gs := upd (upd (upd (upd (cpy (fun _ => 0) g 140) 0 10) 1 3) 2 60) 3 12
def K_about (a : Int32) : Int32 := if inn a 0 9 then 0 else 1
def K_lightOf (g : Gs) (a b : Int32) : Int32 := if inn a 0 (g 4 - 1) then (if inn b 0 8 then 0 else 2) else 1
def R_lightOf (g : Gs) (a b : Int32) : Int32 := if b < 7 then gL g a b else if b = 7 then F_servedN g a (tn (g 5)) else gL g a 7
def K_boatOf (g : Gs) (a b : Int32) : Int32 := if inn a 0 (g 5 - 1) then (if inn b 0 8 then 0 else 2) else 1
def R_boatOf (g : Gs) (a b : Int32) : Int32 := gB g a b - b01 (b = 2 ∨ b = 4 ∨ b = 6)
def K_bestAt (a b : Int32) : Int32 := if inn a 0 199 then (if inn b 0 1 then 0 else 2) else 1
def R_bestAt (g : Gs) (a b : Int32) : Int32 := if b = 0 then F_best g a else if F_best g a = -1 then 0 else F_worth g (F_best g a) a
def K_setting (a : Int32) : Int32 := if inn a 0 3 then 0 else 1
def csv (c : Nat) : Nat := if c = 14 then 13 else c
def F_sv (sv g : Nat → Int32) (c : Nat) : Nat → Int32 := fb_put (if c = 14 then cpy (fun z => sv (z + 140)) sv 1820 else sv) g (140 * csv c) 140
def G_saves (sg : Sg) (mo c : Nat) : Sg := ups (upr sg (mo + 3) (F_sv (sg (mo + 3)) (sg (mo + 1)) c)) mo 4 (nI (csv c + 1))
def K_light (g : Gs) (q st k n bo re : Int32) : Int32 := if inn q 0 199 then (if cLamp st k n bo re then (if g 4 = 6 then 3 else 0) else 2) else 1
def K_boat (g : Gs) (q v : Int32) : Int32 := if inn q 0 199 then (if inn v (-6) 6 then (if g 5 = 8 then 3 else 0) else 2) else 1
def K_steer (g : Gs) (b v : Int32) : Int32 := if inn b 0 (g 5 - 1) then (if inn v (-6) 6 then 0 else 2) else 1
def K_talk (g : Gs) (b v : Int32) : Int32 := if inn b 0 (g 5 - 1) then (if inn v 1 99 then (if 0 < gB g b 2 then 0 else 3) else 2) else 1
def K_lean (g : Gs) (a v : Int32) : Int32 := if inn a 0 (g 4 - 1) then (if inn v (-30) 30 then 0 else 2) else 1
def K_dim (g : Gs) (a v : Int32) : Int32 := if inn a 0 (g 4 - 1) then (if inn v 10 99 then 0 else 2) else 1
def K_set (a v : Int32) : Int32 := if cSet a v then 0 else 1
def K_ticks (a : Int32) : Int32 := if inn a 1 60 then 0 else 1
def K_undo (c : Nat) : Int32 := if c = 0 then 1 else 0
def K_slot (a : Int32) : Int32 := if inn a 0 1 then 0 else 1
