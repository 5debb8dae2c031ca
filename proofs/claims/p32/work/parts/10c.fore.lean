/-! the reference: forecasts, scripts, simulations: pure -/
theorem lo140 {z : Nat} (h : 140 ≤ z) : lo z := Or.inr (Or.inr h)
def F_lit (g : Gs) (q : Int32) : Nat → Int32
  | 0 => 0
  | n + 1 => if F_lit g q n = 0 ∧ F_bright g (nI n) q < g 2 then 0 else 1
def F_dark (g : Gs) : Nat → Int32
  | 0 => 0
  | n + 1 => F_dark g n + (if F_lit g (nI n) (tn (g 4)) = 0 then 1 else 0)
def F_room (g : Gs) : Nat → Int32
  | 0 => 0
  | n + 1 => F_room g n + (gL g (nI n) 4 - F_serves g (nI n))
/-- whether the place i + 1 has another best one than i -/
def F_bd (g : Gs) (i : Nat) : Int32 := b01 (¬ F_best g (nI (i + 1)) = F_best g (nI i))
def F_left (g : Gs) (k : Int32) : Nat → Int32
  | 0 => k
  | i + 1 => F_left g k i - F_bd g i
def F_bdp (g : Gs) (k : Int32) (i : Nat) : Bool := decide (¬ F_bd g i = 0 ∧ F_left g k i = 0)
def R_border (g : Gs) (k : Int32) : Int32 := if fa_first (F_bdp g k) 199 < 199 then nI (fa_first (F_bdp g k) 199 + 1) else -1
def K_border (k : Int32) : Int32 := if k < 0 then 1 else 0
def F_held (v : Int32) : Int32 := if 99 < v then 99 else v
/-- a turn: q, and which -/
def F_turnC (g : Gs) (q : Int32) (k : Nat) : Gs :=
  if k < 2 then (if cLight g (rm q 200) (10 + rm (q / 256) 90) (rm q 3) (1 + rm (q / 8) 20) (1 + rm q 6) (rm (q / 32) 2) then F_addLight g (rm q 200) (10 + rm (q / 256) 90) (rm q 3) (1 + rm (q / 8) 20) (1 + rm q 6) (rm (q / 32) 2) else g)
  else if k < 4 then (if cBoat g (rm q 200) (rm (q / 256) 13 - 6) then F_addBoat g (rm q 200) (rm (q / 256) 13 - 6) else g)
  else if k < 5 then (if cSteer g (rm q 8) (rm (q / 8) 13 - 6) then pB g (rm q 8) 1 (rm (q / 8) 13 - 6) else g)
  else if k < 7 then (if cTalk g (rm q 8) (1 + rm (q / 8) 60) then pB g (rm q 8) 3 (1 + rm (q / 8) 60) else g)
  else if k < 8 then (if rm (q / 512) 2 = 0 then (if cLean g (rm q 6) (rm (q / 8) 61 - 30) then F_lean g (rm q 6) (rm (q / 8) 61 - 30) else g) else (if cDim g (rm q 6) (10 + rm (q / 8) 90) then F_dim g (rm q 6) (10 + rm (q / 8) 90) else g))
  else (if inn (1 + rm q 12) 1 60 then F_ticks g (tn (1 + rm q 12)) else g)
def F_turn (g : Gs) (r : Int32) : Gs := F_turnC g (r / 16) (tn (rm r 16))
theorem Inv_turn {g : Gs} (h : Inv g) (q : Int32) (k : Nat) : Inv (F_turnC g q k) := by
  unfold F_turnC
  repeat' split
  · exact Inv_addLight h (by assumption)
  · exact h
  · exact Inv_addBoat h (by assumption)
  · exact h
  · exact Inv_steer h (by assumption)
  · exact h
  · exact Inv_talk h (by assumption)
  · exact h
  · exact Inv_lean h (by assumption)
  · exact h
  · exact Inv_dim h (by assumption)
  · exact h
  · exact (Inv_ticks h _).1
  · exact h
theorem addLight_hi {g : Gs} (h : Inv g) {q st k n bo re : Int32} (hc : cLight g q st k n bo re) {z : Nat} (hz : 140 ≤ z) : F_addLight g q st k n bo re z = g z := by
  obtain ⟨c1, -, c7⟩ := hc
  have e4 := h.c4
  have c7 := Int32.lt_iff_toInt_lt.mp c7
  have z6 : (6 : Int32).toInt = 6 := rfl
  have ei := e4int h
  have hN : tn (g 4) < 6 := by omega
  unfold F_addLight
  rw [inc_at (by omega), e4.2, tnL_0 hN, tnL_1 hN, tnL_2 hN, tnL_3 hN, tnL_4 hN, tnL_5 hN, pk_un (by omega), pk_un (by omega), pk_un (by omega), pk_un (by omega), pk_un (by omega), pk_un (by omega)]
theorem addBoat_hi {g : Gs} (h : Inv g) {q v : Int32} (hc : cBoat g q v) {z : Nat} (hz : 140 ≤ z) : F_addBoat g q v z = g z := by
  obtain ⟨c1, c2, c7⟩ := hc
  have e5 := h.c5
  have c7 := Int32.lt_iff_toInt_lt.mp c7
  have z8 : (8 : Int32).toInt = 8 := rfl
  have ei : (tn (g 5) : Int) = (g 5).toInt := by rw [e5.2, nI_toInt (by omega), show tn (nI (tn (g 5))) = tn (g 5) from nI_clamp (by omega)]
  have hN : tn (g 5) < 8 := by omega
  unfold F_addBoat
  rw [inc_at (by omega), e5.2, pB_0 _ _ hN, pB_1 _ _ hN, pk_un (by omega), pk_un (by omega)]
theorem turn_hi {g : Gs} (h : Inv g) (q : Int32) (k : Nat) {z : Nat} (hz : 140 ≤ z) : F_turnC g q k z = g z := by
  have h5 := h.c5.1
  have h4 := h.c4.1
  unfold F_turnC
  repeat' split
  · exact addLight_hi h (by assumption) hz
  · rfl
  · exact addBoat_hi h (by assumption) hz
  · rfl
  · rename_i hc
    obtain ⟨n, hn, e⟩ := in_B h.hc5 hc.1
    rw [e, pB_1 _ _ (by omega)]; exact pk_un (by omega)
  · rfl
  · rename_i hc
    obtain ⟨n, hn, e⟩ := in_B h.hc5 hc.1
    rw [e, pB_3 _ _ (by omega)]; exact pk_un (by omega)
  · rfl
  · rename_i hc
    obtain ⟨n, hn, e⟩ := in_L h.hc4 hc.1
    unfold F_lean
    rw [e, tnL_6 (by omega)]; exact pk_un (by omega)
  · rfl
  · rename_i hc
    obtain ⟨n, hn, e⟩ := in_L h.hc4 hc.1
    unfold F_dim
    rw [e, tnL_1 (by omega)]; exact pk_un (by omega)
  · rfl
  · exact (Inv_ticks h _).2 z (lo140 hz)
  · rfl
def F_simX (x : Int64) : Nat → Int64
  | 0 => x
  | i + 1 => F_simX x i * 6364136223846793005 + 1442695040888963407
def F_simR (x : Int64) : Int32 := ((x.toUInt64 >>> ((33 : Int32).toInt64.toUInt64 &&& Int64.toUInt64 63)).toInt64).toInt32
def F_simG (g : Gs) (x : Int64) : Nat → Gs
  | 0 => g
  | i + 1 => F_turn (F_simG g x i) (F_simR (F_simX x (i + 1)))
theorem Inv_simG {g : Gs} (h : Inv g) (x : Int64) : ∀ n, Inv (F_simG g x n) ∧ ∀ z, 140 ≤ z → F_simG g x n z = g z
  | 0 => ⟨h, fun _ _ => rfl⟩
  | n + 1 => by
    obtain ⟨h1, h2⟩ := Inv_simG h x n
    exact ⟨Inv_turn h1 _ _, fun z hz => (turn_hi h1 _ _ hz).trans (h2 z hz)⟩
def K_simulate (m : Int32) : Int32 := if inn m 1 60 then 0 else 1
def R_simulate (g : Gs) (x : Int64) (N : Nat) : Int32 := 10000 * (F_simG g x N 7 - g 7) + 100 * F_held (F_simG g x N 8 - g 8) + F_held (F_simG g x N 10 - g 10)
/-- 0 .. 15 out of what is not negative -/
theorem rm16 {r : Int32} (h : 0 ≤ r.toInt) : ∃ n, n < 16 ∧ rm r 16 = nI n := by
  obtain ⟨-, e⟩ := cnt_in (x := r) (n := 2147483647) h (by have := fb_rng r; omega)
  have hr := fb_rng r
  have hl : tn r < 2 ^ 31 := by
    have e2 : (tn r : Int) = r.toInt ∨ 2 ^ 31 ≤ tn r := by
      by_cases q : tn r < 2 ^ 31
      · left
        have := nI_toInt q
        rw [← e] at this
        exact this.symm
      · right; omega
    rcases e2 with q | q
    · omega
    · have := (cnt_in (x := r) (n := 2147483647) h (by omega)).1
      omega
  refine ⟨tn r % 16, Nat.mod_lt _ (by decide), ?_⟩
  have := pk_rem (a := tn r) (d := 16) hl (by decide) (by decide)
  rw [← e] at this
  exact this
theorem simR_pos (x : Int64) : 0 ≤ (F_simR x).toInt := by
  obtain ⟨n, hn, rfl⟩ := wb_of x
  unfold F_simR
  rw [show (33 : Int32) = nI 33 from rfl, wb_shr hn (by decide), lN_i]
  have : n / 2 ^ 33 < 2 ^ 31 := by omega
  rw [nI_toInt this]
  omega
theorem first_dec (p : Nat → Bool) (n : Nat) : fa_first p n = n ∨ (fa_first p n < n ∧ p (fa_first p n) = true) := by
  rcases Nat.lt_or_ge (fa_first p n) n with h | h
  · exact Or.inr ⟨h, fa_first_yes p n h⟩
  · exact Or.inl (Nat.le_antisymm (fa_first_le p n) h)

