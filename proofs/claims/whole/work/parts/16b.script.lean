/-! the reference: what a script's command does, pure -/
theorem hands_7 {g : Gs} {n to : Nat} (h8 : n < 8) (h6 : to < 6) : F_hands g (nI n) (nI to) 7 = g 7 + 1 := by
  have e : F_inc (F_inc (F_inc (F_handsB (F_handsA g (nI n) (nI to)) (nI n)) (tn (60 + 10 * nI n + 7)) 1) (tn (60 + 10 * nI n + 8)) (F_isBack g (nI n) (nI to))) (tn (12 + 8 * nI to + 7)) 1 7 = g 7 := by
    rw [tnB_7 h8, tnB_8 h8, tnL_7 h6, inc_at (by omega), inc_at (by omega), inc_at (by omega)]
    unfold F_handsB F_handsA
    rw [gB_2 _ h8, pB_2 _ _ h8, pB_4 _ _ h8, pB_5 _ _ h8, pB_6 _ _ h8, pB_9 _ _ h8]
    rw [pk_un (by omega), pk_un (by omega), pk_un (by omega), pk_un (by omega), pk_un (by omega)]
  unfold F_hands
  rw [inc_at (by decide)]
  show upd _ 7 _ 7 = _
  rw [pk_us, e]
def up1 (x y : Int32) : Prop := x = y ∨ x = y + 1
theorem onA_7 {g : Gs} (h : Inv g) {n : Nat} (h8 : n < 8) : up1 (F_onA g (nI n) 7) (g 7) := by
  have h4 := h.c4.1
  unfold F_onA
  split
  · left
    unfold F_drops F_dropsA
    simp only [pB_2 _ _ h8, pB_4 _ _ h8, pB_5 _ _ h8, pB_3 _ _ h8]
    rw [pk_un (by omega), pk_un (by omega), pk_un (by omega), pk_un (by omega), pk_un (by omega)]
  · split
    · unfold F_wishes
      split
      · exact Or.inl (wishA_c h8 (by omega))
      · rename_i hz
        split
        · left
          rw [inc_at (by omega)]
          exact wishA_c h8 (by omega)
        · rcases F_wishedN_in g (nI n) (tn (g 4)) with e | ⟨j, hj, e⟩
          · exact absurd (Or.inl e) hz
          · have e : F_wished g (nI n) = nI j := e
            right
            rw [e, hands_7 h8 (by omega), wishA_c h8 (by omega)]
    · exact Or.inl rfl
theorem onB_7 {g : Gs} {n : Nat} (h8 : n < 8) : F_onB g (nI n) 7 = g 7 := by
  unfold F_onB
  split
  · show upd (pB g (nI n) 2 (F_findsN g (nI n) (tn (g 4)) + 1)) 11 _ 7 = g 7
    rw [pB_2 _ _ h8, pk_un (by omega), pk_un (by omega)]
  · rfl
theorem goesOn_7 {g : Gs} (h : Inv g) {n : Nat} (hn : n < tn (g 5)) : up1 (F_goesOn g (nI n) 7) (g 7) := by
  have h5 := h.c5.1
  have h8 : n < 8 := by omega
  have h1 := Inv_sails h hn
  unfold F_goesOn
  rw [onC_lo h8 (by omega), onB_7 h8]
  have := onA_7 h1 h8
  rw [sails_lo h8 (by omega)] at this
  exact this
theorem tickN_7 {g : Gs} (h : Inv g) : ∀ n, n ≤ tn (g 5) → ∃ k, k ≤ n ∧ F_tickN g n 7 = g 7 + nI k
  | 0, _ => ⟨0, Nat.le_refl _, by rw [F_tickN, inc_at (by decide)]; exact (Int32.add_zero _).symm⟩
  | n + 1, hn => by
    obtain ⟨k, h1, h2⟩ := tickN_7 h n (by omega)
    obtain ⟨h3, h4⟩ := Inv_tickN h n (by omega)
    rcases goesOn_7 h3 (n := n) (by rw [h4 5 lo5]; omega) with e | e
    · exact ⟨k, by omega, by rw [F_tickN, e, h2]⟩
    · exact ⟨k + 1, by omega, by rw [F_tickN, e, h2, Int32.add_assoc, nI_1]⟩
theorem ticks_7 {g : Gs} (h : Inv g) : ∀ n, ∃ k, k ≤ 8 * n ∧ F_ticks g n 7 = g 7 + nI k
  | 0 => ⟨0, Nat.le_refl _, (Int32.add_zero _).symm⟩
  | n + 1 => by
    obtain ⟨k, h1, h2⟩ := ticks_7 h n
    obtain ⟨h3, h4⟩ := Inv_ticks h n
    obtain ⟨j, h5, h6⟩ := tickN_7 h3 (tn (F_ticks g n 5)) (Nat.le_refl _)
    have h7 := h3.c5.1
    refine ⟨k + j, by omega, ?_⟩
    show F_tickN (F_ticks g n) (tn (F_ticks g n 5)) 7 = _
    rw [h6, h2, Int32.add_assoc, nI_add]
theorem ticks_d7 {g : Gs} (h : Inv g) (n : Nat) : ∃ k, k ≤ 8 * n ∧ F_ticks g n 7 - g 7 = nI k := by
  obtain ⟨k, h1, h2⟩ := ticks_7 h n
  exact ⟨k, h1, by rw [h2]; grind⟩
theorem ticks_ne {g : Gs} (h : Inv g) {a : Int32} (ha : inn a 1 60) : ¬ F_ticks g (tn a) 7 - g 7 = -1 := by
  obtain ⟨N, hN, -, rfl, et⟩ := tn60 (m := 60) rfl ha
  obtain ⟨k, h1, h2⟩ := ticks_d7 h (tn (nI N))
  rw [et] at h1
  rw [h2]
  intro z
  have := congrArg Int32.toInt z
  rw [nI_toInt (by omega)] at this
  have e : (-1 : Int32).toInt = -1 := rfl
  omega
theorem ite_m1 {c : Prop} [Decidable c] : (if c then (0 : Int32) else -1) = -1 ↔ ¬ c := by
  split <;> simp_all
theorem ite_tk {g : Gs} (h : Inv g) {a : Int32} : (if inn a 1 60 then F_ticks g (tn a) 7 - g 7 else -1) = -1 ↔ ¬ inn a 1 60 := by
  split
  · rename_i hc
    exact ⟨fun z => absurd z (ticks_ne h hc), fun z => absurd hc z⟩
  · rename_i hc
    exact ⟨fun _ => hc, fun _ => rfl⟩
def pr (f : Gs) (k : Nat) : Int32 := 10 * f k + f (k + 1)
abbrev cS1 (g f : Gs) : Prop := f 1 = 0 ∧ pr f 2 = 0 ∧ inn (pr f 4) 1 60
abbrev cS2 (g f : Gs) : Prop := pr f 2 = 0 ∧ cSteer g (f 1) (pr f 4 - 6)
abbrev cS3 (g f : Gs) : Prop := pr f 2 = 0 ∧ cTalk g (f 1) (pr f 4)
abbrev cS4 (g f : Gs) : Prop := f 2 = 0 ∧ cSet (f 1) (100 * f 3 + pr f 4)
abbrev cS5 (g f : Gs) : Prop := pr f 2 = 0 ∧ cLean g (f 1) (pr f 4 - 30)
abbrev cS6 (g f : Gs) : Prop := pr f 2 = 0 ∧ f 4 = 0 ∧ inn (f 1) 0 (g 5 - 1) ∧ inn (f 5) 0 (g 4 - 1) ∧ gB g (f 1) 2 = f 5 + 1
abbrev cS7 (g f : Gs) : Prop := f 2 = 0 ∧ inn (f 1) 0 (g 5 - 1) ∧ gB g (f 1) 0 = 100 * f 3 + pr f 4
abbrev cS8 (g f : Gs) : Prop := pr f 2 = 0 ∧ F_tells g (f 1) ≤ pr f 4
abbrev cS9 (g f : Gs) : Prop := pr f 2 = 0 ∧ f 4 = 0 ∧ inn (f 1) 0 (g 4 - 1) ∧ f 5 ≤ F_serves g (f 1)
def R_suc (g f : Gs) (n : Nat) : Int32 := match n with
  | 1 => b01 (cS1 g f)
  | 2 => b01 (cS2 g f)
  | 3 => b01 (cS3 g f)
  | 4 => b01 (cS4 g f)
  | 5 => b01 (cS5 g f)
  | 6 => b01 (cS6 g f)
  | 7 => b01 (cS7 g f)
  | 8 => b01 (cS8 g f)
  | 9 => b01 (cS9 g f)
  | _ => 0
def F_suc (g f : Gs) (n : Nat) : Gs := match n with
  | 1 => if cS1 g f then F_ticks g (tn (pr f 4)) else g
  | 2 => if cS2 g f then pB g (f 1) 1 (pr f 4 - 6) else g
  | 3 => if cS3 g f then pB g (f 1) 3 (pr f 4) else g
  | 4 => if cS4 g f then upd g (tn (f 1)) (100 * f 3 + pr f 4) else g
  | 5 => if cS5 g f then F_lean g (f 1) (pr f 4 - 30) else g
  | _ => g
theorem R_suc_01 (g f : Gs) (n : Nat) : R_suc g f n = 0 ∨ R_suc g f n = 1 := by
  unfold R_suc
  split <;> first | exact b01_z _ | exact Or.inl rfl
theorem Inv_suc {g : Gs} (h : Inv g) (f : Gs) (n : Nat) : Inv (F_suc g f n) := by
  unfold F_suc
  split
  · split
    · exact (Inv_ticks h _).1
    · exact h
  · split
    · rename_i hc; exact Inv_steer h hc.2
    · exact h
  · split
    · rename_i hc; exact Inv_talk h hc.2
    · exact h
  · split
    · rename_i hc; exact Inv_set h hc.2
    · exact h
  · split
    · rename_i hc; exact Inv_lean h hc.2
    · exact h
  · exact h
theorem pB_hi (g : Gs) {n j : Nat} (v : Int32) (hn : n < 8) (hj : j < 10) {z : Nat} (hz : 140 ≤ z) : pB g (nI n) (nI j) v z = g z := by
  rw [pB_at _ _ hn hj, pk_un (by omega)]
theorem suc_hi {g : Gs} (h : Inv g) (f : Gs) (n : Nat) {z : Nat} (hz : 140 ≤ z) : F_suc g f n z = g z := by
  have h5 := h.c5.1
  have h4 := h.c4.1
  unfold F_suc
  split
  · split
    · exact (Inv_ticks h _).2 z (lo140 hz)
    · rfl
  · split
    · rename_i hc
      obtain ⟨b, hb, e⟩ := in_B h.hc5 hc.2.1
      rw [e]
      exact pB_hi g (j := 1) _ (by omega) (by decide) hz
    · rfl
  · split
    · rename_i hc
      obtain ⟨b, hb, e⟩ := in_B h.hc5 hc.2.1
      rw [e]
      exact pB_hi g (j := 3) _ (by omega) (by decide) hz
    · rfl
  · split
    · rename_i hc
      obtain ⟨b, hb, e⟩ := vp_in_of (inn_vp (m := 4) (by decide) hc.2.1) (by decide)
      rw [e, show tn (nI b) = b from nI_clamp (by omega)]
      exact pk_un (by omega)
    · rfl
  · split
    · rename_i hc
      obtain ⟨b, hb, e⟩ := in_L h.hc4 hc.2.1
      unfold F_lean
      rw [e, tnL_6 (by omega)]
      exact pk_un (by omega)
    · rfl
  · rfl
/-! the figures of a command, the commands of a script -/
def figN (m : Nat) (old : Gs) (i : Nat) : Gs := fun k => if 6 ≤ k + i ∧ k < 6 then nI (m / 10 ^ (5 - k) % 10) else old k
theorem figN_0 (m : Nat) (old : Gs) : figN m old 0 = old := by
  funext k
  exact if_neg (by omega)
theorem figN_s (m : Nat) (old : Gs) {i : Nat} (hi : i < 6) {x : Int32} (hx : x = nI (m / 10 ^ i % 10)) : upd (figN m old i) (5 - i) x = figN m old (i + 1) := by
  funext k
  subst hx
  unfold upd figN
  by_cases h1 : k = 5 - i
  · subst h1
    rw [if_pos rfl, if_pos (by omega), show 5 - (5 - i) = i by omega]
  · rw [if_neg h1]
    by_cases h2 : 6 ≤ k + i ∧ k < 6
    · rw [if_pos h2, if_pos (by omega)]
    · rw [if_neg h2, if_neg (by omega)]
theorem figN_figN (m m' : Nat) (old : Gs) : figN m (figN m' old 6) 6 = figN m old 6 := by
  funext k
  unfold figN
  by_cases h : 6 ≤ k + 6 ∧ k < 6
  · rw [if_pos h, if_pos h]
  · rw [if_neg h, if_neg h, if_neg h]
theorem figN_at (m : Nat) (old : Gs) {k : Nat} (hk : k < 6) : figN m old 6 k = nI (m / 10 ^ (5 - k) % 10) := if_pos (by omega)
theorem figN_d (m : Nat) (old : Gs) : ∀ k, k < 6 → ∃ d, d < 10 ∧ figN m old 6 k = nI d := fun k hk => ⟨_, Nat.mod_lt _ (by decide), figN_at m old hk⟩
theorem lf_1 : ∀ i, i < 6 → (5 : Int32) - nI i = nI (5 - i) := by decide
theorem lf_2 : ∀ i, i < 6 → (5 : Int32) - nI i + -1 = 5 - nI (i + 1) := by decide
theorem lf_3 {m i : Nat} (hm : m < 10 ^ 18) : (lN (m / 10 ^ i) - lN (m / 10 ^ i) / 10 * 10).toInt32 = nI (m / 10 ^ i % 10) := by
  have h := Nat.div_le_self m (10 ^ i)
  have := pk_lRem (a := m / 10 ^ i) (b := 10) (by omega) (by decide) (by decide)
  rw [show (lN 10 : Int64) = 10 from rfl] at this
  rw [this, lN_i]
theorem lf_4 {m i : Nat} (hm : m < 10 ^ 18) : lN (m / 10 ^ i) / 10 = lN (m / 10 ^ (i + 1)) := by
  have h := Nat.div_le_self m (10 ^ i)
  have := pk_lDiv (a := m / 10 ^ i) (b := 10) (by omega) (by decide) (by decide)
  rw [show (lN 10 : Int64) = 10 from rfl] at this
  rw [this, Nat.div_div_eq_div_mul, Nat.pow_succ]
/-- the k-th group of a script of n groups -/
def grp (S n k : Nat) : Nat := S / 10 ^ (6 * (n - 1 - k)) % 10 ^ 6
def F_srow (old : Gs) (S n : Nat) : Nat → Gs
  | 0 => old
  | k + 1 => figN (grp S n k) old 6
def fgs (old : Gs) (S n k : Nat) : Gs := figN (grp S n k) old 6
def F_rsG (g old : Gs) (S n : Nat) : Nat → Gs
  | 0 => g
  | k + 1 => F_suc (F_rsG g old S n k) (fgs old S n k) (tn (fgs old S n k 0))
def F_rsR (g old : Gs) (S n k : Nat) : Int32 := R_suc (F_rsG g old S n k) (fgs old S n k) (tn (fgs old S n k 0))
def F_rsp (g old : Gs) (S n k : Nat) : Bool := decide (F_rsR g old S n k = 0)
def F_rsN (g old : Gs) (S n : Nat) : Nat := fa_first (F_rsp g old S n) n
def R_runScript (g old : Gs) (S n : Nat) : Int32 := if F_rsN g old S n < n then nI (F_rsN g old S n) else -1
def cScript (n : Int32) (x : Int64) : Prop := inn n 1 3 ∧ ¬ x < 0 ∧ x < lN (10 ^ (6 * tn n))
theorem Inv_rsG {g : Gs} (h : Inv g) (old : Gs) (S n : Nat) : ∀ k, Inv (F_rsG g old S n k) ∧ ∀ z, 140 ≤ z → F_rsG g old S n k z = g z
  | 0 => ⟨h, fun _ _ => rfl⟩
  | k + 1 => by
    obtain ⟨h1, h2⟩ := Inv_rsG h old S n k
    exact ⟨Inv_suc h1 _ _, fun z hz => (suc_hi h1 _ _ hz).trans (h2 z hz)⟩
theorem p18 {i : Nat} (h : i ≤ 3) : 10 ^ (6 * i) ≤ 10 ^ 18 := Nat.pow_le_pow_right (by decide) (by omega)
theorem by_s {i : Nat} (h : i < 3) : lN (10 ^ (6 * i)) * 1000000 = lN (10 ^ (6 * (i + 1))) := by
  rw [show (1000000 : Int64) = lN (10 ^ 6) from rfl, lN_mul, ← Nat.pow_add]
  rfl
theorem by_d {n i : Nat} (h : i < n) (hn : n ≤ 3) : lN (10 ^ (6 * (n - i))) / 1000000 = lN (10 ^ (6 * (n - (i + 1)))) := by
  have h1 := p18 (i := n - i) (by omega)
  rw [show (1000000 : Int64) = lN (10 ^ 6) from rfl, pk_lDiv (by omega) (by decide) (by decide)]
  congr 1
  rw [show 6 * (n - i) = 6 * (n - (i + 1)) + 6 by omega, Nat.pow_add]
  exact Nat.mul_div_cancel _ (by decide)
theorem grp_l {S n i : Nat} (hS : S < 10 ^ 18) (h : i < n) (hn : n ≤ 3) : lN S / lN (10 ^ (6 * (n - (i + 1)))) - lN S / lN (10 ^ (6 * (n - (i + 1)))) / 1000000 * 1000000 = lN (grp S n i) := by
  have h1 := p18 (i := n - (i + 1)) (by omega)
  have h2 := Nat.div_le_self S (10 ^ (6 * (n - (i + 1))))
  rw [pk_lDiv (by omega) (Nat.pow_pos (by decide)) (by omega), show (1000000 : Int64) = lN (10 ^ 6) from rfl, pk_lRem (by omega) (by decide) (by decide), grp, show n - (i + 1) = n - 1 - i by omega]
theorem grp_lt (S n k : Nat) : grp S n k < 10 ^ 6 := Nat.mod_lt _ (by decide)
theorem by_ne {k : Nat} (h : k ≤ 3) : ¬ lN (10 ^ (6 * k)) = 0 := by
  have h1 := p18 h
  have h2 : 0 < 10 ^ (6 * k) := Nat.pow_pos (by decide)
  rw [show (0 : Int64) = lN 0 from rfl, pk_lEQ (by omega) (by decide)]
  omega
