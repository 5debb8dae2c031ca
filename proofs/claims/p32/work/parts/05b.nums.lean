/-! the reference, first part: what it sees, its tick -/
theorem vp_lit {x : Int32} {n : Nat} (h : decide (0 ≤ x.toInt ∧ x.toInt < n) = true) : vp_in x n := vp_in_iff.mpr (of_decide_eq_true h)
theorem inL {l : Int32} {j : Int32} (hl : vp_in l 6) (hj : vp_in j 8) : vp_in (12 + 8 * l + j) 140 := by
  obtain ⟨a, ha, rfl⟩ := vp_in_of hl (by decide)
  obtain ⟨b, hb, rfl⟩ := vp_in_of hj (by decide)
  rw [show (12 : Int32) + 8 * nI a + nI b = nI (12 + 8 * a + b) by rw [← nI_add, ← nI_add, ← pk_mul]; rfl]
  exact vp_in_nI (by omega) (by decide)
theorem inB {l : Int32} {j : Int32} (hl : vp_in l 8) (hj : vp_in j 10) : vp_in (60 + 10 * l + j) 140 := by
  obtain ⟨a, ha, rfl⟩ := vp_in_of hl (by decide)
  obtain ⟨b, hb, rfl⟩ := vp_in_of hj (by decide)
  rw [show (60 : Int32) + 10 * nI a + nI b = nI (60 + 10 * a + b) by rw [← nI_add, ← nI_add, ← pk_mul]; rfl]
  exact vp_in_nI (by omega) (by decide)
theorem ne_span (d : Int32) : ¬ 10 + (if d < 0 then -d else d) = 0 := by
  intro h
  split at h
  · rename_i hd
    have e : d = 10 := by grind
    subst e
    exact absurd hd (by decide)
  · rename_i hd
    have e : d = -10 := by grind
    subst e
    exact absurd hd (by decide)
theorem cnt_in {x : Int32} {n : Nat} (h0 : 0 ≤ x.toInt) (hn : x.toInt ≤ n) : tn x ≤ n ∧ x = nI (tn x) := by
  have hr := fb_rng x
  have h1 : ¬ x < 0 := fun q => by have := Int32.lt_iff_toInt_lt.mp q; have e0 : (0 : Int32).toInt = 0 := rfl; omega
  obtain ⟨j, hj, rfl⟩ := nI_of h1
  have := nI_toInt hj
  rw [show tn (nI j) = j from nI_clamp hj]
  exact ⟨by omega, rfl⟩

theorem cI {x y : Int32} (h : x = y) : (some (vI x) : Option VV) = some (vI y) := by rw [h]
theorem cnt_le {x : Int32} (h0 : 0 ≤ x.toInt) : x ≤ nI (tn x) := by
  have hr := fb_rng x
  obtain ⟨h1, h2⟩ := cnt_in (x := x) (n := 2147483647) h0 (by omega)
  rw [← h2]
  exact Int32.le_refl x
theorem cnt_lt {x : Int32} {i : Nat} (h0 : 0 ≤ x.toInt) (hi : i < tn x) : ¬ x ≤ nI i := by
  have hr := fb_rng x
  obtain ⟨h1, h2⟩ := cnt_in (x := x) (n := 2147483647) h0 (by omega)
  rw [h2]
  exact nI_ge hi (by omega)
theorem cnt_lt' {x : Int32} {i : Nat} (h0 : 0 ≤ x.toInt) (hi : i < tn x) : nI i < x := Int32.not_le.mp (cnt_lt h0 hi)
theorem b01_1 {x : Int32} {c : Prop} [Decidable c] (e : x = b01 c) (h : ¬ x = 0) : 1 = x := by
  subst e
  rw [b01_t (b01n.mp h)]
def inI (x : Int32) (a b : Int) : Prop := a ≤ x.toInt ∧ x.toInt ≤ b
def LInv (g : Gs) (n : Nat) : Prop := inI (g (12 + 8 * n)) 0 199 ∧ inI (g (12 + 8 * n + 1)) 10 99 ∧ inI (g (12 + 8 * n + 2)) 0 2 ∧ inI (g (12 + 8 * n + 3)) 1 20 ∧ inI (g (12 + 8 * n + 4)) 1 6 ∧ inI (g (12 + 8 * n + 5)) 0 (g (12 + 8 * n + 4)).toInt ∧ inI (g (12 + 8 * n + 6)) (-30) 30
def BInv (g : Gs) (n : Nat) : Prop := inI (g (60 + 10 * n)) 0 199 ∧ inI (g (60 + 10 * n + 1)) (-6) 6 ∧ inI (g (60 + 10 * n + 2)) 0 (g 4).toInt ∧ inI (g (60 + 10 * n + 3)) 0 99 ∧ inI (g (60 + 10 * n + 4)) 0 (g 4).toInt ∧ inI (g (60 + 10 * n + 6)) 0 (g 4).toInt
/-- what holds of the row at every call -/
def Inv (g : Gs) : Prop :=
  (inI (g 0) 0 100 ∧ inI (g 1) 1 10 ∧ inI (g 2) 1 300 ∧ inI (g 3) 0 50) ∧ (inI (g 4) 0 6 ∧ inI (g 5) 0 8) ∧ (∀ n, n < tn (g 4) → LInv g n) ∧ (∀ n, n < tn (g 5) → BInv g n) ∧
  (∀ n, n < tn (g 4) → (F_servesN g (nI n) (tn (g 5))).toInt ≤ (g (12 + 8 * n + 4)).toInt) ∧
  (∀ n, tn (g 4) ≤ n → n < 6 → g (12 + 8 * n + 6) = 0 ∧ g (12 + 8 * n + 7) = 0) ∧ (∀ n, tn (g 5) ≤ n → n < 8 → ∀ j, 2 ≤ j → j < 10 → g (60 + 10 * n + j) = 0)
theorem gL_at (g : Gs) {n j : Nat} (hn : n < 6) (hj : j < 8) : gL g (nI n) (nI j) = g (12 + 8 * n + j) := by
  unfold gL
  rw [show (12 : Int32) + 8 * nI n + nI j = nI (12 + 8 * n + j) by rw [← nI_add, ← nI_add, ← pk_mul]; rfl, show tn (nI (12 + 8 * n + j)) = 12 + 8 * n + j from nI_clamp (by omega)]
theorem gB_at (g : Gs) {n j : Nat} (hn : n < 8) (hj : j < 10) : gB g (nI n) (nI j) = g (60 + 10 * n + j) := by
  unfold gB
  rw [show (60 : Int32) + 10 * nI n + nI j = nI (60 + 10 * n + j) by rw [← nI_add, ← nI_add, ← pk_mul]; rfl, show tn (nI (60 + 10 * n + j)) = 60 + 10 * n + j from nI_clamp (by omega)]
theorem pB_at (g : Gs) {n j : Nat} (v : Int32) (hn : n < 8) (hj : j < 10) : pB g (nI n) (nI j) v = upd g (60 + 10 * n + j) v := by
  unfold pB
  rw [show (60 : Int32) + 10 * nI n + nI j = nI (60 + 10 * n + j) by rw [← nI_add, ← nI_add, ← pk_mul]; rfl, show tn (nI (60 + 10 * n + j)) = 60 + 10 * n + j from nI_clamp (by omega)]
theorem tnB {n j : Nat} (hn : n < 8) (hj : j < 10) : tn (60 + 10 * nI n + nI j) = 60 + 10 * n + j := by
  rw [show (60 : Int32) + 10 * nI n + nI j = nI (60 + 10 * n + j) by rw [← nI_add, ← nI_add, ← pk_mul]; rfl]
  exact nI_clamp (by omega)
theorem tnL {n j : Nat} (hn : n < 6) (hj : j < 8) : tn (12 + 8 * nI n + nI j) = 12 + 8 * n + j := by
  rw [show (12 : Int32) + 8 * nI n + nI j = nI (12 + 8 * n + j) by rw [← nI_add, ← nI_add, ← pk_mul]; rfl]
  exact nI_clamp (by omega)
theorem Inv.c4 {g : Gs} (h : Inv g) : tn (g 4) ≤ 6 ∧ g 4 = nI (tn (g 4)) := cnt_in h.2.1.1.1 h.2.1.1.2
theorem Inv.c5 {g : Gs} (h : Inv g) : tn (g 5) ≤ 8 ∧ g 5 = nI (tn (g 5)) := cnt_in h.2.1.2.1 h.2.1.2.2
/-- a lighthouse's number n is never 0 -/
theorem Inv.ne {g : Gs} (h : Inv g) {n : Nat} (hn : n < tn (g 4)) : ¬ gL g (nI n) 3 = 0 := by
  intro q
  have h1 := (h.2.2.1 n hn).2.2.2.1
  have := h.c4.1
  rw [show gL g (nI n) 3 = g (12 + 8 * n + 3) from gL_at g (j := 3) (by omega) (by omega)] at q
  rw [q] at h1
  exact absurd h1.1 (by decide)
theorem F_bestN_in (g : Gs) (p : Int32) : ∀ n, F_bestN g p n = -1 ∨ ∃ j, j < n ∧ F_bestN g p n = nI j
  | 0 => Or.inl rfl
  | n + 1 => by
    rw [F_bestN]
    split
    · exact Or.inr ⟨n, by omega, rfl⟩
    · rcases F_bestN_in g p n with h | ⟨j, h1, h2⟩
      · exact Or.inl h
      · exact Or.inr ⟨j, by omega, h2⟩
theorem F_wishedN_in (g : Gs) (b : Int32) : ∀ n, F_wishedN g b n = -1 ∨ ∃ j, j < n ∧ F_wishedN g b n = nI j
  | 0 => Or.inl rfl
  | n + 1 => by
    rw [F_wishedN]
    split
    · exact Or.inr ⟨n, by omega, rfl⟩
    · rcases F_wishedN_in g b n with h | ⟨j, h1, h2⟩
      · exact Or.inl h
      · exact Or.inr ⟨j, by omega, h2⟩
theorem F_findsN_in (g : Gs) (b : Int32) : ∀ n, F_findsN g b n = -1 ∨ ∃ j, j < n ∧ F_findsN g b n = nI j
  | 0 => Or.inl rfl
  | n + 1 => by
    rw [F_findsN]
    split
    · exact Or.inr ⟨n, by omega, rfl⟩
    · rcases F_findsN_in g b n with h | ⟨j, h1, h2⟩
      · exact Or.inl h
      · exact Or.inr ⟨j, by omega, h2⟩
/-- the lighthouse that serves the boat n, less one: none, or one that is there -/
theorem Inv.by {g : Gs} (h : Inv g) {n : Nat} (hn : n < tn (g 5)) : gB g (nI n) 2 - 1 = -1 ∨ ∃ j, j < tn (g 4) ∧ gB g (nI n) 2 - 1 = nI j := by
  have h1 := (h.2.2.2.1 n hn).2.2.1
  have h5 := h.c5.1
  have h4 := h.c4
  rw [show gB g (nI n) 2 = g (60 + 10 * n + 2) from gB_at g (j := 2) (by omega) (by omega)]
  generalize g (60 + 10 * n + 2) = x at h1
  obtain ⟨h2, h3⟩ := h1
  obtain ⟨hx1, hx2⟩ := cnt_in (x := x) (n := tn (g 4)) h2 (by rw [h4.2] at h3; rw [nI_toInt (by omega)] at h3; exact h3)
  rcases Nat.eq_zero_or_pos (tn x) with h0 | h0
  · left; rw [hx2, h0]; rfl
  · right
    refine ⟨tn x - 1, by omega, ?_⟩
    rw [hx2]
    obtain ⟨y, hy⟩ : ∃ y, tn x = y + 1 := ⟨tn x - 1, by omega⟩
    rw [show tn (nI (tn x)) = tn x from nI_clamp (by omega), hy, nI_pred, Nat.add_sub_cancel]
theorem b0_of {x : Int32} {c : Prop} [Decidable c] (e : x = b01 c) (h : x = 0) : ¬ c := b01e.mp (e.symm.trans h)
theorem b1_of {x : Int32} {c : Prop} [Decidable c] (e : x = b01 c) (h : ¬ x = 0) : c := b01n.mp (fun z => h (e.trans z))

