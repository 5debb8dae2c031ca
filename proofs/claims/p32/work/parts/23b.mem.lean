/-! the class: the states that are remembered, the slots -/
theorem Bt.fr {sg sg' : Sg} {c : Nat} (h : Bt sg c) (e : ∀ k, c ≤ k → k < c + 18 → sg' k = sg k) : Bt sg' c := fun b hb => by
  rw [e _ (by omega) (by omega)]
  exact h b hb
theorem Rel.fr {sg sg' : Sg} {c : Nat} {g : Gs} (h : Rel sg c g) (hC : Cn g) (e : ∀ k, c ≤ k → k < c + 18 → sg' k = sg k) : Rel sg' c g := by
  obtain ⟨h4, h5⟩ := hC
  refine ⟨fun j h1 h2 => ?_, fun j h1 => ?_, fun l hl j h1 => ?_, fun b hb j h1 => ?_, Bt.fr h.2.2.2.2 e⟩
  · rw [e _ (by omega) (by omega)]; exact h.1 j h1 h2
  · rw [e _ (by omega) (by omega)]; exact h.2.1 j h1
  · rw [e _ (by omega) (by omega)]; exact h.2.2.1 l hl j h1
  · rw [e _ (by omega) (by omega)]; exact h.2.2.2.1 b hb j h1
theorem Rel.congr {sg : Sg} {c : Nat} {g g' : Gs} (h : Rel sg c g) (hC : Cn g) (e : ∀ z, z < 140 → g' z = g z) : Rel sg c g' := by
  obtain ⟨h4, h5⟩ := hC
  have e4 := e 4 (by decide)
  have e5 := e 5 (by decide)
  refine ⟨fun j h1 h2 => ?_, fun j h1 => ?_, fun l hl j h1 => ?_, fun b hb j h1 => ?_, h.2.2.2.2⟩
  · rw [e _ (by omega)]; exact h.1 j h1 h2
  · rw [e _ (by omega)]; exact h.2.1 j h1
  · rw [e4] at hl
    rw [h.2.2.1 l hl j h1]
    by_cases j7 : j = 7
    · subst j7
      rw [lv_7, lv_7, e5]
      exact (served_un _ h5 (fun b hb => e _ (by omega))).symm
    · by_cases j8 : j = 8
      · subst j8
        rw [lv_8, lv_8, e _ (by omega)]
      · rw [lv_lo _ _ (by omega), lv_lo _ _ (by omega), e _ (by omega)]
  · rw [e5] at hb
    rw [h.2.2.2.1 b hb j h1]
    have q : ∀ i, i < 10 → g' (60 + 10 * b + i) = g (60 + 10 * b + i) := fun i hi => e _ (by omega)
    have q0 := q 0 (by decide)
    rw [Nat.add_zero] at q0
    unfold bv
    split <;> first | rfl | exact q0.symm | exact (q _ (by decide)).symm | exact (congrArg (fun z => z - 1) (q _ (by decide))).symm
theorem Cn.congr {g g' : Gs} (hC : Cn g) (e : ∀ z, z < 140 → g' z = g z) : Cn g' := by
  unfold Cn
  rw [e 4 (by decide), e 5 (by decide)]
  exact hC
theorem Inv.congr {g g' : Gs} (h : Inv g) (e : ∀ z, z < 140 → g' z = g z) : Inv g' := by
  have h4 := h.c4.1
  have h5 := h.c5.1
  obtain ⟨i1, i2, i3, i4, i5, i6, i7⟩ := h
  unfold Inv
  rw [e 0 (by decide), e 1 (by decide), e 2 (by decide), e 3 (by decide), e 4 (by decide), e 5 (by decide)]
  refine ⟨i1, i2, fun n hn => ?_, fun n hn => ?_, fun n hn => ?_, fun n hn h6 => ?_, fun n hn h8 j h1 h2 => ?_⟩
  · have q := i3 n hn
    unfold LInv at q ⊢
    rw [e _ (by omega), e _ (by omega), e _ (by omega), e _ (by omega), e _ (by omega), e _ (by omega), e _ (by omega)]
    exact q
  · have q := i4 n hn
    unfold BInv at q ⊢
    rw [e _ (by omega), e _ (by omega), e _ (by omega), e _ (by omega), e _ (by omega), e _ (by omega), e _ (by omega)]
    exact q
  · rw [servesN_same _ _ h5 (fun b hb => e _ (by omega)), e _ (by omega)]
    exact i5 n hn
  · rw [e _ (by omega), e _ (by omega)]
    exact i6 n hn h6
  · rw [e _ (by omega)]
    exact i7 n hn h8 j h1 h2
def MRel (sg : Sg) (y n : Nat) (G : Nat → Gs) (K : Nat → Bool) (S : Nat → Gs) : Prop :=
  ∃ f, f < 14 ∧ n ≤ 14 ∧ sg y 2 = nI f ∧ sg y 3 = nI n ∧ (∀ i, i < n → Rel sg ((y + 2 + 18 * ((f + i) % 14))) (G i) ∧ Inv (G i)) ∧ (∀ j, j < 14 → Bt sg (y + 2 + 18 * j)) ∧ (∀ j, j < 2 → Bt sg ((y + 255 + 18 * j))) ∧ (∀ i, i < 32 → bt (sg y 4) i = (decide (i < 2) && K i)) ∧ (∀ j, j < 2 → K j = true → Rel sg ((y + 255 + 18 * j)) (S j) ∧ Inv (S j))
theorem m14 (a : Nat) : a % 14 < 14 := Nat.mod_lt _ (by decide)
/-- what is outside may change -/
theorem MRel.fr {sg sg' : Sg} {y n : Nat} {G : Nat → Gs} {K : Nat → Bool} {S : Nat → Gs} (h : MRel sg y n G K S) (e : ∀ k, y ≤ k → k < y + 291 → sg' k = sg k) : MRel sg' y n G K S := by
  obtain ⟨f, h1, h2, h3, h4, h5, h6, h7, h8, h9⟩ := h
  refine ⟨f, h1, h2, ?_, ?_, fun i hi => ⟨(h5 i hi).1.fr (h5 i hi).2.cn (fun k a b => e k (by omega) (by have := m14 (f + i); omega)), (h5 i hi).2⟩, fun j hj => (h6 j hj).fr (fun k a b => e k (by omega) (by omega)), fun j hj => (h7 j hj).fr (fun k a b => e k (by omega) (by omega)), fun i hi => ?_, fun j hj hk => ⟨(h9 j hj hk).1.fr (h9 j hj hk).2.cn (fun k a b => e k (by omega) (by omega)), (h9 j hj hk).2⟩⟩
  · rw [e _ (by omega) (by omega)]; exact h3
  · rw [e _ (by omega) (by omega)]; exact h4
  · rw [e _ (by omega) (by omega)]; exact h8 i hi
theorem ring_ne {f i j : Nat} (hf : f < 14) (hi : i < 14) (hj : j < 14) (h : i ≠ j) : (f + i) % 14 ≠ (f + j) % 14 := by omega
theorem ring_s {f i : Nat} (hf : f < 14) : ((f + 1) % 14 + i) % 14 = (f + (i + 1)) % 14 := by omega
/-- one state more is put behind those that are there -/
def Gpush (G : Nat → Gs) (n : Nat) (g : Gs) (i : Nat) : Gs := if i < n then G i else g
theorem MRel.push {sg M : Sg} {y n f : Nat} {G : Nat → Gs} {K : Nat → Bool} {S : Nat → Gs} {g : Gs} (h1 : f < 14) (h2 : n < 14) (h3 : M y 2 = nI f) (h4 : M y 3 = nI (n + 1)) (h5 : ∀ i, i < n → Rel sg ((y + 2 + 18 * ((f + i) % 14))) (G i) ∧ Inv (G i)) (h6 : ∀ j, j < 14 → Bt sg (y + 2 + 18 * j)) (h7 : ∀ j, j < 2 → Bt sg ((y + 255 + 18 * j))) (h8 : ∀ i, i < 32 → bt (M y 4) i = (decide (i < 2) && K i)) (h9 : ∀ j, j < 2 → K j = true → Rel sg ((y + 255 + 18 * j)) (S j) ∧ Inv (S j))
    (hg : Rel M ((y + 2 + 18 * ((f + n) % 14))) g) (hI : Inv g) (ho : ∀ k, y + 1 ≤ k → ¬ ((y + 2 + 18 * ((f + n) % 14)) ≤ k ∧ k < (y + 2 + 18 * ((f + n) % 14)) + 18) → k < y + 291 → M k = sg k) : MRel M y (n + 1) (Gpush G n g) K S := by
  refine ⟨f, h1, by omega, h3, h4, fun i hi => ?_, fun j hj => ?_, fun j hj => (h7 j hj).fr (fun k a b => ho k (by omega) (by have := m14 (f + n); omega) (by omega)), h8, fun j hj hk => ⟨(h9 j hj hk).1.fr (h9 j hj hk).2.cn (fun k a b => ho k (by omega) (by have := m14 (f + n); omega) (by omega)), (h9 j hj hk).2⟩⟩
  · unfold Gpush
    by_cases e : i < n
    · rw [if_pos e]
      have := ring_ne (f := f) (i := i) (j := n) h1 (by omega) h2 (by omega)
      exact ⟨(h5 i e).1.fr (h5 i e).2.cn (fun k a b => ho k (by omega) (by have := m14 (f + n); have := m14 (f + i); omega) (by have := m14 (f + i); omega)), (h5 i e).2⟩
    · rw [if_neg e]
      obtain rfl : i = n := by omega
      exact ⟨hg, hI⟩
  · by_cases e : j = (f + n) % 14
    · subst e
      exact hg.2.2.2.2
    · exact (h6 j hj).fr (fun k a b => ho k (by omega) (by omega) (by omega))
/-- the first one is forgotten -/
theorem MRel.shift {sg : Sg} {y f : Nat} {G : Nat → Gs} (h1 : f < 14) (h5 : ∀ i, i < 14 → Rel sg ((y + 2 + 18 * ((f + i) % 14))) (G i) ∧ Inv (G i)) : ∀ i, i < 13 → Rel sg ((y + 2 + 18 * ((((f + 1) % 14) + i) % 14))) (G (i + 1)) ∧ Inv (G (i + 1)) := fun i hi => by
  have := h5 (i + 1) (by omega)
  rw [ring_s h1]
  exact this

