/-! how often a boat was handed on: a tick adds one at most -/
theorem sails7 {g : Gs} {n m : Nat} (h8 : n < 8) (hm : m < 8) : F_sails g (nI n) (60 + 10 * m + 7) = g (60 + 10 * m + 7) := by
  unfold F_sails
  rw [pB_0 _ _ h8, pB_1 _ _ h8]
  split <;> exact pk_un (by omega)
theorem drops7 {g : Gs} {n m : Nat} (h8 : n < 8) (hm : m < 8) : F_drops g (nI n) (60 + 10 * m + 7) = g (60 + 10 * m + 7) := by
  unfold F_drops F_dropsA
  simp only [pB_2 _ _ h8, pB_4 _ _ h8, pB_5 _ _ h8, pB_3 _ _ h8]
  rw [pk_un (by omega), pk_un (by omega), pk_un (by omega), pk_un (by omega), pk_un (by omega)]
theorem hands7 {g : Gs} {n to m : Nat} (h8 : n < 8) (h6 : to < 6) (hm : m < 8) : F_hands g (nI n) (nI to) (60 + 10 * m + 7) = g (60 + 10 * m + 7) ∨ (m = n ∧ F_hands g (nI n) (nI to) (60 + 10 * m + 7) = g (60 + 10 * m + 7) + 1) := by
  unfold F_hands F_handsB F_handsA
  rw [tnB_7 h8, tnB_8 h8, tnL_7 h6, inc_at (by omega), inc_at (by omega), inc_at (by omega), inc_at (by omega)]
  rw [gB_2 _ h8, pB_2 _ _ h8, pB_4 _ _ h8, pB_5 _ _ h8, pB_6 _ _ h8, pB_9 _ _ h8]
  by_cases e : m = n
  · subst e
    refine Or.inr ⟨rfl, ?_⟩
    show upd _ _ (_ + 1) _ = _
    rw [pk_us, pk_un (by omega), pk_un (by omega), pk_un (by omega), pk_un (by omega), pk_un (by omega)]
  · left
    rw [inc_at (by omega), pk_un (by omega), pk_un (by omega), pk_un (by omega), pk_un (by omega), pk_un (by omega)]
theorem wishA7 {g : Gs} {n m : Nat} (h8 : n < 8) (hm : m < 8) : F_wishA g (nI n) (60 + 10 * m + 7) = g (60 + 10 * m + 7) := by
  unfold F_wishA
  rw [pB_4 _ _ h8, pB_5 _ _ h8, pk_un (by omega), pk_un (by omega)]
theorem wishes7 {g : Gs} (h : Inv g) {n m : Nat} (h8 : n < 8) (hm : m < 8) : F_wishes g (nI n) (60 + 10 * m + 7) = g (60 + 10 * m + 7) ∨ (m = n ∧ F_wishes g (nI n) (60 + 10 * m + 7) = g (60 + 10 * m + 7) + 1) := by
  have h4 := h.c4.1
  unfold F_wishes
  split
  · exact Or.inl (wishA7 h8 hm)
  · rename_i hz
    split
    · rw [inc_at (by omega)]; exact Or.inl (wishA7 h8 hm)
    · rcases F_wishedN_in g (nI n) (tn (g 4)) with e | ⟨j, hj, e⟩
      · exact absurd (Or.inl e) hz
      · have e : F_wished g (nI n) = nI j := e
        rw [e, ← wishA7 (g := g) h8 hm]
        exact hands7 h8 (by omega) hm
theorem finds7 {g : Gs} {n m : Nat} (h8 : n < 8) (hm : m < 8) : F_finds g (nI n) (60 + 10 * m + 7) = g (60 + 10 * m + 7) := by
  show upd (pB g (nI n) 2 (F_findsN g (nI n) (tn (g 4)) + 1)) 11 _ (60 + 10 * m + 7) = _
  rw [pB_2 _ _ h8, pk_un (by omega), pk_un (by omega)]
theorem onA7 {g : Gs} (h : Inv g) {n m : Nat} (h8 : n < 8) (hm : m < 8) : F_onA g (nI n) (60 + 10 * m + 7) = g (60 + 10 * m + 7) ∨ (m = n ∧ F_onA g (nI n) (60 + 10 * m + 7) = g (60 + 10 * m + 7) + 1) := by
  unfold F_onA
  split
  · exact Or.inl (drops7 h8 hm)
  · split
    · exact wishes7 h h8 hm
    · exact Or.inl rfl
theorem onB7 {g : Gs} {n m : Nat} (h8 : n < 8) (hm : m < 8) : F_onB g (nI n) (60 + 10 * m + 7) = g (60 + 10 * m + 7) := by
  unfold F_onB
  split
  · exact finds7 h8 hm
  · rfl
theorem onC7 {g : Gs} {n m : Nat} (h8 : n < 8) (hm : m < 8) : F_onC g (nI n) (60 + 10 * m + 7) = g (60 + 10 * m + 7) := by
  unfold F_onC
  rw [pB_3 _ _ h8, pk_un (by omega)]
theorem goesOn7 {g : Gs} (h : Inv g) {n m : Nat} (hn : n < tn (g 5)) (hm : m < 8) : F_goesOn g (nI n) (60 + 10 * m + 7) = g (60 + 10 * m + 7) ∨ (m = n ∧ F_goesOn g (nI n) (60 + 10 * m + 7) = g (60 + 10 * m + 7) + 1) := by
  have h5 := h.c5.1
  have h8 : n < 8 := by omega
  have h1 := Inv_sails h hn
  unfold F_goesOn
  rw [onC7 h8 hm, onB7 h8 hm, ← sails7 (g := g) (n := n) h8 hm]
  exact onA7 h1 h8 hm
theorem tickN7 {g : Gs} (h : Inv g) {m : Nat} (hm : m < 8) : ∀ n, n ≤ tn (g 5) → F_tickN g n (60 + 10 * m + 7) = g (60 + 10 * m + 7) ∨ (m < n ∧ F_tickN g n (60 + 10 * m + 7) = g (60 + 10 * m + 7) + 1)
  | 0, _ => Or.inl (inc_at (by omega))
  | n + 1, hn => by
    obtain ⟨h1, h2⟩ := Inv_tickN h n (by omega)
    have e5 := h2 5 lo5
    rw [F_tickN]
    rcases goesOn7 h1 (n := n) (m := m) (by rw [e5]; omega) hm with e | ⟨e0, e⟩
    · rcases tickN7 h hm n (by omega) with q | ⟨q0, q⟩
      · exact Or.inl (e.trans q)
      · exact Or.inr ⟨by omega, e.trans q⟩
    · rcases tickN7 h hm n (by omega) with q | ⟨q0, q⟩
      · exact Or.inr ⟨by omega, by rw [e, q]⟩
      · omega
theorem tick7 {g : Gs} (h : Inv g) {m : Nat} (hm : m < 8) : ∃ d, d ≤ 1 ∧ F_tick g (60 + 10 * m + 7) = g (60 + 10 * m + 7) + nI d := by
  rcases tickN7 h hm _ (Nat.le_refl _) with e | ⟨-, e⟩
  · exact ⟨0, by decide, e.trans (Int32.add_zero _).symm⟩
  · exact ⟨1, by decide, e⟩
theorem ticks7 {g : Gs} (h : Inv g) {m : Nat} (hm : m < 8) : ∀ N, ∃ d, d ≤ N ∧ F_ticks g N (60 + 10 * m + 7) = g (60 + 10 * m + 7) + nI d
  | 0 => ⟨0, Nat.le_refl _, (Int32.add_zero _).symm⟩
  | N + 1 => by
    obtain ⟨d, h1, h2⟩ := ticks7 h hm N
    obtain ⟨d2, h3, h4⟩ := tick7 (Inv_ticks h N).1 hm
    refine ⟨d + d2, by omega, ?_⟩
    show F_tick (F_ticks g N) _ = _
    rw [h4, h2, Int32.add_assoc, nI_add]
/-- no boat was handed on more often than B times -/
def OB (B : Nat) (g : Gs) : Prop := ∀ m, m < 8 → ∃ v, v ≤ B ∧ g (60 + 10 * m + 7) = nI v
theorem OB.le {B B2 : Nat} {g : Gs} (h : OB B g) (hb : B ≤ B2) : OB B2 g := fun m hm => by
  obtain ⟨v, h1, h2⟩ := h m hm
  exact ⟨v, by omega, h2⟩
theorem OB.un {B : Nat} {g g2 : Gs} (h : OB B g) (e : ∀ m, m < 8 → g2 (60 + 10 * m + 7) = g (60 + 10 * m + 7)) : OB B g2 := fun m hm => by
  rw [e m hm]
  exact h m hm
theorem OB.set {B : Nat} {g : Gs} (h : OB B g) {a v : Int32} (hc : cSet a v) : OB B (upd g (tn a) v) := h.un (fun m hm => by
  obtain ⟨n, hn, rfl⟩ := vp_in_of (inn_vp (m := 4) (by decide) hc.1) (by decide)
  rw [show tn (nI n) = n from nI_clamp (by omega), pk_un (by omega)])
theorem OB.begins (g : Gs) : OB 0 (F_begins g) := fun m hm => ⟨0, Nat.le_refl _, begins_0 g (by omega) (by omega)⟩
