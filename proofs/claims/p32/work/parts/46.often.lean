/-! how often a boat was handed on: a tick adds one at most -/
/-- no boat was handed on more often than B times -/
def OB (B : Nat) (g : Gs) : Prop := ∀ m, m < 8 → ∃ v, v ≤ B ∧ g (60 + 10 * m + 7) = nI v
theorem OB.le {B B2 : Nat} {g : Gs} (h : OB B g) (hb : B ≤ B2) : OB B2 g := fun m hm => by
  obtain ⟨v, h1, h2⟩ := h m hm
  exact ⟨v, by omega, h2⟩
theorem OB.un {B : Nat} {g g2 : Gs} (h : OB B g) (e : ∀ m, m < 8 → g2 (60 + 10 * m + 7) = g (60 + 10 * m + 7)) : OB B g2 := fun m hm => by
  rw [e m hm]
  exact h m hm
theorem OB.set {B : Nat} {g : Gs} (h : OB B g) {a v : Int32} (hc : cSet a v) : OB B (upd g (tn a) v) := h.un (fun m hm => by
  obtain ⟨n, hn, rfl⟩ := vp_in_of (inn_vp (m := 4) (by decide) hc.1) (by decide)
  rw [show tn (nI n) = n from nI_clamp (by omega), pk_un (by omega)])
theorem OB.begins (g : Gs) : OB 0 (F_begins g) := fun m hm => ⟨0, Nat.le_refl _, begins_0 g (by omega) (by omega)⟩
