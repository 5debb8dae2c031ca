/-! the reference: reading the whole text, load -/
theorem Inv_begins (g : Gs) : Inv (F_begins g) := by
  have hz : ∀ i, 4 ≤ i → i < 140 → F_begins g i = 0 := fun i h1 h2 => by
    unfold F_begins
    rw [pk_un (by omega), pk_un (by omega), pk_un (by omega), pk_un (by omega)]
    exact if_pos h2
  have e0 : F_begins g 0 = 10 := by unfold F_begins; rw [pk_un (by decide), pk_un (by decide), pk_un (by decide), pk_us]
  have e1 : F_begins g 1 = 3 := by unfold F_begins; rw [pk_un (by decide), pk_un (by decide), pk_us]
  have e2 : F_begins g 2 = 60 := by unfold F_begins; rw [pk_un (by decide), pk_us]
  have e3 : F_begins g 3 = 12 := by unfold F_begins; rw [pk_us]
  have e4 : F_begins g 4 = 0 := hz 4 (by decide) (by decide)
  have e5 : F_begins g 5 = 0 := hz 5 (by decide) (by decide)
  have t0 : tn (0 : Int32) = 0 := rfl
  unfold Inv
  rw [e0, e1, e2, e3, e4, e5, t0]
  refine ⟨⟨⟨by decide, by decide⟩, ⟨by decide, by decide⟩, ⟨by decide, by decide⟩, ⟨by decide, by decide⟩⟩, ⟨⟨by decide, by decide⟩, ⟨by decide, by decide⟩⟩, fun n hn => by omega, fun n hn => by omega, fun n hn => by omega, fun n _ hn => ⟨hz _ (by omega) (by omega), hz _ (by omega) (by omega)⟩, fun n _ hn j h1 h2 => hz _ (by omega) (by omega)⟩

