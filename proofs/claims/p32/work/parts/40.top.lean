/-! between the two: answers that are told in two ways -/
/-- the class's state and the reference's, side by side: the text of n signs, c states remembered -/
def Top (x mo n c : Nat) (sg : Sg) : Prop :=
  Rel sg (x + 4) (sg (mo + 1)) ∧ Inv (sg (mo + 1)) ∧ Bt sg (x + 22) ∧
  MRel sg (x + 40) c (fun i z => sg (mo + 3) (140 * i + z)) (fun j => decide (¬ sg (mo + 5) j = 0)) (fun j z => sg (mo + 4) (140 * j + z)) ∧
  TR sg (x + 1) (sg (mo + 6)) n ∧ sg mo 8 = nI n ∧ c ≤ 14 ∧ sg mo 4 = nI c
/-- nothing but the reference's own cell has changed, and there neither the text's length nor the count of states -/
theorem Top.same {x mo n c : Nat} {sg g2 : Sg} (h : Top x mo n c sg) (hx : x + 331 ≤ mo) (e : ∀ k, k ≠ mo → g2 k = sg k) (e8 : g2 mo 8 = sg mo 8) (e4 : g2 mo 4 = sg mo 4) : Top x mo n c g2 := by
  obtain ⟨h1, h2, h3, h4, h5, h6, h7, h8⟩ := h
  have a1 : g2 (mo + 1) = sg (mo + 1) := e _ (by omega)
  have a3 : g2 (mo + 3) = sg (mo + 3) := e _ (by omega)
  have a4 : g2 (mo + 4) = sg (mo + 4) := e _ (by omega)
  have a5 : g2 (mo + 5) = sg (mo + 5) := e _ (by omega)
  have a6 : g2 (mo + 6) = sg (mo + 6) := e _ (by omega)
  refine ⟨?_, ?_, h3.fr (fun k _ _ => e k (by omega)), ?_, ?_, e8.trans h6, h7, e4.trans h8⟩
  · rw [a1]
    exact h1.fr h2.cn (fun k _ _ => e k (by omega))
  · rw [a1]
    exact h2
  · rw [a3, a4, a5]
    exact h4.fr (fun k _ _ => e k (by omega))
  · rw [a6]
    exact h5.fr (by rw [e (x + 1) (by omega)]) (e _ (by omega))
