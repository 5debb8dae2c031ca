/-! between the two: answers that are told in two ways -/
theorem RH_eq {g : Gs} {b a : Int32} (h : gB g b 7 ≤ gB (F_ticks g (F_hN g b)) b 7) : RH g b a = R_handedIn g b a := by
  unfold RH R_handedIn
  by_cases e : gB (F_ticks g (F_hN g b)) b 7 = gB g b 7
  · rw [if_pos e, if_neg (by rw [e]; exact Int32.lt_irrefl)]
  · rw [if_neg e, if_pos (Int32.lt_of_le_of_ne h (fun z => e z.symm))]
theorem KR_eq {K : Nat → Bool} {sg : Sg} {mo : Nat} {a : Int32} (h : ∀ j, j < 2 → (K j = true ↔ ¬ sg (mo + 5) j = 0)) : KR K a = K_restore sg mo a := by
  unfold KR K_restore
  by_cases e : inn a 0 1
  · obtain ⟨j, hj, rfl⟩ := vp_in_of (inn_vp (m := 2) (by decide) e) (by decide)
    have ej : tn (nI j) = j := nI_clamp (by omega)
    rw [if_pos e, if_pos e, ej]
    by_cases hk : K j = true
    · rw [if_pos hk, if_neg ((h j hj).mp hk)]
    · rw [if_neg hk, if_pos (Classical.byContradiction (fun z => hk ((h j hj).mpr z)))]
  · rw [if_neg e, if_neg e]
/-- the class's state and the reference's, side by side: the text of n signs, c states remembered -/
def Top (x mo n c : Nat) (sg : Sg) : Prop :=
  Rel sg (x + 4) (sg (mo + 1)) ∧ Inv (sg (mo + 1)) ∧ Bt sg (x + 22) ∧
  MRel sg (x + 40) c (fun i z => sg (mo + 3) (140 * i + z)) (fun j => decide (¬ sg (mo + 5) j = 0)) (fun j z => sg (mo + 4) (140 * j + z)) ∧
  TR sg (x + 1) (sg (mo + 6)) n ∧ sg mo 8 = nI n ∧ c ≤ 14 ∧ sg mo 4 = nI c
/-- nothing but the reference's own cell has changed, and there neither the text's length nor the count of states -/
theorem Top.same {x mo n c : Nat} {sg g2 : Sg} (h : Top x mo n c sg) (hx : x + 331 ≤ mo) (e : ∀ k, k ≠ mo → g2 k = sg k) (e8 : g2 mo 8 = sg mo 8) (e4 : g2 mo 4 = sg mo 4) : Top x mo n c g2 := by
  obtain ⟨h1, h2, h3, h4, h5, h6, h7, h8⟩ := h
  have a1 : g2 (mo + 1) = sg (mo + 1) := e _ (by omega)
  have a3 : g2 (mo + 3) = sg (mo + 3) := e _ (by omega)
  have a4 : g2 (mo + 4) = sg (mo + 4) := e _ (by omega)
  have a5 : g2 (mo + 5) = sg (mo + 5) := e _ (by omega)
  have a6 : g2 (mo + 6) = sg (mo + 6) := e _ (by omega)
  refine ⟨?_, ?_, h3.fr (fun k _ _ => e k (by omega)), ?_, ?_, e8.trans h6, h7, e4.trans h8⟩
  · rw [a1]
    exact h1.fr h2.cn (fun k _ _ => e k (by omega))
  · rw [a1]
    exact h2
  · rw [a3, a4, a5]
    exact h4.fr (fun k _ _ => e k (by omega))
  · rw [a6]
    exact h5.fr (by rw [e (x + 1) (by omega)]) (e _ (by omega))
/-- nothing but the trial coast has changed -/
theorem Top.trial {x mo n c : Nat} {sg g2 : Sg} (h : Top x mo n c sg) (hx : x + 331 ≤ mo) (e : Fr (x + 22) sg g2) (hb : Bt g2 (x + 22)) : Top x mo n c g2 := by
  obtain ⟨h1, h2, h3, h4, h5, h6, h7, h8⟩ := h
  have a : ∀ k, mo ≤ k → g2 k = sg k := fun k hk => e k (Or.inr (by omega))
  refine ⟨?_, ?_, hb, ?_, ?_, ?_, h7, ?_⟩
  · rw [a (mo + 1) (by omega)]
    exact h1.fr h2.cn (fun k _ _ => e k (Or.inl (by omega)))
  · rw [a (mo + 1) (by omega)]
    exact h2
  · rw [a (mo + 3) (by omega), a (mo + 4) (by omega), a (mo + 5) (by omega)]
    exact h4.fr (fun k _ _ => e k (Or.inr (by omega)))
  · rw [a (mo + 6) (by omega)]
    exact h5.fr (by rw [e (x + 1) (Or.inl (by omega))]) (e _ (Or.inl (by omega)))
  · rw [a mo (Nat.le_refl _)]
    exact h6
  · rw [a mo (Nat.le_refl _)]
    exact h8
