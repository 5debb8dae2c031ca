/-! the reference, first part: what it sees, its tick -/
theorem vp_lit {x : Int32} {n : Nat} (h : decide (0 ≤ x.toInt ∧ x.toInt < n) = true) : vp_in x n := vp_in_iff.mpr (of_decide_eq_true h)
theorem inL {l : Int32} {j : Int32} (hl : vp_in l 6) (hj : vp_in j 8) : vp_in (12 + 8 * l + j) 140 := by
  obtain ⟨a, ha, rfl⟩ := vp_in_of hl (by decide)
  obtain ⟨b, hb, rfl⟩ := vp_in_of hj (by decide)
  rw [show (12 : Int32) + 8 * nI a + nI b = nI (12 + 8 * a + b) by rw [← nI_add, ← nI_add, ← pk_mul]; rfl]
  exact vp_in_nI (by omega) (by decide)
theorem inB {l : Int32} {j : Int32} (hl : vp_in l 8) (hj : vp_in j 10) : vp_in (60 + 10 * l + j) 140 := by
  obtain ⟨a, ha, rfl⟩ := vp_in_of hl (by decide)
  obtain ⟨b, hb, rfl⟩ := vp_in_of hj (by decide)
  rw [show (60 : Int32) + 10 * nI a + nI b = nI (60 + 10 * a + b) by rw [← nI_add, ← nI_add, ← pk_mul]; rfl]
  exact vp_in_nI (by omega) (by decide)
theorem ne_span (d : Int32) : ¬ 10 + (if d < 0 then -d else d) = 0 := by
  intro h
  split at h
  · rename_i hd
    have e : d = 10 := by grind
    subst e
    exact absurd hd (by decide)
  · rename_i hd
    have e : d = -10 := by grind
    subst e
    exact absurd hd (by decide)
theorem cnt_in {x : Int32} {n : Nat} (h0 : 0 ≤ x.toInt) (hn : x.toInt ≤ n) : tn x ≤ n ∧ x = nI (tn x) := by
  have hr := fb_rng x
  have h1 : ¬ x < 0 := fun q => by have := Int32.lt_iff_toInt_lt.mp q; have e0 : (0 : Int32).toInt = 0 := rfl; omega
  obtain ⟨j, hj, rfl⟩ := nI_of h1
  have := nI_toInt hj
  rw [show tn (nI j) = j from nI_clamp hj]
  exact ⟨by omega, rfl⟩

theorem cI {x y : Int32} (h : x = y) : (some (vI x) : Option VV) = some (vI y) := by rw [h]
