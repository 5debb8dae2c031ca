/-! the class: a lighthouse more, a boat more, a coast anew, a coast copied -/
theorem addL_at {g : Gs} (h : Inv g) {q st k n bo re : Int32} (hN : tn (g 4) < 6) : F_addLight g q st k n bo re 4 = g 4 + 1 ∧ (∀ i, i ≠ 4 → ¬ (12 + 8 * tn (g 4) ≤ i ∧ i < 12 + 8 * tn (g 4) + 6) → F_addLight g q st k n bo re i = g i) ∧
    F_addLight g q st k n bo re (12 + 8 * tn (g 4)) = q ∧ F_addLight g q st k n bo re (12 + 8 * tn (g 4) + 1) = st ∧ F_addLight g q st k n bo re (12 + 8 * tn (g 4) + 2) = k ∧ F_addLight g q st k n bo re (12 + 8 * tn (g 4) + 3) = n ∧ F_addLight g q st k n bo re (12 + 8 * tn (g 4) + 4) = bo ∧ F_addLight g q st k n bo re (12 + 8 * tn (g 4) + 5) = re := by
  have e4 := h.c4.2
  have e : F_addLight g q st k n bo re = upd (upd (upd (upd (upd (upd (upd g (12 + 8 * tn (g 4)) q) (12 + 8 * tn (g 4) + 1) st) (12 + 8 * tn (g 4) + 2) k) (12 + 8 * tn (g 4) + 3) n) (12 + 8 * tn (g 4) + 4) bo) (12 + 8 * tn (g 4) + 5) re) 4 (g 4 + 1) := by
    unfold F_addLight F_inc
    rw [e4, tnL_0 hN, tnL_1 hN, tnL_2 hN, tnL_3 hN, tnL_4 hN, tnL_5 hN, show tn (nI (tn (g 4))) = tn (g 4) from nI_clamp (by omega)]
    congr 1
    rw [pk_un (by omega), pk_un (by omega), pk_un (by omega), pk_un (by omega), pk_un (by omega), pk_un (by omega), ← e4]
  rw [e]
  refine ⟨pk_us, fun i h1 h2 => ?_, ?_, ?_, ?_, ?_, ?_, ?_⟩
  · rw [pk_un h1, pk_un (by omega), pk_un (by omega), pk_un (by omega), pk_un (by omega), pk_un (by omega), pk_un (by omega)]
  · rw [pk_un (by omega)]; repeat (first | rw [pk_us] | rw [pk_un (by omega)])
  · rw [pk_un (by omega)]; repeat (first | rw [pk_us] | rw [pk_un (by omega)])
  · rw [pk_un (by omega)]; repeat (first | rw [pk_us] | rw [pk_un (by omega)])
  · rw [pk_un (by omega)]; repeat (first | rw [pk_us] | rw [pk_un (by omega)])
  · rw [pk_un (by omega)]; repeat (first | rw [pk_us] | rw [pk_un (by omega)])
  · rw [pk_un (by omega)]; repeat (first | rw [pk_us] | rw [pk_un (by omega)])
theorem addB_at {g : Gs} (h : Inv g) {q v : Int32} (hN : tn (g 5) < 8) : F_addBoat g q v 5 = g 5 + 1 ∧ (∀ i, i ≠ 5 → ¬ (60 + 10 * tn (g 5) ≤ i ∧ i < 60 + 10 * tn (g 5) + 2) → F_addBoat g q v i = g i) ∧ F_addBoat g q v (60 + 10 * tn (g 5)) = q ∧ F_addBoat g q v (60 + 10 * tn (g 5) + 1) = v := by
  have e5 := h.c5.2
  have e : F_addBoat g q v = upd (upd (upd g (60 + 10 * tn (g 5)) q) (60 + 10 * tn (g 5) + 1) v) 5 (g 5 + 1) := by
    unfold F_addBoat F_inc
    rw [e5, pB_0 _ _ hN, pB_1 _ _ hN, show tn (nI (tn (g 5))) = tn (g 5) from nI_clamp (by omega)]
    congr 1
    rw [pk_un (by omega), pk_un (by omega), ← e5]
  rw [e]
  refine ⟨pk_us, fun i h1 h2 => ?_, ?_, ?_⟩
  · rw [pk_un h1, pk_un (by omega), pk_un (by omega)]
  · rw [pk_un (by omega), pk_un (by omega), pk_us]
  · rw [pk_un (by omega), pk_us]
theorem served_none {g : Gs} (h : Inv g) {l : Nat} (hl : tn (g 4) ≤ l) (h6 : l < 6) : F_servedN g (nI l) (tn (g 5)) = 0 := by
  refine (served_at (g := g) h.c5.1 (fun i hi => ?_)).symm
  rw [b_0]
  by_cases q : i < tn (g 5)
  · have e : pBy g l i = false := by
      refine decide_eq_false (fun z => ?_)
      obtain ⟨b1, b2, ⟨b3, b3'⟩, b4, b5, b6⟩ := h.2.2.2.1 i q
      have e4 := e4int h
      rw [z, nI_1, nI_toInt (by omega)] at b3'
      omega
    simp [e]
  · simp [q]
theorem lv_lo (g : Gs) (l : Nat) {j : Nat} (hj : j < 7) : lv g l j = g (12 + 8 * l + j) := by
  unfold lv
  rw [if_neg (by omega), if_neg (by omega)]
theorem lv_7 (g : Gs) (l : Nat) : lv g l 7 = F_servedN g (nI l) (tn (g 5)) := if_pos rfl
theorem lv_8 (g : Gs) (l : Nat) : lv g l 8 = g (12 + 8 * l + 7) := by
  unfold lv
  rw [if_neg (by decide), if_pos rfl]
theorem Rel.addL {sg : Sg} {c : Nat} {g : Gs} (h : Rel sg c g) (hI : Inv g) {q st k n bo re : Int32} (hN : tn (g 4) < 6) {M : Sg} (h3 : M c 3 = g 4 + 1) (hc : ∀ j, j ≠ 3 → M c j = sg c j) (hv : M (c + 2 + tn (g 4)) 0 = q ∧ M (c + 2 + tn (g 4)) 1 = st ∧ M (c + 2 + tn (g 4)) 2 = k ∧ M (c + 2 + tn (g 4)) 3 = n ∧ M (c + 2 + tn (g 4)) 4 = bo ∧ M (c + 2 + tn (g 4)) 5 = re ∧ M (c + 2 + tn (g 4)) 6 = 0 ∧ M (c + 2 + tn (g 4)) 7 = 0 ∧ M (c + 2 + tn (g 4)) 8 = 0)
    (ho : ∀ k, k ≠ c → k ≠ c + 2 + tn (g 4) → M k = sg k) : Rel M c (F_addLight g q st k n bo re) := by
  obtain ⟨a4, ao, a0, a1, a2, a3, a5, a6⟩ := addL_at (q := q) (st := st) (k := k) (n := n) (bo := bo) (re := re) hI hN
  obtain ⟨v0, v1, v2, v3, v4, v5, v6, v7, v8⟩ := hv
  have h5 := hI.c5.1
  have hcu := (cnt_up (x := g 4) (n := 6) ⟨hI.hc4.1, by have := e4int hI; omega⟩ (by decide)).2
  have e5 := ao 5 (by decide) (by omega)
  refine ⟨fun j' h1 h2 => ?_, fun j' h1 => ?_, fun l hl j' h1 => ?_, fun b' hb' j' h1 => ?_, fun b' hb' => ?_⟩
  · by_cases e : j' = 3
    · subst e; rw [h3, a4]
    · rw [hc _ e, h.1 j' h1 h2, ao _ (by omega) (by omega)]
  · rw [ho _ (by omega) (by omega), h.2.1 j' h1, ao _ (by omega) (by omega)]
  · rw [a4, hcu] at hl
    have es : F_servedN (F_addLight g q st k n bo re) (nI l) (tn (F_addLight g q st k n bo re 5)) = F_servedN g (nI l) (tn (g 5)) := by
      rw [e5]
      exact served_un _ h5 (fun b hb => ao _ (by omega) (by omega))
    by_cases e : l = tn (g 4)
    · subst e
      obtain ⟨z6, z7⟩ := hI.2.2.2.2.2.1 _ (Nat.le_refl _) hN
      obtain rfl | rfl | rfl | rfl | rfl | rfl | rfl | rfl | rfl : j' = 0 ∨ j' = 1 ∨ j' = 2 ∨ j' = 3 ∨ j' = 4 ∨ j' = 5 ∨ j' = 6 ∨ j' = 7 ∨ j' = 8 := by omega
      · rw [v0, lv_lo _ _ (by decide), Nat.add_zero, a0]
      · rw [v1, lv_lo _ _ (by decide), a1]
      · rw [v2, lv_lo _ _ (by decide), a2]
      · rw [v3, lv_lo _ _ (by decide), a3]
      · rw [v4, lv_lo _ _ (by decide), a5]
      · rw [v5, lv_lo _ _ (by decide), a6]
      · rw [v6, lv_lo _ _ (by decide), ao _ (by omega) (by omega), z6]
      · rw [v7, lv_7, es, served_none hI (Nat.le_refl _) hN]
      · rw [v8, lv_8, ao _ (by omega) (by omega), z7]
    · rw [ho _ (by omega) (by omega), h.2.2.1 l (by omega) j' h1]
      unfold lv
      rw [es]
      by_cases j7 : j' = 7
      · rw [if_pos j7, if_pos j7]
      · rw [if_neg j7, if_neg j7]
        by_cases j8 : j' = 8
        · rw [if_pos j8, if_pos j8, ao _ (by omega) (by omega)]
        · rw [if_neg j8, if_neg j8, ao _ (by omega) (by omega)]
  · rw [e5] at hb'
    rw [ho _ (by omega) (by omega), h.2.2.2.1 b' hb' j' h1]
    unfold bv
    split <;> first | rfl | rw [ao _ (by omega) (by omega)]
  · rw [ho _ (by omega) (by omega), h.2.2.2.2 b' hb']
theorem Rel.addB {sg : Sg} {c : Nat} {g : Gs} (h : Rel sg c g) (hI : Inv g) {q v : Int32} (hN : tn (g 5) < 8) {M : Sg} (h3 : M c 4 = g 5 + 1) (hc : ∀ j, j ≠ 4 → M c j = sg c j) (hv : M (c + 9 + tn (g 5)) 0 = sg (c + 9 + tn (g 5)) 0 ∧ M (c + 9 + tn (g 5)) 1 = q ∧ M (c + 9 + tn (g 5)) 2 = v ∧ M (c + 9 + tn (g 5)) 3 = -1 ∧ M (c + 9 + tn (g 5)) 4 = 0 ∧ M (c + 9 + tn (g 5)) 5 = -1 ∧ M (c + 9 + tn (g 5)) 6 = 0 ∧ M (c + 9 + tn (g 5)) 7 = -1 ∧ M (c + 9 + tn (g 5)) 8 = 0 ∧ M (c + 9 + tn (g 5)) 9 = 0 ∧ M (c + 9 + tn (g 5)) 10 = 0)
    (ho : ∀ k, k ≠ c → k ≠ c + 9 + tn (g 5) → M k = sg k) : Rel M c (F_addBoat g q v) := by
  obtain ⟨a4, ao, a0, a1⟩ := addB_at (q := q) (v := v) hI hN
  obtain ⟨v0, v1, v2, v3, v4, v5, v6, v7, v8, v9, v10⟩ := hv
  have h4 := hI.c4.1
  have hcu := (cnt_up (x := g 5) (n := 8) ⟨hI.hc5.1, by have e := hI.c5.2; have := hI.c5.1; rw [e, nI_toInt (by omega)]; omega⟩ (by decide)).2
  have e4 := ao 4 (by decide) (by omega)
  have hz := hI.2.2.2.2.2.2 _ (Nat.le_refl _) hN
  have z : ∀ j, 2 ≤ j → j < 10 → F_addBoat g q v (60 + 10 * tn (g 5) + j) = 0 := fun j h1 h2 => (ao _ (by omega) (by omega)).trans (hz j h1 h2)
  refine ⟨fun j' h1 h2 => ?_, fun j' h1 => ?_, fun l hl j' h1 => ?_, fun b' hb' j' h1 => ?_, fun b' hb' => ?_⟩
  · by_cases e : j' = 4
    · subst e; rw [h3, a4]
    · rw [hc _ e, h.1 j' h1 h2, ao _ (by omega) (by omega)]
  · rw [ho _ (by omega) (by omega), h.2.1 j' h1, ao _ (by omega) (by omega)]
  · rw [e4] at hl
    rw [ho _ (by omega) (by omega), h.2.2.1 l hl j' h1]
    unfold lv
    have es : F_servedN (F_addBoat g q v) (nI l) (tn (F_addBoat g q v 5)) = F_servedN g (nI l) (tn (g 5)) := by
      rw [a4, hcu, F_servedN, gB_2 _ hN, z 2 (by decide) (by decide), if_neg (nIs_0 (by omega)), served_un _ (by omega) (fun b hb => ao _ (by omega) (by omega))]
      exact b_ext (fun i _ => by rw [b_or, b_0, Bool.or_false])
    rw [es]
    by_cases j7 : j' = 7
    · rw [if_pos j7, if_pos j7]
    · rw [if_neg j7, if_neg j7]
      by_cases j8 : j' = 8
      · rw [if_pos j8, if_pos j8, ao _ (by omega) (by omega)]
      · rw [if_neg j8, if_neg j8, ao _ (by omega) (by omega)]
  · rw [a4, hcu] at hb'
    by_cases e : b' = tn (g 5)
    · subst e
      obtain rfl | rfl | rfl | rfl | rfl | rfl | rfl | rfl | rfl | rfl | rfl : j' = 0 ∨ j' = 1 ∨ j' = 2 ∨ j' = 3 ∨ j' = 4 ∨ j' = 5 ∨ j' = 6 ∨ j' = 7 ∨ j' = 8 ∨ j' = 9 ∨ j' = 10 := by omega
      · rw [v0]; exact h.2.2.2.2 _ hN
      · rw [v1]; exact a0.symm
      · rw [v2]; exact a1.symm
      · rw [v3]; exact (congrArg (fun x => x - 1) (z 2 (by decide) (by decide))).symm
      · rw [v4]; exact (z 3 (by decide) (by decide)).symm
      · rw [v5]; exact (congrArg (fun x => x - 1) (z 4 (by decide) (by decide))).symm
      · rw [v6]; exact (z 5 (by decide) (by decide)).symm
      · rw [v7]; exact (congrArg (fun x => x - 1) (z 6 (by decide) (by decide))).symm
      · rw [v8]; exact (z 9 (by decide) (by decide)).symm
      · rw [v9]; exact (z 7 (by decide) (by decide)).symm
      · rw [v10]; exact (z 8 (by decide) (by decide)).symm
    · rw [ho _ (by omega) (by omega), h.2.2.2.1 b' (by omega) j' h1]
      unfold bv
      split <;> first | rfl | rw [ao _ (by omega) (by omega)]
  · by_cases e : b' = tn (g 5)
    · subst e; rw [v0, h.2.2.2.2 _ hN]
    · rw [ho _ (by omega) (by omega), h.2.2.2.2 b' hb']
theorem begins_0 (g : Gs) {i : Nat} (h1 : 4 ≤ i) (h2 : i < 140) : F_begins g i = 0 := by
  unfold F_begins
  rw [pk_un (by omega), pk_un (by omega), pk_un (by omega), pk_un (by omega)]
  exact if_pos h2
theorem begins_s (g : Gs) : ∀ j, j < 4 → srow 2 j = F_begins g j := by
  intro j hj
  have e0 : F_begins g 0 = 10 := by unfold F_begins; rw [pk_un (by decide), pk_un (by decide), pk_un (by decide), pk_us]
  have e1 : F_begins g 1 = 3 := by unfold F_begins; rw [pk_un (by decide), pk_un (by decide), pk_us]
  have e2 : F_begins g 2 = 60 := by unfold F_begins; rw [pk_un (by decide), pk_us]
  have e3 : F_begins g 3 = 12 := by unfold F_begins; rw [pk_us]
  obtain rfl | rfl | rfl | rfl : j = 0 ∨ j = 1 ∨ j = 2 ∨ j = 3 := by omega
  · rw [e0]; decide
  · rw [e1]; decide
  · rw [e2]; decide
  · rw [e3]; decide
theorem Rel.begins (g : Gs) {M : Sg} {c : Nat} (hc : ∀ j, 3 ≤ j → j ≤ 10 → M c j = 0) (hs : ∀ j, j < 4 → M (c + 17) j = srow 2 j) (hb : Bt M c) : Rel M c (F_begins g) := by
  have t4 : tn (F_begins g 4) = 0 := by rw [begins_0 g (by decide) (by decide)]; rfl
  have t5 : tn (F_begins g 5) = 0 := by rw [begins_0 g (by decide) (by decide)]; rfl
  refine ⟨fun j h1 h2 => ?_, fun j h1 => ?_, fun l hl => by omega, fun b hb => by omega, hb⟩
  · rw [hc j h1 h2, begins_0 g (by omega) (by omega)]
  · rw [hs j h1, begins_s g j h1]
theorem Rel.copy {sg M : Sg} {c c2 : Nat} {g : Gs} (h : Rel sg c2 g) (hc : ∀ j, 3 ≤ j → j ≤ 10 → M c j = sg c2 j) (hs : ∀ j, j < 4 → M (c + 17) j = sg (c2 + 17) j) (hl : ∀ l, l < tn (g 4) → ∀ j, j < 9 → M (c + 2 + l) j = sg (c2 + 2 + l) j) (hb : ∀ b, b < tn (g 5) → ∀ j, 1 ≤ j → j < 11 → M (c + 9 + b) j = sg (c2 + 9 + b) j) (hI : Inv g) (ht : Bt M c) : Rel M c g := by
  refine ⟨fun j h1 h2 => (hc j h1 h2).trans (h.1 j h1 h2), fun j h1 => (hs j h1).trans (h.2.1 j h1), fun l h1 j h2 => (hl l h1 j h2).trans (h.2.2.1 l h1 j h2), fun b h1 j h2 => ?_, ht⟩
  by_cases e : j = 0
  · subst e
    exact ht b (by have := hI.c5.1; omega)
  · exact (hb b h1 j (by omega) h2).trans (h.2.2.2.1 b h1 j h2)
/-! what a call's code is, and whether it is done -/
theorem nlt {x : Int32} {m : Nat} (hm : m < 100) (h : 0 ≤ x.toInt ∧ x.toInt ≤ m) : ¬ x = nI m ↔ x < nI m := by
  rw [Int32.lt_iff_toInt_lt, nI_toInt (by omega)]
  constructor
  · intro z
    rcases Int.lt_or_eq_of_le h.2 with e | e
    · exact e
    · exact absurd (Int32.toInt_inj.mp (by rw [nI_toInt (by omega)]; exact e)) z
  · intro z e
    rw [e, nI_toInt (by omega)] at z
    omega
theorem KL_0 {g : Gs} (h : Inv g) {q st k n bo re : Int32} : K_light g q st k n bo re = 0 ↔ cLight g q st k n bo re := by
  have e := nlt (m := 6) (by decide) h.hc4
  unfold K_light cLight
  by_cases h1 : inn q 0 199
  · by_cases h2 : cLamp st k n bo re
    · by_cases h3 : g 4 = 6
      · rw [if_pos h1, if_pos h2, if_pos h3]
        exact ⟨fun z => absurd z (by decide), fun z => absurd h3 (e.mpr z.2.2)⟩
      · rw [if_pos h1, if_pos h2, if_neg h3]
        exact ⟨fun _ => ⟨h1, h2, e.mp h3⟩, fun _ => rfl⟩
    · rw [if_pos h1, if_neg h2]
      exact ⟨fun z => absurd z (by decide), fun z => absurd z.2.1 h2⟩
  · rw [if_neg h1]
    exact ⟨fun z => absurd z (by decide), fun z => absurd z.1 h1⟩
theorem KB_0 {g : Gs} (h : Inv g) {q v : Int32} : K_boat g q v = 0 ↔ cBoat g q v := by
  have e := nlt (m := 8) (by decide) h.hc5
  unfold K_boat cBoat
  by_cases h1 : inn q 0 199
  · by_cases h2 : inn v (-6) 6
    · by_cases h3 : g 5 = 8
      · rw [if_pos h1, if_pos h2, if_pos h3]
        exact ⟨fun z => absurd z (by decide), fun z => absurd h3 (e.mpr z.2.2)⟩
      · rw [if_pos h1, if_pos h2, if_neg h3]
        exact ⟨fun _ => ⟨h1, h2, e.mp h3⟩, fun _ => rfl⟩
    · rw [if_pos h1, if_neg h2]
      exact ⟨fun z => absurd z (by decide), fun z => absurd z.2.1 h2⟩
  · rw [if_neg h1]
    exact ⟨fun z => absurd z (by decide), fun z => absurd z.1 h1⟩
theorem KS_0 {g : Gs} {b v : Int32} : K_steer g b v = 0 ↔ cSteer g b v := by
  unfold K_steer cSteer
  by_cases h1 : inn b 0 (g 5 - 1)
  · by_cases h2 : inn v (-6) 6
    · rw [if_pos h1, if_pos h2]
      exact ⟨fun _ => ⟨h1, h2⟩, fun _ => rfl⟩
    · rw [if_pos h1, if_neg h2]
      exact ⟨fun z => absurd z (by decide), fun z => absurd z.2 h2⟩
  · rw [if_neg h1]
    exact ⟨fun z => absurd z (by decide), fun z => absurd z.1 h1⟩
theorem KT_0 {g : Gs} {b v : Int32} : K_talk g b v = 0 ↔ cTalk g b v := by
  unfold K_talk cTalk
  by_cases h1 : inn b 0 (g 5 - 1)
  · by_cases h2 : inn v 1 99
    · by_cases h3 : 0 < gB g b 2
      · rw [if_pos h1, if_pos h2, if_pos h3]
        exact ⟨fun _ => ⟨h1, h2, h3⟩, fun _ => rfl⟩
      · rw [if_pos h1, if_pos h2, if_neg h3]
        exact ⟨fun z => absurd z (by decide), fun z => absurd z.2.2 h3⟩
    · rw [if_pos h1, if_neg h2]
      exact ⟨fun z => absurd z (by decide), fun z => absurd z.2.1 h2⟩
  · rw [if_neg h1]
    exact ⟨fun z => absurd z (by decide), fun z => absurd z.1 h1⟩
theorem KE_0 {g : Gs} {b v : Int32} : K_lean g b v = 0 ↔ cLean g b v := by
  unfold K_lean cLean
  by_cases h1 : inn b 0 (g 4 - 1)
  · by_cases h2 : inn v (-30) 30
    · rw [if_pos h1, if_pos h2]
      exact ⟨fun _ => ⟨h1, h2⟩, fun _ => rfl⟩
    · rw [if_pos h1, if_neg h2]
      exact ⟨fun z => absurd z (by decide), fun z => absurd z.2 h2⟩
  · rw [if_neg h1]
    exact ⟨fun z => absurd z (by decide), fun z => absurd z.1 h1⟩
theorem KD_0 {g : Gs} {b v : Int32} : K_dim g b v = 0 ↔ cDim g b v := by
  unfold K_dim cDim
  by_cases h1 : inn b 0 (g 4 - 1)
  · by_cases h2 : inn v 10 99
    · rw [if_pos h1, if_pos h2]
      exact ⟨fun _ => ⟨h1, h2⟩, fun _ => rfl⟩
    · rw [if_pos h1, if_neg h2]
      exact ⟨fun z => absurd z (by decide), fun z => absurd z.2 h2⟩
  · rw [if_neg h1]
    exact ⟨fun z => absurd z (by decide), fun z => absurd z.1 h1⟩
