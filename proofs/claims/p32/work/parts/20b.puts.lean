/-! the class: single puts, with the counts alone -/
def Cn (g : Gs) : Prop := tn (g 4) ≤ 6 ∧ tn (g 5) ≤ 8
theorem Inv.cn {g : Gs} (h : Inv g) : Cn g := ⟨h.c4.1, h.c5.1⟩
theorem Cn_upd {g : Gs} (h : Cn g) {i : Nat} (x : Int32) (hi : 6 ≤ i) : Cn (upd g i x) := by
  unfold Cn
  rw [pk_un (by omega), pk_un (by omega)]
  exact h
theorem Rel.putC' {sg : Sg} {c : Nat} {g : Gs} (h : Rel sg c g) (hC : Cn g) (j : Nat) (x : Int32) (hj : 5 ≤ j ∧ j ≤ 10) : Rel (ups sg c j x) c (upd g (j + 1) x) := by
  obtain ⟨h4, h5⟩ := hC
  have e4 : upd g (j + 1) x 4 = g 4 := pk_un (by omega)
  have e5 : upd g (j + 1) x 5 = g 5 := pk_un (by omega)
  refine ⟨fun j' h1 h2 => ?_, fun j' h1 => ?_, fun l hl j' h1 => ?_, fun b hb j' h1 => ?_, fun b hb => ?_⟩
  · rw [ups_v, upd_v]
    by_cases e : j' = j
    · rw [if_pos ⟨rfl, e⟩, if_pos (by omega)]
    · rw [if_neg (fun z => e z.2), if_neg (by omega), h.1 j' h1 h2]
  · rw [ups_v, if_neg (by omega), pk_un (by omega), h.2.1 j' h1]
  · rw [e4] at hl
    rw [ups_v, if_neg (by omega), h.2.2.1 l hl j' h1]
    unfold lv
    rw [e5, served_un _ (by omega) (fun b hb => pk_un (by omega)), pk_un (by omega), pk_un (by omega)]
  · rw [e5] at hb
    rw [ups_v, if_neg (by omega), h.2.2.2.1 b hb j' h1]
    unfold bv
    split <;> first | exact (pk_un (by omega)).symm | exact (congrArg (fun z => z - 1) (pk_un (by omega))).symm | rfl
  · rw [ups_v, if_neg (by omega), h.2.2.2.2 b hb]
theorem Rel.pl8' {sg : Sg} {c : Nat} {g : Gs} (h : Rel sg c g) (hC : Cn g) {n : Nat} (hn : n < 6) (x : Int32) : Rel (ups sg (c + 2 + n) 8 x) c (upd g (12 + 8 * n + 7) x) := by
  obtain ⟨h4, h5⟩ := hC
  have e4 : upd g (12 + 8 * n + 7) x 4 = g 4 := pk_un (by omega)
  have e5 : upd g (12 + 8 * n + 7) x 5 = g 5 := pk_un (by omega)
  refine ⟨fun j' h1 h2 => ?_, fun j' h1 => ?_, fun l hl j' h1 => ?_, fun b hb j' h1 => ?_, fun b hb => ?_⟩
  · rw [ups_v, if_neg (by omega), pk_un (by omega), h.1 j' h1 h2]
  · rw [ups_v, if_neg (by omega), pk_un (by omega), h.2.1 j' h1]
  · rw [e4] at hl
    have e := h.2.2.1 l hl j' h1
    rw [ups_v, e]
    unfold lv
    rw [e5, served_un (g := g) _ (by omega) (fun b hb => pk_un (by omega)), upd_v, upd_v]
    by_cases q : c + 2 + l = c + 2 + n ∧ j' = 8
    · obtain ⟨q1, q2⟩ := q
      have q1 : l = n := by omega
      subst q1 q2
      rw [if_pos ⟨rfl, rfl⟩, if_neg (by decide), if_pos rfl, if_pos rfl]
    · rw [if_neg q]
      by_cases j7 : j' = 7
      · rw [if_pos j7, if_pos j7]
      · rw [if_neg j7, if_neg j7]
        by_cases j8 : j' = 8
        · rw [if_pos j8, if_pos j8, if_neg (by omega)]
        · rw [if_neg j8, if_neg j8, if_neg (by omega)]
  · rw [e5] at hb
    rw [ups_v, if_neg (by omega), h.2.2.2.1 b hb j' h1]
    unfold bv
    split <;> first | exact (pk_un (by omega)).symm | exact (congrArg (fun z => z - 1) (pk_un (by omega))).symm | rfl
  · rw [ups_v, if_neg (by omega), h.2.2.2.2 b hb]
theorem Rel.putB' {sg : Sg} {c : Nat} {g : Gs} (h : Rel sg c g) (hC : Cn g) {n : Nat} (hn : n < 8) (j i : Nat) (x y : Int32) (hj : j < 11 ∧ j ≠ 0) (hi : i < 10 ∧ i ≠ 2) (hx : bv (upd g (60 + 10 * n + i) y) n j = x) (ho : ∀ j', j' < 11 → j' ≠ j → bv (upd g (60 + 10 * n + i) y) n j' = bv g n j') : Rel (ups sg (c + 9 + n) j x) c (upd g (60 + 10 * n + i) y) := by
  obtain ⟨h4, h5⟩ := hC
  have e4 : upd g (60 + 10 * n + i) y 4 = g 4 := pk_un (by omega)
  have e5 : upd g (60 + 10 * n + i) y 5 = g 5 := pk_un (by omega)
  refine ⟨fun j' h1 h2 => ?_, fun j' h1 => ?_, fun l hl j' h1 => ?_, fun b hb j' h1 => ?_, fun b hb => ?_⟩
  · rw [ups_v, if_neg (by omega), pk_un (by omega), h.1 j' h1 h2]
  · rw [ups_v, if_neg (by omega), pk_un (by omega), h.2.1 j' h1]
  · rw [e4] at hl
    rw [ups_v, if_neg (by omega), h.2.2.1 l hl j' h1]
    unfold lv
    rw [e5, served_un _ (by omega) (fun b hb => pk_un (by omega)), pk_un (by omega)]
    by_cases j7 : j' = 7
    · rw [if_pos j7, if_pos j7]
    · rw [if_neg j7, if_neg j7]
      by_cases j8 : j' = 8
      · rw [if_pos j8, if_pos j8]
      · rw [if_neg j8, if_neg j8, pk_un (by omega)]
  · rw [e5] at hb
    rw [ups_v, h.2.2.2.1 b hb j' h1]
    by_cases q : c + 9 + b = c + 9 + n ∧ j' = j
    · obtain ⟨q1, q2⟩ := q
      have q1 : b = n := by omega
      subst q1 q2
      rw [if_pos ⟨rfl, rfl⟩, hx]
    · rw [if_neg q]
      by_cases q1 : b = n
      · subst q1
        exact (ho j' h1 (fun z => q ⟨rfl, z⟩)).symm
      · unfold bv
        split <;> first | exact (pk_un (by omega)).symm | exact (congrArg (fun z => z - 1) (pk_un (by omega))).symm | rfl
  · rw [ups_v, if_neg (by omega), h.2.2.2.2 b hb]
theorem Rel.qb4 {sg : Sg} {c : Nat} {g : Gs} (h : Rel sg c g) (hC : Cn g) {n : Nat} (hn : n < 8) (y : Int32) {x : Int32} (hx : x = y) : Rel (ups sg (c + 9 + n) 4 x) c (upd g (60 + 10 * n + 3) y) := by
  refine h.putB' hC hn 4 3 x y (by decide) (by decide) ?_ (fun j' h1 h2 => ?_)
  · show upd g (60 + 10 * n + 3) y (60 + 10 * n + 3) = _
    rw [pk_us, hx]
  · rcases (show j' = 0 ∨ j' = 1 ∨ j' = 2 ∨ j' = 3 ∨ j' = 5 ∨ j' = 6 ∨ j' = 7 ∨ j' = 8 ∨ j' = 9 ∨ j' = 10 by omega) with rfl | rfl | rfl | rfl | rfl | rfl | rfl | rfl | rfl | rfl
    · rfl
    · exact pk_un (by omega)
    · exact pk_un (by omega)
    · exact congrArg (fun z => z - 1) (pk_un (by omega))
    · exact congrArg (fun z => z - 1) (pk_un (by omega))
    · exact pk_un (by omega)
    · exact congrArg (fun z => z - 1) (pk_un (by omega))
    · exact pk_un (by omega)
    · exact pk_un (by omega)
    · exact pk_un (by omega)
theorem Rel.qb5 {sg : Sg} {c : Nat} {g : Gs} (h : Rel sg c g) (hC : Cn g) {n : Nat} (hn : n < 8) (y : Int32) {x : Int32} (hx : x = y - 1) : Rel (ups sg (c + 9 + n) 5 x) c (upd g (60 + 10 * n + 4) y) := by
  refine h.putB' hC hn 5 4 x y (by decide) (by decide) ?_ (fun j' h1 h2 => ?_)
  · show upd g (60 + 10 * n + 4) y (60 + 10 * n + 4) - 1 = _
    rw [pk_us, hx]
  · rcases (show j' = 0 ∨ j' = 1 ∨ j' = 2 ∨ j' = 3 ∨ j' = 4 ∨ j' = 6 ∨ j' = 7 ∨ j' = 8 ∨ j' = 9 ∨ j' = 10 by omega) with rfl | rfl | rfl | rfl | rfl | rfl | rfl | rfl | rfl | rfl
    · rfl
    · exact pk_un (by omega)
    · exact pk_un (by omega)
    · exact congrArg (fun z => z - 1) (pk_un (by omega))
    · exact pk_un (by omega)
    · exact pk_un (by omega)
    · exact congrArg (fun z => z - 1) (pk_un (by omega))
    · exact pk_un (by omega)
    · exact pk_un (by omega)
    · exact pk_un (by omega)
theorem Rel.qb6 {sg : Sg} {c : Nat} {g : Gs} (h : Rel sg c g) (hC : Cn g) {n : Nat} (hn : n < 8) (y : Int32) {x : Int32} (hx : x = y) : Rel (ups sg (c + 9 + n) 6 x) c (upd g (60 + 10 * n + 5) y) := by
  refine h.putB' hC hn 6 5 x y (by decide) (by decide) ?_ (fun j' h1 h2 => ?_)
  · show upd g (60 + 10 * n + 5) y (60 + 10 * n + 5) = _
    rw [pk_us, hx]
  · rcases (show j' = 0 ∨ j' = 1 ∨ j' = 2 ∨ j' = 3 ∨ j' = 4 ∨ j' = 5 ∨ j' = 7 ∨ j' = 8 ∨ j' = 9 ∨ j' = 10 by omega) with rfl | rfl | rfl | rfl | rfl | rfl | rfl | rfl | rfl | rfl
    · rfl
    · exact pk_un (by omega)
    · exact pk_un (by omega)
    · exact congrArg (fun z => z - 1) (pk_un (by omega))
    · exact pk_un (by omega)
    · exact congrArg (fun z => z - 1) (pk_un (by omega))
    · exact congrArg (fun z => z - 1) (pk_un (by omega))
    · exact pk_un (by omega)
    · exact pk_un (by omega)
    · exact pk_un (by omega)
theorem Rel.qb7 {sg : Sg} {c : Nat} {g : Gs} (h : Rel sg c g) (hC : Cn g) {n : Nat} (hn : n < 8) (y : Int32) {x : Int32} (hx : x = y - 1) : Rel (ups sg (c + 9 + n) 7 x) c (upd g (60 + 10 * n + 6) y) := by
  refine h.putB' hC hn 7 6 x y (by decide) (by decide) ?_ (fun j' h1 h2 => ?_)
  · show upd g (60 + 10 * n + 6) y (60 + 10 * n + 6) - 1 = _
    rw [pk_us, hx]
  · rcases (show j' = 0 ∨ j' = 1 ∨ j' = 2 ∨ j' = 3 ∨ j' = 4 ∨ j' = 5 ∨ j' = 6 ∨ j' = 8 ∨ j' = 9 ∨ j' = 10 by omega) with rfl | rfl | rfl | rfl | rfl | rfl | rfl | rfl | rfl | rfl
    · rfl
    · exact pk_un (by omega)
    · exact pk_un (by omega)
    · exact congrArg (fun z => z - 1) (pk_un (by omega))
    · exact pk_un (by omega)
    · exact congrArg (fun z => z - 1) (pk_un (by omega))
    · exact pk_un (by omega)
    · exact pk_un (by omega)
    · exact pk_un (by omega)
    · exact pk_un (by omega)
theorem Rel.qb8 {sg : Sg} {c : Nat} {g : Gs} (h : Rel sg c g) (hC : Cn g) {n : Nat} (hn : n < 8) (y : Int32) {x : Int32} (hx : x = y) : Rel (ups sg (c + 9 + n) 8 x) c (upd g (60 + 10 * n + 9) y) := by
  refine h.putB' hC hn 8 9 x y (by decide) (by decide) ?_ (fun j' h1 h2 => ?_)
  · show upd g (60 + 10 * n + 9) y (60 + 10 * n + 9) = _
    rw [pk_us, hx]
  · rcases (show j' = 0 ∨ j' = 1 ∨ j' = 2 ∨ j' = 3 ∨ j' = 4 ∨ j' = 5 ∨ j' = 6 ∨ j' = 7 ∨ j' = 9 ∨ j' = 10 by omega) with rfl | rfl | rfl | rfl | rfl | rfl | rfl | rfl | rfl | rfl
    · rfl
    · exact pk_un (by omega)
    · exact pk_un (by omega)
    · exact congrArg (fun z => z - 1) (pk_un (by omega))
    · exact pk_un (by omega)
    · exact congrArg (fun z => z - 1) (pk_un (by omega))
    · exact pk_un (by omega)
    · exact congrArg (fun z => z - 1) (pk_un (by omega))
    · exact pk_un (by omega)
    · exact pk_un (by omega)
theorem Rel.qb9 {sg : Sg} {c : Nat} {g : Gs} (h : Rel sg c g) (hC : Cn g) {n : Nat} (hn : n < 8) (y : Int32) {x : Int32} (hx : x = y) : Rel (ups sg (c + 9 + n) 9 x) c (upd g (60 + 10 * n + 7) y) := by
  refine h.putB' hC hn 9 7 x y (by decide) (by decide) ?_ (fun j' h1 h2 => ?_)
  · show upd g (60 + 10 * n + 7) y (60 + 10 * n + 7) = _
    rw [pk_us, hx]
  · rcases (show j' = 0 ∨ j' = 1 ∨ j' = 2 ∨ j' = 3 ∨ j' = 4 ∨ j' = 5 ∨ j' = 6 ∨ j' = 7 ∨ j' = 8 ∨ j' = 10 by omega) with rfl | rfl | rfl | rfl | rfl | rfl | rfl | rfl | rfl | rfl
    · rfl
    · exact pk_un (by omega)
    · exact pk_un (by omega)
    · exact congrArg (fun z => z - 1) (pk_un (by omega))
    · exact pk_un (by omega)
    · exact congrArg (fun z => z - 1) (pk_un (by omega))
    · exact pk_un (by omega)
    · exact congrArg (fun z => z - 1) (pk_un (by omega))
    · exact pk_un (by omega)
    · exact pk_un (by omega)
theorem Rel.qb10 {sg : Sg} {c : Nat} {g : Gs} (h : Rel sg c g) (hC : Cn g) {n : Nat} (hn : n < 8) (y : Int32) {x : Int32} (hx : x = y) : Rel (ups sg (c + 9 + n) 10 x) c (upd g (60 + 10 * n + 8) y) := by
  refine h.putB' hC hn 10 8 x y (by decide) (by decide) ?_ (fun j' h1 h2 => ?_)
  · show upd g (60 + 10 * n + 8) y (60 + 10 * n + 8) = _
    rw [pk_us, hx]
  · rcases (show j' = 0 ∨ j' = 1 ∨ j' = 2 ∨ j' = 3 ∨ j' = 4 ∨ j' = 5 ∨ j' = 6 ∨ j' = 7 ∨ j' = 8 ∨ j' = 9 by omega) with rfl | rfl | rfl | rfl | rfl | rfl | rfl | rfl | rfl | rfl
    · rfl
    · exact pk_un (by omega)
    · exact pk_un (by omega)
    · exact congrArg (fun z => z - 1) (pk_un (by omega))
    · exact pk_un (by omega)
    · exact congrArg (fun z => z - 1) (pk_un (by omega))
    · exact pk_un (by omega)
    · exact congrArg (fun z => z - 1) (pk_un (by omega))
    · exact pk_un (by omega)
    · exact pk_un (by omega)

