/-! the class: how a coast in the memory tells of the reference's row -/
def lv (g : Gs) (l j : Nat) : Int32 := if j = 7 then F_servedN g (nI l) (tn (g 5)) else if j = 8 then g (12 + 8 * l + 7) else g (12 + 8 * l + j)
def bv (g : Gs) (b j : Nat) : Int32 := match j with
  | 0 => 1 <<< (nI b &&& 31)
  | 1 => g (60 + 10 * b)
  | 2 => g (60 + 10 * b + 1)
  | 3 => g (60 + 10 * b + 2) - 1
  | 4 => g (60 + 10 * b + 3)
  | 5 => g (60 + 10 * b + 4) - 1
  | 6 => g (60 + 10 * b + 5)
  | 7 => g (60 + 10 * b + 6) - 1
  | 8 => g (60 + 10 * b + 9)
  | 9 => g (60 + 10 * b + 7)
  | _ => g (60 + 10 * b + 8)
def Bt (sg : Sg) (c : Nat) : Prop := ∀ b, b < 8 → sg (c + 9 + b) 0 = 1 <<< (nI b &&& 31)
def Rel (sg : Sg) (c : Nat) (g : Gs) : Prop := (∀ j, 3 ≤ j → j ≤ 10 → sg c j = g (j + 1)) ∧ (∀ j, j < 4 → sg (c + 17) j = g j) ∧ (∀ l, l < tn (g 4) → ∀ j, j < 9 → sg (c + 2 + l) j = lv g l j) ∧ (∀ b, b < tn (g 5) → ∀ j, j < 11 → sg (c + 9 + b) j = bv g b j) ∧ Bt sg c
def Fr (c : Nat) (sg sg' : Sg) : Prop := ∀ k, (k < c ∨ c + 18 ≤ k) → sg' k = sg k
theorem Fr.rf (c : Nat) (sg : Sg) : Fr c sg sg := fun _ _ => rfl
theorem Fr.tr {c : Nat} {a b d : Sg} (h : Fr c a b) (h2 : Fr c b d) : Fr c a d := fun k hk => (h2 k hk).trans (h k hk)
theorem Fr.upr {c : Nat} {a b : Sg} (h : Fr c a b) {k : Nat} (r : Gs) (hk : c ≤ k ∧ k < c + 18) : Fr c a (upr b k r) := fun k' hk' => (upr_ne _ _ (by omega)).trans (h k' hk')
theorem Fr.ups {c : Nat} {a b : Sg} (h : Fr c a b) {k : Nat} (j : Nat) (x : Int32) (hk : c ≤ k ∧ k < c + 18) : Fr c a (ups b k j x) := h.upr _ hk
theorem ups_v (sg : Sg) (k j : Nat) (x : Int32) (k' j' : Nat) : ups sg k j x k' j' = if k' = k ∧ j' = j then x else sg k' j' := by
  unfold ups upr
  by_cases h : k' = k
  · subst h
    rw [if_pos rfl]
    unfold upd
    by_cases h2 : j' = j
    · rw [if_pos h2, if_pos ⟨rfl, h2⟩]
    · rw [if_neg h2, if_neg (fun z => h2 z.2)]
  · rw [if_neg h, if_neg (fun z => h z.1)]
theorem upd_v (f : Nat → Int32) (i : Nat) (x : Int32) (i' : Nat) : upd f i x i' = if i' = i then x else f i' := rfl
theorem Rel.c3 {sg : Sg} {c : Nat} {g : Gs} (h : Rel sg c g) : sg c 3 = g 4 := h.1 3 (by decide) (by decide)
theorem Rel.c4 {sg : Sg} {c : Nat} {g : Gs} (h : Rel sg c g) : sg c 4 = g 5 := h.1 4 (by decide) (by decide)
theorem Rel.c5 {sg : Sg} {c : Nat} {g : Gs} (h : Rel sg c g) : sg c 5 = g 6 := h.1 5 (by decide) (by decide)
theorem Rel.c6 {sg : Sg} {c : Nat} {g : Gs} (h : Rel sg c g) : sg c 6 = g 7 := h.1 6 (by decide) (by decide)
theorem Rel.c7 {sg : Sg} {c : Nat} {g : Gs} (h : Rel sg c g) : sg c 7 = g 8 := h.1 7 (by decide) (by decide)
theorem Rel.c8 {sg : Sg} {c : Nat} {g : Gs} (h : Rel sg c g) : sg c 8 = g 9 := h.1 8 (by decide) (by decide)
theorem Rel.c9 {sg : Sg} {c : Nat} {g : Gs} (h : Rel sg c g) : sg c 9 = g 10 := h.1 9 (by decide) (by decide)
theorem Rel.c10 {sg : Sg} {c : Nat} {g : Gs} (h : Rel sg c g) : sg c 10 = g 11 := h.1 10 (by decide) (by decide)
theorem Rel.l0 {sg : Sg} {c : Nat} {g : Gs} (h : Rel sg c g) (hI : Inv g) {n : Nat} (hn : n < tn (g 4)) : sg (c + 2 + n) 0 = gL g (nI n) 0 := (h.2.2.1 n hn 0 (by decide)).trans (gL_0 g (by have := hI.c4.1; omega)).symm
theorem Rel.l1 {sg : Sg} {c : Nat} {g : Gs} (h : Rel sg c g) (hI : Inv g) {n : Nat} (hn : n < tn (g 4)) : sg (c + 2 + n) 1 = gL g (nI n) 1 := (h.2.2.1 n hn 1 (by decide)).trans (gL_1 g (by have := hI.c4.1; omega)).symm
theorem Rel.l2 {sg : Sg} {c : Nat} {g : Gs} (h : Rel sg c g) (hI : Inv g) {n : Nat} (hn : n < tn (g 4)) : sg (c + 2 + n) 2 = gL g (nI n) 2 := (h.2.2.1 n hn 2 (by decide)).trans (gL_2 g (by have := hI.c4.1; omega)).symm
theorem Rel.l3 {sg : Sg} {c : Nat} {g : Gs} (h : Rel sg c g) (hI : Inv g) {n : Nat} (hn : n < tn (g 4)) : sg (c + 2 + n) 3 = gL g (nI n) 3 := (h.2.2.1 n hn 3 (by decide)).trans (gL_3 g (by have := hI.c4.1; omega)).symm
theorem Rel.l4 {sg : Sg} {c : Nat} {g : Gs} (h : Rel sg c g) (hI : Inv g) {n : Nat} (hn : n < tn (g 4)) : sg (c + 2 + n) 4 = gL g (nI n) 4 := (h.2.2.1 n hn 4 (by decide)).trans (gL_4 g (by have := hI.c4.1; omega)).symm
theorem Rel.l5 {sg : Sg} {c : Nat} {g : Gs} (h : Rel sg c g) (hI : Inv g) {n : Nat} (hn : n < tn (g 4)) : sg (c + 2 + n) 5 = gL g (nI n) 5 := (h.2.2.1 n hn 5 (by decide)).trans (gL_5 g (by have := hI.c4.1; omega)).symm
theorem Rel.l6 {sg : Sg} {c : Nat} {g : Gs} (h : Rel sg c g) (hI : Inv g) {n : Nat} (hn : n < tn (g 4)) : sg (c + 2 + n) 6 = gL g (nI n) 6 := (h.2.2.1 n hn 6 (by decide)).trans (gL_6 g (by have := hI.c4.1; omega)).symm
theorem Rel.l7 {sg : Sg} {c : Nat} {g : Gs} (h : Rel sg c g) {n : Nat} (hn : n < tn (g 4)) : sg (c + 2 + n) 7 = F_servedN g (nI n) (tn (g 5)) := h.2.2.1 n hn 7 (by decide)
theorem Rel.l8 {sg : Sg} {c : Nat} {g : Gs} (h : Rel sg c g) (hI : Inv g) {n : Nat} (hn : n < tn (g 4)) : sg (c + 2 + n) 8 = gL g (nI n) 7 := (h.2.2.1 n hn 8 (by decide)).trans (gL_7 g (by have := hI.c4.1; omega)).symm
theorem Rel.b1 {sg : Sg} {c : Nat} {g : Gs} (h : Rel sg c g) (hI : Inv g) {n : Nat} (hn : n < tn (g 5)) : sg (c + 9 + n) 1 = gB g (nI n) 0 := (h.2.2.2.1 n hn 1 (by decide)).trans (gB_0 g (by have := hI.c5.1; omega)).symm
theorem Rel.b2 {sg : Sg} {c : Nat} {g : Gs} (h : Rel sg c g) (hI : Inv g) {n : Nat} (hn : n < tn (g 5)) : sg (c + 9 + n) 2 = gB g (nI n) 1 := (h.2.2.2.1 n hn 2 (by decide)).trans (gB_1 g (by have := hI.c5.1; omega)).symm
theorem Rel.b3 {sg : Sg} {c : Nat} {g : Gs} (h : Rel sg c g) (hI : Inv g) {n : Nat} (hn : n < tn (g 5)) : sg (c + 9 + n) 3 = gB g (nI n) 2 - 1 := (h.2.2.2.1 n hn 3 (by decide)).trans (congrArg (fun z => z - 1) (gB_2 g (by have := hI.c5.1; omega)).symm)
theorem Rel.b4 {sg : Sg} {c : Nat} {g : Gs} (h : Rel sg c g) (hI : Inv g) {n : Nat} (hn : n < tn (g 5)) : sg (c + 9 + n) 4 = gB g (nI n) 3 := (h.2.2.2.1 n hn 4 (by decide)).trans (gB_3 g (by have := hI.c5.1; omega)).symm
theorem Rel.b5 {sg : Sg} {c : Nat} {g : Gs} (h : Rel sg c g) (hI : Inv g) {n : Nat} (hn : n < tn (g 5)) : sg (c + 9 + n) 5 = gB g (nI n) 4 - 1 := (h.2.2.2.1 n hn 5 (by decide)).trans (congrArg (fun z => z - 1) (gB_4 g (by have := hI.c5.1; omega)).symm)
theorem Rel.b6 {sg : Sg} {c : Nat} {g : Gs} (h : Rel sg c g) (hI : Inv g) {n : Nat} (hn : n < tn (g 5)) : sg (c + 9 + n) 6 = gB g (nI n) 5 := (h.2.2.2.1 n hn 6 (by decide)).trans (gB_5 g (by have := hI.c5.1; omega)).symm
theorem Rel.b7 {sg : Sg} {c : Nat} {g : Gs} (h : Rel sg c g) (hI : Inv g) {n : Nat} (hn : n < tn (g 5)) : sg (c + 9 + n) 7 = gB g (nI n) 6 - 1 := (h.2.2.2.1 n hn 7 (by decide)).trans (congrArg (fun z => z - 1) (gB_6 g (by have := hI.c5.1; omega)).symm)
theorem Rel.b8 {sg : Sg} {c : Nat} {g : Gs} (h : Rel sg c g) (hI : Inv g) {n : Nat} (hn : n < tn (g 5)) : sg (c + 9 + n) 8 = gB g (nI n) 9 := (h.2.2.2.1 n hn 8 (by decide)).trans (gB_9 g (by have := hI.c5.1; omega)).symm
theorem Rel.b9 {sg : Sg} {c : Nat} {g : Gs} (h : Rel sg c g) (hI : Inv g) {n : Nat} (hn : n < tn (g 5)) : sg (c + 9 + n) 9 = gB g (nI n) 7 := (h.2.2.2.1 n hn 9 (by decide)).trans (gB_7 g (by have := hI.c5.1; omega)).symm
theorem Rel.b10 {sg : Sg} {c : Nat} {g : Gs} (h : Rel sg c g) (hI : Inv g) {n : Nat} (hn : n < tn (g 5)) : sg (c + 9 + n) 10 = gB g (nI n) 8 := (h.2.2.2.1 n hn 10 (by decide)).trans (gB_8 g (by have := hI.c5.1; omega)).symm
theorem Rel.b0 {sg : Sg} {c : Nat} {g : Gs} (h : Rel sg c g) {n : Nat} (hn : n < 8) : sg (c + 9 + n) 0 = 1 <<< (nI n &&& 31) := h.2.2.2.2 n hn
theorem served_un {g g' : Gs} (l : Int32) {n : Nat} (hn : n ≤ 8) (h : ∀ b, b < n → g' (60 + 10 * b + 2) = g (60 + 10 * b + 2)) : F_servedN g' l n = F_servedN g l n := by
  induction n with
  | zero => rfl
  | succ n ih =>
    rw [F_servedN, F_servedN, ih (by omega) (fun b hb => h b (by omega)), gB_2 g' (by omega), gB_2 g (by omega), h n (by omega)]
theorem Rel.putS {sg : Sg} {c : Nat} {g : Gs} (h : Rel sg c g) (hI : Inv g) (j : Nat) (x : Int32) (hj : j < 4) : Rel (ups sg (c + 17) j x) c (upd g j x) := by
  have h5 := hI.c5.1
  have h4 := hI.c4.1
  have e4 : upd g j x 4 = g 4 := pk_un (by omega)
  have e5 : upd g j x 5 = g 5 := pk_un (by omega)
  refine ⟨fun j' h1 h2 => ?_, fun j' h1 => ?_, fun l hl j' h1 => ?_, fun b hb j' h1 => ?_, fun b hb => ?_⟩
  · rw [ups_v, if_neg (by omega), pk_un (by omega), h.1 j' h1 h2]
  · rw [ups_v, upd_v]
    by_cases e : j' = j
    · rw [if_pos ⟨rfl, e⟩, if_pos e]
    · rw [if_neg (fun z => e z.2), if_neg e, h.2.1 j' h1]
  · rw [e4] at hl
    rw [ups_v, if_neg (by omega), h.2.2.1 l hl j' h1]
    unfold lv
    rw [e5, served_un _ (by omega) (fun b hb => pk_un (by omega)), pk_un (by omega), pk_un (by omega)]
  · rw [e5] at hb
    rw [ups_v, if_neg (by omega), h.2.2.2.1 b hb j' h1]
    unfold bv
    split <;> first | rfl | rw [pk_un (by omega)]
  · rw [ups_v, if_neg (by omega), h.2.2.2.2 b hb]
/-- a lighthouse's number: slot j, place i of the row -/
theorem Rel.putL {sg : Sg} {c : Nat} {g : Gs} (h : Rel sg c g) (hI : Inv g) {n : Nat} (hn : n < 6) (j i : Nat) (x : Int32) (hj : (j < 7 ∧ i = j) ∨ (j = 8 ∧ i = 7)) : Rel (ups sg (c + 2 + n) j x) c (upd g (12 + 8 * n + i) x) := by
  have h5 := hI.c5.1
  have h4 := hI.c4.1
  have e4 : upd g (12 + 8 * n + i) x 4 = g 4 := pk_un (by omega)
  have e5 : upd g (12 + 8 * n + i) x 5 = g 5 := pk_un (by omega)
  refine ⟨fun j' h1 h2 => ?_, fun j' h1 => ?_, fun l hl j' h1 => ?_, fun b hb j' h1 => ?_, fun b hb => ?_⟩
  · rw [ups_v, if_neg (by omega), pk_un (by omega), h.1 j' h1 h2]
  · rw [ups_v, if_neg (by omega), pk_un (by omega), h.2.1 j' h1]
  · rw [e4] at hl
    have e := h.2.2.1 l hl j' h1
    rw [ups_v, e]
    unfold lv
    rw [e5, served_un (g := g) _ (by omega) (fun b hb => pk_un (by omega)), upd_v, upd_v]
    by_cases q : c + 2 + l = c + 2 + n ∧ j' = j
    · obtain ⟨q1, q2⟩ := q
      have q1 : l = n := by omega
      subst q1 q2
      rw [if_pos ⟨rfl, rfl⟩]
      rcases hj with ⟨a1, rfl⟩ | ⟨rfl, rfl⟩
      · rw [if_neg (by omega), if_neg (by omega), if_pos rfl]
      · rw [if_neg (by decide), if_pos rfl, if_pos rfl]
    · rw [if_neg q]
      by_cases j7 : j' = 7
      · rw [if_pos j7, if_pos j7]
      · rw [if_neg j7, if_neg j7]
        by_cases j8 : j' = 8
        · rw [if_pos j8, if_pos j8, if_neg (by omega)]
        · rw [if_neg j8, if_neg j8, if_neg (by omega)]
  · rw [e5] at hb
    rw [ups_v, if_neg (by omega), h.2.2.2.1 b hb j' h1]
    unfold bv
    split <;> first | rfl | rw [pk_un (by omega)]
  · rw [ups_v, if_neg (by omega), h.2.2.2.2 b hb]
theorem Rel.putB {sg : Sg} {c : Nat} {g : Gs} (h : Rel sg c g) (hI : Inv g) {n : Nat} (hn : n < 8) (j i : Nat) (x y : Int32) (hj : j < 11 ∧ j ≠ 0) (hi : i < 10 ∧ i ≠ 2) (hx : bv (upd g (60 + 10 * n + i) y) n j = x) (ho : ∀ j', j' < 11 → j' ≠ j → bv (upd g (60 + 10 * n + i) y) n j' = bv g n j') : Rel (ups sg (c + 9 + n) j x) c (upd g (60 + 10 * n + i) y) := by
  have h5 := hI.c5.1
  have h4 := hI.c4.1
  have e4 : upd g (60 + 10 * n + i) y 4 = g 4 := pk_un (by omega)
  have e5 : upd g (60 + 10 * n + i) y 5 = g 5 := pk_un (by omega)
  refine ⟨fun j' h1 h2 => ?_, fun j' h1 => ?_, fun l hl j' h1 => ?_, fun b hb j' h1 => ?_, fun b hb => ?_⟩
  · rw [ups_v, if_neg (by omega), pk_un (by omega), h.1 j' h1 h2]
  · rw [ups_v, if_neg (by omega), pk_un (by omega), h.2.1 j' h1]
  · rw [e4] at hl
    rw [ups_v, if_neg (by omega), h.2.2.1 l hl j' h1]
    unfold lv
    rw [e5, served_un _ (by omega) (fun b hb => pk_un (by omega)), pk_un (by omega)]
    by_cases j7 : j' = 7
    · rw [if_pos j7, if_pos j7]
    · rw [if_neg j7, if_neg j7]
      by_cases j8 : j' = 8
      · rw [if_pos j8, if_pos j8]
      · rw [if_neg j8, if_neg j8, pk_un (by omega)]
  · rw [e5] at hb
    rw [ups_v, h.2.2.2.1 b hb j' h1]
    by_cases q : c + 9 + b = c + 9 + n ∧ j' = j
    · obtain ⟨q1, q2⟩ := q
      have q1 : b = n := by omega
      subst q1 q2
      rw [if_pos ⟨rfl, rfl⟩, hx]
    · rw [if_neg q]
      by_cases q1 : b = n
      · subst q1
        exact (ho j' h1 (fun z => q ⟨rfl, z⟩)).symm
      · unfold bv
        split <;> first | rfl | rw [pk_un (by omega)]
  · rw [ups_v, if_neg (by omega), h.2.2.2.2 b hb]
theorem Rel.pb1 {sg : Sg} {c : Nat} {g : Gs} (h : Rel sg c g) (hI : Inv g) {n : Nat} (hn : n < 8) (y : Int32) {x : Int32} (hx : x = y) : Rel (ups sg (c + 9 + n) 1 x) c (pB g (nI n) 0 y) := by
  rw [pB_0 g y hn]
  refine h.putB hI hn 1 0 x y (by decide) (by decide) ?_ (fun j' h1 h2 => ?_)
  · show upd g (60 + 10 * n) y (60 + 10 * n) = _
    rw [pk_us, hx]
  · unfold bv
    split <;> first | rfl | rw [pk_un (by omega)] | omega
theorem Rel.pb2 {sg : Sg} {c : Nat} {g : Gs} (h : Rel sg c g) (hI : Inv g) {n : Nat} (hn : n < 8) (y : Int32) {x : Int32} (hx : x = y) : Rel (ups sg (c + 9 + n) 2 x) c (pB g (nI n) 1 y) := by
  rw [pB_1 g y hn]
  refine h.putB hI hn 2 1 x y (by decide) (by decide) ?_ (fun j' h1 h2 => ?_)
  · show upd g (60 + 10 * n + 1) y (60 + 10 * n + 1) = _
    rw [pk_us, hx]
  · unfold bv
    split <;> first | rfl | rw [pk_un (by omega)] | omega
theorem Rel.pb4 {sg : Sg} {c : Nat} {g : Gs} (h : Rel sg c g) (hI : Inv g) {n : Nat} (hn : n < 8) (y : Int32) {x : Int32} (hx : x = y) : Rel (ups sg (c + 9 + n) 4 x) c (pB g (nI n) 3 y) := by
  rw [pB_3 g y hn]
  refine h.putB hI hn 4 3 x y (by decide) (by decide) ?_ (fun j' h1 h2 => ?_)
  · show upd g (60 + 10 * n + 3) y (60 + 10 * n + 3) = _
    rw [pk_us, hx]
  · unfold bv
    split <;> first | rfl | rw [pk_un (by omega)] | omega
theorem Rel.pl1 {sg : Sg} {c : Nat} {g : Gs} (h : Rel sg c g) (hI : Inv g) {n : Nat} (hn : n < 6) (x : Int32) : Rel (ups sg (c + 2 + n) 1 x) c (upd g (12 + 8 * n + 1) x) := h.putL hI hn 1 1 x (Or.inl ⟨by decide, rfl⟩)
theorem Rel.pl6 {sg : Sg} {c : Nat} {g : Gs} (h : Rel sg c g) (hI : Inv g) {n : Nat} (hn : n < 6) (x : Int32) : Rel (ups sg (c + 2 + n) 6 x) c (upd g (12 + 8 * n + 6) x) := h.putL hI hn 6 6 x (Or.inl ⟨by decide, rfl⟩)
