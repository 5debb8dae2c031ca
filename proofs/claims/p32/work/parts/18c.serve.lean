/-! the class: a boat changes its lighthouse -/
theorem served_clr {g : Gs} {l b n : Nat} (hb : b < n) (hn : n ≤ 8) {v : Int32} (hv : ¬ v = nI l + 1) : F_servedN g (nI l) n &&& ((1 <<< (nI b &&& 31)) ^^^ (-1)) = F_servedN (upd g (60 + 10 * b + 2) v) (nI l) n := served_at (g := g) hn (fun i hi => by
  rw [b_and, b_xor, bt_servedN g l n hn i hi, bt_bit (by omega) hi, b_m1 i hi]
  by_cases e : i = b
  · subst e
    have e2 : pBy (upd g (60 + 10 * i + 2) v) l i = false := by
      unfold pBy
      rw [pk_us]
      exact decide_eq_false hv
    simp [e2]
  · have e2 : pBy (upd g (60 + 10 * b + 2) v) l i = pBy g l i := by
      unfold pBy
      rw [pk_un (by omega)]
    simp [e, e2])
theorem served_set {g : Gs} {l b n : Nat} (hb : b < n) (hn : n ≤ 8) : F_servedN g (nI l) n ||| (1 <<< (nI b &&& 31)) = F_servedN (upd g (60 + 10 * b + 2) (nI l + 1)) (nI l) n := served_at (g := g) hn (fun i hi => by
  rw [b_or, bt_servedN g l n hn i hi, bt_bit (by omega) hi]
  by_cases e : i = b
  · subst e
    have e2 : pBy (upd g (60 + 10 * i + 2) (nI l + 1)) l i = true := by
      unfold pBy
      rw [pk_us]
      exact decide_eq_true rfl
    simp [e2, hb]
  · have e2 : pBy (upd g (60 + 10 * b + 2) (nI l + 1)) l i = pBy g l i := by
      unfold pBy
      rw [pk_un (by omega)]
    simp [e, e2])
theorem served_keep {g : Gs} {l b n : Nat} (hn : n ≤ 8) {v : Int32} (h1 : ¬ g (60 + 10 * b + 2) = nI l + 1) (h2 : ¬ v = nI l + 1) : F_servedN g (nI l) n = F_servedN (upd g (60 + 10 * b + 2) v) (nI l) n := served_at (g := g) hn (fun i hi => by
  rw [bt_servedN g l n hn i hi]
  by_cases e : i = b
  · subst e
    have e2 : pBy (upd g (60 + 10 * i + 2) v) l i = false := by
      unfold pBy
      rw [pk_us]
      exact decide_eq_false h2
    have e3 : pBy g l i = false := decide_eq_false h1
    rw [e2, e3]
  · have e2 : pBy (upd g (60 + 10 * b + 2) v) l i = pBy g l i := by
      unfold pBy
      rw [pk_un (by omega)]
    rw [e2])
theorem Rel.by {sg : Sg} {c : Nat} {g : Gs} (h : Rel sg c g) (hI : Inv g) {b : Nat} (hb : b < tn (g 5)) {M : Sg} {v : Int32} (h7 : ∀ l, l < tn (g 4) → M (c + 2 + l) 7 = F_servedN (upd g (60 + 10 * b + 2) v) (nI l) (tn (g 5))) (h3 : M (c + 9 + b) 3 = v - 1) (ho : ∀ k j, ¬ (j = 7 ∧ c + 2 ≤ k ∧ k < c + 8) → ¬ (j = 3 ∧ k = c + 9 + b) → M k j = sg k j) : Rel M c (upd g (60 + 10 * b + 2) v) := by
  have h5 := hI.c5.1
  have h4 := hI.c4.1
  have e4 : upd g (60 + 10 * b + 2) v 4 = g 4 := pk_un (by omega)
  have e5 : upd g (60 + 10 * b + 2) v 5 = g 5 := pk_un (by omega)
  refine ⟨fun j' h1 h2 => ?_, fun j' h1 => ?_, fun l hl j' h1 => ?_, fun b' hb' j' h1 => ?_, fun b' hb' => ?_⟩
  · rw [ho _ _ (by omega) (by omega), pk_un (by omega), h.1 j' h1 h2]
  · rw [ho _ _ (by omega) (by omega), pk_un (by omega), h.2.1 j' h1]
  · rw [e4] at hl
    by_cases j7 : j' = 7
    · subst j7
      rw [h7 l hl]
      unfold lv
      rw [if_pos rfl, e5]
    · rw [ho _ _ (by omega) (by omega), h.2.2.1 l hl j' h1]
      unfold lv
      rw [if_neg j7, if_neg j7]
      by_cases j8 : j' = 8
      · rw [if_pos j8, if_pos j8, pk_un (by omega)]
      · rw [if_neg j8, if_neg j8, pk_un (by omega)]
  · rw [e5] at hb'
    by_cases q : b' = b ∧ j' = 3
    · obtain ⟨rfl, rfl⟩ := q
      rw [h3]
      show v - 1 = upd g (60 + 10 * b' + 2) v (60 + 10 * b' + 2) - 1
      rw [pk_us]
    · rw [ho _ _ (by omega) (by omega), h.2.2.2.1 b' hb' j' h1]
      by_cases j3 : j' = 3
      · subst j3
        exact (congrArg (fun z => z - 1) (pk_un (by omega))).symm
      · unfold bv
        split <;> first | rfl | exact (pk_un (by omega)).symm | exact (congrArg (fun z => z - 1) (pk_un (by omega))).symm | (exfalso; exact j3 rfl)
  · rw [ho _ _ (by omega) (by omega), h.2.2.2.2 b' hb']
theorem nIs_ne {a b : Nat} (ha : a < 100) (hb : b < 100) (h : a ≠ b) : ¬ nI a + 1 = nI b + 1 := by
  rw [nI_1, nI_1, nI_eq (by omega) (by omega)]
  omega
theorem nIs_0 {a : Nat} (ha : a < 100) : ¬ (0 : Int32) = nI a + 1 := by
  rw [nI_1]
  intro z
  have := congrArg Int32.toInt z
  rw [nI_toInt (by omega)] at this
  have e : (0 : Int32).toInt = 0 := rfl
  omega
theorem Rel.sv00 {sg : Sg} {c : Nat} {g : Gs} (h : Rel sg c g) (hI : Inv g) {b : Nat} (hb : b < tn (g 5)) (ho : gB g (nI b) 2 = 0) : Rel (ups sg (c + 9 + b) 3 (-1)) c (pB g (nI b) 2 0) := by
  have h5 := hI.c5.1
  have h4 := hI.c4.1
  rw [gB_2 g (by omega)] at ho
  rw [pB_2 g _ (by omega)]
  refine h.by hI hb (fun l hl => ?_) ?_ (fun k j h1 h2 => ?_)
  · rw [ups_v, if_neg (by omega), h.l7 hl]
    exact served_keep h5 (by rw [ho]; exact nIs_0 (by omega)) (nIs_0 (by omega))
  · rw [ups_v, if_pos ⟨rfl, rfl⟩]; rfl
  · rw [ups_v, if_neg (by omega)]
theorem Rel.sv10 {sg : Sg} {c : Nat} {g : Gs} (h : Rel sg c g) (hI : Inv g) {b l0 : Nat} (hb : b < tn (g 5)) (hl0 : l0 < tn (g 4)) (ho : gB g (nI b) 2 = nI l0 + 1) : Rel (ups (ups sg (c + 2 + l0) 7 (sg (c + 2 + l0) 7 &&& (sg (c + 9 + b) 0 ^^^ (-1)))) (c + 9 + b) 3 (-1)) c (pB g (nI b) 2 0) := by
  have h5 := hI.c5.1
  have h4 := hI.c4.1
  rw [gB_2 g (by omega)] at ho
  rw [pB_2 g _ (by omega)]
  refine h.by hI hb (fun l hl => ?_) ?_ (fun k j h1 h2 => ?_)
  · rw [ups_v, if_neg (by omega), ups_v]
    by_cases e : l = l0
    · subst e
      rw [if_pos ⟨rfl, rfl⟩, h.l7 hl, h.b0 (by omega)]
      exact served_clr hb h5 (nIs_0 (by omega))
    · rw [if_neg (by omega), h.l7 hl]
      exact served_keep h5 (by rw [ho]; exact nIs_ne (by omega) (by omega) (Ne.symm e)) (nIs_0 (by omega))
  · rw [ups_v, if_pos ⟨rfl, rfl⟩]; rfl
  · rw [ups_v, if_neg (by omega), ups_v, if_neg (by omega)]
theorem Rel.sv01 {sg : Sg} {c : Nat} {g : Gs} (h : Rel sg c g) (hI : Inv g) {b l1 : Nat} (hb : b < tn (g 5)) (hl1 : l1 < tn (g 4)) (ho : gB g (nI b) 2 = 0) : Rel (ups (ups sg (c + 2 + l1) 7 (sg (c + 2 + l1) 7 ||| sg (c + 9 + b) 0)) (c + 9 + b) 3 (nI l1)) c (pB g (nI b) 2 (nI l1 + 1)) := by
  have h5 := hI.c5.1
  have h4 := hI.c4.1
  rw [gB_2 g (by omega)] at ho
  rw [pB_2 g _ (by omega)]
  refine h.by hI hb (fun l hl => ?_) ?_ (fun k j h1 h2 => ?_)
  · rw [ups_v, if_neg (by omega), ups_v]
    by_cases e : l = l1
    · subst e
      rw [if_pos ⟨rfl, rfl⟩, h.l7 hl, h.b0 (by omega)]
      exact served_set hb h5
    · rw [if_neg (by omega), h.l7 hl]
      exact served_keep h5 (by rw [ho]; exact nIs_0 (by omega)) (nIs_ne (by omega) (by omega) (Ne.symm e))
  · rw [ups_v, if_pos ⟨rfl, rfl⟩]
    grind
  · rw [ups_v, if_neg (by omega), ups_v, if_neg (by omega)]
theorem Rel.sv11 {sg : Sg} {c : Nat} {g : Gs} (h : Rel sg c g) (hI : Inv g) {b l0 l1 : Nat} (hb : b < tn (g 5)) (hl0 : l0 < tn (g 4)) (hl1 : l1 < tn (g 4)) (ho : gB g (nI b) 2 = nI l0 + 1) : Rel (ups (ups (ups sg (c + 2 + l0) 7 (sg (c + 2 + l0) 7 &&& (sg (c + 9 + b) 0 ^^^ (-1)))) (c + 2 + l1) 7 (ups sg (c + 2 + l0) 7 (sg (c + 2 + l0) 7 &&& (sg (c + 9 + b) 0 ^^^ (-1))) (c + 2 + l1) 7 ||| ups sg (c + 2 + l0) 7 (sg (c + 2 + l0) 7 &&& (sg (c + 9 + b) 0 ^^^ (-1))) (c + 9 + b) 0)) (c + 9 + b) 3 (nI l1)) c (pB g (nI b) 2 (nI l1 + 1)) := by
  have h5 := hI.c5.1
  have h4 := hI.c4.1
  rw [gB_2 g (by omega)] at ho
  rw [pB_2 g _ (by omega)]
  have eb : ups sg (c + 2 + l0) 7 (sg (c + 2 + l0) 7 &&& (sg (c + 9 + b) 0 ^^^ (-1))) (c + 9 + b) 0 = 1 <<< (nI b &&& 31) := by
    rw [ups_v, if_neg (by omega), h.b0 (by omega)]
  have eL : ∀ l, l < tn (g 4) → ups sg (c + 2 + l0) 7 (sg (c + 2 + l0) 7 &&& (sg (c + 9 + b) 0 ^^^ (-1))) (c + 2 + l) 7 = F_servedN (upd g (60 + 10 * b + 2) 0) (nI l) (tn (g 5)) := by
    intro l hl
    rw [ups_v]
    by_cases e : l = l0
    · subst e
      rw [if_pos ⟨rfl, rfl⟩, h.l7 hl, h.b0 (by omega)]
      exact served_clr hb h5 (nIs_0 (by omega))
    · rw [if_neg (by omega), h.l7 hl]
      exact served_keep h5 (by rw [ho]; exact nIs_ne (by omega) (by omega) (Ne.symm e)) (nIs_0 (by omega))
  rw [eb]
  refine h.by hI hb (fun l hl => ?_) ?_ (fun k j h1 h2 => ?_)
  · rw [ups_v, if_neg (by omega), ups_v]
    by_cases e : l = l1
    · subst e
      rw [if_pos ⟨rfl, rfl⟩, eL l hl, served_set hb h5, fa_upd_twice]
    · rw [if_neg (by omega), eL l hl, served_keep (v := nI l1 + 1) (b := b) h5 (by rw [pk_us]; exact nIs_0 (by omega)) (nIs_ne (by omega) (by omega) (Ne.symm e)), fa_upd_twice]
  · rw [ups_v, if_pos ⟨rfl, rfl⟩]
    grind
  · rw [ups_v, if_neg (by omega), ups_v, if_neg (by omega), ups_v, if_neg (by omega)]
/-! brightness, worths -/
theorem Rel.okW {sg : Sg} {c : Nat} {g : Gs} (h : Rel sg c g) (hI : Inv g) {n : Nat} (hn : n < tn (g 4)) {p : Int32} (hp : inI p 0 199) : okW (sg (c + 2 + n)) p := by
  have h4 := hI.c4.1
  obtain ⟨a1, a2, a3, a4, a5, a6, a7⟩ := hI.2.2.1 n hn
  refine ⟨hp, ?_, ?_⟩
  · rw [h.l0 hI hn, gL_0 g (by omega)]; exact a1
  · rw [h.l3 hI hn, gL_3 g (by omega)]; exact a4
theorem Rel.bright {sg : Sg} {c : Nat} {g : Gs} (h : Rel sg c g) (hI : Inv g) {n : Nat} (hn : n < tn (g 4)) (p : Int32) : W_bright (sg (c + 2 + n)) p (sg c 5) = F_bright g (nI n) p := by
  unfold W_bright W_x F_bright
  unfold W_turned
  rw [h.l0 hI hn, h.l1 hI hn, h.l2 hI hn, h.l3 hI hn, h.c5]
theorem Rel.worth {sg : Sg} {c : Nat} {g : Gs} (h : Rel sg c g) (hI : Inv g) {n : Nat} (hn : n < tn (g 4)) (p : Int32) : W_worth (sg (c + 2 + n)) p (sg c 5) = F_worth g (nI n) p := by
  unfold W_worth F_worth
  rw [h.bright hI hn, h.l6 hI hn]
theorem Rel.cnt {sg : Sg} {c : Nat} {g : Gs} (h : Rel sg c g) (hI : Inv g) {n : Nat} (hn : n < tn (g 4)) : C_bc (sg (c + 2 + n) 7) = F_serves g (nI n) := by
  rw [h.l7 hn, bc_served g n hI.c5.1]
  rfl
theorem Inv.bp {g : Gs} (h : Inv g) {n : Nat} (hn : n < tn (g 5)) : inI (gB g (nI n) 0) 0 199 := by
  rw [gB_0 g (by have := h.c5.1; omega)]
  exact (h.2.2.2.1 n hn).1
theorem Inv.cap {g : Gs} (h : Inv g) {n : Nat} (hn : n < tn (g 4)) : ¬ F_serves g (nI n) = gL g (nI n) 4 ↔ F_serves g (nI n) < gL g (nI n) 4 := by
  have q := h.2.2.2.2.1 n hn
  rw [gL_4 g (by have := h.c4.1; omega), Int32.lt_iff_toInt_lt]
  constructor
  · intro z
    rcases Int.lt_or_eq_of_le q with e | e
    · exact e
    · exact absurd (Int32.toInt_inj.mp e) z
  · intro z e
    rw [e] at z
    omega
theorem rg4 {g : Gs} (h : Inv g) (a : Int32) : (inn a 0 (g 4 - 1) ∧ ∃ n, n < tn (g 4) ∧ a = nI n) ∨ (¬ inn a 0 (g 4 - 1) ∧ (a < 0 ∨ g 4 ≤ a)) := by
  by_cases q : inn a 0 (g 4 - 1)
  · exact Or.inl ⟨q, in_L h.hc4 q⟩
  · refine Or.inr ⟨q, ?_⟩
    by_cases z : a < 0
    · exact Or.inl z
    · right
      refine Int32.not_lt.mp (fun y => q ⟨Int32.not_lt.mp z, ?_⟩)
      have h1 := Int32.lt_iff_toInt_lt.mp y
      have h2 := h.hc4
      have z1 : (1 : Int32).toInt = 1 := rfl
      rw [Int32.le_iff_toInt_le, fb_subI (by omega) (by omega)]
      omega
theorem rg5 {g : Gs} (h : Inv g) (a : Int32) : (inn a 0 (g 5 - 1) ∧ ∃ n, n < tn (g 5) ∧ a = nI n) ∨ (¬ inn a 0 (g 5 - 1) ∧ (a < 0 ∨ g 5 ≤ a)) := by
  by_cases q : inn a 0 (g 5 - 1)
  · exact Or.inl ⟨q, in_B h.hc5 q⟩
  · refine Or.inr ⟨q, ?_⟩
    by_cases z : a < 0
    · exact Or.inl z
    · right
      refine Int32.not_lt.mp (fun y => q ⟨Int32.not_lt.mp z, ?_⟩)
      have h1 := Int32.lt_iff_toInt_lt.mp y
      have h2 := h.hc5
      have z1 : (1 : Int32).toInt = 1 := rfl
      rw [Int32.le_iff_toInt_le, fb_subI (by omega) (by omega)]
      omega

