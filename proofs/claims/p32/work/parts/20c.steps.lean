/-! the class: the steps of a tick, against the reference's -/
theorem drops_eq {g : Gs} {n : Nat} (h8 : n < 8) (hT : ¬ 0 < gB (F_dropsA g (nI n)) (nI n) 3 → gB (F_dropsA g (nI n)) (nI n) 3 = 0) : F_drops g (nI n) = if 0 < gB (F_dropsA g (nI n)) (nI n) 3 then upd (upd (F_dropsA g (nI n)) (60 + 10 * n + 3) 0) 10 (F_dropsA g (nI n) 10 + 1) else F_dropsA g (nI n) := by
  unfold F_drops
  generalize F_dropsA g (nI n) = A at hT ⊢
  by_cases hp : 0 < gB A (nI n) 3
  · rw [if_pos hp, b01_t hp, pB_3 _ _ h8, fa_upd_swap _ (by omega)]
  · rw [if_neg hp, b01_f hp, Int32.add_zero, fa_upd_same rfl, pB_3 _ _ h8]
    have := hT hp
    rw [gB_3 _ h8] at this
    exact fa_upd_same this
theorem finds_no {g : Gs} {n : Nat} (h8 : n < 8) (h0 : gB g (nI n) 2 = 0) (hf : F_findsN g (nI n) (tn (g 4)) = -1) : F_finds g (nI n) = g := by
  unfold F_finds
  rw [hf]
  show upd (pB g (nI n) 2 (-1 + 1)) 11 (pB g (nI n) 2 (-1 + 1) 11 + (if (-1 : Int32) = -1 then 0 else 1)) = g
  rw [if_pos rfl, Int32.add_zero, fa_upd_same rfl, pB_2 _ _ h8]
  rw [gB_2 _ h8] at h0
  exact fa_upd_same h0
theorem finds_yes {g : Gs} {n m : Nat} (hm : m < 6) (hf : F_findsN g (nI n) (tn (g 4)) = nI m) : F_finds g (nI n) = upd (pB g (nI n) 2 (nI m + 1)) 11 (pB g (nI n) 2 (nI m + 1) 11 + 1) := by
  unfold F_finds
  rw [hf]
  show upd (pB g (nI n) 2 (nI m + 1)) 11 (pB g (nI n) 2 (nI m + 1) 11 + (if nI m = -1 then 0 else 1)) = _
  rw [if_neg (fun z => absurd (congrArg Int32.toInt z) (by rw [nI_toInt (by omega)]; show ¬ (m : Int) = -1; omega))]
theorem nI_m1 {n : Nat} (h : n < 1000) : ¬ nI n = -1 := fun z => absurd (congrArg Int32.toInt z) (by rw [nI_toInt (by omega)]; show ¬ (n : Int) = -1; omega)
/-- a worth is small -/
theorem worth_rng {sg : Sg} {c : Nat} {g : Gs} (h : Rel sg c g) (hI : Inv g) {n : Nat} (hn : n < tn (g 4)) {p : Int32} (hp : inI p 0 199) : inI (F_worth g (nI n) p) (-30) 9930 := by
  have hw := h.okW hI hn hp
  have h4 := hI.c4.1
  obtain ⟨a1, a2, a3, a4, a5, a6, a7⟩ := hI.2.2.1 n hn
  rw [← h.worth hI hn]
  have hs : inI (sg (c + 2 + n) 1) 10 99 := by rw [h.l1 hI hn, gL_1 g (by omega)]; exact a2
  have hl : inI (sg (c + 2 + n) 6) (-30) 30 := by rw [h.l6 hI hn, gL_6 g (by omega)]; exact a7
  generalize sg (c + 2 + n) = r at hw hs hl
  have hX : inI (W_x r p) 0 9900 := by
    have hsp := hw.span
    unfold W_x
    generalize (10 + (if p - r 0 < 0 then -(p - r 0) else p - r 0)) = d at hsp
    have z1 : (1 : Int32).toInt = 1 := rfl
    have hd : 1 ≤ d.toInt := by
      have := Int32.le_iff_toInt_le.mp (Int32.not_lt.mp hsp)
      omega
    obtain ⟨e1, e2⟩ := cnt_in (x := d) (n := 2147483647) (by omega) (by have := fb_rng d; omega)
    obtain ⟨f1, f2⟩ := cnt_in (x := r 1) (n := 99) (by have := hs.1; omega) hs.2
    rw [e2, f2, show (100 : Int32) = nI 100 from rfl, pk_mul]
    have hpos : 0 < tn d := by
      have : d.toInt = (tn d : Nat) := by rw [e2, nI_toInt (by omega), show tn (nI (tn d)) = tn d from nI_clamp (by omega)]
      omega
    rw [pk_div (by omega) hpos (by omega)]
    have := Nat.div_le_self (tn (r 1) * 100) (tn d)
    generalize tn (r 1) * 100 / tn d = q at this ⊢
    unfold inI
    rw [nI_toInt (by omega)]
    omega
  have hB : inI (W_bright r p (sg c 5)) 0 9900 := by
    have h2 : inI (W_x r p / 2) 0 9900 := by
      obtain ⟨x1, x2⟩ := cnt_in (x := W_x r p) (n := 9900) hX.1 hX.2
      rw [x2, show (2 : Int32) = nI 2 from rfl, pk_div (by omega) (by decide) (by decide)]
      unfold inI
      rw [nI_toInt (by omega)]
      omega
    unfold W_bright
    split
    · split
      · exact h2
      · exact hX
    · split
      · exact ⟨by decide, by decide⟩
      · exact hX
  unfold W_worth inI
  obtain ⟨b1, b2⟩ := hB
  obtain ⟨l1, l2⟩ := hl
  rw [fb_addI (by omega) (by omega)]
  omega
/-! the wish -/
def wBase (g : Gs) (b : Int32) : Int32 := F_worth g (gB g b 2 - 1) (gB g b 0) + g 0
def wLeast (g : Gs) (b : Int32) (i : Nat) : Int32 := if F_wishedN g b i = -1 then wBase g b else F_worth g (F_wishedN g b i) (gB g b 0) + 1
theorem wish_inv (g : Gs) (b : Int32) : ∀ i, F_wishedN g b i = -1 ∨ wBase g b ≤ F_worth g (F_wishedN g b i) (gB g b 0)
  | 0 => Or.inl rfl
  | i + 1 => by
    rw [F_wishedN]
    split
    · rename_i h
      exact Or.inr h.1.2
    · exact wish_inv g b i
theorem wish_s {sg : Sg} {c : Nat} {g : Gs} (hR : Rel sg c g) (hI : Inv g) {n i : Nat} (hn : n < tn (g 5)) (hi : i < tn (g 4)) : (¬ nI i = gB g (nI n) 2 - 1 ∧ wLeast g (nI n) i ≤ F_worth g (nI i) (gB g (nI n) 0)) ↔ ((¬ nI i = gB g (nI n) 2 - 1 ∧ F_worth g (gB g (nI n) 2 - 1) (gB g (nI n) 0) + g 0 ≤ F_worth g (nI i) (gB g (nI n) 0)) ∧ (F_wishedN g (nI n) i = -1 ∨ F_worth g (F_wishedN g (nI n) i) (gB g (nI n) 0) < F_worth g (nI i) (gB g (nI n) 0))) := by
  show _ ↔ ((_ ∧ wBase g (nI n) ≤ _) ∧ _)
  unfold wLeast
  by_cases h1 : F_wishedN g (nI n) i = -1
  · rw [if_pos h1]
    exact ⟨fun z => ⟨z, Or.inl h1⟩, fun z => z.1⟩
  · rw [if_neg h1]
    rcases F_wishedN_in g (nI n) i with h2 | ⟨j, hj, e⟩
    · exact absurd h2 h1
    · have hb := (wish_inv g (nI n) i).resolve_left h1
      rw [e] at hb ⊢
      obtain ⟨w1, w2⟩ := worth_rng hR hI (n := j) (by omega) (hI.bp hn)
      have z1 : (1 : Int32).toInt = 1 := rfl
      have ea := fb_addI (x := F_worth g (nI j) (gB g (nI n) 0)) (y := 1) (by omega) (by omega)
      have hle := Int32.le_iff_toInt_le.mp hb
      constructor
      · rintro ⟨a, b⟩
        have b := Int32.le_iff_toInt_le.mp b
        exact ⟨⟨a, Int32.le_iff_toInt_le.mpr (by omega)⟩, Or.inr (Int32.lt_iff_toInt_lt.mpr (by omega))⟩
      · rintro ⟨⟨a, b⟩, d⟩
        refine ⟨a, Int32.le_iff_toInt_le.mpr ?_⟩
        have d := Int32.lt_iff_toInt_lt.mp (d.resolve_left (nI_m1 (by have := hI.c4.1; omega)))
        omega
theorem wish_y {g : Gs} {n i : Nat} (h : ((¬ nI i = gB g (nI n) 2 - 1 ∧ F_worth g (gB g (nI n) 2 - 1) (gB g (nI n) 0) + g 0 ≤ F_worth g (nI i) (gB g (nI n) 0)) ∧ (F_wishedN g (nI n) i = -1 ∨ F_worth g (F_wishedN g (nI n) i) (gB g (nI n) 0) < F_worth g (nI i) (gB g (nI n) 0)))) (hi : i < 6) : F_wishedN g (nI n) (i + 1) = nI i ∧ wLeast g (nI n) (i + 1) = F_worth g (nI i) (gB g (nI n) 0) + 1 := by
  have e : F_wishedN g (nI n) (i + 1) = nI i := by rw [F_wishedN, if_pos h]
  refine ⟨e, ?_⟩
  unfold wLeast
  rw [e, if_neg (nI_m1 (by omega))]
theorem wish_n {g : Gs} {n i : Nat} (h : ¬ ((¬ nI i = gB g (nI n) 2 - 1 ∧ F_worth g (gB g (nI n) 2 - 1) (gB g (nI n) 0) + g 0 ≤ F_worth g (nI i) (gB g (nI n) 0)) ∧ (F_wishedN g (nI n) i = -1 ∨ F_worth g (F_wishedN g (nI n) i) (gB g (nI n) 0) < F_worth g (nI i) (gB g (nI n) 0)))) : F_wishedN g (nI n) (i + 1) = F_wishedN g (nI n) i ∧ wLeast g (nI n) (i + 1) = wLeast g (nI n) i := by
  have e : F_wishedN g (nI n) (i + 1) = F_wishedN g (nI n) i := by rw [F_wishedN, if_neg h]
  refine ⟨e, ?_⟩
  unfold wLeast
  rw [e]
theorem Rel.wishFor {s : Sg} {c : Nat} {G : Gs} (h : Rel s c G) (hC : Cn G) {n : Nat} (hn : n < 8) {t a y : Int32} (ha : a = y - 1) : Rel (upr s (c + 9 + n) (upd (upd (s (c + 9 + n)) 6 t) 5 a)) c (upd (upd G (60 + 10 * n + 5) t) (60 + 10 * n + 4) y) := by
  have h1 := h.qb6 hC hn t rfl
  have h2 := h1.qb5 (Cn_upd hC _ (by omega)) hn y ha
  unfold ups at h2
  rw [upr_at, upr_upr] at h2
  exact h2
/-! handing on -/
theorem hands_eq {g C : Gs} {n m : Nat} (h8 : n < 8) (h6 : m < 6) {x : Int32} (hx : F_isBack g (nI n) (nI m) = x) (hu : ∀ i, i ≠ 8 → i ≠ 60 + 10 * n + 8 → C i = g i) (e8 : C 8 = g 8 + x) (eB : C (60 + 10 * n + 8) = g (60 + 10 * n + 8) + x) :
    F_hands g (nI n) (nI m) = upd (upd (upd (upd (upd (upd (upd (upd C 7 (g 7 + 1)) (60 + 10 * n + 7) (g (60 + 10 * n + 7) + 1)) (12 + 8 * m + 7) (g (12 + 8 * m + 7) + 1)) (60 + 10 * n + 6) (g (60 + 10 * n + 2))) (60 + 10 * n + 9) (g 6)) (60 + 10 * n + 2) (nI m + 1)) (60 + 10 * n + 5) 0) (60 + 10 * n + 4) 0 := by
  unfold F_hands F_handsB F_handsA F_inc
  rw [hx, tnB_7 h8, tnB_8 h8, tnL_7 h6, gB_2 _ h8, pB_2 _ _ h8, pB_4 _ _ h8, pB_5 _ _ h8, pB_6 _ _ h8, pB_9 _ _ h8]
  funext i
  by_cases i1 : i = 8
  · subst i1
    repeat (first | rw [pk_us] | rw [pk_un (by omega)])
    exact e8.symm
  by_cases i2 : i = 60 + 10 * n + 8
  · subst i2
    repeat (first | rw [pk_us] | rw [pk_un (by omega)])
    exact eB.symm
  by_cases i3 : i = 7
  · subst i3
    repeat (first | rw [pk_us] | rw [pk_un (by omega)])
  by_cases i4 : i = 60 + 10 * n + 7
  · subst i4
    repeat (first | rw [pk_us] | rw [pk_un (by omega)])
  by_cases i5 : i = 12 + 8 * m + 7
  · subst i5
    repeat (first | rw [pk_us] | rw [pk_un (by omega)])
  by_cases i6 : i = 60 + 10 * n + 6
  · subst i6
    repeat (first | rw [pk_us] | rw [pk_un (by omega)])
  by_cases i7 : i = 60 + 10 * n + 9
  · subst i7
    repeat (first | rw [pk_us] | rw [pk_un (by omega)])
  by_cases i8 : i = 60 + 10 * n + 2
  · subst i8
    repeat (first | rw [pk_us] | rw [pk_un (by omega)])
  by_cases i9 : i = 60 + 10 * n + 5
  · subst i9
    repeat (first | rw [pk_us] | rw [pk_un (by omega)])
  by_cases i10 : i = 60 + 10 * n + 4
  · subst i10
    repeat (first | rw [pk_us] | rw [pk_un (by omega)])
  repeat (first | rw [pk_un (by omega)])
  exact (hu i i1 i2).symm
abbrev askC (sg : Sg) (c : Nat) (g : Gs) (n m : Nat) (sg1 : Sg) : Prop := ∃ C, Rel sg1 c C ∧ Fr c sg sg1 ∧ Cn C ∧ (∀ i, i ≠ 8 → i ≠ 60 + 10 * n + 8 → C i = g i) ∧ C 8 = g 8 + F_isBack g (nI n) (nI m) ∧ C (60 + 10 * n + 8) = g (60 + 10 * n + 8) + F_isBack g (nI n) (nI m)
theorem ask_no {sg sg1 : Sg} {c : Nat} {g : Gs} (hR : Rel sg c g) (hI : Inv g) {n m : Nat} (e : sg1 = sg) (hb : F_isBack g (nI n) (nI m) = 0) : askC sg c g n m sg1 := by
  subst e
  exact ⟨g, hR, Fr.rf _ _, hI.cn, fun _ _ _ => rfl, by rw [hb, Int32.add_zero], by rw [hb, Int32.add_zero]⟩
theorem ask_yes {sg sg1 : Sg} {c : Nat} {g : Gs} (hR : Rel sg c g) (hI : Inv g) {n m : Nat} (hn : n < tn (g 5)) (e : sg1 = ups (ups sg c 7 (sg c 7 + 1)) (c + 9 + n) 10 (ups sg c 7 (sg c 7 + 1) (c + 9 + n) 10 + 1)) (hb : F_isBack g (nI n) (nI m) = 1) : askC sg c g n m sg1 := by
  have h8 : n < 8 := by have := hI.c5.1; omega
  subst e
  have h1 := hR.putC' hI.cn 7 (sg c 7 + 1) (by decide)
  have e2 : ups sg c 7 (sg c 7 + 1) (c + 9 + n) 10 = g (60 + 10 * n + 8) := by
    rw [ups_ne _ _ _ (by omega), hR.b10 hI hn, gB_8 g h8]
  refine ⟨_, h1.qb10 (Cn_upd hI.cn _ (by decide)) h8 _ rfl, ((Fr.rf c sg).ups (k := c) _ _ (by omega)).ups _ _ (by omega), Cn_upd (Cn_upd hI.cn _ (by decide)) _ (by omega), fun i i1 i2 => ?_, ?_, ?_⟩
  · rw [pk_un i2, pk_un i1]
  · rw [pk_un (by omega), pk_us, hR.c7, hb]
  · rw [pk_us, e2, hb]
theorem isB_a {sg : Sg} {c : Nat} {g : Gs} (hR : Rel sg c g) (hI : Inv g) {n m : Nat} (hn : n < tn (g 5)) (hw : gB g (nI n) 4 = nI m + 1) (h : ¬ sg (c + 9 + n) 5 = sg (c + 9 + n) 7) : F_isBack g (nI n) (nI m) = 0 := by
  rw [hR.b5 hI hn, hR.b7 hI hn, hw] at h
  exact b01_f (fun z => h (by rw [z.1]))
theorem isB_b {sg : Sg} {c : Nat} {g : Gs} (hR : Rel sg c g) (hI : Inv g) {n m : Nat} (hn : n < tn (g 5)) (h : g 3 < sg c 5 - sg (c + 9 + n) 8) : F_isBack g (nI n) (nI m) = 0 := by
  rw [hR.c5, hR.b8 hI hn] at h
  exact b01_f (fun z => absurd z.2 (Int32.not_le.mpr h))
theorem isB_c {sg : Sg} {c : Nat} {g : Gs} (hR : Rel sg c g) (hI : Inv g) {n m : Nat} (hn : n < tn (g 5)) (hw : gB g (nI n) 4 = nI m + 1) (h : sg (c + 9 + n) 5 = sg (c + 9 + n) 7) (h2 : ¬ g 3 < sg c 5 - sg (c + 9 + n) 8) : F_isBack g (nI n) (nI m) = 1 := by
  rw [hR.b5 hI hn, hR.b7 hI hn, hw] at h
  rw [hR.c5, hR.b8 hI hn] at h2
  exact b01_t ⟨by grind, Int32.not_lt.mp h2⟩
theorem Inv_ask {g C : Gs} (h : Inv g) {n m : Nat} (hn : n < tn (g 5)) (hm : m < tn (g 4)) (hu : ∀ i, i ≠ 8 → i ≠ 60 + 10 * n + 8 → C i = g i) (x y z u v : Int32) : Inv (upd (upd (upd (upd (upd C 7 x) (60 + 10 * n + 7) y) (12 + 8 * m + 7) z) (60 + 10 * n + 6) (g (60 + 10 * n + 2))) (60 + 10 * n + 9) u) := by
  have h5 := h.c5.1
  have h4 := h.c4.1
  obtain ⟨b1, b2, b3, b4, b5, b6⟩ := h.2.2.2.1 n hn
  have q : ∀ i, i ≠ 7 → i ≠ 8 → i ≠ 60 + 10 * n + 7 → i ≠ 60 + 10 * n + 8 → i ≠ 12 + 8 * m + 7 → i ≠ 60 + 10 * n + 6 → i ≠ 60 + 10 * n + 9 → upd (upd (upd (upd (upd C 7 x) (60 + 10 * n + 7) y) (12 + 8 * m + 7) z) (60 + 10 * n + 6) (g (60 + 10 * n + 2))) (60 + 10 * n + 9) u i = g i := by
    intro i a1 a2 a3 a4 a5 a6 a7
    rw [pk_un a7, pk_un a6, pk_un a5, pk_un a3, pk_un a1, hu i a2 a4]
  refine h.step hn (fun i hi => q i (by omega) (by omega) (by omega) (by omega) (by omega) (by omega) (by omega)) (fun l j hl hj => q _ (by omega) (by omega) (by omega) (by omega) (by omega) (by omega) (by omega)) (fun l hl h6 => q _ (by omega) (by omega) (by omega) (by omega) (by omega) (by omega) (by omega)) (fun b j hb hbn hj => q _ (by omega) (by omega) (by omega) (by omega) (by omega) (by omega) (by omega)) ?_ (fun l hl e => Or.inl ?_)
  · unfold BInv
    rw [q (60 + 10 * n) (by omega) (by omega) (by omega) (by omega) (by omega) (by omega) (by omega), q (60 + 10 * n + 1) (by omega) (by omega) (by omega) (by omega) (by omega) (by omega) (by omega), q (60 + 10 * n + 2) (by omega) (by omega) (by omega) (by omega) (by omega) (by omega) (by omega), q (60 + 10 * n + 3) (by omega) (by omega) (by omega) (by omega) (by omega) (by omega) (by omega), q (60 + 10 * n + 4) (by omega) (by omega) (by omega) (by omega) (by omega) (by omega) (by omega), q 4 (by omega) (by omega) (by omega) (by omega) (by omega) (by omega) (by omega), pk_un (by omega), pk_us]
    exact ⟨b1, b2, b3, b4, b5, b3⟩
  · rw [q _ (by omega) (by omega) (by omega) (by omega) (by omega) (by omega) (by omega)] at e
    exact e

