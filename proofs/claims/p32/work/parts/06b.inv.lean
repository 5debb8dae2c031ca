/-! what the tick keeps -/
theorem gB_0 (g : Gs) {n : Nat} (hn : n < 8) : gB g (nI n) 0 = g (60 + 10 * n) := gB_at g (j := 0) hn (by decide)
theorem pB_0 (g : Gs) (v : Int32) {n : Nat} (hn : n < 8) : pB g (nI n) 0 v = upd g (60 + 10 * n) v := pB_at g (j := 0) v hn (by decide)
theorem gB_1 (g : Gs) {n : Nat} (hn : n < 8) : gB g (nI n) 1 = g (60 + 10 * n + 1) := gB_at g (j := 1) hn (by decide)
theorem pB_1 (g : Gs) (v : Int32) {n : Nat} (hn : n < 8) : pB g (nI n) 1 v = upd g (60 + 10 * n + 1) v := pB_at g (j := 1) v hn (by decide)
theorem gB_2 (g : Gs) {n : Nat} (hn : n < 8) : gB g (nI n) 2 = g (60 + 10 * n + 2) := gB_at g (j := 2) hn (by decide)
theorem pB_2 (g : Gs) (v : Int32) {n : Nat} (hn : n < 8) : pB g (nI n) 2 v = upd g (60 + 10 * n + 2) v := pB_at g (j := 2) v hn (by decide)
theorem gB_3 (g : Gs) {n : Nat} (hn : n < 8) : gB g (nI n) 3 = g (60 + 10 * n + 3) := gB_at g (j := 3) hn (by decide)
theorem pB_3 (g : Gs) (v : Int32) {n : Nat} (hn : n < 8) : pB g (nI n) 3 v = upd g (60 + 10 * n + 3) v := pB_at g (j := 3) v hn (by decide)
theorem gB_4 (g : Gs) {n : Nat} (hn : n < 8) : gB g (nI n) 4 = g (60 + 10 * n + 4) := gB_at g (j := 4) hn (by decide)
theorem pB_4 (g : Gs) (v : Int32) {n : Nat} (hn : n < 8) : pB g (nI n) 4 v = upd g (60 + 10 * n + 4) v := pB_at g (j := 4) v hn (by decide)
theorem gB_5 (g : Gs) {n : Nat} (hn : n < 8) : gB g (nI n) 5 = g (60 + 10 * n + 5) := gB_at g (j := 5) hn (by decide)
theorem pB_5 (g : Gs) (v : Int32) {n : Nat} (hn : n < 8) : pB g (nI n) 5 v = upd g (60 + 10 * n + 5) v := pB_at g (j := 5) v hn (by decide)
theorem gB_6 (g : Gs) {n : Nat} (hn : n < 8) : gB g (nI n) 6 = g (60 + 10 * n + 6) := gB_at g (j := 6) hn (by decide)
theorem pB_6 (g : Gs) (v : Int32) {n : Nat} (hn : n < 8) : pB g (nI n) 6 v = upd g (60 + 10 * n + 6) v := pB_at g (j := 6) v hn (by decide)
theorem gB_7 (g : Gs) {n : Nat} (hn : n < 8) : gB g (nI n) 7 = g (60 + 10 * n + 7) := gB_at g (j := 7) hn (by decide)
theorem tnB_7 {n : Nat} (hn : n < 8) : tn (60 + 10 * nI n + 7) = 60 + 10 * n + 7 := tnB (j := 7) hn (by decide)
theorem gB_8 (g : Gs) {n : Nat} (hn : n < 8) : gB g (nI n) 8 = g (60 + 10 * n + 8) := gB_at g (j := 8) hn (by decide)
theorem tnB_8 {n : Nat} (hn : n < 8) : tn (60 + 10 * nI n + 8) = 60 + 10 * n + 8 := tnB (j := 8) hn (by decide)
theorem gB_9 (g : Gs) {n : Nat} (hn : n < 8) : gB g (nI n) 9 = g (60 + 10 * n + 9) := gB_at g (j := 9) hn (by decide)
theorem pB_9 (g : Gs) (v : Int32) {n : Nat} (hn : n < 8) : pB g (nI n) 9 v = upd g (60 + 10 * n + 9) v := pB_at g (j := 9) v hn (by decide)
theorem gL_0 (g : Gs) {n : Nat} (hn : n < 6) : gL g (nI n) 0 = g (12 + 8 * n) := gL_at g (j := 0) hn (by decide)
theorem tnL_0 {n : Nat} (hn : n < 6) : tn (12 + 8 * nI n + 0) = 12 + 8 * n := tnL (j := 0) hn (by decide)
theorem gL_1 (g : Gs) {n : Nat} (hn : n < 6) : gL g (nI n) 1 = g (12 + 8 * n + 1) := gL_at g (j := 1) hn (by decide)
theorem tnL_1 {n : Nat} (hn : n < 6) : tn (12 + 8 * nI n + 1) = 12 + 8 * n + 1 := tnL (j := 1) hn (by decide)
theorem gL_2 (g : Gs) {n : Nat} (hn : n < 6) : gL g (nI n) 2 = g (12 + 8 * n + 2) := gL_at g (j := 2) hn (by decide)
theorem tnL_2 {n : Nat} (hn : n < 6) : tn (12 + 8 * nI n + 2) = 12 + 8 * n + 2 := tnL (j := 2) hn (by decide)
theorem gL_3 (g : Gs) {n : Nat} (hn : n < 6) : gL g (nI n) 3 = g (12 + 8 * n + 3) := gL_at g (j := 3) hn (by decide)
theorem tnL_3 {n : Nat} (hn : n < 6) : tn (12 + 8 * nI n + 3) = 12 + 8 * n + 3 := tnL (j := 3) hn (by decide)
theorem gL_4 (g : Gs) {n : Nat} (hn : n < 6) : gL g (nI n) 4 = g (12 + 8 * n + 4) := gL_at g (j := 4) hn (by decide)
theorem tnL_4 {n : Nat} (hn : n < 6) : tn (12 + 8 * nI n + 4) = 12 + 8 * n + 4 := tnL (j := 4) hn (by decide)
theorem gL_5 (g : Gs) {n : Nat} (hn : n < 6) : gL g (nI n) 5 = g (12 + 8 * n + 5) := gL_at g (j := 5) hn (by decide)
theorem tnL_5 {n : Nat} (hn : n < 6) : tn (12 + 8 * nI n + 5) = 12 + 8 * n + 5 := tnL (j := 5) hn (by decide)
theorem gL_6 (g : Gs) {n : Nat} (hn : n < 6) : gL g (nI n) 6 = g (12 + 8 * n + 6) := gL_at g (j := 6) hn (by decide)
theorem tnL_6 {n : Nat} (hn : n < 6) : tn (12 + 8 * nI n + 6) = 12 + 8 * n + 6 := tnL (j := 6) hn (by decide)
theorem gL_7 (g : Gs) {n : Nat} (hn : n < 6) : gL g (nI n) 7 = g (12 + 8 * n + 7) := gL_at g (j := 7) hn (by decide)
theorem tnL_7 {n : Nat} (hn : n < 6) : tn (12 + 8 * nI n + 7) = 12 + 8 * n + 7 := tnL (j := 7) hn (by decide)
/-- whether the boat b is served by the lighthouse l -/
def isBy (g : Gs) (l : Nat) (b : Nat) : Bool := decide (g (60 + 10 * b + 2) = nI l + 1)
theorem servesN_ct (g : Gs) (l : Nat) : ∀ n, n ≤ 8 → F_servesN g (nI l) n = nI (fb_ct (isBy g l) n)
  | 0, _ => rfl
  | n + 1, h => by
    rw [F_servesN, servesN_ct g l n (by omega), fb_ct_succ, gB_2 g (by omega), ← nI_add]
    congr 1
    unfold isBy
    by_cases q : g (60 + 10 * n + 2) = nI l + 1
    · rw [b01_t q, if_pos (by simpa using q)]; rfl
    · rw [b01_f q, if_neg (by simpa using q)]; rfl
theorem servesN_int (g : Gs) (l : Nat) {n : Nat} (h : n ≤ 8) : (F_servesN g (nI l) n).toInt = (fb_ct (isBy g l) n : Nat) := by
  rw [servesN_ct g l n h]
  exact nI_toInt (Nat.lt_of_le_of_lt (fb_ct_le _ n) (by omega))
/-- one boat changes: what must hold of it -/
theorem Inv.step {g g' : Gs} (h : Inv g) {n : Nat} (hn : n < tn (g 5)) (he : ∀ i, i < 6 → g' i = g i) (hL : ∀ l j, l < 6 → j < 7 → g' (12 + 8 * l + j) = g (12 + 8 * l + j)) (hZ : ∀ l, tn (g 4) ≤ l → l < 6 → g' (12 + 8 * l + 7) = g (12 + 8 * l + 7)) (hB : ∀ b j, b < 8 → b ≠ n → j < 10 → g' (60 + 10 * b + j) = g (60 + 10 * b + j)) (hb : BInv g' n)
    (hcap : ∀ l, l < tn (g 4) → g' (60 + 10 * n + 2) = nI l + 1 → g (60 + 10 * n + 2) = nI l + 1 ∨ (F_servesN g (nI l) (tn (g 5))).toInt < (g (12 + 8 * l + 4)).toInt) : Inv g' := by
  have h4 := h.c4.1
  have h5 := h.c5.1
  obtain ⟨i1, i2, i3, i4, i5, i6, i7⟩ := h
  have e4 : g' 4 = g 4 := he 4 (by omega)
  have e5 : g' 5 = g 5 := he 5 (by omega)
  refine ⟨?_, ?_, ?_, ?_, ?_, ?_, ?_⟩
  · rw [he 0 (by omega), he 1 (by omega), he 2 (by omega), he 3 (by omega)]; exact i1
  · rw [e4, e5]; exact i2
  · intro l hl
    rw [e4] at hl
    have q := i3 l hl
    unfold LInv at q ⊢
    rw [hL l 1 (by omega) (by omega), hL l 2 (by omega) (by omega), hL l 3 (by omega) (by omega), hL l 4 (by omega) (by omega), hL l 5 (by omega) (by omega), hL l 6 (by omega) (by omega), show g' (12 + 8 * l) = g (12 + 8 * l) from hL l 0 (by omega) (by omega)]
    exact q
  · intro b hb'
    rw [e5] at hb'
    by_cases hbn : b = n
    · subst hbn; exact hb
    · have q := i4 b hb'
      unfold BInv at q ⊢
      rw [e4, hB b 1 (by omega) hbn (by omega), hB b 2 (by omega) hbn (by omega), hB b 3 (by omega) hbn (by omega), hB b 4 (by omega) hbn (by omega), hB b 6 (by omega) hbn (by omega), show g' (60 + 10 * b) = g (60 + 10 * b) from hB b 0 (by omega) hbn (by omega)]
      exact q
  · intro l hl
    rw [e4] at hl
    have q := i5 l hl
    rw [e5, hL l 4 (by omega) (by omega)]
    rw [servesN_int g' l h5]
    rw [servesN_int g l h5] at q
    have hc : fb_ct (isBy g' l) (tn (g 5)) = fb_ct (fun k => if k = n then isBy g' l n else isBy g l k) (tn (g 5)) := by
      refine fb_ct_cong (fun k hk => ?_)
      by_cases hkn : k = n
      · subst hkn; rw [if_pos rfl]
      · rw [if_neg hkn]
        unfold isBy
        rw [hB k 2 (by omega) hkn (by omega)]
    have hu := fb_ct_upd (isBy g l) (isBy g' l n) hn
    rw [← hc] at hu
    by_cases hq : g' (60 + 10 * n + 2) = nI l + 1
    · have t1 : isBy g' l n = true := by simp [isBy, hq]
      rcases hcap l hl hq with hp | hp
      · have t2 : isBy g l n = true := by simp [isBy, hp]
        rw [t1, t2] at hu
        simp only [if_true] at hu
        omega
      · rw [servesN_int g l h5] at hp
        rw [t1] at hu
        simp only [if_true] at hu
        split at hu <;> omega
    · have t1 : isBy g' l n = false := by simp [isBy, hq]
      rw [t1] at hu
      simp only [Bool.false_eq_true, if_false] at hu
      split at hu <;> omega
  · intro l h1 h2
    rw [e4] at h1
    rw [hL l 6 h2 (by omega), hZ l h1 h2]
    exact i6 l h1 h2
  · intro b h1 h2 j h3 h6
    rw [e5] at h1
    rw [hB b j h2 (by omega) h6]
    exact i7 b h1 h2 j h3 h6
theorem nI_ne_1 {l : Nat} (h : l < 6) : ¬ (0 : Int32) = nI l + 1 := by
  intro q
  rw [nI_1, show (0 : Int32) = nI 0 from rfl, nI_eq (by omega) (by omega)] at q
  omega
theorem Inv_sails {g : Gs} (h : Inv g) {n : Nat} (hn : n < tn (g 5)) : Inv (F_sails g (nI n)) := by
  have h5 := h.c5.1
  have h8 : n < 8 := by omega
  have hb := h.2.2.2.1 n hn
  unfold F_sails
  rw [gB_0 g h8, gB_1 g h8, pB_0 g _ h8, pB_1 g _ h8]
  obtain ⟨b1, b2, b3⟩ := hb
  split
  · rename_i q
    refine h.step hn (fun i hi => pk_un (by omega)) (fun l j _ _ => pk_un (by omega)) (fun l _ _ => pk_un (by omega)) (fun b j _ _ _ => pk_un (by omega)) ?_ (fun l hl e => Or.inl (by rw [pk_un (by omega)] at e; exact e))
    unfold BInv
    rw [pk_us, pk_un (by omega), pk_un (by omega), pk_un (by omega), pk_un (by omega), pk_un (by omega), pk_un (by omega)]
    refine ⟨⟨?_, ?_⟩, b2, b3⟩
    · exact Int32.le_iff_toInt_le.mp q.1
    · exact Int32.le_iff_toInt_le.mp q.2
  · refine h.step hn (fun i hi => pk_un (by omega)) (fun l j _ _ => pk_un (by omega)) (fun l _ _ => pk_un (by omega)) (fun b j _ _ _ => pk_un (by omega)) ?_ (fun l hl e => Or.inl (by rw [pk_un (by omega)] at e; exact e))
    unfold BInv
    rw [pk_us, pk_un (by omega), pk_un (by omega), pk_un (by omega), pk_un (by omega), pk_un (by omega), pk_un (by omega)]
    refine ⟨b1, ?_, b3⟩
    obtain ⟨q1, q2⟩ := b2
    have e := fb_negI (x := g (60 + 10 * n + 1)) (by omega)
    unfold inI
    rw [e]
    omega
theorem Inv_drops {g : Gs} (h : Inv g) {n : Nat} (hn : n < tn (g 5)) : Inv (F_drops g (nI n)) := by
  have h5 := h.c5.1
  have h8 : n < 8 := by omega
  have h4 := h.2.1.1
  obtain ⟨b1, b2, b3, b4, b5, b6⟩ := h.2.2.2.1 n hn
  unfold F_drops F_dropsA
  simp only [gB_3 _ h8, pB_2 _ _ h8, pB_4 _ _ h8, pB_5 _ _ h8, pB_3 _ _ h8]
  refine h.step hn (fun i hi => ?_) (fun l j _ _ => ?_) (fun l _ _ => ?_) (fun b j _ _ _ => ?_) ?_ (fun l hl e => absurd e ?_)
  · rw [pk_un (by omega), pk_un (by omega), pk_un (by omega), pk_un (by omega), pk_un (by omega)]
  · rw [pk_un (by omega), pk_un (by omega), pk_un (by omega), pk_un (by omega), pk_un (by omega)]
  · rw [pk_un (by omega), pk_un (by omega), pk_un (by omega), pk_un (by omega), pk_un (by omega)]
  · rw [pk_un (by omega), pk_un (by omega), pk_un (by omega), pk_un (by omega), pk_un (by omega)]
  · unfold BInv
    have z1 : (60 + 10 * n + 3 ≠ 10) := by omega
    simp only [upd]
    simp only [show ¬ 60 + 10 * n = 60 + 10 * n + 3 by omega, show ¬ 60 + 10 * n = 10 by omega, show ¬ 60 + 10 * n = 60 + 10 * n + 5 by omega, show ¬ 60 + 10 * n = 60 + 10 * n + 4 by omega, show ¬ 60 + 10 * n = 60 + 10 * n + 2 by omega, show ∀ i, ¬ 60 + 10 * n + i = 10 by omega, show ∀ i, ¬ 4 = 60 + 10 * n + i by omega, show ∀ i j, (60 + 10 * n + i = 60 + 10 * n + j) = (i = j) by intro i j; apply propext; omega, if_false]
    simp only [show (4 : Nat) ≠ 10 by decide, if_false, if_true, show (1 : Nat) ≠ 3 by decide, show (1 : Nat) ≠ 5 by decide, show (1 : Nat) ≠ 4 by decide, show (1 : Nat) ≠ 2 by decide, show (2 : Nat) ≠ 3 by decide, show (2 : Nat) ≠ 5 by decide, show (2 : Nat) ≠ 4 by decide, show (4 : Nat) ≠ 3 by decide, show (4 : Nat) ≠ 5 by decide, show (6 : Nat) ≠ 3 by decide, show (6 : Nat) ≠ 5 by decide, show (6 : Nat) ≠ 4 by decide, show (6 : Nat) ≠ 2 by decide]
    exact ⟨b1, b2, ⟨by decide, h4.1⟩, ⟨by decide, by decide⟩, ⟨by decide, h4.1⟩, b6⟩
  · rw [pk_un (by omega), pk_un (by omega), pk_un (by omega), pk_un (by omega), pk_us]
    have := h.c4.1
    exact nI_ne_1 (by omega)
theorem wi_rng {N : Nat} (hN : N ≤ 6) {wi : Int32} (h : wi = -1 ∨ ∃ j, j < N ∧ wi = nI j) : inI (wi + 1) 0 N := by
  rcases h with rfl | ⟨j, hj, rfl⟩
  · exact ⟨by decide, by show (-1 + 1 : Int32).toInt ≤ _; rw [show (-1 + 1 : Int32).toInt = 0 from rfl]; omega⟩
  · rw [nI_1]
    unfold inI
    rw [nI_toInt (by omega)]
    omega
theorem Inv_wishA {g : Gs} (h : Inv g) {n : Nat} (hn : n < tn (g 5)) : Inv (F_wishA g (nI n)) := by
  have h5 := h.c5.1
  have h8 : n < 8 := by omega
  have h4 := h.c4
  obtain ⟨b1, b2, b3, b4, b5, b6⟩ := h.2.2.2.1 n hn
  have hw := wi_rng h4.1 (F_wishedN_in g (nI n) (tn (g 4)))
  have e4 : (tn (g 4) : Int) = (g 4).toInt := by rw [h4.2, nI_toInt (by omega), show tn (nI (tn (g 4))) = tn (g 4) from nI_clamp (by omega)]
  unfold F_wishA
  rw [pB_4 _ _ h8, pB_5 _ _ h8]
  refine h.step hn (fun i hi => ?_) (fun l j _ _ => ?_) (fun l _ _ => ?_) (fun b j _ _ _ => ?_) ?_ (fun l hl e => Or.inl ?_)
  · rw [pk_un (by omega), pk_un (by omega)]
  · rw [pk_un (by omega), pk_un (by omega)]
  · rw [pk_un (by omega), pk_un (by omega)]
  · rw [pk_un (by omega), pk_un (by omega)]
  · unfold BInv
    repeat (first | rw [pk_us] | rw [pk_un (by omega)])
    rw [e4] at hw
    exact ⟨b1, b2, b3, b4, hw, b6⟩
  · rw [pk_un (by omega), pk_un (by omega)] at e
    exact e
theorem Inv.inc {g : Gs} (h : Inv g) {k : Nat} (x : Int32) (hk : 6 ≤ k ∧ k < 12) : Inv (F_inc g k x) := by
  have h4 := h.c4.1
  have h5 := h.c5.1
  have eq : ∀ i, i ≠ k → F_inc g k x i = g i := fun i hi => pk_un hi
  obtain ⟨i1, i2, i3, i4, i5, i6, i7⟩ := h
  have e4 : F_inc g k x 4 = g 4 := eq 4 (by omega)
  have e5 : F_inc g k x 5 = g 5 := eq 5 (by omega)
  refine ⟨?_, ?_, ?_, ?_, ?_, ?_, ?_⟩
  · rw [eq 0 (by omega), eq 1 (by omega), eq 2 (by omega), eq 3 (by omega)]; exact i1
  · rw [e4, e5]; exact i2
  · intro l hl
    rw [e4] at hl
    have q := i3 l hl
    unfold LInv at q ⊢
    rw [eq _ (by omega), eq _ (by omega), eq _ (by omega), eq _ (by omega), eq _ (by omega), eq _ (by omega), eq _ (by omega)]
    exact q
  · intro b hb
    rw [e5] at hb
    have q := i4 b hb
    unfold BInv at q ⊢
    rw [e4, eq _ (by omega), eq _ (by omega), eq _ (by omega), eq _ (by omega), eq _ (by omega), eq _ (by omega)]
    exact q
  · intro l hl
    rw [e4] at hl
    have q := i5 l hl
    rw [e5, eq _ (by omega), servesN_int _ l h5]
    rw [servesN_int g l h5] at q
    have hc : fb_ct (isBy (F_inc g k x) l) (tn (g 5)) = fb_ct (isBy g l) (tn (g 5)) := fb_ct_cong (fun b hb => by unfold isBy; rw [eq _ (by omega)])
    rw [hc]
    exact q
  · intro l h1 h2
    rw [e4] at h1
    rw [eq _ (by omega), eq _ (by omega)]
    exact i6 l h1 h2
  · intro b h1 h2 j h3 h6
    rw [e5] at h1
    rw [eq _ (by omega)]
    exact i7 b h1 h2 j h3 h6
theorem Inv.incH {g : Gs} (h : Inv g) {l : Nat} (x : Int32) (hl : l < tn (g 4)) : Inv (F_inc g (12 + 8 * l + 7) x) := by
  have h4 := h.c4.1
  have h5 := h.c5.1
  have eq : ∀ i, i ≠ 12 + 8 * l + 7 → F_inc g (12 + 8 * l + 7) x i = g i := fun i hi => pk_un hi
  obtain ⟨i1, i2, i3, i4, i5, i6, i7⟩ := h
  have e4 : F_inc g (12 + 8 * l + 7) x 4 = g 4 := eq 4 (by omega)
  have e5 : F_inc g (12 + 8 * l + 7) x 5 = g 5 := eq 5 (by omega)
  refine ⟨?_, ?_, ?_, ?_, ?_, ?_, ?_⟩
  · rw [eq 0 (by omega), eq 1 (by omega), eq 2 (by omega), eq 3 (by omega)]; exact i1
  · rw [e4, e5]; exact i2
  · intro l hl
    rw [e4] at hl
    have q := i3 l hl
    unfold LInv at q ⊢
    rw [eq _ (by omega), eq _ (by omega), eq _ (by omega), eq _ (by omega), eq _ (by omega), eq _ (by omega), eq _ (by omega)]
    exact q
  · intro b hb
    rw [e5] at hb
    have q := i4 b hb
    unfold BInv at q ⊢
    rw [e4, eq _ (by omega), eq _ (by omega), eq _ (by omega), eq _ (by omega), eq _ (by omega), eq _ (by omega)]
    exact q
  · intro l1 hl1
    rw [e4] at hl1
    have q := i5 l1 hl1
    rw [e5, eq _ (by omega), servesN_int _ l1 h5]
    rw [servesN_int g l1 h5] at q
    have hc : fb_ct (isBy (F_inc g (12 + 8 * l + 7) x) l1) (tn (g 5)) = fb_ct (isBy g l1) (tn (g 5)) := fb_ct_cong (fun b hb => by unfold isBy; rw [eq _ (by omega)])
    rw [hc]
    exact q
  · intro l1 h1 h2
    rw [e4] at h1
    rw [eq _ (by omega), eq _ (by omega)]
    exact i6 l1 h1 h2
  · intro b h1 h2 j h3 h6
    rw [e5] at h1
    rw [eq _ (by omega)]
    exact i7 b h1 h2 j h3 h6
theorem inc_at {g : Gs} {k i : Nat} {x : Int32} (h : i ≠ k) : F_inc g k x i = g i := pk_un h
theorem e4int {g : Gs} (h : Inv g) : (tn (g 4) : Int) = (g 4).toInt := by
  have h4 := h.c4
  rw [h4.2, nI_toInt (by omega), show tn (nI (tn (g 4))) = tn (g 4) from nI_clamp (by omega)]
theorem Inv_hands {g : Gs} (h : Inv g) {n to : Nat} (hn : n < tn (g 5)) (ht : to < tn (g 4)) (hc : ¬ F_serves g (nI to) = gL g (nI to) 4) : Inv (F_hands g (nI n) (nI to)) := by
  have h5 := h.c5.1
  have h8 : n < 8 := by omega
  have h4 := h.c4
  have h6 : to < 6 := by omega
  have e4 := e4int h
  obtain ⟨b1, b2, b3, b4, b5, b6⟩ := h.2.2.2.1 n hn
  have hA : Inv (F_handsB (F_handsA g (nI n) (nI to)) (nI n)) := by
    unfold F_handsB F_handsA
    rw [gB_2 _ h8, pB_2 _ _ h8, pB_4 _ _ h8, pB_5 _ _ h8, pB_6 _ _ h8, pB_9 _ _ h8]
    refine h.step hn (fun i hi => ?_) (fun l j _ _ => ?_) (fun l _ _ => ?_) (fun b j _ _ _ => ?_) ?_ (fun l hl e => Or.inr ?_)
    · rw [pk_un (by omega), pk_un (by omega), pk_un (by omega), pk_un (by omega), pk_un (by omega)]
    · rw [pk_un (by omega), pk_un (by omega), pk_un (by omega), pk_un (by omega), pk_un (by omega)]
    · rw [pk_un (by omega), pk_un (by omega), pk_un (by omega), pk_un (by omega), pk_un (by omega)]
    · rw [pk_un (by omega), pk_un (by omega), pk_un (by omega), pk_un (by omega), pk_un (by omega)]
    · have ht1 : inI (nI to + 1) 0 (g 4).toInt := by
        rw [nI_1]
        unfold inI
        rw [nI_toInt (by omega), ← e4]
        omega
      unfold BInv
      repeat (first | rw [pk_us] | rw [pk_un (by omega)])
      exact ⟨b1, b2, ht1, b4, ⟨by decide, by rw [← e4]; show (0 : Int) ≤ _; omega⟩, b3⟩
    · rw [pk_un (by omega), pk_un (by omega), pk_un (by omega), pk_un (by omega), pk_us, nI_1, nI_1, nI_eq (by omega) (by omega)] at e
      have e : l = to := by omega
      subst e
      have q := h.2.2.2.2.1 l hl
      rw [gL_4 _ h6] at hc
      rcases Int.lt_or_eq_of_le q with z | z
      · exact z
      · exact absurd (Int32.toInt_inj.mp z) hc
  unfold F_hands
  rw [tnB_7 h8, tnB_8 h8, tnL_7 h6]
  generalize hG : F_handsB (F_handsA g (nI n) (nI to)) (nI n) = G at hA ⊢
  have hG4 : G 4 = g 4 := by
    rw [← hG]
    unfold F_handsB F_handsA
    rw [gB_2 _ h8, pB_2 _ _ h8, pB_4 _ _ h8, pB_5 _ _ h8, pB_6 _ _ h8, pB_9 _ _ h8]
    rw [pk_un (by omega), pk_un (by omega), pk_un (by omega), pk_un (by omega), pk_un (by omega)]
  have hG5 : G 5 = g 5 := by
    rw [← hG]
    unfold F_handsB F_handsA
    rw [gB_2 _ h8, pB_2 _ _ h8, pB_4 _ _ h8, pB_5 _ _ h8, pB_6 _ _ h8, pB_9 _ _ h8]
    rw [pk_un (by omega), pk_un (by omega), pk_un (by omega), pk_un (by omega), pk_un (by omega)]
  have hB : ∀ (G : Gs), Inv G → n < tn (G 5) → ∀ j, (7 ≤ j ∧ j < 9) → ∀ x, Inv (F_inc G (60 + 10 * n + j) x) := by
    intro G hG hn j hj x
    obtain ⟨b1, b2, b3, b4, b5, b6⟩ := hG.2.2.2.1 n hn
    refine hG.step hn (fun i hi => inc_at (by omega)) (fun l i _ _ => inc_at (by omega)) (fun l _ _ => inc_at (by omega)) (fun b i _ _ _ => inc_at (by omega)) ?_ (fun l hl e => Or.inl (by rw [inc_at (by omega)] at e; exact e))
    unfold BInv
    rw [inc_at (by omega), inc_at (by omega), inc_at (by omega), inc_at (by omega), inc_at (by omega), inc_at (by omega), inc_at (by omega)]
    exact ⟨b1, b2, b3, b4, b5, b6⟩
  have h1 := hB G hA (by rw [hG5]; exact hn) 7 (by omega) 1
  have h2 := hB _ h1 (by rw [inc_at (by omega), hG5]; exact hn) 8 (by omega) (F_isBack g (nI n) (nI to))
  exact ((h2.incH 1 (by rw [inc_at (by omega), inc_at (by omega), hG4]; exact ht)).inc 1 (by omega)).inc _ (by omega)
theorem wishA_c {g : Gs} {n : Nat} (h8 : n < 8) {i : Nat} (hi : i < 60 ∨ 140 ≤ i) : F_wishA g (nI n) i = g i := by
  unfold F_wishA
  rw [pB_4 _ _ h8, pB_5 _ _ h8, pk_un (by omega), pk_un (by omega)]
theorem Inv_wishes {g : Gs} (h : Inv g) {n : Nat} (hn : n < tn (g 5)) : Inv (F_wishes g (nI n)) := by
  have h5 := h.c5.1
  have hA := Inv_wishA h hn
  unfold F_wishes
  split
  · exact hA
  · rename_i hz
    split
    · exact hA.inc _ (by omega)
    · rename_i hq
      rcases F_wishedN_in g (nI n) (tn (g 4)) with e | ⟨j, hj, e⟩
      · exact absurd (Or.inl e) hz
      · have e : F_wished g (nI n) = nI j := e
        rw [e] at hq ⊢
        exact Inv_hands hA (by rw [wishA_c (by omega) (by omega)]; exact hn) (by rw [wishA_c (by omega) (by omega)]; exact hj) hq
theorem Inv_finds {g : Gs} (h : Inv g) {n : Nat} (hn : n < tn (g 5)) (h0 : gB g (nI n) 2 = 0) : Inv (F_finds g (nI n)) := by
  have h5 := h.c5.1
  have h8 : n < 8 := by omega
  have h4 := h.c4
  have e4 := e4int h
  obtain ⟨b1, b2, b3, b4, b5, b6⟩ := h.2.2.2.1 n hn
  have hw := wi_rng h4.1 (F_findsN_in g (nI n) (tn (g 4)))
  have hcan : ∀ N, N ≤ tn (g 4) → ∀ j, F_findsN g (nI n) N = nI j → j < 2 ^ 31 → F_serves g (nI j) < gL g (nI j) 4 - gL g (nI j) 5 := by
    intro N
    induction N with
    | zero =>
      intro _ j hj hjl
      have : (nI j).toInt = -1 := by rw [← hj]; rfl
      rw [nI_toInt hjl] at this
      omega
    | succ N ih =>
      intro hN j hj hjl
      rw [F_findsN] at hj
      split at hj
      · rename_i q
        rw [nI_eq (by omega) hjl] at hj
        subst hj
        exact q.1.2
      · exact ih (by omega) j hj hjl
  unfold F_finds
  simp only []
  rw [pB_2 _ _ h8]
  have hs : Inv (upd g (60 + 10 * n + 2) (F_findsN g (nI n) (tn (g 4)) + 1)) := by
    refine h.step hn (fun i hi => pk_un (by omega)) (fun l j _ _ => pk_un (by omega)) (fun l _ _ => pk_un (by omega)) (fun b j _ _ _ => pk_un (by omega)) ?_ (fun l hl e => Or.inr ?_)
    · unfold BInv
      repeat (first | rw [pk_us] | rw [pk_un (by omega)])
      rw [e4] at hw
      exact ⟨b1, b2, hw, b4, b5, b6⟩
    · rw [pk_us] at e
      have ef : F_findsN g (nI n) (tn (g 4)) = nI l := by
        have := congrArg (fun x => x - 1) e
        simpa [Int32.add_sub_cancel] using this
      have q := hcan _ (Nat.le_refl _) l ef (by omega)
      obtain ⟨l1, l2, l3, l4, l5, l6, l7⟩ := h.2.2.1 l hl
      rw [gL_4 _ (by omega), gL_5 _ (by omega)] at q
      have q := Int32.lt_iff_toInt_lt.mp q
      obtain ⟨l5a, l5b⟩ := l5
      obtain ⟨l6a, l6b⟩ := l6
      rw [fb_subI (by omega) (by omega)] at q
      show (F_serves g (nI l)).toInt < _
      omega
  exact hs.inc (k := 11) _ (by omega)
theorem Inv_onC {g : Gs} (h : Inv g) {n : Nat} (hn : n < tn (g 5)) : Inv (F_onC g (nI n)) := by
  have h5 := h.c5.1
  have h8 : n < 8 := by omega
  obtain ⟨b1, b2, b3, b4, b5, b6⟩ := h.2.2.2.1 n hn
  unfold F_onC
  rw [gB_3 _ h8, pB_3 _ _ h8]
  refine h.step hn (fun i hi => pk_un (by omega)) (fun l j _ _ => pk_un (by omega)) (fun l _ _ => pk_un (by omega)) (fun b j _ _ _ => pk_un (by omega)) ?_ (fun l hl e => Or.inl (by rw [pk_un (by omega)] at e; exact e))
  unfold BInv
  repeat (first | rw [pk_us] | rw [pk_un (by omega)])
  refine ⟨b1, b2, b3, ?_, b5, b6⟩
  obtain ⟨q1, q2⟩ := b4
  split
  · rename_i q
    have q := Int32.lt_iff_toInt_lt.mp q
    have z : (0 : Int32).toInt = 0 := rfl
    have z1 : (1 : Int32).toInt = 1 := rfl
    unfold inI
    rw [fb_subI (by omega) (by omega)]
    omega
  · exact ⟨by decide, by decide⟩
/-- places of the row that a tick leaves: settings, counts, the lighthouses but handedTo -/
def lo (i : Nat) : Prop := i < 6 ∨ (12 ≤ i ∧ i < 60 ∧ (i - 12) % 8 ≠ 7) ∨ 140 ≤ i
theorem sails_lo {g : Gs} {n i : Nat} (h8 : n < 8) (hi : i < 60 ∨ 140 ≤ i) : F_sails g (nI n) i = g i := by
  unfold F_sails
  rw [pB_0 _ _ h8, pB_1 _ _ h8]
  split <;> exact pk_un (by omega)
theorem drops_lo {g : Gs} {n i : Nat} (h8 : n < 8) (hi : lo i) : F_drops g (nI n) i = g i := by
  unfold lo at hi
  unfold F_drops F_dropsA
  simp only [pB_2 _ _ h8, pB_4 _ _ h8, pB_5 _ _ h8, pB_3 _ _ h8]
  rw [pk_un (by omega), pk_un (by omega), pk_un (by omega), pk_un (by omega), pk_un (by omega)]
theorem hands_lo {g : Gs} {n to i : Nat} (h8 : n < 8) (h6 : to < 6) (hi : lo i) : F_hands g (nI n) (nI to) i = g i := by
  unfold lo at hi
  unfold F_hands F_handsB F_handsA
  rw [tnB_7 h8, tnB_8 h8, tnL_7 h6, inc_at (by omega), inc_at (by omega), inc_at (by omega), inc_at (by omega), inc_at (by omega)]
  rw [gB_2 _ h8, pB_2 _ _ h8, pB_4 _ _ h8, pB_5 _ _ h8, pB_6 _ _ h8, pB_9 _ _ h8]
  rw [pk_un (by omega), pk_un (by omega), pk_un (by omega), pk_un (by omega), pk_un (by omega)]
theorem wishes_lo {g : Gs} (h : Inv g) {n i : Nat} (h8 : n < 8) (hi : lo i) : F_wishes g (nI n) i = g i := by
  have hi2 := hi
  have h4 := h.c4.1
  unfold lo at hi2
  unfold F_wishes
  split
  · exact wishA_c h8 (by omega)
  · rename_i hz
    split
    · rw [inc_at (by omega)]; exact wishA_c h8 (by omega)
    · rcases F_wishedN_in g (nI n) (tn (g 4)) with e | ⟨j, hj, e⟩
      · exact absurd (Or.inl e) hz
      · have e : F_wished g (nI n) = nI j := e
        rw [e, hands_lo h8 (by omega) hi]; exact wishA_c h8 (by omega)
theorem finds_lo {g : Gs} {n i : Nat} (h8 : n < 8) (hi : lo i) : F_finds g (nI n) i = g i := by
  unfold lo at hi
  show upd (pB g (nI n) 2 (F_findsN g (nI n) (tn (g 4)) + 1)) 11 _ i = g i
  rw [pB_2 _ _ h8, pk_un (by omega), pk_un (by omega)]
theorem onA_lo {g : Gs} (h : Inv g) {n i : Nat} (h8 : n < 8) (hi : lo i) : F_onA g (nI n) i = g i := by
  unfold F_onA
  split
  · exact drops_lo h8 hi
  · split
    · exact wishes_lo h h8 hi
    · rfl
theorem Inv_onA {g : Gs} (h : Inv g) {n : Nat} (hn : n < tn (g 5)) : Inv (F_onA g (nI n)) := by
  unfold F_onA
  split
  · exact Inv_drops h hn
  · split
    · exact Inv_wishes h hn
    · exact h
theorem onB_lo {g : Gs} {n i : Nat} (h8 : n < 8) (hi : lo i) : F_onB g (nI n) i = g i := by
  unfold F_onB
  split
  · exact finds_lo h8 hi
  · rfl
theorem Inv_onB {g : Gs} (h : Inv g) {n : Nat} (hn : n < tn (g 5)) : Inv (F_onB g (nI n)) := by
  unfold F_onB
  split
  · exact Inv_finds h hn (by assumption)
  · exact h
theorem onC_lo {g : Gs} {n i : Nat} (h8 : n < 8) (hi : i < 60 ∨ 140 ≤ i) : F_onC g (nI n) i = g i := by
  unfold F_onC
  rw [pB_3 _ _ h8, pk_un (by omega)]
theorem lo5 : lo 5 := Or.inl (by decide)
theorem lo60 {i : Nat} (h : lo i) : i < 60 ∨ 140 ≤ i := by unfold lo at h; omega
theorem goesOn_lo {g : Gs} (h : Inv g) {n i : Nat} (hn : n < tn (g 5)) (hi : lo i) : F_goesOn g (nI n) i = g i := by
  have h5 := h.c5.1
  have h8 : n < 8 := by omega
  have h1 := Inv_sails h hn
  unfold F_goesOn
  rw [onC_lo h8 (lo60 hi), onB_lo h8 hi, onA_lo h1 h8 hi, sails_lo h8 (lo60 hi)]
theorem Inv_goesOn {g : Gs} (h : Inv g) {n : Nat} (hn : n < tn (g 5)) : Inv (F_goesOn g (nI n)) := by
  have h5 := h.c5.1
  have h8 : n < 8 := by omega
  have h1 := Inv_sails h hn
  have e1 : F_sails g (nI n) 5 = g 5 := sails_lo h8 (by omega)
  have h2 := Inv_onA h1 (n := n) (by rw [e1]; exact hn)
  have e2 : F_onA (F_sails g (nI n)) (nI n) 5 = g 5 := (onA_lo h1 h8 lo5).trans e1
  have h3 := Inv_onB h2 (n := n) (by rw [e2]; exact hn)
  have e3 := (onB_lo (g := F_onA (F_sails g (nI n)) (nI n)) h8 lo5).trans e2
  exact Inv_onC h3 (n := n) (by rw [e3]; exact hn)
theorem Inv_tickN {g : Gs} (h : Inv g) : ∀ n, n ≤ tn (g 5) → Inv (F_tickN g n) ∧ ∀ i, lo i → F_tickN g n i = g i
  | 0, _ => ⟨h.inc 1 (by omega), fun i hi => inc_at (by unfold lo at hi; omega)⟩
  | n + 1, hn => by
    obtain ⟨h1, h2⟩ := Inv_tickN h n (by omega)
    have e5 := h2 5 lo5
    rw [F_tickN]
    exact ⟨Inv_goesOn h1 (by rw [e5]; omega), fun i hi => (goesOn_lo h1 (by rw [e5]; omega) hi).trans (h2 i hi)⟩
theorem Inv_tick {g : Gs} (h : Inv g) : Inv (F_tick g) := (Inv_tickN h _ (Nat.le_refl _)).1
theorem tick_lo {g : Gs} (h : Inv g) {i : Nat} (hi : lo i) : F_tick g i = g i := (Inv_tickN h _ (Nat.le_refl _)).2 i hi
theorem Inv_ticks {g : Gs} (h : Inv g) : ∀ n, Inv (F_ticks g n) ∧ ∀ i, lo i → F_ticks g n i = g i
  | 0 => ⟨h, fun _ _ => rfl⟩
  | n + 1 => by
    obtain ⟨h1, h2⟩ := Inv_ticks h n
    exact ⟨Inv_tick h1, fun i hi => (tick_lo h1 hi).trans (h2 i hi)⟩
theorem Inv.hc4 {g : Gs} (h : Inv g) : 0 ≤ (g 4).toInt ∧ (g 4).toInt ≤ 6 := h.2.1.1
theorem Inv.hc5 {g : Gs} (h : Inv g) : 0 ≤ (g 5).toInt ∧ (g 5).toInt ≤ 8 := h.2.1.2

