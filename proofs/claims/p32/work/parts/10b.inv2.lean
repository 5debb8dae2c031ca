/-! the reference: its actions keep the invariant -/
theorem cnt_up {x : Int32} {n : Nat} (h : 0 ≤ x.toInt ∧ x.toInt < n) (hn : n < 2 ^ 30) : (x + 1).toInt = x.toInt + 1 ∧ tn (x + 1) = tn x + 1 := by
  obtain ⟨h1, h2⟩ := cnt_in (x := x) (n := n) h.1 (by omega)
  have e : x + 1 = nI (tn x + 1) := by
    have := nI_1 (tn x)
    rw [← h2] at this
    exact this
  have e2 : (tn x : Int) = x.toInt := by
    have := nI_toInt (n := tn x) (by omega)
    rw [← h2] at this
    exact this.symm
  rw [e]
  refine ⟨by rw [nI_toInt (by omega)]; omega, nI_clamp (by omega)⟩
theorem servesN_same {g g' : Gs} (l : Int32) : ∀ n, n ≤ 8 → (∀ b, b < n → g' (60 + 10 * b + 2) = g (60 + 10 * b + 2)) → F_servesN g' l n = F_servesN g l n
  | 0, _, _ => rfl
  | n + 1, h8, h => by
    rw [F_servesN, F_servesN, servesN_same l n (by omega) (fun b hb => h b (by omega)), gB_2 _ (by omega), gB_2 _ (by omega), h n (by omega)]
theorem servesN_none {g : Gs} {l : Nat} (hl : tn (g 4) ≤ l) (h6 : l < 6) (h : Inv g) : ∀ n, n ≤ tn (g 5) → F_servesN g (nI l) n = 0
  | 0, _ => rfl
  | n + 1, hn => by
    have h5 := h.c5.1
    have hb := (h.2.2.2.1 n (by omega)).2.2.1
    have e4 := e4int h
    rw [F_servesN, servesN_none hl h6 h n (by omega), gB_2 _ (by omega), b01_f]
    · rfl
    · intro z
      rw [z, nI_1] at hb
      have := hb.2
      rw [nI_toInt (by omega)] at this
      omega
theorem inn_I {x a b : Int32} (h : inn x a b) : inI x a.toInt b.toInt := ⟨Int32.le_iff_toInt_le.mp h.1, Int32.le_iff_toInt_le.mp h.2⟩
/-- an action changes settings, a lighthouse that is there but not its capacity, or a boat that is there but not who serves it -/
theorem Inv.keep {g g' : Gs} (h : Inv g) (e4 : g' 4 = g 4) (e5 : g' 5 = g 5) (hs : inI (g' 0) 0 100 ∧ inI (g' 1) 1 10 ∧ inI (g' 2) 1 300 ∧ inI (g' 3) 0 50) (hL : ∀ n, n < tn (g 4) → LInv g' n) (hcap : ∀ n, n < tn (g 4) → g' (12 + 8 * n + 4) = g (12 + 8 * n + 4)) (hB : ∀ n, n < tn (g 5) → BInv g' n) (hby : ∀ b, b < tn (g 5) → g' (60 + 10 * b + 2) = g (60 + 10 * b + 2))
    (hz : ∀ n, tn (g 4) ≤ n → n < 6 → g' (12 + 8 * n + 6) = g (12 + 8 * n + 6) ∧ g' (12 + 8 * n + 7) = g (12 + 8 * n + 7)) (hzb : ∀ n, tn (g 5) ≤ n → n < 8 → ∀ j, 2 ≤ j → j < 10 → g' (60 + 10 * n + j) = g (60 + 10 * n + j)) : Inv g' := by
  have h5 := h.c5.1
  obtain ⟨i1, i2, i3, i4, i5, i6, i7⟩ := h
  refine ⟨hs, by rw [e4, e5]; exact i2, by rw [e4]; exact hL, by rw [e5]; exact hB, ?_, ?_, ?_⟩
  · intro n hn
    rw [e4] at hn
    rw [e5, hcap n hn, servesN_same _ _ h5 hby]
    exact i5 n hn
  · intro n h1 h2
    rw [e4] at h1
    rw [(hz n h1 h2).1, (hz n h1 h2).2]
    exact i6 n h1 h2
  · intro n h1 h2 j h3 h4
    rw [e5] at h1
    rw [hzb n h1 h2 j h3 h4]
    exact i7 n h1 h2 j h3 h4
theorem Inv_steer {g : Gs} (h : Inv g) {b v : Int32} (hc : cSteer g b v) : Inv (pB g b 1 v) := by
  obtain ⟨n, hn, rfl⟩ := in_B h.hc5 hc.1
  have h4 := h.c4.1
  have h5 := h.c5.1
  rw [pB_1 _ _ (by omega)]
  refine h.keep (pk_un (by omega)) (pk_un (by omega)) ?_ ?_ (fun k hk => pk_un (by omega)) ?_ (fun k hk => pk_un (by omega)) (fun k _ _ => ⟨pk_un (by omega), pk_un (by omega)⟩) (fun k _ _ j _ _ => pk_un (by omega))
  · rw [pk_un (by omega), pk_un (by omega), pk_un (by omega), pk_un (by omega)]; exact h.1
  · intro k hk
    have q := h.2.2.1 k hk
    unfold LInv at q ⊢
    rw [pk_un (by omega), pk_un (by omega), pk_un (by omega), pk_un (by omega), pk_un (by omega), pk_un (by omega), pk_un (by omega)]
    exact q
  · intro k hk
    obtain ⟨b1, b2, b3⟩ := h.2.2.2.1 k hk
    unfold BInv
    by_cases hkn : k = n
    · subst hkn
      repeat (first | rw [pk_us] | rw [pk_un (by omega)])
      exact ⟨b1, inn_I hc.2, b3⟩
    · rw [pk_un (by omega), pk_un (by omega), pk_un (by omega), pk_un (by omega), pk_un (by omega), pk_un (by omega), pk_un (by omega)]
      exact ⟨b1, b2, b3⟩
theorem Inv_talk {g : Gs} (h : Inv g) {b v : Int32} (hc : cTalk g b v) : Inv (pB g b 3 v) := by
  obtain ⟨n, hn, rfl⟩ := in_B h.hc5 hc.1
  have h4 := h.c4.1
  have h5 := h.c5.1
  rw [pB_3 _ _ (by omega)]
  refine h.keep (pk_un (by omega)) (pk_un (by omega)) ?_ ?_ (fun k hk => pk_un (by omega)) ?_ (fun k hk => pk_un (by omega)) (fun k _ _ => ⟨pk_un (by omega), pk_un (by omega)⟩) (fun k _ _ j _ _ => pk_un (by omega))
  · rw [pk_un (by omega), pk_un (by omega), pk_un (by omega), pk_un (by omega)]; exact h.1
  · intro k hk
    have q := h.2.2.1 k hk
    unfold LInv at q ⊢
    rw [pk_un (by omega), pk_un (by omega), pk_un (by omega), pk_un (by omega), pk_un (by omega), pk_un (by omega), pk_un (by omega)]
    exact q
  · intro k hk
    obtain ⟨b1, b2, b3, b4, b5⟩ := h.2.2.2.1 k hk
    unfold BInv
    by_cases hkn : k = n
    · subst hkn
      repeat (first | rw [pk_us] | rw [pk_un (by omega)])
      have q := inn_I hc.2.1
      exact ⟨b1, b2, b3, ⟨by have z : (1 : Int32).toInt = 1 := rfl; have := q.1; omega, q.2⟩, b5⟩
    · rw [pk_un (by omega), pk_un (by omega), pk_un (by omega), pk_un (by omega), pk_un (by omega), pk_un (by omega), pk_un (by omega)]
      exact ⟨b1, b2, b3, b4, b5⟩
theorem Inv_lean {g : Gs} (h : Inv g) {a v : Int32} (hc : cLean g a v) : Inv (F_lean g a v) := by
  obtain ⟨n, hn, rfl⟩ := in_L h.hc4 hc.1
  have h4 := h.c4.1
  have h5 := h.c5.1
  unfold F_lean
  rw [tnL_6 (by omega)]
  refine h.keep (pk_un (by omega)) (pk_un (by omega)) ?_ ?_ (fun k hk => pk_un (by omega)) ?_ (fun k hk => pk_un (by omega)) (fun k _ _ => ⟨pk_un (by omega), pk_un (by omega)⟩) (fun k _ _ j _ _ => pk_un (by omega))
  · rw [pk_un (by omega), pk_un (by omega), pk_un (by omega), pk_un (by omega)]; exact h.1
  · intro k hk
    obtain ⟨b1, b2, b3, b4, b5, b6, b7⟩ := h.2.2.1 k hk
    unfold LInv
    by_cases hkn : k = n
    · subst hkn
      repeat (first | rw [pk_us] | rw [pk_un (by omega)])
      exact ⟨b1, b2, b3, b4, b5, b6, inn_I hc.2⟩
    · rw [pk_un (by omega), pk_un (by omega), pk_un (by omega), pk_un (by omega), pk_un (by omega), pk_un (by omega), pk_un (by omega)]
      exact ⟨b1, b2, b3, b4, b5, b6, b7⟩
  · intro k hk
    have q := h.2.2.2.1 k hk
    unfold BInv at q ⊢
    rw [pk_un (by omega), pk_un (by omega), pk_un (by omega), pk_un (by omega), pk_un (by omega), pk_un (by omega), pk_un (by omega)]
    exact q
theorem Inv_dim {g : Gs} (h : Inv g) {a v : Int32} (hc : cDim g a v) : Inv (F_dim g a v) := by
  obtain ⟨n, hn, rfl⟩ := in_L h.hc4 hc.1
  have h4 := h.c4.1
  have h5 := h.c5.1
  unfold F_dim
  rw [tnL_1 (by omega)]
  refine h.keep (pk_un (by omega)) (pk_un (by omega)) ?_ ?_ (fun k hk => pk_un (by omega)) ?_ (fun k hk => pk_un (by omega)) (fun k _ _ => ⟨pk_un (by omega), pk_un (by omega)⟩) (fun k _ _ j _ _ => pk_un (by omega))
  · rw [pk_un (by omega), pk_un (by omega), pk_un (by omega), pk_un (by omega)]; exact h.1
  · intro k hk
    obtain ⟨b1, b2, b3, b4, b5, b6, b7⟩ := h.2.2.1 k hk
    unfold LInv
    by_cases hkn : k = n
    · subst hkn
      repeat (first | rw [pk_us] | rw [pk_un (by omega)])
      exact ⟨b1, inn_I hc.2, b3, b4, b5, b6, b7⟩
    · rw [pk_un (by omega), pk_un (by omega), pk_un (by omega), pk_un (by omega), pk_un (by omega), pk_un (by omega), pk_un (by omega)]
      exact ⟨b1, b2, b3, b4, b5, b6, b7⟩
  · intro k hk
    have q := h.2.2.2.1 k hk
    unfold BInv at q ⊢
    rw [pk_un (by omega), pk_un (by omega), pk_un (by omega), pk_un (by omega), pk_un (by omega), pk_un (by omega), pk_un (by omega)]
    exact q
theorem Inv_addLight {g : Gs} (h : Inv g) {q st k n bo re : Int32} (hc : cLight g q st k n bo re) : Inv (F_addLight g q st k n bo re) := by
  obtain ⟨c1, ⟨⟨c2, c3, c4⟩, c5, c6⟩, c7⟩ := hc
  have e4 := h.c4.2
  have h5 := h.c5.1
  have ei := e4int h
  have c7 := Int32.lt_iff_toInt_lt.mp c7
  have z6 : (6 : Int32).toInt = 6 := rfl
  have hN : tn (g 4) < 6 := by omega
  obtain ⟨u1, u2⟩ := cnt_up (x := g 4) (n := 6) ⟨h.hc4.1, by omega⟩ (by decide)
  unfold F_addLight F_inc
  rw [e4, tnL_0 hN, tnL_1 hN, tnL_2 hN, tnL_3 hN, tnL_4 hN, tnL_5 hN]
  generalize hG : upd (upd (upd (upd (upd (upd g (12 + 8 * tn (g 4)) q) (12 + 8 * tn (g 4) + 1) st) (12 + 8 * tn (g 4) + 2) k) (12 + 8 * tn (g 4) + 3) n) (12 + 8 * tn (g 4) + 4) bo) (12 + 8 * tn (g 4) + 5) re = G
  have eq : ∀ i, ¬ (12 + 8 * tn (g 4) ≤ i ∧ i < 12 + 8 * tn (g 4) + 6) → G i = g i := by
    intro i hi
    rw [← hG, pk_un (by omega), pk_un (by omega), pk_un (by omega), pk_un (by omega), pk_un (by omega), pk_un (by omega)]
  have eq2 : ∀ i, i ≠ 4 → ¬ (12 + 8 * tn (g 4) ≤ i ∧ i < 12 + 8 * tn (g 4) + 6) → upd G 4 (G 4 + 1) i = g i := fun i h4 hi => (pk_un h4).trans (eq i hi)
  have eG4 : upd G 4 (G 4 + 1) 4 = g 4 + 1 := by rw [pk_us, eq 4 (by omega)]
  have eG5 : upd G 4 (G 4 + 1) 5 = g 5 := eq2 5 (by omega) (by omega)
  obtain ⟨i1, i2, i3, i4, i5, i6, i7⟩ := id h
  refine ⟨?_, ?_, ?_, ?_, ?_, ?_, ?_⟩
  · rw [eq2 0 (by omega) (by omega), eq2 1 (by omega) (by omega), eq2 2 (by omega) (by omega), eq2 3 (by omega) (by omega)]; exact i1
  · rw [eG4, eG5]
    exact ⟨⟨by rw [u1]; have := i2.1.1; omega, by rw [u1]; omega⟩, i2.2⟩
  · intro l hl
    rw [eG4, u2] at hl
    by_cases hlN : l = tn (g 4)
    · unfold LInv
      rw [hlN]
      have g0 : upd G 4 (G 4 + 1) (12 + 8 * tn (g 4)) = q := by rw [pk_un (by omega), ← hG]; repeat (first | rw [pk_us] | rw [pk_un (by omega)])
      have g1 : upd G 4 (G 4 + 1) (12 + 8 * tn (g 4) + 1) = st := by rw [pk_un (by omega), ← hG]; repeat (first | rw [pk_us] | rw [pk_un (by omega)])
      have g2 : upd G 4 (G 4 + 1) (12 + 8 * tn (g 4) + 2) = k := by rw [pk_un (by omega), ← hG]; repeat (first | rw [pk_us] | rw [pk_un (by omega)])
      have g3 : upd G 4 (G 4 + 1) (12 + 8 * tn (g 4) + 3) = n := by rw [pk_un (by omega), ← hG]; repeat (first | rw [pk_us] | rw [pk_un (by omega)])
      have g4 : upd G 4 (G 4 + 1) (12 + 8 * tn (g 4) + 4) = bo := by rw [pk_un (by omega), ← hG]; repeat (first | rw [pk_us] | rw [pk_un (by omega)])
      have g5 : upd G 4 (G 4 + 1) (12 + 8 * tn (g 4) + 5) = re := by rw [pk_un (by omega), ← hG]; repeat (first | rw [pk_us] | rw [pk_un (by omega)])
      have g6 : upd G 4 (G 4 + 1) (12 + 8 * tn (g 4) + 6) = 0 := by rw [eq2 _ (by omega) (by omega)]; exact (i6 _ (Nat.le_refl _) hN).1
      rw [g0, g1, g2, g3, g4, g5, g6]
      exact ⟨inn_I c1, inn_I c2, inn_I c3, inn_I c4, inn_I c5, inn_I c6, by decide, by decide⟩
    · have q := i3 l (by omega)
      unfold LInv at q ⊢
      rw [eq2 _ (by omega) (by omega), eq2 _ (by omega) (by omega), eq2 _ (by omega) (by omega), eq2 _ (by omega) (by omega), eq2 _ (by omega) (by omega), eq2 _ (by omega) (by omega), eq2 _ (by omega) (by omega)]
      exact q
  · intro b hb
    rw [eG5] at hb
    obtain ⟨b1, b2, b3, b4, b5, b6⟩ := i4 b hb
    unfold BInv
    rw [eG4, u1, eq2 _ (by omega) (by omega), eq2 _ (by omega) (by omega), eq2 _ (by omega) (by omega), eq2 _ (by omega) (by omega), eq2 _ (by omega) (by omega), eq2 _ (by omega) (by omega)]
    exact ⟨b1, b2, ⟨b3.1, by have := b3.2; omega⟩, b4, ⟨b5.1, by have := b5.2; omega⟩, ⟨b6.1, by have := b6.2; omega⟩⟩
  · intro l hl
    rw [eG4, u2] at hl
    rw [eG5, servesN_same _ _ h5 (fun b hb => eq2 _ (by omega) (by omega))]
    by_cases hlN : l = tn (g 4)
    · have g4 : upd G 4 (G 4 + 1) (12 + 8 * tn (g 4) + 4) = bo := by rw [pk_un (by omega), ← hG]; repeat (first | rw [pk_us] | rw [pk_un (by omega)])
      rw [hlN, g4, servesN_none (Nat.le_refl _) hN h _ (Nat.le_refl _)]
      have q := (inn_I c5).1
      have z1 : (1 : Int32).toInt = 1 := rfl
      have z0 : (0 : Int32).toInt = 0 := rfl
      omega
    · rw [eq2 _ (by omega) (by omega)]
      exact i5 l (by omega)
  · intro l h1 h2
    rw [eG4, u2] at h1
    rw [eq2 _ (by omega) (by omega), eq2 _ (by omega) (by omega)]
    exact i6 l (by omega) h2
  · intro b h1 h2 j h3 h4
    rw [eG5] at h1
    rw [eq2 _ (by omega) (by omega)]
    exact i7 b h1 h2 j h3 h4
theorem Inv_addBoat {g : Gs} (h : Inv g) {q v : Int32} (hc : cBoat g q v) : Inv (F_addBoat g q v) := by
  obtain ⟨c1, c2, c7⟩ := hc
  have e5 := h.c5.2
  have h5 := h.c5.1
  have h4 := h.c4.1
  have c7 := Int32.lt_iff_toInt_lt.mp c7
  have z8 : (8 : Int32).toInt = 8 := rfl
  obtain ⟨u1, u2⟩ := cnt_up (x := g 5) (n := 8) ⟨h.hc5.1, by omega⟩ (by decide)
  have ei : (tn (g 5) : Int) = (g 5).toInt := by rw [e5, nI_toInt (by omega), show tn (nI (tn (g 5))) = tn (g 5) from nI_clamp (by omega)]
  have hN : tn (g 5) < 8 := by omega
  unfold F_addBoat F_inc
  rw [e5, pB_0 _ _ hN, pB_1 _ _ hN]
  generalize hG : upd (upd g (60 + 10 * tn (g 5)) q) (60 + 10 * tn (g 5) + 1) v = G
  have eq : ∀ i, ¬ (60 + 10 * tn (g 5) ≤ i ∧ i < 60 + 10 * tn (g 5) + 2) → G i = g i := by
    intro i hi
    rw [← hG, pk_un (by omega), pk_un (by omega)]
  have eq2 : ∀ i, i ≠ 5 → ¬ (60 + 10 * tn (g 5) ≤ i ∧ i < 60 + 10 * tn (g 5) + 2) → upd G 5 (G 5 + 1) i = g i := fun i h4 hi => (pk_un h4).trans (eq i hi)
  have eG5 : upd G 5 (G 5 + 1) 5 = g 5 + 1 := by rw [pk_us, eq 5 (by omega)]
  have eG4 : upd G 5 (G 5 + 1) 4 = g 4 := eq2 4 (by omega) (by omega)
  obtain ⟨i1, i2, i3, i4, i5, i6, i7⟩ := id h
  have z : ∀ j, 2 ≤ j → j < 10 → upd G 5 (G 5 + 1) (60 + 10 * tn (g 5) + j) = 0 := fun j h2 h3 => by rw [eq2 _ (by omega) (by omega)]; exact i7 _ (Nat.le_refl _) hN j h2 h3
  refine ⟨?_, ?_, ?_, ?_, ?_, ?_, ?_⟩
  · rw [eq2 0 (by omega) (by omega), eq2 1 (by omega) (by omega), eq2 2 (by omega) (by omega), eq2 3 (by omega) (by omega)]; exact i1
  · rw [eG4, eG5]
    exact ⟨i2.1, ⟨by rw [u1]; have := i2.2.1; omega, by rw [u1]; omega⟩⟩
  · intro l hl
    rw [eG4] at hl
    have q := i3 l hl
    unfold LInv at q ⊢
    rw [eq2 _ (by omega) (by omega), eq2 _ (by omega) (by omega), eq2 _ (by omega) (by omega), eq2 _ (by omega) (by omega), eq2 _ (by omega) (by omega), eq2 _ (by omega) (by omega), eq2 _ (by omega) (by omega)]
    exact q
  · intro b hb
    rw [eG5, u2] at hb
    by_cases hbN : b = tn (g 5)
    · rw [hbN]
      have g0 : upd G 5 (G 5 + 1) (60 + 10 * tn (g 5)) = q := by rw [pk_un (by omega), ← hG]; repeat (first | rw [pk_us] | rw [pk_un (by omega)])
      have g1 : upd G 5 (G 5 + 1) (60 + 10 * tn (g 5) + 1) = v := by rw [pk_un (by omega), ← hG]; repeat (first | rw [pk_us] | rw [pk_un (by omega)])
      have zz : inI (0 : Int32) 0 (g 4).toInt := ⟨by decide, h.hc4.1⟩
      unfold BInv
      rw [g0, g1, z 2 (by omega) (by omega), z 3 (by omega) (by omega), z 4 (by omega) (by omega), z 6 (by omega) (by omega), eG4]
      exact ⟨inn_I c1, inn_I c2, zz, ⟨by decide, by decide⟩, zz, zz⟩
    · have q := i4 b (by omega)
      unfold BInv at q ⊢
      rw [eG4, eq2 _ (by omega) (by omega), eq2 _ (by omega) (by omega), eq2 _ (by omega) (by omega), eq2 _ (by omega) (by omega), eq2 _ (by omega) (by omega), eq2 _ (by omega) (by omega)]
      exact q
  · intro l hl
    rw [eG4] at hl
    rw [eG5, u2, F_servesN, servesN_same (g := g) _ _ h5 (fun b hb => eq2 _ (by omega) (by omega)), gB_2 _ hN, z 2 (by omega) (by omega), b01_f (nI_ne_1 (by omega)), Int32.add_zero, eq2 _ (by omega) (by omega)]
    exact i5 l hl
  · intro l h1 h2
    rw [eG4] at h1
    rw [eq2 _ (by omega) (by omega), eq2 _ (by omega) (by omega)]
    exact i6 l h1 h2
  · intro b h1 h2 j h3 h4
    rw [eG5, u2] at h1
    rw [eq2 _ (by omega) (by omega)]
    exact i7 b (by omega) h2 j h3 h4

