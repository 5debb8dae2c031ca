/-! how often a boat was handed on: a tick adds one at most -/
theorem sails7 {g : Gs} {n m : Nat} (h8 : n < 8) (hm : m < 8) : F_sails g (nI n) (60 + 10 * m + 7) = g (60 + 10 * m + 7) := by
  unfold F_sails
  rw [pB_0 _ _ h8, pB_1 _ _ h8]
  split <;> exact pk_un (by omega)
theorem drops7 {g : Gs} {n m : Nat} (h8 : n < 8) (hm : m < 8) : F_drops g (nI n) (60 + 10 * m + 7) = g (60 + 10 * m + 7) := by
  unfold F_drops F_dropsA
  simp only [pB_2 _ _ h8, pB_4 _ _ h8, pB_5 _ _ h8, pB_3 _ _ h8]
  rw [pk_un (by omega), pk_un (by omega), pk_un (by omega), pk_un (by omega), pk_un (by omega)]
theorem hands7 {g : Gs} {n to m : Nat} (h8 : n < 8) (h6 : to < 6) (hm : m < 8) : F_hands g (nI n) (nI to) (60 + 10 * m + 7) = g (60 + 10 * m + 7) ∨ (m = n ∧ F_hands g (nI n) (nI to) (60 + 10 * m + 7) = g (60 + 10 * m + 7) + 1) := by
  unfold F_hands F_handsB F_handsA
  rw [tnB_7 h8, tnB_8 h8, tnL_7 h6, inc_at (by omega), inc_at (by omega), inc_at (by omega), inc_at (by omega)]
  rw [gB_2 _ h8, pB_2 _ _ h8, pB_4 _ _ h8, pB_5 _ _ h8, pB_6 _ _ h8, pB_9 _ _ h8]
  by_cases e : m = n
  · subst e
    refine Or.inr ⟨rfl, ?_⟩
    show upd _ _ (_ + 1) _ = _
    rw [pk_us, pk_un (by omega), pk_un (by omega), pk_un (by omega), pk_un (by omega), pk_un (by omega)]
  · left
    rw [inc_at (by omega), pk_un (by omega), pk_un (by omega), pk_un (by omega), pk_un (by omega), pk_un (by omega)]
theorem wishA7 {g : Gs} {n m : Nat} (h8 : n < 8) (hm : m < 8) : F_wishA g (nI n) (60 + 10 * m + 7) = g (60 + 10 * m + 7) := by
  unfold F_wishA
  rw [pB_4 _ _ h8, pB_5 _ _ h8, pk_un (by omega), pk_un (by omega)]
theorem wishes7 {g : Gs} (h : Inv g) {n m : Nat} (h8 : n < 8) (hm : m < 8) : F_wishes g (nI n) (60 + 10 * m + 7) = g (60 + 10 * m + 7) ∨ (m = n ∧ F_wishes g (nI n) (60 + 10 * m + 7) = g (60 + 10 * m + 7) + 1) := by
  have h4 := h.c4.1
  unfold F_wishes
  split
  · exact Or.inl (wishA7 h8 hm)
  · rename_i hz
    split
    · rw [inc_at (by omega)]; exact Or.inl (wishA7 h8 hm)
    · rcases F_wishedN_in g (nI n) (tn (g 4)) with e | ⟨j, hj, e⟩
      · exact absurd (Or.inl e) hz
      · have e : F_wished g (nI n) = nI j := e
        rw [e, ← wishA7 (g := g) h8 hm]
        exact hands7 h8 (by omega) hm
theorem finds7 {g : Gs} {n m : Nat} (h8 : n < 8) (hm : m < 8) : F_finds g (nI n) (60 + 10 * m + 7) = g (60 + 10 * m + 7) := by
  show upd (pB g (nI n) 2 (F_findsN g (nI n) (tn (g 4)) + 1)) 11 _ (60 + 10 * m + 7) = _
  rw [pB_2 _ _ h8, pk_un (by omega), pk_un (by omega)]
theorem onA7 {g : Gs} (h : Inv g) {n m : Nat} (h8 : n < 8) (hm : m < 8) : F_onA g (nI n) (60 + 10 * m + 7) = g (60 + 10 * m + 7) ∨ (m = n ∧ F_onA g (nI n) (60 + 10 * m + 7) = g (60 + 10 * m + 7) + 1) := by
  unfold F_onA
  split
  · exact Or.inl (drops7 h8 hm)
  · split
    · exact wishes7 h h8 hm
    · exact Or.inl rfl
theorem onB7 {g : Gs} {n m : Nat} (h8 : n < 8) (hm : m < 8) : F_onB g (nI n) (60 + 10 * m + 7) = g (60 + 10 * m + 7) := by
  unfold F_onB
  split
  · exact finds7 h8 hm
  · rfl
theorem onC7 {g : Gs} {n m : Nat} (h8 : n < 8) (hm : m < 8) : F_onC g (nI n) (60 + 10 * m + 7) = g (60 + 10 * m + 7) := by
  unfold F_onC
  rw [pB_3 _ _ h8, pk_un (by omega)]
theorem goesOn7 {g : Gs} (h : Inv g) {n m : Nat} (hn : n < tn (g 5)) (hm : m < 8) : F_goesOn g (nI n) (60 + 10 * m + 7) = g (60 + 10 * m + 7) ∨ (m = n ∧ F_goesOn g (nI n) (60 + 10 * m + 7) = g (60 + 10 * m + 7) + 1) := by
  have h5 := h.c5.1
  have h8 : n < 8 := by omega
  have h1 := Inv_sails h hn
  unfold F_goesOn
  rw [onC7 h8 hm, onB7 h8 hm, ← sails7 (g := g) (n := n) h8 hm]
  exact onA7 h1 h8 hm
theorem tickN7 {g : Gs} (h : Inv g) {m : Nat} (hm : m < 8) : ∀ n, n ≤ tn (g 5) → F_tickN g n (60 + 10 * m + 7) = g (60 + 10 * m + 7) ∨ (m < n ∧ F_tickN g n (60 + 10 * m + 7) = g (60 + 10 * m + 7) + 1)
  | 0, _ => Or.inl (inc_at (by omega))
  | n + 1, hn => by
    obtain ⟨h1, h2⟩ := Inv_tickN h n (by omega)
    have e5 := h2 5 lo5
    rw [F_tickN]
    rcases goesOn7 h1 (n := n) (m := m) (by rw [e5]; omega) hm with e | ⟨e0, e⟩
    · rcases tickN7 h hm n (by omega) with q | ⟨q0, q⟩
      · exact Or.inl (e.trans q)
      · exact Or.inr ⟨by omega, e.trans q⟩
    · rcases tickN7 h hm n (by omega) with q | ⟨q0, q⟩
      · exact Or.inr ⟨by omega, by rw [e, q]⟩
      · omega
theorem tick7 {g : Gs} (h : Inv g) {m : Nat} (hm : m < 8) : ∃ d, d ≤ 1 ∧ F_tick g (60 + 10 * m + 7) = g (60 + 10 * m + 7) + nI d := by
  rcases tickN7 h hm _ (Nat.le_refl _) with e | ⟨-, e⟩
  · exact ⟨0, by decide, e.trans (Int32.add_zero _).symm⟩
  · exact ⟨1, by decide, e⟩
theorem ticks7 {g : Gs} (h : Inv g) {m : Nat} (hm : m < 8) : ∀ N, ∃ d, d ≤ N ∧ F_ticks g N (60 + 10 * m + 7) = g (60 + 10 * m + 7) + nI d
  | 0 => ⟨0, Nat.le_refl _, (Int32.add_zero _).symm⟩
  | N + 1 => by
    obtain ⟨d, h1, h2⟩ := ticks7 h hm N
    obtain ⟨d2, h3, h4⟩ := tick7 (Inv_ticks h N).1 hm
    refine ⟨d + d2, by omega, ?_⟩
    show F_tick (F_ticks g N) _ = _
    rw [h4, h2, Int32.add_assoc, nI_add]
/-- no boat was handed on more often than B times -/
def OB (B : Nat) (g : Gs) : Prop := ∀ m, m < 8 → ∃ v, v ≤ B ∧ g (60 + 10 * m + 7) = nI v
theorem OB.le {B B2 : Nat} {g : Gs} (h : OB B g) (hb : B ≤ B2) : OB B2 g := fun m hm => by
  obtain ⟨v, h1, h2⟩ := h m hm
  exact ⟨v, by omega, h2⟩
theorem OB.un {B : Nat} {g g2 : Gs} (h : OB B g) (e : ∀ m, m < 8 → g2 (60 + 10 * m + 7) = g (60 + 10 * m + 7)) : OB B g2 := fun m hm => by
  rw [e m hm]
  exact h m hm
theorem OB.ticks {B : Nat} {g : Gs} (hI : Inv g) (h : OB B g) (N : Nat) : OB (B + N) (F_ticks g N) := fun m hm => by
  obtain ⟨v, h1, h2⟩ := h m hm
  obtain ⟨d, h3, h4⟩ := ticks7 hI hm N
  exact ⟨v + d, by omega, by rw [h4, h2, nI_add]⟩
theorem OB.addLight {B : Nat} {g : Gs} (hI : Inv g) (h : OB B g) {q st k n bo re : Int32} (hc : cLight g q st k n bo re) : OB B (F_addLight g q st k n bo re) := h.un (fun m hm => by
  obtain ⟨c1, -, c7⟩ := hc
  have e4 := hI.c4
  have c7 := Int32.lt_iff_toInt_lt.mp c7
  have z6 : (6 : Int32).toInt = 6 := rfl
  have ei := e4int hI
  have hN : tn (g 4) < 6 := by omega
  unfold F_addLight
  rw [inc_at (by omega), e4.2, tnL_0 hN, tnL_1 hN, tnL_2 hN, tnL_3 hN, tnL_4 hN, tnL_5 hN, pk_un (by omega), pk_un (by omega), pk_un (by omega), pk_un (by omega), pk_un (by omega), pk_un (by omega)])
theorem OB.addBoat {B : Nat} {g : Gs} (hI : Inv g) (h : OB B g) {q v : Int32} (hc : cBoat g q v) : OB B (F_addBoat g q v) := h.un (fun m hm => by
  obtain ⟨c1, c2, c7⟩ := hc
  have e5 := hI.c5
  have c7 := Int32.lt_iff_toInt_lt.mp c7
  have z8 : (8 : Int32).toInt = 8 := rfl
  have ei : (tn (g 5) : Int) = (g 5).toInt := by rw [e5.2, nI_toInt (by omega), show tn (nI (tn (g 5))) = tn (g 5) from nI_clamp (by omega)]
  have hN : tn (g 5) < 8 := by omega
  unfold F_addBoat
  rw [inc_at (by omega), e5.2, pB_0 _ _ hN, pB_1 _ _ hN, pk_un (by omega), pk_un (by omega)])
theorem OB.steer {B : Nat} {g : Gs} (hI : Inv g) (h : OB B g) {b v : Int32} (hc : cSteer g b v) : OB B (pB g b 1 v) := h.un (fun m hm => by
  have h5 := hI.c5.1
  obtain ⟨n, hn, rfl⟩ := in_B hI.hc5 hc.1
  rw [pB_1 _ _ (by omega), pk_un (by omega)])
theorem OB.talk {B : Nat} {g : Gs} (hI : Inv g) (h : OB B g) {b v : Int32} (hc : cTalk g b v) : OB B (pB g b 3 v) := h.un (fun m hm => by
  have h5 := hI.c5.1
  obtain ⟨n, hn, rfl⟩ := in_B hI.hc5 hc.1
  rw [pB_3 _ _ (by omega), pk_un (by omega)])
theorem OB.lean {B : Nat} {g : Gs} (hI : Inv g) (h : OB B g) {b v : Int32} (hc : cLean g b v) : OB B (F_lean g b v) := h.un (fun m hm => by
  have h4 := hI.c4.1
  obtain ⟨n, hn, rfl⟩ := in_L hI.hc4 hc.1
  unfold F_lean
  rw [tnL_6 (by omega), pk_un (by omega)])
theorem OB.dim {B : Nat} {g : Gs} (hI : Inv g) (h : OB B g) {b v : Int32} (hc : cDim g b v) : OB B (F_dim g b v) := h.un (fun m hm => by
  have h4 := hI.c4.1
  obtain ⟨n, hn, rfl⟩ := in_L hI.hc4 hc.1
  unfold F_dim
  rw [tnL_1 (by omega), pk_un (by omega)])
theorem OB.set {B : Nat} {g : Gs} (h : OB B g) {a v : Int32} (hc : cSet a v) : OB B (upd g (tn a) v) := h.un (fun m hm => by
  obtain ⟨n, hn, rfl⟩ := vp_in_of (inn_vp (m := 4) (by decide) hc.1) (by decide)
  rw [show tn (nI n) = n from nI_clamp (by omega), pk_un (by omega)])
theorem inn60 {x : Int32} (h : inn x 1 60) : tn x ≤ 60 := by
  obtain ⟨n, hn, rfl⟩ := vp_in_of (inn_vp (m := 61) (by decide) ⟨Int32.le_trans (by decide) h.1, h.2⟩) (by decide)
  rw [show tn (nI n) = n from nI_clamp (by omega)]
  omega
theorem OB.obey {B : Nat} {g : Gs} (hI : Inv g) (h : OB B g) (a : Int32) (v : Nat → Int32) : OB (B + 60) (F_obG g a v) := by
  have h0 : OB (B + 60) g := h.le (by omega)
  unfold F_obG
  repeat' split
  · exact (h.addLight hI (by assumption)).le (by omega)
  · exact h0
  · exact (h.addBoat hI (by assumption)).le (by omega)
  · exact h0
  · exact (h.talk hI (by assumption)).le (by omega)
  · exact h0
  · exact (h.steer hI (by assumption)).le (by omega)
  · exact h0
  · exact (h.set (by assumption)).le (by omega)
  · exact h0
  · rename_i hc
    have := inn60 hc
    exact (h.ticks hI _).le (by omega)
  · exact h0
theorem OB.rstep {B : Nat} {tx : Gs} {q : Gs × Gs} (hI : Inv q.2) (h : OB B q.2) : OB (B + 60) (F_rstep tx q).2 := by
  unfold F_rstep
  split
  · show OB (B + 60) (G_carries _ _ _ _)
    unfold G_carries
    split
    · exact h.obey hI _ _
    · exact h.le (by omega)
  · exact h.le (by omega)
theorem OB.rds {B : Nat} {tx : Gs} {q : Gs × Gs} (hI : Inv q.2) (h : OB B q.2) : ∀ i, OB (B + 60 * i) (F_rds tx q i).2
  | 0 => h
  | i + 1 => by
    show OB _ (F_rstep tx (F_rds tx q i)).2
    exact (OB.rstep (Inv_rds hI i) (OB.rds hI h i)).le (by omega)
theorem OB.begins (g : Gs) : OB 0 (F_begins g) := fun m hm => ⟨0, Nat.le_refl _, begins_0 g (by omega) (by omega)⟩
theorem OB.reads {tx c g : Gs} {d : Int32} : OB 7260 (F_reads tx c (F_begins g) d).2 := by
  unfold F_reads
  have h1 := OB.rds (tx := tx) (q := (F_r0 tx c d, F_begins g)) (Inv_begins g) (OB.begins g) (F_rN tx (F_r0 tx c d, F_begins g))
  have h2 : F_rN tx (F_r0 tx c d, F_begins g) ≤ 121 := fa_first_le _ _
  exact h1.le (by omega)
/-- the count in a forecast isn't less -/
theorem OB.more {B : Nat} {g : Gs} (hI : Inv g) (h : OB B g) (hB : B ≤ 100000) {b : Int32} (hb : inn b 0 (g 5 - 1)) : gB g b 7 ≤ gB (F_ticks g (F_hN g b)) b 7 := by
  have h5 := hI.c5.1
  obtain ⟨n, hn, rfl⟩ := in_B hI.hc5 hb
  have h2 : F_hN g (nI n) ≤ 200 := fa_first_le _ _
  obtain ⟨v, h3, h4⟩ := h n (by omega)
  obtain ⟨d, h6, h7⟩ := ticks7 hI (m := n) (by omega) (F_hN g (nI n))
  rw [gB_7 _ (by omega), gB_7 _ (by omega), h7, h4, nI_add]
  exact Int32.not_lt.mp (fun z => absurd ((nI_ltI (by omega) (by omega)).mp z) (by omega))
