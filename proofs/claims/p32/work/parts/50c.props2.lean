theorem inc9_st {B n : Nat} {g : Gs} : St B B n g (F_inc g 9 1) := ⟨fun z => by
    unfold JB
    rw [inc_at (by omega), inc_at (by omega), inc_at (by omega), inc_at (by omega), inc_at (by omega), inc_at (by omega)]
    exact z, fun b j hb hn h1 h2 => inc_at (by omega), Kp.js ⟨fun b hb => ⟨inc_at (by omega), inc_at (by omega)⟩, fun l hl => inc_at (by omega), inc_at (by omega), inc_at (by omega)⟩⟩
theorem wishes_st {B n : Nat} {g : Gs} (hI : Inv g) (hn : n < tn (g 5)) (hy : ¬ g (60 + 10 * n + 2) = 0) (hk : B ≤ 100000) : St B (B + 2) n g (F_wishes g (nI n)) := by
  have h4 := hI.c4.1
  have h8 : n < 8 := by have := hI.c5.1; omega
  have hA := wishA_st (B := B) hI h8 hy
  unfold F_wishes
  split
  · exact ⟨fun z => Jb.le (by omega) (hA.1 z), hA.2⟩
  · rename_i hz
    split
    · exact ⟨fun z => Jb.le (by omega) (inc9_st.1 (hA.1 z)), (hA.tr inc9_st).2⟩
    · rcases F_wishedN_in g (nI n) (tn (g 4)) with e | ⟨j, hj, e⟩
      · exact absurd (Or.inl e) hz
      · have e : F_wished g (nI n) = nI j := e
        rw [e]
        exact hA.tr (hands_st h8 (by omega) (by omega))
theorem finds_st {B n : Nat} {g : Gs} (h8 : n < 8) (h0 : g (60 + 10 * n + 2) = 0) : St B B n g (F_finds g (nI n)) := by
  have key : ∀ f x, St B B n g (upd (upd g (60 + 10 * n + 2) f) 11 x) := by
    intro f x
    refine ⟨fun z => ?_, fun b j hb hn h1 h2 => ?_, Kp.js ⟨fun b hb => ⟨?_, ?_⟩, fun l hl => ?_, ?_, ?_⟩⟩
    · unfold JB at z ⊢
      rw [pk_un (k := 11) (by omega), pk_us]
      rw [pk_un (k := 11) (by omega), pk_un (k := 11) (by omega), pk_un (k := 11) (by omega), pk_un (k := 11) (by omega), pk_un (k := 11) (by omega)]
      rw [pk_un (by omega), pk_un (by omega), pk_un (by omega), pk_un (by omega), pk_un (by omega)]
      obtain ⟨z1, z2, z3, z4⟩ := z
      exact ⟨fun h => absurd h0 (z1 h), fun h => absurd h0 (z2 h).1, z3, z4⟩
    all_goals rw [pk_un (by omega), pk_un (by omega)]
  show St B B n g (upd (pB g (nI n) 2 (F_findsN g (nI n) (tn (g 4)) + 1)) 11 _)
  rw [pB_2 _ _ h8]
  exact key _ _
theorem onC_st {B n : Nat} {g : Gs} (h8 : n < 8) : St B B n g (F_onC g (nI n)) := by
  unfold F_onC
  rw [pB_3 _ _ h8, gB_3 g h8]
  refine ⟨fun z => ?_, fun b j hb hn h1 h2 => pk_un (by omega), Kp.js ⟨fun b hb => ⟨pk_un (by omega), pk_un (by omega)⟩, fun l hl => pk_un (by omega), pk_un (by omega), pk_un (by omega)⟩⟩
  unfold JB at z ⊢
  rw [pk_us, pk_un (by omega), pk_un (by omega), pk_un (by omega), pk_un (by omega), pk_un (by omega)]
  obtain ⟨z1, z2, z3, z4⟩ := z
  refine ⟨fun h => ?_, z2, z3, z4⟩
  split at h
  · rename_i h3
    exact z1 h3
  · exact absurd h (by decide)
theorem m1_iff {y : Int32} : y - 1 = -1 ↔ y = 0 := by
  constructor
  · intro h
    have : y - 1 + 1 = -1 + 1 := by rw [h]
    rw [Int32.sub_add_cancel] at this
    rw [this]
    decide
  · intro h
    subst h
    decide
theorem onA_st {B n : Nat} {g : Gs} (hI : Inv g) (hn : n < tn (g 5)) (hk : B ≤ 100000) : St B (B + 2) n g (F_onA g (nI n)) := by
  have h8 : n < 8 := by have := hI.c5.1; omega
  unfold F_onA
  split
  · exact (drops_st g h8).up (by omega)
  · split
    · rename_i h1 h2
      rw [gB_2 g h8, m1_iff] at h2
      exact wishes_st hI hn h2 hk
    · exact (St.rf B n g).up (by omega)
theorem onB_st {B n : Nat} {g : Gs} (h8 : n < 8) : St B B n g (F_onB g (nI n)) := by
  unfold F_onB
  split
  · rename_i h
    rw [gB_2 g h8] at h
    exact finds_st h8 h
  · exact St.rf B n g
theorem goesOn_st {B n : Nat} {g : Gs} (hI : Inv g) (hn : n < tn (g 5)) (hk : B ≤ 100000) : St B (B + 2) n g (F_goesOn g (nI n)) := by
  have h8 : n < 8 := by have := hI.c5.1; omega
  have h1 := Inv_sails hI hn
  have e5 : F_sails g (nI n) 5 = g 5 := by
    unfold F_sails
    rw [pB_0 g _ h8, pB_1 g _ h8]
    split <;> exact pk_un (by omega)
  unfold F_goesOn
  exact (sails_st g h8).tr ((onA_st h1 (by rw [e5]; exact hn) hk).tr ((onB_st h8).tr (onC_st h8)))
theorem tickN_j {B : Nat} {g : Gs} (h : J B g) (hk : B ≤ 100000) : ∀ n, n ≤ tn (g 5) → (∀ b, b < 8 → JB (if b < n then B + 2 else B) (F_tickN g n) b) ∧ JS (F_tickN g n)
  | 0, _ => by
    have e : ∀ z, z ≠ 6 → F_tickN g 0 z = g z := fun z hz => inc_at hz
    refine ⟨fun b hb => ?_, Kp.js ⟨fun b hb => ⟨e _ (by omega), e _ (by omega)⟩, fun l hl => e _ (by omega), e _ (by omega), e _ (by omega)⟩ h.2.2⟩
    rw [if_neg (Nat.not_lt_zero _)]
    unfold JB
    rw [e _ (by omega), e _ (by omega), e _ (by omega), e _ (by omega), e _ (by omega), e _ (by omega)]
    exact h.2.1 b hb
  | n + 1, hn => by
    have h8 : n < 8 := by have := h.1.c5.1; omega
    obtain ⟨q1, q2⟩ := tickN_j h hk n (by omega)
    obtain ⟨h1, h2⟩ := Inv_tickN h.1 n (by omega)
    have e5 := h2 5 lo5
    rw [F_tickN]
    obtain ⟨s1, s2, s3⟩ := goesOn_st (B := B) (n := n) h1 (by rw [e5]; omega) hk
    refine ⟨fun b hb => ?_, s3 q2⟩
    by_cases e : b = n
    · subst e
      rw [if_pos (by omega)]
      have q := q1 b hb
      rw [if_neg (by omega)] at q
      exact s1 q
    · have q := s2.jb hb e (q1 b hb)
      by_cases z : b < n
      · rw [if_pos z] at q
        rw [if_pos (by omega)]
        exact q
      · rw [if_neg z] at q
        rw [if_neg (by omega)]
        exact q
theorem J.tick {B : Nat} {g : Gs} (h : J B g) (hk : B ≤ 100000) : J (B + 2) (F_tick g) := by
  obtain ⟨q1, q2⟩ := tickN_j h hk _ (Nat.le_refl _)
  refine ⟨Inv_tick h.1, fun b hb => ?_, q2⟩
  exact Jb.le (by split <;> omega) (q1 b hb)
theorem J.ticks {B : Nat} {g : Gs} (h : J B g) : ∀ N, B + 2 * N ≤ 100000 → J (B + 2 * N) (F_ticks g N)
  | 0, _ => h
  | N + 1, hk => (J.ticks h N (by omega)).tick (by omega)
theorem J.keep {B : Nat} {g g' : Gs} (h : J B g) (hI : Inv g') (eb : ∀ n j, n < 8 → 2 ≤ j → j < 9 → g' (60 + 10 * n + j) = g (60 + 10 * n + j)) (el : ∀ l, l < 6 → g' (12 + 8 * l + 7) = g (12 + 8 * l + 7)) (e7 : g' 7 = g 7) (e8 : g' 8 = g 8) : J B g' := by
  refine ⟨hI, fun b hb => ?_, Kp.js ⟨fun b hb => ⟨eb b 7 hb (by omega) (by omega), eb b 8 hb (by omega) (by omega)⟩, el, e7, e8⟩ h.2.2⟩
  unfold JB
  rw [eb b 2 hb (by omega) (by omega), eb b 3 hb (by omega) (by omega), eb b 4 hb (by omega) (by omega), eb b 5 hb (by omega) (by omega), eb b 7 hb (by omega) (by omega), eb b 8 hb (by omega) (by omega)]
  exact h.2.1 b hb
theorem J.begins (g : Gs) : J 0 (F_begins g) := by
  have e : ∀ z, 4 ≤ z → z < 140 → F_begins g z = 0 := fun z h1 h2 => begins_0 g h1 h2
  refine ⟨Inv_begins g, fun b hb => ?_, ?_, ?_, ?_⟩
  · unfold JB
    rw [e _ (by omega) (by omega), e _ (by omega) (by omega), e _ (by omega) (by omega), e _ (by omega) (by omega), e _ (by omega) (by omega), e _ (by omega) (by omega)]
    exact Jb_0 ⟨0, 0, by omega, by omega, rfl, rfl⟩
  · simp only [SB, e _ (show 4 ≤ 60 + 10 * 0 + 7 by decide) (by decide), e _ (show 4 ≤ 60 + 10 * 1 + 7 by decide) (by decide), e _ (show 4 ≤ 60 + 10 * 2 + 7 by decide) (by decide), e _ (show 4 ≤ 60 + 10 * 3 + 7 by decide) (by decide), e _ (show 4 ≤ 60 + 10 * 4 + 7 by decide) (by decide), e _ (show 4 ≤ 60 + 10 * 5 + 7 by decide) (by decide), e _ (show 4 ≤ 60 + 10 * 6 + 7 by decide) (by decide), e _ (show 4 ≤ 60 + 10 * 7 + 7 by decide) (by decide), e 7 (by decide) (by decide)]
    decide
  · simp only [SLt, e _ (show 4 ≤ 12 + 8 * 0 + 7 by decide) (by decide), e _ (show 4 ≤ 12 + 8 * 1 + 7 by decide) (by decide), e _ (show 4 ≤ 12 + 8 * 2 + 7 by decide) (by decide), e _ (show 4 ≤ 12 + 8 * 3 + 7 by decide) (by decide), e _ (show 4 ≤ 12 + 8 * 4 + 7 by decide) (by decide), e _ (show 4 ≤ 12 + 8 * 5 + 7 by decide) (by decide), e 7 (by decide) (by decide)]
    decide
  · simp only [SB, e _ (show 4 ≤ 60 + 10 * 0 + 8 by decide) (by decide), e _ (show 4 ≤ 60 + 10 * 1 + 8 by decide) (by decide), e _ (show 4 ≤ 60 + 10 * 2 + 8 by decide) (by decide), e _ (show 4 ≤ 60 + 10 * 3 + 8 by decide) (by decide), e _ (show 4 ≤ 60 + 10 * 4 + 8 by decide) (by decide), e _ (show 4 ≤ 60 + 10 * 5 + 8 by decide) (by decide), e _ (show 4 ≤ 60 + 10 * 6 + 8 by decide) (by decide), e _ (show 4 ≤ 60 + 10 * 7 + 8 by decide) (by decide), e 8 (by decide) (by decide)]
    decide
theorem J.addLight {B : Nat} {g : Gs} (h : J B g) {q st k n bo re : Int32} (hc : cLight g q st k n bo re) : J B (F_addLight g q st k n bo re) := by
  have hI := Inv_addLight h.1 hc
  obtain ⟨c1, -, c7⟩ := hc
  have e4 := h.1.c4
  have c7 := Int32.lt_iff_toInt_lt.mp c7
  have z6 : (6 : Int32).toInt = 6 := rfl
  have ei := e4int h.1
  have hN : tn (g 4) < 6 := by omega
  have key : ∀ z, z ≠ 4 → (z < 12 ∨ 60 ≤ z ∨ (z - 12) % 8 = 7) → F_addLight g q st k n bo re z = g z := fun z h1 h2 => by
    unfold F_addLight
    rw [inc_at h1, e4.2, tnL_0 hN, tnL_1 hN, tnL_2 hN, tnL_3 hN, tnL_4 hN, tnL_5 hN, pk_un (by omega), pk_un (by omega), pk_un (by omega), pk_un (by omega), pk_un (by omega), pk_un (by omega)]
  exact h.keep hI (fun n j _ _ _ => key _ (by omega) (by omega)) (fun l _ => key _ (by omega) (by omega)) (key _ (by omega) (by omega)) (key _ (by omega) (by omega))
theorem J.addBoat {B : Nat} {g : Gs} (h : J B g) {q v : Int32} (hc : cBoat g q v) : J B (F_addBoat g q v) := by
  have hI := Inv_addBoat h.1 hc
  obtain ⟨c1, c2, c7⟩ := hc
  have e5 := h.1.c5
  have c7 := Int32.lt_iff_toInt_lt.mp c7
  have z8 : (8 : Int32).toInt = 8 := rfl
  have ei : (tn (g 5) : Int) = (g 5).toInt := by rw [e5.2, nI_toInt (by omega), show tn (nI (tn (g 5))) = tn (g 5) from nI_clamp (by omega)]
  have hN : tn (g 5) < 8 := by omega
  have key : ∀ z, z ≠ 5 → (z < 60 ∨ (2 ≤ (z - 60) % 10 ∧ (z - 60) % 10 < 9)) → F_addBoat g q v z = g z := fun z h1 h2 => by
    unfold F_addBoat
    rw [inc_at h1, e5.2, pB_0 _ _ hN, pB_1 _ _ hN, pk_un (by omega), pk_un (by omega)]
  exact h.keep hI (fun n j _ _ _ => key _ (by omega) (by omega)) (fun l _ => key _ (by omega) (by omega)) (key _ (by omega) (by omega)) (key _ (by omega) (by omega))
theorem J.steer {B : Nat} {g : Gs} (h : J B g) {b v : Int32} (hc : cSteer g b v) : J B (pB g b 1 v) := by
  have hI := Inv_steer h.1 hc
  have h5 := h.1.c5.1
  obtain ⟨n, hn, rfl⟩ := in_B h.1.hc5 hc.1
  rw [pB_1 _ _ (by omega)] at hI ⊢
  exact h.keep hI (fun n j _ _ _ => pk_un (by omega)) (fun l _ => pk_un (by omega)) (pk_un (by omega)) (pk_un (by omega))
theorem J.talk {B : Nat} {g : Gs} (h : J B g) {b v : Int32} (hc : cTalk g b v) : J B (pB g b 3 v) := by
  have hI := Inv_talk h.1 hc
  have h5 := h.1.c5.1
  obtain ⟨n, hn, rfl⟩ := in_B h.1.hc5 hc.1
  have hy := hc.2.2
  rw [gB_2 g (by omega)] at hy
  rw [pB_3 _ _ (by omega)] at hI ⊢
  refine ⟨hI, fun m hm => ?_, Kp.js ⟨fun b hb => ⟨pk_un (by omega), pk_un (by omega)⟩, fun l hl => pk_un (by omega), pk_un (by omega), pk_un (by omega)⟩ h.2.2⟩
  have q := h.2.1 m hm
  by_cases e : m = n
  · subst e
    unfold JB at q ⊢
    rw [pk_us, pk_un (by omega), pk_un (by omega), pk_un (by omega), pk_un (by omega), pk_un (by omega)]
    exact ⟨fun _ z => by rw [z] at hy; exact absurd hy (by decide), q.2⟩
  · unfold JB at q ⊢
    rw [pk_un (by omega), pk_un (by omega), pk_un (by omega), pk_un (by omega), pk_un (by omega), pk_un (by omega)]
    exact q
theorem J.dim {B : Nat} {g : Gs} (h : J B g) {b v : Int32} (hc : cDim g b v) : J B (F_dim g b v) := by
  have hI := Inv_dim h.1 hc
  have h4 := h.1.c4.1
  obtain ⟨n, hn, rfl⟩ := in_L h.1.hc4 hc.1
  unfold F_dim at hI ⊢
  rw [tnL_1 (by omega)] at hI ⊢
  exact h.keep hI (fun n j _ _ _ => pk_un (by omega)) (fun l _ => pk_un (by omega)) (pk_un (by omega)) (pk_un (by omega))
theorem J.set {B : Nat} {g : Gs} (h : J B g) {a v : Int32} (hI : Inv (upd g (tn a) v)) (hc : inn a 0 3) : J B (upd g (tn a) v) := by
  obtain ⟨n, hn, rfl⟩ := vp_in_of (inn_vp (m := 4) (by decide) hc) (by decide)
  rw [show tn (nI n) = n from nI_clamp (by omega)] at hI ⊢
  exact h.keep hI (fun n j _ _ _ => pk_un (by omega)) (fun l _ => pk_un (by omega)) (pk_un (by omega)) (pk_un (by omega))
