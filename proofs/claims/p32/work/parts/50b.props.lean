/-! what holds of the row at every call, beyond Inv: what a boat's numbers say of one another, and the sums -/
def Jb (B : Nat) (y t w k h b : Int32) : Prop := (0 < t → ¬ y = 0) ∧ (¬ w = 0 → ¬ y = 0 ∧ ¬ w = y) ∧ (∃ q, q ≤ B ∧ k = nI q ∧ (q = 0 ↔ w = 0)) ∧ ∃ u v, u ≤ v ∧ v ≤ B ∧ b = nI u ∧ h = nI v
def JB (B : Nat) (g : Gs) (n : Nat) : Prop := Jb B (g (60 + 10 * n + 2)) (g (60 + 10 * n + 3)) (g (60 + 10 * n + 4)) (g (60 + 10 * n + 5)) (g (60 + 10 * n + 7)) (g (60 + 10 * n + 8))
def SB (g : Gs) (j : Nat) : Nat → Int32
  | 0 => 0
  | n + 1 => SB g j n + g (60 + 10 * n + j)
def SLt (g : Gs) : Nat → Int32
  | 0 => 0
  | n + 1 => SLt g n + g (12 + 8 * n + 7)
def JS (g : Gs) : Prop := SB g 7 8 = g 7 ∧ SLt g 6 = g 7 ∧ SB g 8 8 = g 8
def J (B : Nat) (g : Gs) : Prop := Inv g ∧ (∀ n, n < 8 → JB B g n) ∧ JS g
theorem Jb.le {B B2 : Nat} {y t w k h b : Int32} (hb : B ≤ B2) (z : Jb B y t w k h b) : Jb B2 y t w k h b := by
  obtain ⟨z1, z2, ⟨q, q1, q2, q3⟩, u, v, v1, v2, v3, v4⟩ := z
  exact ⟨z1, z2, ⟨q, by omega, q2, q3⟩, u, v, v1, by omega, v3, v4⟩
theorem J.le {B B2 : Nat} {g : Gs} (hb : B ≤ B2) (h : J B g) : J B2 g := ⟨h.1, fun n hn => Jb.le hb (h.2.1 n hn), h.2.2⟩
theorem SB_same {g g' : Gs} {j : Nat} : ∀ N, (∀ b, b < N → g' (60 + 10 * b + j) = g (60 + 10 * b + j)) → SB g' j N = SB g j N
  | 0, _ => rfl
  | N + 1, h => by
    rw [SB, SB, SB_same N (fun b hb => h b (by omega)), h N (by omega)]
theorem add_sw (a b d : Int32) : a + d + b = a + b + d := by rw [Int32.add_assoc, Int32.add_comm d b, ← Int32.add_assoc]
theorem SB_upd {g g' : Gs} {j n : Nat} {d : Int32} (e : g' (60 + 10 * n + j) = g (60 + 10 * n + j) + d) : ∀ N, n < N → (∀ b, b < N → b ≠ n → g' (60 + 10 * b + j) = g (60 + 10 * b + j)) → SB g' j N = SB g j N + d
  | 0, h, _ => absurd h (Nat.not_lt_zero _)
  | N + 1, h, k => by
    rw [SB, SB]
    by_cases z : n = N
    · subst z
      rw [SB_same n (fun b hb => k b (by omega) (by omega)), e, Int32.add_assoc]
    · rw [SB_upd e N (by omega) (fun b hb => k b (by omega)), k N (by omega) (fun q => z q.symm), add_sw]
theorem SLt_same {g g' : Gs} : ∀ N, (∀ b, b < N → g' (12 + 8 * b + 7) = g (12 + 8 * b + 7)) → SLt g' N = SLt g N
  | 0, _ => rfl
  | N + 1, h => by
    rw [SLt, SLt, SLt_same N (fun b hb => h b (by omega)), h N (by omega)]
theorem SLt_upd {g g' : Gs} {n : Nat} {d : Int32} (e : g' (12 + 8 * n + 7) = g (12 + 8 * n + 7) + d) : ∀ N, n < N → (∀ b, b < N → b ≠ n → g' (12 + 8 * b + 7) = g (12 + 8 * b + 7)) → SLt g' N = SLt g N + d
  | 0, h, _ => absurd h (Nat.not_lt_zero _)
  | N + 1, h, k => by
    rw [SLt, SLt]
    by_cases z : n = N
    · subst z
      rw [SLt_same n (fun b hb => k b (by omega) (by omega)), e, Int32.add_assoc]
    · rw [SLt_upd e N (by omega) (fun b hb => k b (by omega)), k N (by omega) (fun q => z q.symm), add_sw]
/-- nothing that is counted changes -/
def Kp (g g' : Gs) : Prop := (∀ b, b < 8 → g' (60 + 10 * b + 7) = g (60 + 10 * b + 7) ∧ g' (60 + 10 * b + 8) = g (60 + 10 * b + 8)) ∧ (∀ l, l < 6 → g' (12 + 8 * l + 7) = g (12 + 8 * l + 7)) ∧ g' 7 = g 7 ∧ g' 8 = g 8
def Ot (n : Nat) (g g' : Gs) : Prop := ∀ b j, b < 8 → b ≠ n → 2 ≤ j → j < 9 → g' (60 + 10 * b + j) = g (60 + 10 * b + j)
theorem Kp.js {g g' : Gs} (k : Kp g g') (h : JS g) : JS g' := by
  obtain ⟨k1, k2, k3, k4⟩ := k
  obtain ⟨h1, h2, h3⟩ := h
  exact ⟨by rw [SB_same 8 (fun b hb => (k1 b hb).1), k3]; exact h1, by rw [SLt_same 6 k2, k3]; exact h2, by rw [SB_same 8 (fun b hb => (k1 b hb).2), k4]; exact h3⟩
theorem Ot.jb {n : Nat} {g g' : Gs} (o : Ot n g g') {B b : Nat} (hb : b < 8) (hn : b ≠ n) (h : JB B g b) : JB B g' b := by
  unfold JB
  rw [o b 2 hb hn (by omega) (by omega), o b 3 hb hn (by omega) (by omega), o b 4 hb hn (by omega) (by omega), o b 5 hb hn (by omega) (by omega), o b 7 hb hn (by omega) (by omega), o b 8 hb hn (by omega) (by omega)]
  exact h
theorem Kp.tr {a b c : Gs} (h : Kp a b) (k : Kp b c) : Kp a c := ⟨fun z hz => ⟨(k.1 z hz).1.trans (h.1 z hz).1, (k.1 z hz).2.trans (h.1 z hz).2⟩, fun z hz => (k.2.1 z hz).trans (h.2.1 z hz), k.2.2.1.trans h.2.2.1, k.2.2.2.trans h.2.2.2⟩
theorem Ot.tr {n : Nat} {a b c : Gs} (h : Ot n a b) (k : Ot n b c) : Ot n a c := fun z j h1 h2 h3 h4 => (k z j h1 h2 h3 h4).trans (h z j h1 h2 h3 h4)
/-- one boat's step: what it does to the row -/
def St (B B2 n : Nat) (g g' : Gs) : Prop := (JB B g n → JB B2 g' n) ∧ Ot n g g' ∧ (JS g → JS g')
theorem St.tr {B B2 B3 n : Nat} {a b c : Gs} (h : St B B2 n a b) (k : St B2 B3 n b c) : St B B3 n a c := ⟨fun z => k.1 (h.1 z), h.2.1.tr k.2.1, fun z => k.2.2 (h.2.2 z)⟩
theorem St.rf (B n : Nat) (g : Gs) : St B B n g g := ⟨fun z => z, fun _ _ _ _ _ _ => rfl, fun z => z⟩
theorem St.up {B B2 n : Nat} {a b : Gs} (h : St B B n a b) (hb : B ≤ B2) : St B B2 n a b := ⟨fun z => Jb.le hb (h.1 z), h.2⟩
theorem sails_st {B n : Nat} (g : Gs) (h8 : n < 8) : St B B n g (F_sails g (nI n)) := by
  unfold F_sails
  rw [gB_0 g h8, gB_1 g h8, pB_0 g _ h8, pB_1 g _ h8]
  split
  · refine ⟨fun z => ?_, fun b j hb hn h1 h2 => pk_un (by omega), Kp.js ⟨fun b hb => ⟨pk_un (by omega), pk_un (by omega)⟩, fun l hl => pk_un (by omega), pk_un (by omega), pk_un (by omega)⟩⟩
    unfold JB
    rw [pk_un (by omega), pk_un (by omega), pk_un (by omega), pk_un (by omega), pk_un (by omega), pk_un (by omega)]
    exact z
  · refine ⟨fun z => ?_, fun b j hb hn h1 h2 => pk_un (by omega), Kp.js ⟨fun b hb => ⟨pk_un (by omega), pk_un (by omega)⟩, fun l hl => pk_un (by omega), pk_un (by omega), pk_un (by omega)⟩⟩
    unfold JB
    rw [pk_un (by omega), pk_un (by omega), pk_un (by omega), pk_un (by omega), pk_un (by omega), pk_un (by omega)]
    exact z
theorem Jb_0 {B : Nat} {h b : Int32} {y : Int32} (z : ∃ u v, u ≤ v ∧ v ≤ B ∧ b = nI u ∧ h = nI v) : Jb B y 0 0 0 h b := ⟨fun z => absurd z (by decide), fun z => absurd rfl z, ⟨0, Nat.zero_le _, rfl, ⟨fun _ => rfl, fun _ => rfl⟩⟩, z⟩
theorem drops_st {B n : Nat} (g : Gs) (h8 : n < 8) : St B B n g (F_drops g (nI n)) := by
  unfold F_drops F_dropsA
  simp only [pB_2 _ _ h8, pB_4 _ _ h8, pB_5 _ _ h8, pB_3 _ _ h8]
  refine ⟨fun z => ?_, fun b j hb hn h1 h2 => ?_, Kp.js ⟨fun b hb => ⟨?_, ?_⟩, fun l hl => ?_, ?_, ?_⟩⟩
  · unfold JB at z ⊢
    rw [show ∀ x, upd (upd (upd (upd (upd g (60 + 10 * n + 2) 0) (60 + 10 * n + 4) 0) (60 + 10 * n + 5) 0) 10 x) (60 + 10 * n + 3) 0 (60 + 10 * n + 3) = 0 from fun x => pk_us]
    rw [show ∀ x, upd (upd (upd (upd (upd g (60 + 10 * n + 2) 0) (60 + 10 * n + 4) 0) (60 + 10 * n + 5) 0) 10 x) (60 + 10 * n + 3) 0 (60 + 10 * n + 4) = 0 from fun x => by rw [pk_un (by omega), pk_un (by omega), pk_un (by omega), pk_us]]
    rw [show ∀ x, upd (upd (upd (upd (upd g (60 + 10 * n + 2) 0) (60 + 10 * n + 4) 0) (60 + 10 * n + 5) 0) 10 x) (60 + 10 * n + 3) 0 (60 + 10 * n + 5) = 0 from fun x => by rw [pk_un (by omega), pk_un (by omega), pk_us]]
    refine Jb_0 ?_
    have e : ∀ x j, (j = 7 ∨ j = 8) → upd (upd (upd (upd (upd g (60 + 10 * n + 2) 0) (60 + 10 * n + 4) 0) (60 + 10 * n + 5) 0) 10 x) (60 + 10 * n + 3) 0 (60 + 10 * n + j) = g (60 + 10 * n + j) := fun x j hj => by
      rw [pk_un (by omega), pk_un (by omega), pk_un (by omega), pk_un (by omega), pk_un (by omega)]
    rw [e _ 7 (Or.inl rfl), e _ 8 (Or.inr rfl)]
    exact z.2.2.2
  all_goals rw [pk_un (by omega), pk_un (by omega), pk_un (by omega), pk_un (by omega), pk_un (by omega)]
theorem wishedN_ne (g : Gs) (b : Int32) : ∀ n, F_wishedN g b n = -1 ∨ ∃ j, j < n ∧ F_wishedN g b n = nI j ∧ ¬ nI j = gB g b 2 - 1
  | 0 => Or.inl rfl
  | n + 1 => by
    rw [F_wishedN]
    split
    · rename_i h
      exact Or.inr ⟨n, by omega, rfl, h.1.1⟩
    · rcases wishedN_ne g b n with h | ⟨j, hj, e, h⟩
      · exact Or.inl h
      · exact Or.inr ⟨j, by omega, e, h⟩
theorem m1_1 : (-1 : Int32) + 1 = 0 := by decide
theorem wishA_st {B n : Nat} {g : Gs} (hI : Inv g) (h8 : n < 8) (hy : ¬ g (60 + 10 * n + 2) = 0) : St B (B + 1) n g (F_wishA g (nI n)) := by
  have h4 := hI.c4.1
  unfold F_wishA
  rw [pB_4 _ _ h8, pB_5 _ _ h8]
  refine ⟨fun z => ?_, fun b j hb hn h1 h2 => ?_, Kp.js ⟨fun b hb => ⟨?_, ?_⟩, fun l hl => ?_, ?_, ?_⟩⟩
  · unfold JB at z ⊢
    obtain ⟨z1, z2, ⟨q, q1, q2, q3⟩, u, v, v1, v2, v3, v4⟩ := z
    rw [pk_us]
    rw [pk_un (by omega), pk_un (by omega)]
    rw [pk_un (k := 60 + 10 * n + 5) (j := 60 + 10 * n + 3) (by omega), pk_un (k := 60 + 10 * n + 4) (j := 60 + 10 * n + 3) (by omega)]
    rw [pk_un (k := 60 + 10 * n + 5) (j := 60 + 10 * n + 4) (by omega), pk_us]
    rw [pk_un (k := 60 + 10 * n + 5) (j := 60 + 10 * n + 7) (by omega), pk_un (k := 60 + 10 * n + 4) (j := 60 + 10 * n + 7) (by omega)]
    rw [pk_un (k := 60 + 10 * n + 5) (j := 60 + 10 * n + 8) (by omega), pk_un (k := 60 + 10 * n + 4) (j := 60 + 10 * n + 8) (by omega)]
    refine ⟨fun _ => hy, ?_, ?_, u, v, v1, by omega, v3, v4⟩
    · intro hw
      refine ⟨hy, ?_⟩
      rcases wishedN_ne g (nI n) (tn (g 4)) with e | ⟨j, hj, e, h⟩
      · exact absurd (by unfold F_wished; rw [e]; decide) hw
      · intro z
        have e2 : F_wished g (nI n) = nI j := e
        rw [e2] at z
        rw [gB_2 g h8, ← z] at h
        exact h (by rw [Int32.add_sub_cancel])
    · unfold F_wticks
      rcases wishedN_ne g (nI n) (tn (g 4)) with e | ⟨j, hj, e, h⟩
      · have e2 : F_wished g (nI n) = -1 := e
        rw [e2, if_pos rfl, m1_1]
        exact ⟨0, Nat.zero_le _, rfl, ⟨fun _ => rfl, fun _ => rfl⟩⟩
      · have e2 : F_wished g (nI n) = nI j := e
        have hne : ¬ nI j + 1 = 0 := by
          rw [nI_1, show (0 : Int32) = nI 0 from rfl, nI_eq (by omega) (by omega)]
          omega
        rw [e2, if_neg (nI_m1 (by omega))]
        split
        · refine ⟨q + 1, by omega, ?_, ⟨fun z => absurd z (by omega), fun z => absurd z hne⟩⟩
          rw [gB_5 g h8, q2]
          exact nI_1 q
        · exact ⟨1, by omega, rfl, ⟨fun z => absurd z (by omega), fun z => absurd z hne⟩⟩
  all_goals rw [pk_un (by omega), pk_un (by omega)]
theorem nI_1' (n : Nat) : nI n + 1 = nI (n + 1) := nI_add n 1
theorem hands_st {B n to : Nat} {g : Gs} (h8 : n < 8) (h6 : to < 6) (hk : B ≤ 1000000) : St B (B + 1) n g (F_hands g (nI n) (nI to)) := by
  have hb := b01_z (gB g (nI n) 6 = nI to + 1 ∧ g 6 - gB g (nI n) 9 ≤ g 3)
  have hbb : F_isBack g (nI n) (nI to) = b01 (gB g (nI n) 6 = nI to + 1 ∧ g 6 - gB g (nI n) 9 ≤ g 3) := rfl
  unfold F_hands F_handsB F_handsA
  rw [tnB_7 h8, tnB_8 h8, tnL_7 h6]
  rw [gB_2 _ h8, pB_2 _ _ h8, pB_4 _ _ h8, pB_5 _ _ h8, pB_6 _ _ h8, pB_9 _ _ h8]
  generalize F_isBack g (nI n) (nI to) = ib at hbb ⊢
  subst hbb
  generalize b01 (gB g (nI n) 6 = nI to + 1 ∧ g 6 - gB g (nI n) 9 ≤ g 3) = ib at hb ⊢
  generalize hG : upd (upd (upd (upd (upd g (60 + 10 * n + 2) (nI to + 1)) (60 + 10 * n + 4) 0) (60 + 10 * n + 5) 0) (60 + 10 * n + 6) (g (60 + 10 * n + 2))) (60 + 10 * n + 9) _ = G
  have G2 : G (60 + 10 * n + 2) = nI to + 1 := by rw [← hG, pk_un (by omega), pk_un (by omega), pk_un (by omega), pk_un (by omega), pk_us]
  have G3 : G (60 + 10 * n + 3) = g (60 + 10 * n + 3) := by rw [← hG, pk_un (by omega), pk_un (by omega), pk_un (by omega), pk_un (by omega), pk_un (by omega)]
  have G4 : G (60 + 10 * n + 4) = 0 := by rw [← hG, pk_un (by omega), pk_un (by omega), pk_un (by omega), pk_us]
  have G5 : G (60 + 10 * n + 5) = 0 := by rw [← hG, pk_un (by omega), pk_un (by omega), pk_us]
  have Gx : ∀ z, (z < 60 + 10 * n ∨ 60 + 10 * n + 9 < z ∨ z = 60 + 10 * n + 7 ∨ z = 60 + 10 * n + 8) → G z = g z := fun z hz => by rw [← hG, pk_un (by omega), pk_un (by omega), pk_un (by omega), pk_un (by omega), pk_un (by omega)]
  have hx : ∀ z, z ≠ 8 → z ≠ 7 → z ≠ 12 + 8 * to + 7 → z ≠ 60 + 10 * n + 8 → z ≠ 60 + 10 * n + 7 → F_inc (F_inc (F_inc (F_inc (F_inc G (60 + 10 * n + 7) 1) (60 + 10 * n + 8) ib) (12 + 8 * to + 7) 1) 7 1) 8 ib z = G z := fun z h1 h2 h3 h4 h5 => by
    rw [inc_at h1, inc_at h2, inc_at h3, inc_at h4, inc_at h5]
  have v8 : F_inc (F_inc (F_inc (F_inc (F_inc G (60 + 10 * n + 7) 1) (60 + 10 * n + 8) ib) (12 + 8 * to + 7) 1) 7 1) 8 ib 8 = g 8 + ib := by
    rw [← Gx 8 (by omega)]
    show upd _ _ (_ + ib) _ = _
    rw [pk_us, inc_at (by omega), inc_at (by omega), inc_at (by omega), inc_at (by omega)]
  have v7 : F_inc (F_inc (F_inc (F_inc (F_inc G (60 + 10 * n + 7) 1) (60 + 10 * n + 8) ib) (12 + 8 * to + 7) 1) 7 1) 8 ib 7 = g 7 + 1 := by
    rw [← Gx 7 (by omega), inc_at (by omega)]
    show upd _ _ (_ + 1) _ = _
    rw [pk_us, inc_at (by omega), inc_at (by omega), inc_at (by omega)]
  have vl : F_inc (F_inc (F_inc (F_inc (F_inc G (60 + 10 * n + 7) 1) (60 + 10 * n + 8) ib) (12 + 8 * to + 7) 1) 7 1) 8 ib (12 + 8 * to + 7) = g (12 + 8 * to + 7) + 1 := by
    rw [← Gx (12 + 8 * to + 7) (by omega), inc_at (by omega), inc_at (by omega)]
    show upd _ _ (_ + 1) _ = _
    rw [pk_us, inc_at (by omega), inc_at (by omega)]
  have vb8 : F_inc (F_inc (F_inc (F_inc (F_inc G (60 + 10 * n + 7) 1) (60 + 10 * n + 8) ib) (12 + 8 * to + 7) 1) 7 1) 8 ib (60 + 10 * n + 8) = g (60 + 10 * n + 8) + ib := by
    rw [← Gx (60 + 10 * n + 8) (by omega), inc_at (by omega), inc_at (by omega), inc_at (by omega)]
    show upd _ _ (_ + ib) _ = _
    rw [pk_us, inc_at (by omega)]
  have vb7 : F_inc (F_inc (F_inc (F_inc (F_inc G (60 + 10 * n + 7) 1) (60 + 10 * n + 8) ib) (12 + 8 * to + 7) 1) 7 1) 8 ib (60 + 10 * n + 7) = g (60 + 10 * n + 7) + 1 := by
    rw [← Gx (60 + 10 * n + 7) (by omega), inc_at (by omega), inc_at (by omega), inc_at (by omega), inc_at (by omega)]
    show upd _ _ (_ + 1) _ = _
    rw [pk_us]
  generalize F_inc (F_inc (F_inc (F_inc (F_inc G (60 + 10 * n + 7) 1) (60 + 10 * n + 8) ib) (12 + 8 * to + 7) 1) 7 1) 8 ib = H at hx v8 v7 vl vb8 vb7 ⊢
  refine ⟨fun z => ?_, fun b j hb hn h1 h2 => ?_, fun z => ?_⟩
  · unfold JB at z ⊢
    obtain ⟨z1, z2, -, u, v, v1, v2, v3, v4⟩ := z
    rw [vb8, vb7, hx _ (by omega) (by omega) (by omega) (by omega) (by omega), hx _ (by omega) (by omega) (by omega) (by omega) (by omega), hx _ (by omega) (by omega) (by omega) (by omega) (by omega), hx _ (by omega) (by omega) (by omega) (by omega) (by omega), G2, G3, G4, G5, v3, v4]
    have hne : ¬ nI to + 1 = 0 := by
      rw [nI_1, show (0 : Int32) = nI 0 from rfl, nI_eq (by omega) (by omega)]
      omega
    refine ⟨fun _ => hne, fun z => absurd rfl z, ⟨0, Nat.zero_le _, rfl, ⟨fun _ => rfl, fun _ => rfl⟩⟩, ?_⟩
    rcases hb with e | e
    · exact ⟨u, v + 1, by omega, by omega, by rw [e, Int32.add_zero], nI_1' v⟩
    · exact ⟨u + 1, v + 1, by omega, by omega, by rw [e]; exact nI_1' u, nI_1' v⟩
  · rw [hx _ (by omega) (by omega) (by omega) (by omega) (by omega)]
    exact Gx _ (by omega)
  · obtain ⟨z1, z2, z3⟩ := z
    refine ⟨?_, ?_, ?_⟩
    · rw [SB_upd (n := n) vb7 8 h8 (fun b hb hn => by rw [hx _ (by omega) (by omega) (by omega) (by omega) (by omega)]; exact Gx _ (by omega)), v7, z1]
    · rw [SLt_upd (n := to) vl 6 h6 (fun b hb hn => by rw [hx _ (by omega) (by omega) (by omega) (by omega) (by omega)]; exact Gx _ (by omega)), v7, z2]
    · rw [SB_upd (n := n) vb8 8 h8 (fun b hb hn => by rw [hx _ (by omega) (by omega) (by omega) (by omega) (by omega)]; exact Gx _ (by omega)), v8, z3]
