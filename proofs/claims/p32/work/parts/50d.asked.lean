/-! what the law's own method 'holds' asks of the row -/
theorem Inv_set {g : Gs} (h : Inv g) {a v : Int32} (hc : cSet a v) : Inv (upd g (tn a) v) := by
  obtain ⟨n, hn, rfl⟩ : ∃ N, N < 4 ∧ a = nI N := vp_in_of (inn_vp (by decide) hc.1) (by decide)
  have h4 := h.c4.1
  have h5 := h.c5.1
  rw [show tn (nI n) = n from nI_clamp (by omega)]
  refine h.keep (pk_un (by omega)) (pk_un (by omega)) ?_ ?_ (fun k hk => pk_un (by omega)) ?_ (fun k hk => pk_un (by omega)) (fun k _ _ => ⟨pk_un (by omega), pk_un (by omega)⟩) (fun k _ _ j _ _ => pk_un (by omega))
  · obtain ⟨s0, s1, s2, s3⟩ := h.1
    have q := inn_I hc.2
    rcases (show n = 0 ∨ n = 1 ∨ n = 2 ∨ n = 3 by omega) with e | e | e | e <;> subst e
    · exact ⟨q, s1, s2, s3⟩
    · exact ⟨s0, q, s2, s3⟩
    · exact ⟨s0, s1, q, s3⟩
    · exact ⟨s0, s1, s2, q⟩
  · intro k hk
    have q := h.2.2.1 k hk
    unfold LInv at q ⊢
    rw [pk_un (by omega), pk_un (by omega), pk_un (by omega), pk_un (by omega), pk_un (by omega), pk_un (by omega), pk_un (by omega)]
    exact q
  · intro k hk
    have q := h.2.2.2.1 k hk
    unfold BInv at q ⊢
    rw [pk_un (by omega), pk_un (by omega), pk_un (by omega), pk_un (by omega), pk_un (by omega), pk_un (by omega), pk_un (by omega)]
    exact q
theorem nI_nn {j : Nat} (h : j < 1000) : ¬ nI j < 0 := by
  rw [Int32.lt_iff_toInt_lt, nI_toInt (by omega)]
  show ¬ (j : Int) < 0
  omega
theorem dn {x : Int32} {M : Int} {L : Nat} (h : inI x 0 M) (hM : M = L) (hL : L ≤ 8) : (x = 0 ∧ x - 1 = -1 ∧ x - 1 < 0 ∧ ¬ 0 < x) ∨ ∃ j, j < L ∧ x = nI (j + 1) ∧ x - 1 = nI j ∧ ¬ x - 1 < 0 ∧ 0 < x := by
  obtain ⟨h1, h2⟩ := h
  obtain ⟨q1, q2⟩ := cnt_in (x := x) (n := L) h1 (by omega)
  rcases Nat.eq_zero_or_pos (tn x) with e | e
  · rw [e] at q2
    subst q2
    exact Or.inl (by decide)
  · obtain ⟨y, hy⟩ : ∃ y, tn x = y + 1 := ⟨tn x - 1, by omega⟩
    have ex : x - 1 = nI y := by
      rw [q2, hy, ← nI_1' y]
      exact Int32.add_sub_cancel _ 1
    refine Or.inr ⟨y, by omega, by rw [← hy]; exact q2, ex, by rw [ex]; exact nI_nn (by omega), ?_⟩
    rw [Int32.lt_iff_toInt_lt, q2, hy, nI_toInt (by omega)]
    show (0 : Int) < _
    omega
theorem RB0 (g : Gs) (n : Int32) : R_boatOf g n 0 = gB g n 0 := by rw [R_boatOf, b01_0' (by decide), sub0']
theorem RB2 (g : Gs) (n : Int32) : R_boatOf g n 2 = gB g n 2 - 1 := by rw [R_boatOf, b01_1' (by decide)]
theorem RB3 (g : Gs) (n : Int32) : R_boatOf g n 3 = gB g n 3 := by rw [R_boatOf, b01_0' (by decide), sub0']
theorem RB4 (g : Gs) (n : Int32) : R_boatOf g n 4 = gB g n 4 - 1 := by rw [R_boatOf, b01_1' (by decide)]
theorem RB5 (g : Gs) (n : Int32) : R_boatOf g n 5 = gB g n 5 := by rw [R_boatOf, b01_0' (by decide), sub0']
theorem RB7 (g : Gs) (n : Int32) : R_boatOf g n 7 = gB g n 7 := by rw [R_boatOf, b01_0' (by decide), sub0']
theorem RB8 (g : Gs) (n : Int32) : R_boatOf g n 8 = gB g n 8 := by rw [R_boatOf, b01_0' (by decide), sub0']
theorem RL4 (g : Gs) (n : Int32) : R_lightOf g n 4 = gL g n 4 := by rw [R_lightOf, if_pos (by decide)]
theorem RL7 (g : Gs) (n : Int32) : R_lightOf g n 7 = F_servedN g n (tn (g 5)) := by rw [R_lightOf, if_neg (by decide), if_pos (by decide)]
theorem RL8 (g : Gs) (n : Int32) : R_lightOf g n 8 = gL g n 7 := by rw [R_lightOf, if_neg (by decide), if_neg (by decide)]
theorem bit_v {x : Int32} {j : Nat} (hj : j < 32) : (x >>> (nI j &&& 31)) &&& 1 = b01 (bt x j = true) := by
  refine b_ext (fun i hi => ?_)
  rw [b_and, b_sshr j (by omega) x hi, bt_1 i hi]
  by_cases e : i = 0
  · subst e
    rw [if_pos (by omega), Nat.add_zero]
    by_cases q : bt x j = true
    · rw [b01_t q, bt_1 0 (by decide), q]
      rfl
    · rw [b01_f q, b_0]
      simp [q]
  · have : bt (b01 (bt x j = true)) i = false := by
      unfold b01
      split
      · rw [bt_1 i hi]; simp [e]
      · exact b_0 _
    rw [this]
    simp [e]
theorem b01_c {c d : Prop} [Decidable c] [Decidable d] (h : c ↔ d) : b01 c = b01 d := by
  unfold b01
  by_cases q : c
  · rw [if_pos q, if_pos (h.mp q)]
  · rw [if_neg q, if_neg (fun z => q (h.mpr z))]
theorem bit_s {g : Gs} (hI : Inv g) {l b : Nat} (hb : b < tn (g 5)) : (R_lightOf g (nI l) 7 >>> (nI b &&& 31)) &&& 1 = b01 (gB g (nI b) 2 = nI l + 1) := by
  have h5 := hI.c5.1
  rw [RL7, bit_v (by omega)]
  refine b01_c ?_
  rw [bt_servedN g l _ h5 b (by omega), gB_2 g (by omega)]
  simp [pBy, hb]
/-- what holds of the boat n, as the law asks it -/
def HB (g : Gs) (n : Nat) : Prop :=
  (¬ R_boatOf g (nI n) 0 < 0) ∧ (¬ 200 ≤ R_boatOf g (nI n) 0) ∧ (¬ g 4 ≤ R_boatOf g (nI n) 2) ∧ (¬ R_boatOf g (nI n) 3 ≤ 0 → ¬ R_boatOf g (nI n) 2 < 0) ∧ (¬ R_boatOf g (nI n) 4 < 0 → ¬ R_boatOf g (nI n) 2 < 0 ∧ ¬ R_boatOf g (nI n) 2 = R_boatOf g (nI n) 4) ∧
  (b01 (¬ R_boatOf g (nI n) 4 < 0) = b01 (¬ R_boatOf g (nI n) 5 ≤ 0)) ∧ (¬ R_boatOf g (nI n) 2 < 0 → K_lightOf g (R_boatOf g (nI n) 2) 7 = 0 ∧ ¬ (R_lightOf g (R_boatOf g (nI n) 2) 7 >>> (nI n &&& 31)) &&& 1 = 0) ∧ (¬ R_boatOf g (nI n) 2 < 0 ↔ 0 < gB g (nI n) 2)
theorem HB.of {B : Nat} {g : Gs} (h : J B g) (hB : B ≤ 100000) {n : Nat} (hn : n < tn (g 5)) : HB g n := by
  have hI := h.1
  have h5 := hI.c5.1
  have h4 := hI.c4
  have e4 := e4int hI
  obtain ⟨b1, b2, b3, b4, b5, b6⟩ := hI.2.2.2.1 n hn
  obtain ⟨z1, z2, ⟨q, q1, q2, q3⟩, -⟩ := h.2.1 n (by omega)
  have d2 := dn (L := tn (g 4)) b3 e4.symm (by omega)
  have d4 := dn (L := tn (g 4)) b5 e4.symm (by omega)
  unfold HB
  rw [RB0, RB2, RB3, RB4, RB5, gB_0 g (by omega), gB_2 g (by omega), gB_3 g (by omega), gB_4 g (by omega), gB_5 g (by omega)]
  refine ⟨?_, ?_, ?_, ?_, ?_, ?_, ?_, ?_⟩
  · rw [Int32.lt_iff_toInt_lt]
    have := b1.1
    show ¬ _ < (0 : Int)
    omega
  · rw [Int32.le_iff_toInt_le]
    have := b1.2
    show ¬ (200 : Int) ≤ _
    omega
  · rcases d2 with ⟨-, e, -, -⟩ | ⟨j, hj, -, e, -, -⟩
    · rw [e, Int32.le_iff_toInt_le, ← e4]
      show ¬ (_ : Int) ≤ -1
      omega
    · rw [e, Int32.le_iff_toInt_le, ← e4, nI_toInt (by omega)]
      omega
  · intro ht
    have hy := z1 (Int32.not_le.mp ht)
    rcases d2 with ⟨e, -, -, -⟩ | ⟨j, hj, -, -, e, -⟩
    · exact absurd e hy
    · exact e
  · intro hw
    rcases d4 with ⟨-, -, e, -⟩ | ⟨k, hk, ek, e1, e2, e3⟩
    · exact absurd e hw
    · obtain ⟨y1, y2⟩ := z2 (fun z => by rw [z] at e3; exact absurd e3 (by decide))
      rcases d2 with ⟨e, -, -, -⟩ | ⟨j, hj, ej, f1, f2, f3⟩
      · exact absurd e y1
      · refine ⟨f2, fun z => y2 ?_⟩
        rw [f1, e1, nI_eq (by omega) (by omega)] at z
        rw [ej, ek, z]
  · refine b01_c ?_
    rcases d4 with ⟨ez, -, e, -⟩ | ⟨k, hk, ek, e1, e2, e3⟩
    · have hq := q3.mpr ez
      rw [q2, hq]
      exact ⟨fun z => absurd e z, fun z => absurd (by decide) z⟩
    · refine ⟨fun _ => ?_, fun _ => e2⟩
      have hq : q ≠ 0 := fun z => by
        have := q3.mp z
        rw [this] at e3
        exact absurd e3 (by decide)
      rw [q2, Int32.le_iff_toInt_le, nI_toInt (by omega)]
      show ¬ (q : Int) ≤ 0
      omega
  · intro hy
    rcases d2 with ⟨-, -, e, -⟩ | ⟨j, hj, ej, f1, f2, f3⟩
    · exact absurd e hy
    · rw [f1]
      refine ⟨Kl_0 hI hj (j := 7) (by decide), ?_⟩
      rw [bit_s hI hn]
      refine b01n.mpr ?_
      rw [gB_2 g (by omega), ej]
      exact (nI_1' j).symm
  · rcases d2 with ⟨-, -, e, f⟩ | ⟨j, hj, ej, f1, f2, f3⟩
    · exact ⟨fun z => absurd e z, fun z => absurd z f⟩
    · exact ⟨fun _ => f3, fun _ => f2⟩
/-! the sums over lighthouses -/
def SA (g : Gs) (k : Nat) : Nat → Int32
  | 0 => 0
  | l + 1 => SA g k l + F_servesN g (nI l) k
def SC (g : Gs) : Nat → Int32
  | 0 => 0
  | l + 1 => SC g l + gL g (nI l) 4
theorem room_sum (g : Gs) : ∀ l, F_room g l + SA g (tn (g 5)) l = SC g l
  | 0 => rfl
  | l + 1 => by
    show F_room g l + (gL g (nI l) 4 - F_serves g (nI l)) + (SA g (tn (g 5)) l + F_serves g (nI l)) = SC g l + gL g (nI l) 4
    rw [← room_sum g l]
    generalize F_room g l = a
    generalize gL g (nI l) 4 = c
    generalize F_serves g (nI l) = s
    generalize SA g (tn (g 5)) l = b
    rw [Int32.add_comm b s, Int32.add_assoc a, ← Int32.add_assoc (c - s), Int32.sub_add_cancel, Int32.add_comm c b, ← Int32.add_assoc]
def Sy (y : Int32) : Nat → Int32
  | 0 => 0
  | l + 1 => Sy y l + b01 (y = nI l + 1)
theorem Sy_0 : ∀ L, L ≤ 6 → Sy 0 L = 0
  | 0, _ => rfl
  | L + 1, h => by
    rw [Sy, Sy_0 L (by omega), b01_f (nI_ne_1 (by omega))]
    rfl
theorem Sy_hi : ∀ L j, j ≤ 6 → L ≤ j → Sy (nI (j + 1)) L = 0
  | 0, _, _, _ => rfl
  | L + 1, j, h, hl => by
    rw [Sy, Sy_hi L j h (by omega), b01_f (by rw [nI_1', nI_eq (by omega) (by omega)]; omega)]
    rfl
theorem Sy_1 : ∀ L j, L ≤ 6 → j < L → Sy (nI (j + 1)) L = 1
  | 0, _, _, h => absurd h (Nat.not_lt_zero _)
  | L + 1, j, hL, h => by
    rw [Sy]
    by_cases e : j = L
    · subst e
      rw [Sy_hi j j (by omega) (Nat.le_refl _), b01_t (nI_1' j).symm]
      rfl
    · rw [Sy_1 L j (by omega) (by omega), b01_f (by rw [nI_1', nI_eq (by omega) (by omega)]; omega)]
      rfl
theorem SA_succ (g : Gs) (k : Nat) : ∀ l, SA g (k + 1) l = SA g k l + Sy (gB g (nI k) 2) l
  | 0 => rfl
  | l + 1 => by
    show SA g (k + 1) l + (F_servesN g (nI l) k + b01 (gB g (nI k) 2 = nI l + 1)) = SA g k l + F_servesN g (nI l) k + (Sy (gB g (nI k) 2) l + b01 (gB g (nI k) 2 = nI l + 1))
    rw [SA_succ g k l]
    generalize SA g k l = a
    generalize F_servesN g (nI l) k = b
    generalize Sy (gB g (nI k) 2) l = c
    generalize b01 (gB g (nI k) 2 = nI l + 1) = d
    rw [Int32.add_assoc a c, Int32.add_assoc a b, ← Int32.add_assoc c b, Int32.add_comm c b, Int32.add_assoc b c]
theorem SA_0 (g : Gs) : ∀ l, SA g 0 l = 0
  | 0 => rfl
  | l + 1 => by
    rw [SA, SA_0 g l]
    rfl
/-- every boat that is served is served by one lighthouse -/
theorem SA_all {g : Gs} (hI : Inv g) : ∀ k, k ≤ tn (g 5) → SA g k (tn (g 4)) = F_thatN g 0 k
  | 0, _ => SA_0 g _
  | k + 1, hk => by
    have h5 := hI.c5.1
    have h4 := hI.c4.1
    have e4 := e4int hI
    rw [SA_succ, SA_all hI k (by omega), F_thatN, if_pos rfl]
    congr 1
    have d2 := dn (L := tn (g 4)) (hI.2.2.2.1 k (by omega)).2.2.1 e4.symm (by omega)
    rw [gB_2 g (by omega)]
    rcases d2 with ⟨e, -, -, f⟩ | ⟨j, hj, e, -, -, f⟩
    · rw [b01_f f, e]
      exact Sy_0 _ h4
    · rw [b01_t f, e]
      exact Sy_1 _ _ h4 hj
theorem SB_out {g : Gs} {j N M : Nat} (h : ∀ b, N ≤ b → b < M → g (60 + 10 * b + j) = 0) : ∀ d, N + d ≤ M → SB g j (N + d) = SB g j N
  | 0, _ => rfl
  | d + 1, hd => by
    rw [← Nat.add_assoc, SB, SB_out h d (by omega), h (N + d) (by omega) (by omega), Int32.add_zero]
theorem SLt_out {g : Gs} {N M : Nat} (h : ∀ b, N ≤ b → b < M → g (12 + 8 * b + 7) = 0) : ∀ d, N + d ≤ M → SLt g (N + d) = SLt g N
  | 0, _ => rfl
  | d + 1, hd => by
    rw [← Nat.add_assoc, SLt, SLt_out h d (by omega), h (N + d) (by omega) (by omega), Int32.add_zero]
theorem sum7 {B : Nat} {g : Gs} (h : J B g) : SB g 7 (tn (g 5)) = g 7 := by
  have h5 := h.1.c5.1
  have e := SB_out (g := g) (j := 7) (N := tn (g 5)) (M := 8) (fun b h1 h2 => h.1.2.2.2.2.2.2 b h1 h2 7 (by omega) (by omega)) (8 - tn (g 5)) (by omega)
  rw [show tn (g 5) + (8 - tn (g 5)) = 8 by omega] at e
  exact e.symm.trans h.2.2.1
theorem sum8 {B : Nat} {g : Gs} (h : J B g) : SB g 8 (tn (g 5)) = g 8 := by
  have h5 := h.1.c5.1
  have e := SB_out (g := g) (j := 8) (N := tn (g 5)) (M := 8) (fun b h1 h2 => h.1.2.2.2.2.2.2 b h1 h2 8 (by omega) (by omega)) (8 - tn (g 5)) (by omega)
  rw [show tn (g 5) + (8 - tn (g 5)) = 8 by omega] at e
  exact e.symm.trans h.2.2.2.2
theorem sumL {B : Nat} {g : Gs} (h : J B g) : SLt g (tn (g 4)) = g 7 := by
  have h4 := h.1.c4.1
  have e := SLt_out (g := g) (N := tn (g 4)) (M := 6) (fun b h1 h2 => (h.1.2.2.2.2.2.1 b h1 h2).2) (6 - tn (g 4)) (by omega)
  rw [show tn (g 4) + (6 - tn (g 4)) = 6 by omega] at e
  exact e.symm.trans h.2.2.2.1
theorem back_le {B : Nat} {g : Gs} (h : J B g) : ∀ k, k ≤ 8 → ∃ u v, u ≤ v ∧ v ≤ k * B ∧ SB g 8 k = nI u ∧ SB g 7 k = nI v
  | 0, _ => ⟨0, 0, by omega, by omega, rfl, rfl⟩
  | k + 1, hk => by
    obtain ⟨u, v, h1, h2, h3, h4⟩ := back_le h k (by omega)
    obtain ⟨-, -, -, u2, v2, k1, k2, k3, k4⟩ := h.2.1 k (by omega)
    refine ⟨u + u2, v + v2, by omega, by rw [Nat.succ_mul]; omega, ?_, ?_⟩
    · rw [SB, h3, k3, nI_add]
    · rw [SB, h4, k4, nI_add]
theorem back_ok {B : Nat} {g : Gs} (h : J B g) (hB : B ≤ 100000) : ¬ SB g 7 (tn (g 5)) < SB g 8 (tn (g 5)) := by
  have h5 := h.1.c5.1
  obtain ⟨u, v, h1, h2, h3, h4⟩ := back_le h _ h5
  have : v ≤ 8 * B := Nat.le_trans h2 (Nat.mul_le_mul_right _ h5)
  rw [h3, h4, Int32.lt_iff_toInt_lt, nI_toInt (by omega), nI_toInt (by omega)]
  omega
theorem cap_ok {g : Gs} (hI : Inv g) {l : Nat} (hl : l < tn (g 4)) : F_servesN g (nI l) (tn (g 5)) ≤ R_lightOf g (nI l) 4 := by
  have h4 := hI.c4.1
  rw [RL4, gL_4 g (by omega)]
  exact Int32.le_iff_toInt_le.mpr (hI.2.2.2.2.1 l hl)
theorem tells3 (g : Gs) : F_tells g 3 = F_thatN g 0 (tn (g 5)) := (if_neg (by decide)).trans (if_pos (by decide))
theorem tells4 (g : Gs) : F_tells g 4 = F_thatN g 1 (tn (g 5)) := (if_neg (by decide)).trans (if_pos (by decide))
theorem tells5 (g : Gs) : F_tells g 5 = g 7 := (if_neg (by decide)).trans ((if_neg (by decide)).trans (congrArg g (show tn (7 + 5 - 5) = 7 by decide)))
theorem tells6 (g : Gs) : F_tells g 6 = g 8 := (if_neg (by decide)).trans ((if_neg (by decide)).trans (congrArg g (show tn (7 + 6 - 5) = 8 by decide)))
