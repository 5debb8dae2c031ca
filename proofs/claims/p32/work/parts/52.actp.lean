/-! the law's own method act: what it does to the row, pure -/
theorem nn31 (v : Int32) : 0 ≤ (v &&& 2147483647).toInt := by
  show 0 ≤ (v &&& 2147483647).toBitVec.toInt
  rw [Int32.toBitVec_and]
  have h : (v.toBitVec &&& (2147483647 : Int32).toBitVec).msb = false := by
    rw [BitVec.msb_and, show (2147483647 : Int32).toBitVec.msb = false by decide, Bool.and_false]
  rw [BitVec.toInt_eq_msb_cond, h]
  simp
theorem low_in (v : Int32) {d : Nat} (h0 : 0 < d) (hd : d < 1000) : ∃ k, k < d ∧ F_low v (nI d) = nI k := rem_nI (nn31 v) h0 (by omega)
theorem innR {n lo hi : Nat} (h1 : lo ≤ n) (h2 : n ≤ hi) (hh : hi < 1000) : inn (nI n) (nI lo) (nI hi) := ⟨Int32.le_iff_toInt_le.mpr (by rw [nI_toInt (by omega), nI_toInt (by omega)]; omega), Int32.le_iff_toInt_le.mpr (by rw [nI_toInt (by omega), nI_toInt (by omega)]; omega)⟩
theorem sp_in {k : Nat} (h : k < 13) : inn (nI k - 6) (-6) 6 := by
  have z6 : (6 : Int32).toInt = 6 := rfl
  have zm : (-6 : Int32).toInt = -6 := rfl
  have ek := nI_toInt (n := k) (by omega)
  have e := fb_subI (x := nI k) (y := 6) (by omega) (by omega)
  exact ⟨Int32.le_iff_toInt_le.mpr (by omega), Int32.le_iff_toInt_le.mpr (by omega)⟩
def a_l (g : Gs) (v : Int32) : Int32 := if g 4 = 0 then 0 else F_low (v >>> ((4 : Int32) &&& 31)) (g 4)
def a_b (g : Gs) (v : Int32) : Int32 := if g 5 = 0 then 0 else F_low (v >>> ((4 : Int32) &&& 31)) (g 5)
abbrev aQ (w : Int32) : Int32 := F_low w 200
abbrev aSt (w : Int32) : Int32 := (10 : Int32) + F_low (w >>> ((4 : Int32) &&& 31)) 90
abbrev aK (w : Int32) : Int32 := F_low (w >>> ((8 : Int32) &&& 31)) 3
abbrev aN (w : Int32) : Int32 := (1 : Int32) + F_low (w >>> ((10 : Int32) &&& 31)) 20
abbrev aBo (w : Int32) : Int32 := (2 : Int32) + F_low (w >>> ((13 : Int32) &&& 31)) 4
abbrev aRe (w : Int32) : Int32 := F_low (w >>> ((15 : Int32) &&& 31)) 3
abbrev aSp (w : Int32) : Int32 := F_low (w >>> ((5 : Int32) &&& 31)) 13 - 6
abbrev aSe (w : Int32) : Int32 := (1 : Int32) + F_low (w >>> ((2 : Int32) &&& 31)) 10
def tk (w : Int32) : Int32 := if (w >>> ((20 : Int32) &&& 31)) &&& 1 = 0 then 4 else 60
abbrev aT (w : Int32) : Int32 := (1 : Int32) + F_low w (tk w)
def F_actK (g : Gs) (v w : Int32) (k : Nat) : Option (Int32 × Gs) :=
  if k < 2 then (if g 4 = 6 then none else some (g 4, F_addLight g (aQ w) (aSt w) (aK w) (aN w) (aBo w) (aRe w)))
  else if k < 4 then (if g 5 = 8 then none else some (g 5, F_addBoat g (aQ w) (aSp w)))
  else if k < 5 then (if g 5 = 0 then none else some (gB g (a_b g v) 1, pB g (a_b g v) 1 (F_low w 13 - 6)))
  else if k < 7 then (if g 5 = 0 ∨ R_boatOf g (a_b g v) 2 < 0 then none else some (gB g (a_b g v) 3, pB g (a_b g v) 3 (1 + F_low w 99)))
  else if k < 8 then (if g 4 = 0 then none else some (gL g (a_l g v) 1, F_dim g (a_l g v) (10 + F_low w 90)))
  else if k < 9 then some (g (tn (F_low w 4)), upd g (tn (F_low w 4)) (aSe w))
  else if k < 10 then some (g (tn 2), upd g (tn 2) (1 + F_low w 150))
  else some (F_ticks g (tn (aT w)) 7 - g 7, F_ticks g (tn (aT w)))
def F_act (g : Gs) (v w : Int32) : Option (Int32 × Gs) := F_actK g v w (tn (v &&& 15))
theorem and15 (x : Int32) : ∃ q, q < 16 ∧ x &&& 15 = nI q := by
  refine ⟨(x.toBitVec &&& 15#32).toNat, ?_, ?_⟩
  · rw [BitVec.toNat_and]
    exact Nat.lt_of_le_of_lt Nat.and_le_right (by decide)
  · apply Int32.toBitVec_inj.mp
    show x.toBitVec &&& 15#32 = BitVec.ofNat 32 _
    rw [BitVec.ofNat_toNat, BitVec.setWidth_eq]
theorem a_l_in {g : Gs} (hI : Inv g) (v : Int32) (h : ¬ g 4 = 0) : ∃ n, n < tn (g 4) ∧ a_l g v = nI n := by
  have h4 := hI.m4
  have hp : 0 < tn (g 4) := Nat.pos_of_ne_zero (fun z => h (by rw [h4.1, z]; rfl))
  obtain ⟨k, hk, e⟩ := low_in (v >>> ((4 : Int32) &&& 31)) hp (by omega)
  rw [← h4.1] at e
  exact ⟨k, hk, (if_neg h).trans e⟩
theorem a_b_in {g : Gs} (hI : Inv g) (v : Int32) (h : ¬ g 5 = 0) : ∃ n, n < tn (g 5) ∧ a_b g v = nI n := by
  have h5 := hI.m5
  have hp : 0 < tn (g 5) := Nat.pos_of_ne_zero (fun z => h (by rw [h5.1, z]; rfl))
  obtain ⟨k, hk, e⟩ := low_in (v >>> ((4 : Int32) &&& 31)) hp (by omega)
  rw [← h5.1] at e
  exact ⟨k, hk, (if_neg h).trans e⟩
theorem lt_of_ne_6 {g : Gs} (hI : Inv g) (h : ¬ g 4 = 6) : g 4 < 6 := by
  have h4 := hI.hc4
  rw [Int32.lt_iff_toInt_lt]
  show _ < (6 : Int)
  rcases Int.lt_or_eq_of_le h4.2 with e | e
  · exact e
  · exact absurd (Int32.toInt_inj.mp (e.trans (show (6 : Int) = (6 : Int32).toInt from rfl))) h
theorem lt_of_ne_8 {g : Gs} (hI : Inv g) (h : ¬ g 5 = 8) : g 5 < 8 := by
  have h5 := hI.hc5
  rw [Int32.lt_iff_toInt_lt]
  show _ < (8 : Int)
  rcases Int.lt_or_eq_of_le h5.2 with e | e
  · exact e
  · exact absurd (Int32.toInt_inj.mp (e.trans (show (8 : Int) = (8 : Int32).toInt from rfl))) h
theorem lamp_in (w : Int32) : inn (aQ w) 0 199 ∧ cLamp (aSt w) (aK w) (aN w) (aBo w) (aRe w) := by
  obtain ⟨k1, h1, e1⟩ := low_in w (d := 200) (by decide) (by decide)
  obtain ⟨k2, h2, e2⟩ := low_in (w >>> ((4 : Int32) &&& 31)) (d := 90) (by decide) (by decide)
  obtain ⟨k3, h3, e3⟩ := low_in (w >>> ((8 : Int32) &&& 31)) (d := 3) (by decide) (by decide)
  obtain ⟨k4, h4, e4⟩ := low_in (w >>> ((10 : Int32) &&& 31)) (d := 20) (by decide) (by decide)
  obtain ⟨k5, h5, e5⟩ := low_in (w >>> ((13 : Int32) &&& 31)) (d := 4) (by decide) (by decide)
  obtain ⟨k6, h6, e6⟩ := low_in (w >>> ((15 : Int32) &&& 31)) (d := 3) (by decide) (by decide)
  have q1 : aQ w = nI k1 := e1
  have q2 : aSt w = nI (10 + k2) := (congrArg (fun z => 10 + z) e2).trans (nI_add 10 k2)
  have q3 : aK w = nI k3 := e3
  have q4 : aN w = nI (1 + k4) := (congrArg (fun z => 1 + z) e4).trans (nI_add 1 k4)
  have q5 : aBo w = nI (2 + k5) := (congrArg (fun z => 2 + z) e5).trans (nI_add 2 k5)
  have q6 : aRe w = nI k6 := e6
  rw [q1, q2, q3, q4, q5, q6]
  exact ⟨innR (lo := 0) (hi := 199) (by omega) (by omega) (by decide), ⟨innR (lo := 10) (hi := 99) (by omega) (by omega) (by decide), innR (lo := 0) (hi := 2) (by omega) (by omega) (by decide), innR (lo := 1) (hi := 20) (by omega) (by omega) (by decide)⟩, innR (lo := 1) (hi := 6) (by omega) (by omega) (by decide), innR (lo := 0) (hi := 2 + k5) (by omega) (by omega) (by omega)⟩
theorem kL {g : Gs} (hI : Inv g) (w : Int32) (h : ¬ g 4 = 6) : K_light g (aQ w) (aSt w) (aK w) (aN w) (aBo w) (aRe w) = 0 ∧ cLight g (aQ w) (aSt w) (aK w) (aN w) (aBo w) (aRe w) := by
  obtain ⟨h1, h2⟩ := lamp_in w
  exact ⟨by rw [K_light, if_pos h1, if_pos h2, if_neg h], h1, h2, lt_of_ne_6 hI h⟩
theorem kB {g : Gs} (hI : Inv g) (w : Int32) (h : ¬ g 5 = 8) : K_boat g (aQ w) (aSp w) = 0 ∧ cBoat g (aQ w) (aSp w) := by
  obtain ⟨h1, -⟩ := lamp_in w
  obtain ⟨k, hk, e⟩ := low_in (w >>> ((5 : Int32) &&& 31)) (d := 13) (by decide) (by decide)
  have h2 : inn (aSp w) (-6) 6 := by
    have q : aSp w = nI k - 6 := congrArg (fun z => z - 6) e
    rw [q]
    exact sp_in hk
  exact ⟨by rw [K_boat, if_pos h1, if_pos h2, if_neg h], h1, h2, lt_of_ne_8 hI h⟩
theorem kS {g : Gs} (hI : Inv g) (v w : Int32) (h : ¬ g 5 = 0) : K_steer g (a_b g v) (F_low w 13 - 6) = 0 ∧ cSteer g (a_b g v) (F_low w 13 - 6) := by
  obtain ⟨n, hn, eb⟩ := a_b_in hI v h
  have h1 : inn (a_b g v) 0 (g 5 - 1) := by rw [eb]; exact in_b hI hn
  obtain ⟨k, hk, e⟩ := low_in w (d := 13) (by decide) (by decide)
  have h2 : inn (F_low w 13 - 6) (-6) 6 := by
    have q : F_low w 13 - 6 = nI k - 6 := congrArg (fun z => z - 6) e
    rw [q]
    exact sp_in hk
  exact ⟨by rw [K_steer, if_pos h1, if_pos h2], h1, h2⟩
theorem kBo {g : Gs} (hI : Inv g) (v : Int32) (h : ¬ g 5 = 0) : K_boatOf g (a_b g v) 2 = 0 := by
  obtain ⟨n, hn, eb⟩ := a_b_in hI v h
  rw [eb]
  exact Kb_0 hI hn (j := 2) (by decide)
theorem kT {g : Gs} (hI : Inv g) (v w : Int32) (h : ¬ g 5 = 0) (h2 : ¬ R_boatOf g (a_b g v) 2 < 0) : K_talk g (a_b g v) (1 + F_low w 99) = 0 ∧ cTalk g (a_b g v) (1 + F_low w 99) := by
  obtain ⟨n, hn, eb⟩ := a_b_in hI v h
  have h5 := hI.c5.1
  have h1 : inn (a_b g v) 0 (g 5 - 1) := by rw [eb]; exact in_b hI hn
  obtain ⟨k, hk, e⟩ := low_in w (d := 99) (by decide) (by decide)
  have h3 : inn (1 + F_low w 99) 1 99 := by
    have q : 1 + F_low w 99 = nI (1 + k) := (congrArg (fun z => 1 + z) e).trans (nI_add 1 k)
    rw [q]
    exact innR (lo := 1) (hi := 99) (by omega) (by omega) (by decide)
  have h4 : 0 < gB g (a_b g v) 2 := by
    rw [RB2, eb, gB_2 g (by omega)] at h2
    rw [eb, gB_2 g (by omega)]
    rcases dn (L := tn (g 4)) (hI.2.2.2.1 n hn).2.2.1 (e4int hI).symm (by have := hI.c4.1; omega) with ⟨-, -, f, -⟩ | ⟨j, hj, -, -, -, f⟩
    · exact absurd f h2
    · exact f
  exact ⟨by rw [K_talk, if_pos h1, if_pos h3, if_pos h4], h1, h3, h4⟩
theorem kD {g : Gs} (hI : Inv g) (v w : Int32) (h : ¬ g 4 = 0) : K_dim g (a_l g v) (10 + F_low w 90) = 0 ∧ cDim g (a_l g v) (10 + F_low w 90) := by
  obtain ⟨n, hn, eb⟩ := a_l_in hI v h
  have h1 : inn (a_l g v) 0 (g 4 - 1) := by rw [eb]; exact in_l hI hn
  obtain ⟨k, hk, e⟩ := low_in w (d := 90) (by decide) (by decide)
  have h2 : inn (10 + F_low w 90) 10 99 := by
    have q : 10 + F_low w 90 = nI (10 + k) := (congrArg (fun z => 10 + z) e).trans (nI_add 10 k)
    rw [q]
    exact innR (lo := 10) (hi := 99) (by omega) (by omega) (by decide)
  exact ⟨by rw [K_dim, if_pos h1, if_pos h2], h1, h2⟩
theorem cSet_in {k m : Nat} (hk : k < 4) (h1 : 1 ≤ m) (h2 : m ≤ 10) : cSet (nI k) (nI m) := by
  refine ⟨innR (lo := 0) (hi := 3) (by omega) (by omega) (by decide), ?_⟩
  rcases (show k = 0 ∨ k = 1 ∨ k = 2 ∨ k = 3 by omega) with rfl | rfl | rfl | rfl
  · exact innR (lo := 0) (hi := 100) (by omega) (by omega) (by decide)
  · exact innR (lo := 1) (hi := 10) (by omega) (by omega) (by decide)
  · exact innR (lo := 1) (hi := 300) (by omega) (by omega) (by decide)
  · exact innR (lo := 0) (hi := 50) (by omega) (by omega) (by decide)
theorem kE (w : Int32) : K_set (F_low w 4) (aSe w) = 0 ∧ cSet (F_low w 4) (aSe w) := by
  obtain ⟨k, hk, e⟩ := low_in w (d := 4) (by decide) (by decide)
  obtain ⟨k2, hk2, e2⟩ := low_in (w >>> ((2 : Int32) &&& 31)) (d := 10) (by decide) (by decide)
  have h : cSet (F_low w 4) (aSe w) := by
    have q1 : F_low w 4 = nI k := e
    have q2 : aSe w = nI (1 + k2) := (congrArg (fun z => 1 + z) e2).trans (nI_add 1 k2)
    rw [q1, q2]
    exact cSet_in hk (by omega) (by omega)
  exact ⟨if_pos h, h⟩
theorem kE2 (w : Int32) : K_set 2 (1 + F_low w 150) = 0 ∧ cSet 2 (1 + F_low w 150) := by
  obtain ⟨k, hk, e⟩ := low_in w (d := 150) (by decide) (by decide)
  have h : cSet 2 (1 + F_low w 150) := by
    have q2 : 1 + F_low w 150 = nI (1 + k) := (congrArg (fun z => 1 + z) e).trans (nI_add 1 k)
    rw [q2]
    exact ⟨by decide, innR (lo := 1) (hi := 300) (by omega) (by omega) (by decide)⟩
  exact ⟨if_pos h, h⟩
theorem tk_in (w : Int32) : tk w = nI 4 ∨ tk w = nI 60 := by
  unfold tk
  split
  · exact Or.inl rfl
  · exact Or.inr rfl
theorem tk_ne (w : Int32) : ¬ tk w = 0 := by
  rcases tk_in w with e | e <;> rw [e] <;> decide
theorem aT_in (w : Int32) : ∃ k, 1 ≤ k ∧ k ≤ 60 ∧ aT w = nI k := by
  rcases tk_in w with e | e
  · obtain ⟨k, hk, e1⟩ := low_in w (d := 4) (by decide) (by decide)
    exact ⟨1 + k, by omega, by omega, by show 1 + F_low w (tk w) = _; rw [e, e1]; exact nI_add 1 k⟩
  · obtain ⟨k, hk, e1⟩ := low_in w (d := 60) (by decide) (by decide)
    exact ⟨1 + k, by omega, by omega, by show 1 + F_low w (tk w) = _; rw [e, e1]; exact nI_add 1 k⟩
theorem kTi (w : Int32) : K_ticks (aT w) = 0 := by
  obtain ⟨k, h1, h2, e⟩ := aT_in w
  rw [e]
  exact if_pos (innR (lo := 1) (hi := 60) h1 h2 (by decide))
/-- how much the number of all that were handed on grows -/
theorem SB_ticks {g : Gs} (hI : Inv g) (n : Nat) : ∀ k, k ≤ 8 → ∃ d, d ≤ k * n ∧ SB (F_ticks g n) 7 k = SB g 7 k + nI d
  | 0, _ => ⟨0, by omega, rfl⟩
  | k + 1, hk => by
    obtain ⟨d, h1, h2⟩ := SB_ticks hI n k (by omega)
    obtain ⟨d2, h3, h4⟩ := ticks7 hI (m := k) (by omega) n
    refine ⟨d + d2, by rw [Nat.succ_mul]; omega, ?_⟩
    rw [SB, SB, h2, h4, ← nI_add]
    generalize SB g 7 k = a
    generalize g (60 + 10 * k + 7) = b
    rw [Int32.add_assoc a (nI d), ← Int32.add_assoc (nI d) b, Int32.add_comm (nI d) b, Int32.add_assoc b, ← Int32.add_assoc a b]
theorem handed_d {B : Nat} {g : Gs} (h : J B g) {n : Nat} (hn : n ≤ 60) (hB : B ≤ 50000) : ∃ d, d ≤ 480 ∧ F_ticks g n 7 - g 7 = nI d := by
  have h2 := h.ticks n (by omega)
  obtain ⟨d, h3, h4⟩ := SB_ticks h.1 n 8 (Nat.le_refl _)
  refine ⟨d, by omega, ?_⟩
  rw [h.2.2.1, h2.2.2.1] at h4
  rw [h4, Int32.add_comm]
  exact Int32.add_sub_cancel _ _
theorem nI_n9 {n : Nat} (h : n < 1000) : ¬ nI n = -9 := fun z => absurd (congrArg Int32.toInt z) (by rw [nI_toInt (by omega)]; show ¬ (n : Int) = -9; omega)
theorem int_n9 {x : Int32} (h : -6 ≤ x.toInt) : ¬ x = -9 := fun z => absurd (congrArg Int32.toInt z) (by show ¬ _ = (-9 : Int); omega)
theorem act_ok {B : Nat} {g : Gs} (h : J B g) (hB : B ≤ 50000) (v w : Int32) {q : Int32 × Gs} (e : F_act g v w = some q) : ¬ q.1 = -9 ∧ J (B + 120) q.2 := by
  have hI := h.1
  have h4 := hI.m4
  have h5 := hI.m5
  unfold F_act F_actK at e
  split at e
  · split at e
    · cases e
    · rename_i hz
      cases e
      exact ⟨by show ¬ g 4 = -9; rw [h4.1]; exact nI_n9 (by omega), (h.addLight (kL hI w hz).2).le (by omega)⟩
  split at e
  · split at e
    · cases e
    · rename_i hz
      cases e
      exact ⟨by show ¬ g 5 = -9; rw [h5.1]; exact nI_n9 (by omega), (h.addBoat (kB hI w hz).2).le (by omega)⟩
  split at e
  · split at e
    · cases e
    · rename_i hz
      cases e
      refine ⟨?_, (h.steer (kS hI v w hz).2).le (by omega)⟩
      obtain ⟨n, hn, eb⟩ := a_b_in hI v hz
      show ¬ gB g (a_b g v) 1 = -9
      rw [eb, gB_1 g (by omega)]
      exact int_n9 (hI.2.2.2.1 n hn).2.1.1
  split at e
  · split at e
    · cases e
    · rename_i hz
      cases e
      have hz1 : ¬ g 5 = 0 := fun z => hz (Or.inl z)
      have hz2 : ¬ R_boatOf g (a_b g v) 2 < 0 := fun z => hz (Or.inr z)
      refine ⟨?_, (h.talk (kT hI v w hz1 hz2).2).le (by omega)⟩
      obtain ⟨n, hn, eb⟩ := a_b_in hI v hz1
      show ¬ gB g (a_b g v) 3 = -9
      rw [eb, gB_3 g (by omega)]
      exact int_n9 (by have := (hI.2.2.2.1 n hn).2.2.2.1.1; omega)
  split at e
  · split at e
    · cases e
    · rename_i hz
      cases e
      refine ⟨?_, (h.dim (kD hI v w hz).2).le (by omega)⟩
      obtain ⟨n, hn, eb⟩ := a_l_in hI v hz
      show ¬ gL g (a_l g v) 1 = -9
      rw [eb, gL_1 g (by omega)]
      exact int_n9 (by have := (hI.2.2.1 n hn).2.1.1; omega)
  have hs : ∀ k, k < 4 → ¬ g k = -9 := fun k hk => by
    obtain ⟨s0, s1, s2, s3⟩ := hI.1
    rcases (show k = 0 ∨ k = 1 ∨ k = 2 ∨ k = 3 by omega) with rfl | rfl | rfl | rfl
    · exact int_n9 (by have := s0.1; omega)
    · exact int_n9 (by have := s1.1; omega)
    · exact int_n9 (by have := s2.1; omega)
    · exact int_n9 (by have := s3.1; omega)
  split at e
  · cases e
    refine ⟨?_, (h.set (Inv_set hI (kE w).2) (kE w).2.1).le (by omega)⟩
    obtain ⟨k, hk, e⟩ := low_in w (d := 4) (by decide) (by decide)
    have q1 : F_low w 4 = nI k := e
    show ¬ g (tn (F_low w 4)) = -9
    rw [q1, show tn (nI k) = k from nI_clamp (by omega)]
    exact hs k hk
  split at e
  · cases e
    exact ⟨hs 2 (by decide), (h.set (Inv_set hI (kE2 w).2) (kE2 w).2.1).le (by omega)⟩
  · cases e
    obtain ⟨k, h1, h2, e⟩ := aT_in w
    rw [e, show tn (nI k) = k from nI_clamp (by omega)]
    obtain ⟨d, hd, ed⟩ := handed_d h (n := k) h2 hB
    exact ⟨by show ¬ F_ticks g k 7 - g 7 = -9; rw [ed]; exact nI_n9 (by omega), (h.ticks k (by omega)).le (by omega)⟩
