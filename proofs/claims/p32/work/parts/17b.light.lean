/-! the class: a lighthouse's brightness, bits -/
def W_x (r : Gs) (p : Int32) : Int32 := r 1 * 100 / (10 + (if p - r 0 < 0 then -(p - r 0) else p - r 0))
abbrev W_turned (r : Gs) (p : Int32) : Prop := if rm (r 3) 2 = 1 then p - r 0 < 0 else 0 < p - r 0
def W_bright (r : Gs) (p t : Int32) : Int32 :=
  if r 2 = 1 then (if rm (t / r 3) 2 = 1 then W_x r p / 2 else W_x r p) else if r 2 = 2 ∧ W_turned r p then 0 else W_x r p
def W_worth (r : Gs) (p t : Int32) : Int32 := W_bright r p t + r 6
/-- places, a lighthouse's n -/
def okW (r : Gs) (p : Int32) : Prop := inI p 0 199 ∧ inI (r 0) 0 199 ∧ inI (r 3) 1 20
theorem okW.lt {r : Gs} {p : Int32} (h : okW r p) : (p - r 0 < 0 ↔ p < r 0) ∧ (0 < p - r 0 ↔ r 0 < p) := by
  obtain ⟨⟨h1, h2⟩, ⟨h3, h4⟩, -⟩ := h
  have e := fb_subI (x := p) (y := r 0) (by omega) (by omega)
  have z : (0 : Int32).toInt = 0 := rfl
  rw [Int32.lt_iff_toInt_lt, Int32.lt_iff_toInt_lt, Int32.lt_iff_toInt_lt, Int32.lt_iff_toInt_lt, e, z]
  omega
theorem okW.abs {r : Gs} {p : Int32} (h : okW r p) : (r 0 ≤ p → p - r 0 = if p - r 0 < 0 then -(p - r 0) else p - r 0) ∧ (¬ r 0 ≤ p → r 0 - p = if p - r 0 < 0 then -(p - r 0) else p - r 0) := by
  refine ⟨fun q => ?_, fun q => ?_⟩
  · rw [if_neg (fun z => absurd (h.lt.1.mp z) (Int32.not_lt.mpr q))]
  · rw [if_pos (h.lt.1.mpr (Int32.not_le.mp q))]
    grind
theorem okW.span {r : Gs} {p : Int32} (h : okW r p) : ¬ 10 + (if p - r 0 < 0 then -(p - r 0) else p - r 0) < 1 := by
  obtain ⟨⟨h1, h2⟩, ⟨h3, h4⟩, -⟩ := h
  have e := fb_subI (x := p) (y := r 0) (by omega) (by omega)
  have z : (0 : Int32).toInt = 0 := rfl
  have z1 : (1 : Int32).toInt = 1 := rfl
  have z10 : (10 : Int32).toInt = 10 := rfl
  rw [Int32.lt_iff_toInt_lt, z1]
  split
  · have e2 := fb_negI (x := p - r 0) (by omega)
    rw [fb_addI (by omega) (by omega)]
    rename_i q
    have := Int32.lt_iff_toInt_lt.mp q
    omega
  · rw [fb_addI (by omega) (by omega)]
    rename_i q
    have := Int32.le_iff_toInt_le.mp (Int32.not_lt.mp q)
    omega
theorem okW.n {r : Gs} {p : Int32} (h : okW r p) : ¬ r 3 ≤ 0 ∧ ¬ r 3 = 0 := by
  obtain ⟨-, -, ⟨h3, h4⟩⟩ := h
  have z : (0 : Int32).toInt = 0 := rfl
  refine ⟨fun q => ?_, fun q => ?_⟩
  · have := Int32.le_iff_toInt_le.mp q
    omega
  · rw [q] at h3
    omega
def C_bc1 (x : Int32) : Int32 := x - ((x.toUInt32 >>> ((1 : Int32).toUInt32 &&& Int32.toUInt32 31)).toInt32 &&& 1431655765)
def C_bc2 (x : Int32) : Int32 := (x &&& 858993459) + ((x.toUInt32 >>> ((2 : Int32).toUInt32 &&& Int32.toUInt32 31)).toInt32 &&& 858993459)
def C_bc3 (x : Int32) : Int32 := x + (x.toUInt32 >>> ((4 : Int32).toUInt32 &&& Int32.toUInt32 31)).toInt32 &&& 252645135
def C_bc4 (x : Int32) : Int32 := x + (x.toUInt32 >>> ((8 : Int32).toUInt32 &&& Int32.toUInt32 31)).toInt32
def C_bc5 (x : Int32) : Int32 := x + (x.toUInt32 >>> ((16 : Int32).toUInt32 &&& Int32.toUInt32 31)).toInt32 &&& 63
def C_bc (x : Int32) : Int32 := C_bc5 (C_bc4 (C_bc3 (C_bc2 (C_bc1 x))))
theorem C_bc_256 : ∀ n, n < 256 → C_bc (nI n) = nI (fb_ct n.testBit 8) := by decide +kernel
def mkN (p : Nat → Bool) : Nat → Nat
  | 0 => 0
  | n + 1 => mkN p n + (if p n then 2 ^ n else 0)
theorem mkN_lt (p : Nat → Bool) : ∀ n, mkN p n < 2 ^ n
  | 0 => Nat.one_pos
  | n + 1 => by
    have := mkN_lt p n
    rw [mkN, Nat.pow_succ]
    split <;> omega
theorem mkN_bit (p : Nat → Bool) : ∀ n i, (mkN p n).testBit i = (decide (i < n) && p i)
  | 0, i => by simp [mkN]
  | n + 1, i => by
    have hl := mkN_lt p n
    have ih := mkN_bit p n
    rw [mkN]
    by_cases hp : p n = true
    · have e0 : mkN p n + 2 ^ n = 2 ^ n * 1 + mkN p n := by omega
      rw [if_pos hp, e0, Nat.two_pow_add_eq_or_of_lt hl, Nat.mul_one, Nat.testBit_or, Nat.testBit_two_pow, ih]
      by_cases e : i = n
      · subst e
        simp [hp]
      · by_cases q : i < n
        · simp [q, Ne.symm e, show i < n + 1 by omega]
        · simp [q, Ne.symm e, show ¬ i < n + 1 by omega]
    · rw [if_neg hp, Nat.add_zero, ih]
      by_cases e : i = n
      · subst e
        simp [hp]
      · by_cases q : i < n
        · simp [q, show i < n + 1 by omega]
        · simp [q, show ¬ i < n + 1 by omega]
theorem bt_nI (n i : Nat) (hi : i < 32) : bt (nI n) i = n.testBit i := by
  unfold bt
  show (BitVec.ofNat 32 n).getLsbD i = n.testBit i
  rw [BitVec.getLsbD_ofNat]
  simp [hi]
theorem bc_of {x : Int32} {p : Nat → Bool} (h : ∀ i, i < 32 → bt x i = (decide (i < 8) && p i)) : C_bc x = nI (fb_ct p 8) := by
  have e : x = nI (mkN p 8) := b_ext (fun i hi => by rw [h i hi, bt_nI _ _ hi, mkN_bit])
  rw [e, C_bc_256 _ (mkN_lt p 8)]
  congr 1
  refine fb_ct_cong (fun k hk => ?_)
  rw [mkN_bit]
  simp [hk]
theorem ct_more {p : Nat → Bool} {n : Nat} (hn : n ≤ 8) (h : ∀ i, n ≤ i → p i = false) : fb_ct p 8 = fb_ct p n := by
  have e := fb_ct_split p n (8 - n)
  have z : fb_ct (fun k => p (n + k)) (8 - n) = 0 := fb_ct_zero.mpr (fun k _ => h (n + k) (by omega))
  rw [z, show n + (8 - n) = 8 by omega] at e
  exact e
/-- the boats of a lighthouse as a set, bit by bit -/
theorem bt_1 : ∀ i, i < 32 → bt 1 i = decide (i = 0) := by decide +kernel
theorem bt_bit {b i : Nat} (hb : b < 8) (hi : i < 32) : bt (1 <<< (nI b &&& 31)) i = decide (i = b) := by
  rw [b_shl b (by omega) 1 hi]
  by_cases h : b ≤ i
  · rw [bt_1 _ (by omega)]
    by_cases e : i = b
    · subst e; simp
    · simp [h, e, show ¬ i - b = 0 by omega]
  · simp [h, show ¬ i = b by omega]
def pBy (g : Gs) (l i : Nat) : Bool := decide (g (60 + 10 * i + 2) = nI l + 1)
theorem bt_servedN (g : Gs) (l : Nat) : ∀ n, n ≤ 8 → ∀ i, i < 32 → bt (F_servedN g (nI l) n) i = (decide (i < n) && pBy g l i)
  | 0, _, i, _ => by rw [F_servedN, b_0]; simp
  | n + 1, hn, i, hi => by
    rw [F_servedN, b_or, bt_servedN g l n (by omega) i hi, gB_2 g (by omega)]
    by_cases e : i = n
    · subst e
      unfold pBy
      split
      · rename_i h
        rw [bt_bit (by omega) hi]
        simp [h]
      · rename_i h
        rw [b_0]
        simp [h]
    · have e2 : bt (if g (60 + 10 * n + 2) = nI l + 1 then 1 <<< (nI n &&& 31) else 0) i = false := by
        split
        · rw [bt_bit (by omega) hi]; simp [e]
        · exact b_0 _
      rw [e2, Bool.or_false]
      by_cases q : i < n
      · simp [q, show i < n + 1 by omega]
      · simp [q, show ¬ i < n + 1 by omega]
theorem bc_served (g : Gs) (l : Nat) {n : Nat} (hn : n ≤ 8) : C_bc (F_servedN g (nI l) n) = F_servesN g (nI l) n := by
  rw [bc_of (p := fun i => decide (i < n) && pBy g l i), ct_more hn (fun i hi => by simp [show ¬ i < n by omega]), servesN_ct g l n hn]
  · congr 1
    refine fb_ct_cong (fun k hk => ?_)
    simp [hk, pBy, isBy]
  · intro i hi
    rw [bt_servedN g l n hn i hi]
    by_cases q : i < n
    · simp [q, show i < 8 by omega]
    · simp [q]
theorem served_at {g g' : Gs} {l n : Nat} (hn : n ≤ 8) {x : Int32} (h : ∀ i, i < 32 → bt x i = (decide (i < n) && pBy g' l i)) : x = F_servedN g' (nI l) n := b_ext (fun i hi => by rw [h i hi, bt_servedN g' l n hn i hi])

