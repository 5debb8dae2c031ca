section
/-! plain facts on numbers and arrays, to paste: each family by itself; over the kit's rows on nI and upd -/
/-! ===== order of ints, in all its forms, and through longs ===== -/
theorem fa_lt (a b : Int32) : a < b ↔ a.toInt < b.toInt := Int32.lt_iff_toInt_lt
theorem fa_le (a b : Int32) : a ≤ b ↔ a.toInt ≤ b.toInt := Int32.le_iff_toInt_le
theorem fa_eq (a b : Int32) : a = b ↔ a.toInt = b.toInt := Int32.toInt_inj.symm
theorem fa_lt64 (a b : Int64) : a < b ↔ a.toInt < b.toInt := Int64.lt_iff_toInt_lt
theorem fa_le64 (a b : Int64) : a ≤ b ↔ a.toInt ≤ b.toInt := Int64.le_iff_toInt_le
theorem fa_eq64 (a b : Int64) : a = b ↔ a.toInt = b.toInt := Int64.toInt_inj.symm
/-- a comparison of two ints taken as longs -/
theorem fa_wide_lt (a b : Int32) : a.toInt64 < b.toInt64 ↔ a < b := by rw [fa_lt64, fa_lt, Int32.toInt_toInt64, Int32.toInt_toInt64]
theorem fa_wide_le (a b : Int32) : a.toInt64 ≤ b.toInt64 ↔ a ≤ b := by rw [fa_le64, fa_le, Int32.toInt_toInt64, Int32.toInt_toInt64]
theorem fa_wide_eq (a b : Int32) : a.toInt64 = b.toInt64 ↔ a = b := by rw [fa_eq64, fa_eq, Int32.toInt_toInt64, Int32.toInt_toInt64]
/-- one strict comparison gives all the others -/
theorem fa_of_lt {a b : Int32} (h : a < b) : a ≤ b ∧ ¬ b ≤ a ∧ ¬ b < a ∧ a ≠ b ∧ b ≠ a := by
  rw [fa_lt] at h
  refine ⟨?_, ?_, ?_, ?_, ?_⟩
  · rw [fa_le]; omega
  · rw [fa_le]; omega
  · rw [fa_lt]; omega
  · intro e; rw [fa_eq] at e; omega
  · intro e; rw [fa_eq] at e; omega
theorem fa_of_nlt {a b : Int32} (h : ¬ a < b) : b ≤ a := by
  rw [fa_lt] at h
  rw [fa_le]
  omega
theorem fa_of_nle {a b : Int32} (h : ¬ a ≤ b) : b < a := by
  rw [fa_le] at h
  rw [fa_lt]
  omega
theorem fa_le_ne {a b : Int32} (h : a ≤ b) (h2 : a ≠ b) : a < b := by
  rw [fa_le] at h
  rw [fa_lt]
  have h3 : a.toInt ≠ b.toInt := fun e => h2 ((fa_eq a b).mpr e)
  omega
theorem fa_three (a b : Int32) : a < b ∨ a = b ∨ b < a := by
  rw [fa_lt, fa_lt, fa_eq]
  omega
theorem fa_trans {a b c : Int32} (h : a < b) (h2 : b ≤ c) : a < c := by
  rw [fa_lt] at *
  rw [fa_le] at h2
  omega
/-! ===== small literals as numbers ===== -/
theorem fa_lit (n : Nat) : (OfNat.ofNat n : Int32) = nI n := rfl
theorem fa_litL (n : Nat) : (OfNat.ofNat n : Int64) = lN n := rfl
/-! ===== bits of a number: 'or', masks, one bit ===== -/
theorem fa_and (a b : Nat) : nI a &&& nI b = nI (a &&& b) := by
  apply Int32.toBitVec_inj.1
  show BitVec.ofNat 32 a &&& BitVec.ofNat 32 b = BitVec.ofNat 32 (a &&& b)
  apply BitVec.eq_of_getLsbD_eq
  intro i hi
  simp [hi]
theorem fa_or (a b : Nat) : nI a ||| nI b = nI (a ||| b) := by
  apply Int32.toBitVec_inj.1
  show BitVec.ofNat 32 a ||| BitVec.ofNat 32 b = BitVec.ofNat 32 (a ||| b)
  apply BitVec.eq_of_getLsbD_eq
  intro i hi
  simp [hi]
/-- a remainder by a power of two, as a mask -/
theorem fa_mask (n k : Nat) : nI n &&& nI (2 ^ k - 1) = nI (n % 2 ^ k) := by rw [fa_and, Nat.and_two_pow_sub_one_eq_mod]
/-- 'or' of a high part and a low one that don't meet is their sum -/
theorem fa_or_sum {a k : Nat} (b : Nat) (h : a < 2 ^ k) : nI (2 ^ k * b) ||| nI a = nI (2 ^ k * b + a) := by rw [fa_or, Nat.two_pow_add_eq_or_of_lt h]
/-- one bit, by 'and' with a power of two -/
theorem fa_bit {n j : Nat} (hj : j < 31) : nI n &&& nI (2 ^ j) = 0 ↔ n.testBit j = false := by
  have h2 : (2 : Nat) ^ j < 2 ^ 31 := Nat.pow_lt_pow_right (by decide) hj
  have hle : n &&& 2 ^ j ≤ 2 ^ j := Nat.and_le_right
  have e : n &&& 2 ^ j = 0 ↔ n.testBit j = false := by
    constructor
    · intro h
      have h1 : (n &&& 2 ^ j).testBit j = false := by rw [h]; simp
      rw [Nat.testBit_and] at h1
      first | simpa using h1 | simpa [Nat.testBit_two_pow_self] using h1 | simpa [Nat.testBit_two_pow] using h1
    · intro h
      apply Nat.eq_of_testBit_eq
      intro i
      rw [Nat.testBit_and]
      by_cases hi : j = i
      · subst hi; simp [h]
      · first | (simp [Nat.testBit_two_pow, hi]; done) | (simp [Nat.testBit_two_pow_of_ne hi]; done)
  rw [fa_and]
  constructor
  · intro h
    apply e.mp
    rcases Nat.eq_zero_or_pos (n &&& 2 ^ j) with z | z
    · exact z
    · exact absurd h (nI_ne0 z (Nat.lt_of_le_of_lt hle h2))
  · intro h
    rw [e.mpr h]; exact nI_0
/-- a remainder by a power of two of a number that isn't negative, as Java divides -/
theorem fa_rem {a k : Nat} (ha : a < 2 ^ 31) (hk : k < 31) : nI a - nI a / nI (2 ^ k) * nI (2 ^ k) = nI (a % 2 ^ k) := pk_rem ha (Nat.two_pow_pos k) (Nat.pow_lt_pow_right (by decide) hk)
/-! ===== cuts to a byte, a short ===== -/
theorem fa_byte_xor (x y : Int32) : (x ^^^ y).toInt8 = x.toInt8 ^^^ y.toInt8 := by
  apply Int8.toBitVec_inj.1
  apply BitVec.eq_of_getLsbD_eq
  intro i hi
  first | (simp [hi]; done) | (simp [hi, BitVec.getLsbD_setWidth, BitVec.getLsbD_signExtend]; done)
theorem fa_short_xor (x y : Int32) : (x ^^^ y).toInt16 = x.toInt16 ^^^ y.toInt16 := by
  apply Int16.toBitVec_inj.1
  apply BitVec.eq_of_getLsbD_eq
  intro i hi
  first | (simp [hi]; done) | (simp [hi, BitVec.getLsbD_setWidth, BitVec.getLsbD_signExtend]; done)
/-- the cut to a byte sees the low byte alone -/
theorem fa_byte_low (x : Int32) : (x &&& 255).toInt8 = x.toInt8 := by
  apply Int8.toBitVec_inj.1
  apply BitVec.eq_of_getLsbD_eq
  intro i hi
  have h2 : (255 : Int32).toBitVec.getLsbD i = true := by
    have : ∀ j : Fin 8, (255 : Int32).toBitVec.getLsbD j.val = true := by decide +kernel
    exact this ⟨i, hi⟩
  have h4 : (x &&& 255).toBitVec.getLsbD i = x.toBitVec.getLsbD i := by
    show (x.toBitVec &&& (255 : Int32).toBitVec).getLsbD i = _
    rw [BitVec.getLsbD_and, h2, Bool.and_true]
  have h3 : i < 32 := by omega
  first
    | (show (((x &&& 255).toBitVec).signExtend 8).getLsbD i = (x.toBitVec.signExtend 8).getLsbD i; rw [BitVec.getLsbD_signExtend, BitVec.getLsbD_signExtend, if_pos h3, if_pos h3, h4])
    | (show (((x &&& 255).toBitVec).setWidth 8).getLsbD i = (x.toBitVec.setWidth 8).getLsbD i; rw [BitVec.getLsbD_setWidth, BitVec.getLsbD_setWidth, h4])
    | (simp [hi, h3, h4]; done)
theorem fa_short_low (x : Int32) : (x &&& 65535).toInt16 = x.toInt16 := by
  apply Int16.toBitVec_inj.1
  apply BitVec.eq_of_getLsbD_eq
  intro i hi
  have h2 : (65535 : Int32).toBitVec.getLsbD i = true := by
    have : ∀ j : Fin 16, (65535 : Int32).toBitVec.getLsbD j.val = true := by decide +kernel
    exact this ⟨i, hi⟩
  have h4 : (x &&& 65535).toBitVec.getLsbD i = x.toBitVec.getLsbD i := by
    show (x.toBitVec &&& (65535 : Int32).toBitVec).getLsbD i = _
    rw [BitVec.getLsbD_and, h2, Bool.and_true]
  have h3 : i < 32 := by omega
  first
    | (show (((x &&& 65535).toBitVec).signExtend 16).getLsbD i = (x.toBitVec.signExtend 16).getLsbD i; rw [BitVec.getLsbD_signExtend, BitVec.getLsbD_signExtend, if_pos h3, if_pos h3, h4])
    | (show (((x &&& 65535).toBitVec).setWidth 16).getLsbD i = (x.toBitVec.setWidth 16).getLsbD i; rw [BitVec.getLsbD_setWidth, BitVec.getLsbD_setWidth, h4])
    | (simp [hi, h3, h4]; done)
/-- a small number is its own byte, its own short -/
theorem fa_byte_small {n : Nat} (h : n < 128) : (nI n).toInt8.toInt32 = nI n := by
  have : ∀ j : Fin 128, (nI j.val).toInt8.toInt32 = nI j.val := by decide +kernel
  exact this ⟨n, h⟩
/-! ===== absolute difference ===== -/
theorem fa_absdiff {a b : Nat} (ha : a < 2 ^ 31) (hb : b < 2 ^ 31) : (if nI a < nI b then nI b - nI a else nI a - nI b) = nI (if a < b then b - a else a - b) := by
  by_cases h : a < b
  · rw [if_pos (nI_lt h hb), if_pos h]
    exact pk_sub (Nat.le_of_lt h)
  · rw [if_neg (nI_nlt (Nat.le_of_not_lt h) ha), if_neg h]
    exact pk_sub (Nat.le_of_not_lt h)
/-! ===== an array behind i stores, a conditional store, a row copied ===== -/
/-- f where k < i, what stood there else -/
def fa_fill {α : Type} (f g : Nat → α) (i : Nat) : Nat → α := fun k => if k < i then f k else g k
theorem fa_fill_0 {α : Type} (f g : Nat → α) : fa_fill f g 0 = g := funext fun k => if_neg (Nat.not_lt_zero k)
theorem fa_fill_in {α : Type} {f g : Nat → α} {i k : Nat} (h : k < i) : fa_fill f g i k = f k := if_pos h
theorem fa_fill_out {α : Type} {f g : Nat → α} {i k : Nat} (h : i ≤ k) : fa_fill f g i k = g k := if_neg (Nat.not_lt.mpr h)
theorem fa_fill_succ (f g : Nat → Int32) (i : Nat) : upd (fa_fill f g i) i (f i) = fa_fill f g (i + 1) := by
  funext k
  by_cases e : k = i
  · subst e
    rw [pk_us]
    exact (if_pos (Nat.lt_succ_self k)).symm
  · rw [pk_un e]
    by_cases h : k < i
    · rw [fa_fill_in h, fa_fill_in (Nat.lt_succ_of_lt h)]
    · rw [fa_fill_out (Nat.le_of_not_lt h), fa_fill_out (by omega)]
/-- a store that changes nothing -/
theorem fa_upd_same {f : Nat → Int32} {i : Nat} {x : Int32} (h : f i = x) : upd f i x = f := by
  funext k
  by_cases e : k = i
  · subst e
    rw [pk_us, h]
  · rw [pk_un e]
/-- a store under a condition, told as one -/
theorem fa_upd_if (c : Prop) [Decidable c] (f : Nat → Int32) (i : Nat) (x : Int32) : (if c then upd f i x else f) = upd f i (if c then x else f i) := by
  by_cases h : c
  · rw [if_pos h, if_pos h]
  · rw [if_neg h, if_neg h, fa_upd_same rfl]
/-- two stores at one place, at two -/
theorem fa_upd_twice (f : Nat → Int32) (i : Nat) (x y : Int32) : upd (upd f i x) i y = upd f i y := by
  funext k
  by_cases e : k = i
  · subst e
    rw [pk_us, pk_us]
  · rw [pk_un e, pk_un e, pk_un e]
theorem fa_upd_swap (f : Nat → Int32) {i j : Nat} (h : i ≠ j) (x y : Int32) : upd (upd f i x) j y = upd (upd f j y) i x := by
  funext k
  by_cases e : k = i
  · subst e
    rw [pk_un h, pk_us, pk_us]
  · by_cases e2 : k = j
    · subst e2
      rw [pk_us, pk_un e, pk_us]
    · rw [pk_un e2, pk_un e, pk_un e, pk_un e2]
/-! ===== the first index with a property; a count ===== -/
/-- the first k < n with p k, n if there is none -/
def fa_first (p : Nat → Bool) : Nat → Nat
  | 0 => 0
  | n + 1 => if fa_first p n < n then fa_first p n else if p n then n else n + 1
theorem fa_first_le (p : Nat → Bool) : ∀ n, fa_first p n ≤ n
  | 0 => Nat.le_refl 0
  | n + 1 => by
    have ih := fa_first_le p n
    unfold fa_first
    split
    · omega
    · split
      · omega
      · omega
theorem fa_first_no (p : Nat → Bool) : ∀ n k, k < fa_first p n → p k = false
  | 0, k, h => absurd h (Nat.not_lt_zero k)
  | n + 1, k, h => by
    have ih := fa_first_no p n
    have hl := fa_first_le p n
    unfold fa_first at h
    split at h
    · exact ih k h
    · rename_i h1
      split at h
      · exact ih k (by omega)
      · rename_i h2
        by_cases e : k = n
        · subst e
          exact Bool.eq_false_iff.mpr h2
        · exact ih k (by omega)
theorem fa_first_yes (p : Nat → Bool) : ∀ n, fa_first p n < n → p (fa_first p n) = true
  | 0, h => absurd h (Nat.not_lt_zero _)
  | n + 1, h => by
    have ih := fa_first_yes p n
    have hl := fa_first_le p n
    unfold fa_first at h ⊢
    split at h
    · rename_i h1
      rw [if_pos h1]
      exact ih h1
    · rename_i h1
      rw [if_neg h1]
      split at h
      · rename_i h2
        rw [if_pos h2]
        exact h2
      · omega
/-- how many k < n have p k -/
def fa_cnt (p : Nat → Bool) : Nat → Nat
  | 0 => 0
  | n + 1 => fa_cnt p n + if p n then 1 else 0
theorem fa_cnt_le (p : Nat → Bool) : ∀ n, fa_cnt p n ≤ n
  | 0 => Nat.le_refl 0
  | n + 1 => by
    have ih := fa_cnt_le p n
    unfold fa_cnt
    split
    · omega
    · omega
theorem fa_cnt_yes {p : Nat → Bool} {n : Nat} (h : p n = true) : fa_cnt p (n + 1) = fa_cnt p n + 1 := by rw [fa_cnt, if_pos h]
theorem fa_cnt_no {p : Nat → Bool} {n : Nat} (h : p n = false) : fa_cnt p (n + 1) = fa_cnt p n := by rw [fa_cnt, if_neg (by rw [h]; decide)]; rfl
theorem fa_cnt_cong {p q : Nat → Bool} : ∀ {n : Nat}, (∀ k, k < n → p k = q k) → fa_cnt p n = fa_cnt q n
  | 0, _ => rfl
  | n + 1, h => by rw [fa_cnt, fa_cnt, fa_cnt_cong (fun k hk => h k (Nat.lt_succ_of_lt hk)), h n (Nat.lt_succ_self n)]
/-! ===== an answer carried into a post; a branch on a boolean answer ===== -/
theorem fa_post {α : Type} {P : α → Prop} {x y : α} (h : x = y) (hp : P y) : P x := h ▸ hp
theorem fa_post2 {α β : Type} {P : α → β → Prop} {x y : α} {u v : β} (h : x = y) (h2 : u = v) (hp : P y v) : P x u := h ▸ h2 ▸ hp
theorem fa_bool {r : Int32} {b : Bool} (h : r = if b then 1 else 0) : (r = 0 ↔ b = false) ∧ (¬ r = 0 ↔ b = true) := by
  subst h
  cases b
  · exact ⟨⟨fun _ => rfl, fun _ => rfl⟩, ⟨fun h => absurd rfl h, fun h => absurd h (by decide)⟩⟩
  · exact ⟨⟨fun h => absurd h (by decide), fun h => absurd h (by decide)⟩, ⟨fun _ => rfl, fun _ => by decide⟩⟩
/-- a boolean's narrowing changes nothing -/
theorem fa_bool_and {r : Int32} (h : r = 0 ∨ r = 1) : r &&& 1 = r := by
  rcases h with rfl | rfl
  · decide
  · decide
theorem fa_bool_prop {c : Prop} [Decidable c] {r : Int32} (h : r = if c then 1 else 0) : (r = 0 ↔ ¬ c) ∧ (¬ r = 0 ↔ c) := by
  subst h
  by_cases hc : c
  · rw [if_pos hc]
    exact ⟨⟨fun h => absurd h (by decide), fun h => absurd hc h⟩, ⟨fun _ => hc, fun _ => by decide⟩⟩
  · rw [if_neg hc]
    exact ⟨⟨fun _ => hc, fun _ => rfl⟩, ⟨fun h => absurd rfl h, fun h => absurd h hc⟩⟩
/-! plain facts to paste, each family by itself; over the kit's nI, lN and upd -/
/-! ===== drawers: more things than places ===== -/
theorem fb_holes : ∀ (m n : Nat) (f : Nat → Nat), (∀ i, i < n → f i < m) → (∀ i j, i < j → j < n → f i ≠ f j) → n ≤ m := by
  intro m
  induction m with
  | zero =>
    intro n f h1 _
    rcases Nat.eq_zero_or_pos n with h | h
    · omega
    · exact absurd (h1 0 h) (Nat.not_lt_zero _)
  | succ m ih =>
    intro n f h1 h2
    by_cases hx : ∃ i, i < n ∧ f i = m
    · obtain ⟨a, ha, hfa⟩ := hx
      have hg := ih (n - 1) (fun i => if i < a then f i else f (i + 1)) (by
        intro i hi
        by_cases q : i < a
        · simp only [if_pos q]
          have b1 := h1 i (by omega)
          have b2 := h2 i a q ha
          omega
        · simp only [if_neg q]
          have b1 := h1 (i + 1) (by omega)
          have b2 := h2 a (i + 1) (by omega) (by omega)
          omega) (by
        intro i j hij hj
        by_cases q : i < a
        · by_cases r : j < a
          · simp only [if_pos q, if_pos r]
            exact h2 i j hij (by omega)
          · simp only [if_pos q, if_neg r]
            exact h2 i (j + 1) (by omega) (by omega)
        · have r : ¬ j < a := by omega
          simp only [if_neg q, if_neg r]
          exact h2 (i + 1) (j + 1) (by omega) (by omega))
      omega
    · have hg := ih n f (fun i hi => by
        have b1 := h1 i hi
        have b2 : f i ≠ m := fun e => hx ⟨i, hi, e⟩
        omega) h2
      omega
/-- two of them in one place -/
theorem fb_twice {m n : Nat} {f : Nat → Nat} (h : ∀ i, i < n → f i < m) (hm : m < n) : ∃ i j, i < j ∧ j < n ∧ f i = f j := by
  refine Classical.byContradiction fun hx => ?_
  have := fb_holes m n f h (fun i j hij hj e => hx ⟨i, j, hij, hj, e⟩)
  omega
/-- as many as places, none twice: each place is taken -/
theorem fb_onto {n : Nat} {f : Nat → Nat} (h : ∀ i, i < n → f i < n) (h2 : ∀ i j, i < j → j < n → f i ≠ f j) {y : Nat} (hy : y < n) : ∃ i, i < n ∧ f i = y := by
  refine Classical.byContradiction fun hx => ?_
  have hne : ∀ i, i < n → f i ≠ y := fun i hi e => hx ⟨i, hi, e⟩
  have := fb_holes (n - 1) n (fun i => if f i < y then f i else f i - 1) (by
    intro i hi
    have b1 := h i hi
    have b2 := hne i hi
    by_cases q : f i < y
    · simp only [if_pos q]; omega
    · simp only [if_neg q]; omega) (by
    intro i j hij hj
    have b1 := hne i (by omega)
    have b2 := hne j hj
    have b3 := h2 i j hij hj
    by_cases q : f i < y
    · by_cases r : f j < y
      · simp only [if_pos q, if_pos r]; exact b3
      · simp only [if_pos q, if_neg r]; omega
    · by_cases r : f j < y
      · simp only [if_neg q, if_pos r]; omega
      · simp only [if_neg q, if_neg r]; omega)
  omega
/-! ===== how many places have a property ===== -/
def fb_ct (p : Nat → Bool) : Nat → Nat
  | 0 => 0
  | n + 1 => fb_ct p n + (if p n then 1 else 0)
theorem fb_ct_succ (p : Nat → Bool) (n : Nat) : fb_ct p (n + 1) = fb_ct p n + (if p n then 1 else 0) := rfl
theorem fb_ct_le (p : Nat → Bool) : ∀ n, fb_ct p n ≤ n
  | 0 => Nat.le_refl _
  | n + 1 => by
    have h := fb_ct_le p n
    rw [fb_ct_succ]
    split <;> omega
theorem fb_ct_step (p : Nat → Bool) (m : Nat) : ∀ n, fb_ct p m ≤ fb_ct p (m + n)
  | 0 => Nat.le_refl _
  | n + 1 => by
    have h := fb_ct_step p m n
    show fb_ct p m ≤ fb_ct p (m + n + 1)
    rw [fb_ct_succ]
    omega
theorem fb_ct_mono (p : Nat → Bool) {m n : Nat} (h : m ≤ n) : fb_ct p m ≤ fb_ct p n := by
  have := fb_ct_step p m (n - m)
  rwa [Nat.add_sub_cancel' h] at this
theorem fb_ct_cong {p q : Nat → Bool} : ∀ {n : Nat}, (∀ k, k < n → p k = q k) → fb_ct p n = fb_ct q n
  | 0, _ => rfl
  | n + 1, h => by
    rw [fb_ct_succ, fb_ct_succ, fb_ct_cong (fun k hk => h k (by omega)), h n (by omega)]
/-- one place changed -/
theorem fb_ct_out (p : Nat → Bool) (b : Bool) {i n : Nat} (h : n ≤ i) : fb_ct (fun k => if k = i then b else p k) n = fb_ct p n :=
  fb_ct_cong fun k hk => if_neg (by omega)
theorem fb_ct_upd (p : Nat → Bool) (b : Bool) {i : Nat} : ∀ {n : Nat}, i < n → fb_ct (fun k => if k = i then b else p k) n + (if p i then 1 else 0) = fb_ct p n + (if b then 1 else 0)
  | 0, h => absurd h (Nat.not_lt_zero i)
  | n + 1, h => by
    rw [fb_ct_succ, fb_ct_succ]
    rcases Nat.lt_or_ge i n with q | q
    · have := fb_ct_upd p b q
      have e : (if n = i then b else p n) = p n := if_neg (by omega)
      rw [e]
      omega
    · have e : i = n := by omega
      subst e
      rw [fb_ct_out p b (Nat.le_refl _)]
      simp only [if_true]
      omega
theorem fb_ct_sub {p q : Nat → Bool} : ∀ {n : Nat}, (∀ k, k < n → p k = true → q k = true) → fb_ct p n ≤ fb_ct q n
  | 0, _ => Nat.le_refl _
  | n + 1, h => by
    have h1 := fb_ct_sub (n := n) (p := p) (q := q) (fun k hk => h k (by omega))
    have h2 := h n (by omega)
    rw [fb_ct_succ, fb_ct_succ]
    cases hp : p n <;> cases hq : q n <;> simp_all <;> omega
theorem fb_ct_or {p q : Nat → Bool} : ∀ {n : Nat}, (∀ k, k < n → ¬ (p k = true ∧ q k = true)) → fb_ct (fun k => p k || q k) n = fb_ct p n + fb_ct q n
  | 0, _ => rfl
  | n + 1, h => by
    have h1 := fb_ct_or (n := n) (p := p) (q := q) (fun k hk => h k (by omega))
    have h2 := h n (by omega)
    rw [fb_ct_succ, fb_ct_succ, fb_ct_succ, h1]
    cases hp : p n <;> cases hq : q n <;> simp_all <;> omega
theorem fb_ct_not (p : Nat → Bool) : ∀ n, fb_ct p n + fb_ct (fun k => !p k) n = n
  | 0 => rfl
  | n + 1 => by
    have h := fb_ct_not p n
    rw [fb_ct_succ, fb_ct_succ]
    cases p n <;> simp <;> omega
theorem fb_ct_split (p : Nat → Bool) (m : Nat) : ∀ n, fb_ct p (m + n) = fb_ct p m + fb_ct (fun k => p (m + k)) n
  | 0 => rfl
  | n + 1 => by
    have h := fb_ct_split p m n
    show fb_ct p (m + n + 1) = _
    rw [fb_ct_succ, fb_ct_succ, h, Nat.add_assoc]
theorem fb_ct_zero {p : Nat → Bool} : ∀ {n : Nat}, fb_ct p n = 0 ↔ ∀ k, k < n → p k = false
  | 0 => ⟨fun _ k hk => absurd hk (Nat.not_lt_zero k), fun _ => rfl⟩
  | n + 1 => by
    have h := fb_ct_zero (p := p) (n := n)
    rw [fb_ct_succ]
    constructor
    · intro e k hk
      have e1 : fb_ct p n = 0 := by omega
      rcases Nat.lt_or_ge k n with q | q
      · exact h.mp e1 k q
      · have ek : k = n := by omega
        subst ek
        cases hp : p k
        · rfl
        · simp [hp] at e
    · intro a
      rw [h.mpr (fun k hk => a k (by omega)), a n (by omega)]
      rfl
theorem fb_ct_pos {p : Nat → Bool} {n : Nat} : 0 < fb_ct p n ↔ ∃ k, k < n ∧ p k = true := by
  constructor
  · intro h
    refine Classical.byContradiction fun hx => ?_
    have := fb_ct_zero.mpr (fun k hk => by
      cases hp : p k
      · rfl
      · exact absurd ⟨k, hk, hp⟩ hx : ∀ k, k < n → p k = false)
    omega
  · rintro ⟨k, hk, hp⟩
    rcases Nat.eq_zero_or_pos (fb_ct p n) with e | e
    · have := fb_ct_zero.mp e k hk
      rw [this] at hp
      cases hp
    · exact e
theorem fb_ct_all {p : Nat → Bool} {n : Nat} : fb_ct p n = n ↔ ∀ k, k < n → p k = true := by
  have h := fb_ct_not p n
  constructor
  · intro e k hk
    have z : fb_ct (fun k => !p k) n = 0 := by omega
    have := fb_ct_zero.mp z k hk
    cases hp : p k
    · simp [hp] at this
    · rfl
  · intro a
    have z : fb_ct (fun k => !p k) n = 0 := fb_ct_zero.mpr (fun k hk => by simp [a k hk])
    omega
/-- the k-th place with the property -/
theorem fb_ct_kth {p : Nat → Bool} {k : Nat} : ∀ {n : Nat}, k < fb_ct p n → ∃ i, i < n ∧ p i = true ∧ fb_ct p i = k
  | 0, h => absurd h (Nat.not_lt_zero k)
  | n + 1, h => by
    rcases Nat.lt_or_ge k (fb_ct p n) with q | q
    · obtain ⟨i, h1, h2⟩ := fb_ct_kth q
      exact ⟨i, by omega, h2⟩
    · rw [fb_ct_succ] at h
      cases hp : p n
      · simp [hp] at h; omega
      · simp [hp] at h
        exact ⟨n, by omega, hp, by omega⟩
theorem fb_ct_kth_one {p : Nat → Bool} {i j : Nat} (hi : p i = true) (hj : p j = true) (e : fb_ct p i = fb_ct p j) : i = j := by
  have key : ∀ a b : Nat, a < b → p a = true → fb_ct p a < fb_ct p b := by
    intro a b hab ha
    have h := fb_ct_mono p (show a + 1 ≤ b from hab)
    rw [fb_ct_succ, ha] at h
    simp at h
    omega
  rcases Nat.lt_trichotomy i j with q | q | q
  · have := key i j q hi; omega
  · exact q
  · have := key j i q hj; omega
/-! ===== sums over a range: one place changed, parts, bounds ===== -/
def fb_sm (f : Nat → Nat) : Nat → Nat
  | 0 => 0
  | n + 1 => fb_sm f n + f n
theorem fb_sm_succ (f : Nat → Nat) (n : Nat) : fb_sm f (n + 1) = fb_sm f n + f n := rfl
theorem fb_sm_cong {f g : Nat → Nat} : ∀ {n : Nat}, (∀ k, k < n → f k = g k) → fb_sm f n = fb_sm g n
  | 0, _ => rfl
  | n + 1, h => by rw [fb_sm_succ, fb_sm_succ, fb_sm_cong (fun k hk => h k (by omega)), h n (by omega)]
theorem fb_sm_out (f : Nat → Nat) (v : Nat) {i n : Nat} (h : n ≤ i) : fb_sm (fun k => if k = i then v else f k) n = fb_sm f n :=
  fb_sm_cong fun k hk => if_neg (by omega)
theorem fb_sm_upd (f : Nat → Nat) (v : Nat) {i : Nat} : ∀ {n : Nat}, i < n → fb_sm (fun k => if k = i then v else f k) n + f i = fb_sm f n + v
  | 0, h => absurd h (Nat.not_lt_zero i)
  | n + 1, h => by
    rw [fb_sm_succ, fb_sm_succ]
    rcases Nat.lt_or_ge i n with q | q
    · have := fb_sm_upd f v q
      have e : (if n = i then v else f n) = f n := if_neg (by omega)
      rw [e]
      omega
    · have e : i = n := by omega
      subst e
      rw [fb_sm_out f v (Nat.le_refl _)]
      simp only [if_true]
      omega
theorem fb_sm_add (f g : Nat → Nat) : ∀ n, fb_sm (fun k => f k + g k) n = fb_sm f n + fb_sm g n
  | 0 => rfl
  | n + 1 => by
    have h := fb_sm_add f g n
    rw [fb_sm_succ, fb_sm_succ, fb_sm_succ, h]
    omega
theorem fb_sm_le {f g : Nat → Nat} : ∀ {n : Nat}, (∀ k, k < n → f k ≤ g k) → fb_sm f n ≤ fb_sm g n
  | 0, _ => Nat.le_refl _
  | n + 1, h => by
    have h1 := fb_sm_le (n := n) (f := f) (g := g) (fun k hk => h k (by omega))
    have h2 := h n (by omega)
    rw [fb_sm_succ, fb_sm_succ]
    omega
theorem fb_sm_const (c : Nat) : ∀ n, fb_sm (fun _ => c) n = n * c
  | 0 => by rw [Nat.zero_mul]; rfl
  | n + 1 => by rw [fb_sm_succ, fb_sm_const c n, Nat.succ_mul]
theorem fb_sm_bound {f : Nat → Nat} {c n : Nat} (h : ∀ k, k < n → f k ≤ c) : fb_sm f n ≤ n * c := by
  rw [← fb_sm_const c n]
  exact fb_sm_le h
theorem fb_sm_mono (f : Nat → Nat) (m : Nat) : ∀ n, fb_sm f m ≤ fb_sm f (m + n)
  | 0 => Nat.le_refl _
  | n + 1 => by
    have h := fb_sm_mono f m n
    show fb_sm f m ≤ fb_sm f (m + n + 1)
    rw [fb_sm_succ]
    omega
theorem fb_sm_part (f : Nat → Nat) {i n : Nat} (h : i < n) : fb_sm f i + f i ≤ fb_sm f n := by
  have := fb_sm_mono f (i + 1) (n - (i + 1))
  rw [fb_sm_succ, show i + 1 + (n - (i + 1)) = n by omega] at this
  exact this
theorem fb_sm_split (f : Nat → Nat) (m : Nat) : ∀ n, fb_sm f (m + n) = fb_sm f m + fb_sm (fun k => f (m + k)) n
  | 0 => rfl
  | n + 1 => by
    have h := fb_sm_split f m n
    show fb_sm f (m + n + 1) = _
    rw [fb_sm_succ, fb_sm_succ, h, Nat.add_assoc]
theorem fb_sm_zero {f : Nat → Nat} {n : Nat} (h : fb_sm f n = 0) : ∀ k, k < n → f k = 0 := fun k hk => by
  have := fb_sm_part f hk
  omega
/-- the same over whole numbers -/
def fb_si (f : Nat → Int) : Nat → Int
  | 0 => 0
  | n + 1 => fb_si f n + f n
theorem fb_si_succ (f : Nat → Int) (n : Nat) : fb_si f (n + 1) = fb_si f n + f n := rfl
theorem fb_si_cong {f g : Nat → Int} : ∀ {n : Nat}, (∀ k, k < n → f k = g k) → fb_si f n = fb_si g n
  | 0, _ => rfl
  | n + 1, h => by rw [fb_si_succ, fb_si_succ, fb_si_cong (fun k hk => h k (by omega)), h n (by omega)]
theorem fb_si_out (f : Nat → Int) (v : Int) {i n : Nat} (h : n ≤ i) : fb_si (fun k => if k = i then v else f k) n = fb_si f n :=
  fb_si_cong fun k hk => if_neg (by omega)
theorem fb_si_upd (f : Nat → Int) (v : Int) {i : Nat} : ∀ {n : Nat}, i < n → fb_si (fun k => if k = i then v else f k) n = fb_si f n - f i + v
  | 0, h => absurd h (Nat.not_lt_zero i)
  | n + 1, h => by
    rw [fb_si_succ, fb_si_succ]
    rcases Nat.lt_or_ge i n with q | q
    · have := fb_si_upd f v q
      have e : (if n = i then v else f n) = f n := if_neg (by omega)
      rw [e]
      omega
    · have e : i = n := by omega
      subst e
      rw [fb_si_out f v (Nat.le_refl _)]
      simp only [if_true]
      omega
theorem fb_si_add (f g : Nat → Int) : ∀ n, fb_si (fun k => f k + g k) n = fb_si f n + fb_si g n
  | 0 => rfl
  | n + 1 => by
    have h := fb_si_add f g n
    rw [fb_si_succ, fb_si_succ, fb_si_succ, h]
    omega
theorem fb_si_sub (f g : Nat → Int) : ∀ n, fb_si (fun k => f k - g k) n = fb_si f n - fb_si g n
  | 0 => rfl
  | n + 1 => by
    have h := fb_si_sub f g n
    rw [fb_si_succ, fb_si_succ, fb_si_succ, h]
    omega
theorem fb_si_mul (c : Int) (f : Nat → Int) : ∀ n, fb_si (fun k => c * f k) n = c * fb_si f n
  | 0 => (Int.mul_zero c).symm
  | n + 1 => by
    have h := fb_si_mul c f n
    rw [fb_si_succ, fb_si_succ, h, Int.mul_add]
theorem fb_si_split (f : Nat → Int) (m : Nat) : ∀ n, fb_si f (m + n) = fb_si f m + fb_si (fun k => f (m + k)) n
  | 0 => (Int.add_zero _).symm
  | n + 1 => by
    have h := fb_si_split f m n
    show fb_si f (m + n + 1) = _
    rw [fb_si_succ, fb_si_succ, h, Int.add_assoc]
theorem fb_si_nat (f : Nat → Nat) : ∀ n, fb_si (fun k => (f k : Int)) n = (fb_sm f n : Int)
  | 0 => rfl
  | n + 1 => by
    have h := fb_si_nat f n
    rw [fb_si_succ, fb_sm_succ, h]
    omega
theorem fb_si_bound {f : Nat → Int} {c : Int} (hc : 0 ≤ c) : ∀ {n : Nat}, (∀ k, k < n → -c ≤ f k ∧ f k ≤ c) → -(n * c) ≤ fb_si f n ∧ fb_si f n ≤ n * c
  | 0, _ => by simp [fb_si]
  | n + 1, h => by
    have h1 := fb_si_bound (n := n) (f := f) hc (fun k hk => h k (by omega))
    have h2 := h n (by omega)
    have e : ((n + 1 : Nat) : Int) * c = n * c + c := by rw [Int.natCast_add, Int.add_mul]; simp
    rw [fb_si_succ, e]
    omega
/-! ===== bits of a long that isn't negative ===== -/
theorem fb_andL (a b : Nat) : lN a &&& lN b = lN (a &&& b) := by
  apply Int64.toBitVec_inj.1
  show BitVec.ofNat 64 a &&& BitVec.ofNat 64 b = BitVec.ofNat 64 (a &&& b)
  apply BitVec.eq_of_getLsbD_eq
  intro i hi
  simp [hi]
theorem fb_orL (a b : Nat) : lN a ||| lN b = lN (a ||| b) := by
  apply Int64.toBitVec_inj.1
  show BitVec.ofNat 64 a ||| BitVec.ofNat 64 b = BitVec.ofNat 64 (a ||| b)
  apply BitVec.eq_of_getLsbD_eq
  intro i hi
  simp [hi]
theorem fb_xorL (a b : Nat) : lN a ^^^ lN b = lN (a ^^^ b) := by
  apply Int64.toBitVec_inj.1
  show BitVec.ofNat 64 a ^^^ BitVec.ofNat 64 b = BitVec.ofNat 64 (a ^^^ b)
  apply BitVec.eq_of_getLsbD_eq
  intro i hi
  simp [hi]
theorem fb_xorI (a b : Nat) : nI a ^^^ nI b = nI (a ^^^ b) := by
  apply Int32.toBitVec_inj.1
  show BitVec.ofNat 32 a ^^^ BitVec.ofNat 32 b = BitVec.ofNat 32 (a ^^^ b)
  apply BitVec.eq_of_getLsbD_eq
  intro i hi
  simp [hi]
theorem fb_maskL (n k : Nat) : lN n &&& lN (2 ^ k - 1) = lN (n % 2 ^ k) := by rw [fb_andL, Nat.and_two_pow_sub_one_eq_mod]
theorem fb_or_sumL {a k : Nat} (b : Nat) (h : a < 2 ^ k) : lN (2 ^ k * b) ||| lN a = lN (2 ^ k * b + a) := by rw [fb_orL, Nat.two_pow_add_eq_or_of_lt h]
theorem fb_lN_inj {a b : Nat} (ha : a < 2 ^ 63) (hb : b < 2 ^ 63) : lN a = lN b ↔ a = b := by
  constructor
  · intro h
    have h1 : (BitVec.ofNat 64 a).toNat = (BitVec.ofNat 64 b).toNat := congrArg (fun x : Int64 => x.toBitVec.toNat) h
    rw [BitVec.toNat_ofNat, BitVec.toNat_ofNat, Nat.mod_eq_of_lt (by omega), Nat.mod_eq_of_lt (by omega)] at h1
    exact h1
  · rintro rfl; rfl
theorem fb_bit_nat (n j : Nat) : n &&& 2 ^ j = 0 ↔ n.testBit j = false := by
  constructor
  · intro h
    have h1 : (n &&& 2 ^ j).testBit j = false := by rw [h]; simp
    rw [Nat.testBit_and] at h1
    simpa using h1
  · intro h
    apply Nat.eq_of_testBit_eq
    intro i
    rw [Nat.testBit_and]
    by_cases hi : j = i
    · subst hi; simp [h]
    · first | (simp [Nat.testBit_two_pow, hi]; done) | (simp [Nat.testBit_two_pow_of_ne hi]; done)
/-- one bit of a long -/
theorem fb_bitL {n j : Nat} (hj : j < 63) : lN n &&& lN (2 ^ j) = 0 ↔ n.testBit j = false := by
  have h2 : (2 : Nat) ^ j < 2 ^ 63 := Nat.pow_lt_pow_right (by decide) hj
  have hle : n &&& 2 ^ j ≤ 2 ^ j := Nat.and_le_right
  rw [fb_andL, ← fb_bit_nat, show (0 : Int64) = lN 0 from rfl]
  exact fb_lN_inj (by omega) (by decide)
/-- a bit set, a bit taken off -/
theorem fb_bit_set (n j i : Nat) : (n ||| 2 ^ j).testBit i = (n.testBit i || decide (i = j)) := by
  rw [Nat.testBit_or]
  by_cases h : j = i
  · subst h; simp
  · have h2 : ¬ i = j := fun e => h e.symm
    first | (simp [Nat.testBit_two_pow, h, h2]; done) | (simp [Nat.testBit_two_pow_of_ne h, h2]; done)
theorem fb_bit_flip (n j i : Nat) : (n ^^^ 2 ^ j).testBit i = (n.testBit i ^^ decide (i = j)) := by
  rw [Nat.testBit_xor]
  by_cases h : j = i
  · subst h; simp
  · have h2 : ¬ i = j := fun e => h e.symm
    first | (simp [Nat.testBit_two_pow, h, h2]; done) | (simp [Nat.testBit_two_pow_of_ne h, h2]; done)
/-! ===== a stretch of an array written over by a function ===== -/
def fb_put {α : Type} (f g : Nat → α) (a n : Nat) : Nat → α := fun k => if a ≤ k ∧ k < a + n then g (k - a) else f k
theorem fb_put_0 {α : Type} (f g : Nat → α) (a : Nat) : fb_put f g a 0 = f := funext fun k => if_neg (by omega)
theorem fb_put_in {α : Type} {f g : Nat → α} {a n k : Nat} (h1 : a ≤ k) (h2 : k < a + n) : fb_put f g a n k = g (k - a) := if_pos ⟨h1, h2⟩
theorem fb_put_out {α : Type} {f g : Nat → α} {a n k : Nat} (h : k < a ∨ a + n ≤ k) : fb_put f g a n k = f k := if_neg (by omega)
theorem fb_put_succ (f g : Nat → Int32) (a n : Nat) : upd (fb_put f g a n) (a + n) (g n) = fb_put f g a (n + 1) := by
  funext k
  by_cases h : k = a + n
  · subst h
    simp [upd, fb_put]
  · by_cases h1 : a ≤ k ∧ k < a + n
    · have h2 : a ≤ k ∧ k < a + (n + 1) := by omega
      simp only [upd, fb_put, if_neg h, if_pos h1, if_pos h2]
    · have h2 : ¬ (a ≤ k ∧ k < a + (n + 1)) := by omega
      simp only [upd, fb_put, if_neg h, if_neg h1, if_neg h2]
/-- .. from the far end down -/
theorem fb_put_down (f g : Nat → Int32) {a n m : Nat} (h : m < n) : upd (fb_put f (fun k => g (k + (m + 1))) (a + (m + 1)) (n - (m + 1))) (a + m) (g m) = fb_put f (fun k => g (k + m)) (a + m) (n - m) := by
  funext k
  by_cases h0 : k = a + m
  · subst h0
    simp only [upd, if_true]
    rw [fb_put_in (by omega) (by omega)]
    exact congrArg g (by omega)
  · simp only [upd, if_neg h0]
    by_cases h1 : a + (m + 1) ≤ k ∧ k < a + (m + 1) + (n - (m + 1))
    · rw [fb_put_in h1.1 h1.2, fb_put_in (by omega) (by omega)]
      exact congrArg g (by omega)
    · rw [fb_put_out (by omega), fb_put_out (by omega)]
theorem fb_put_cong {α : Type} {f f2 g g2 : Nat → α} {a n : Nat} (hf : ∀ k, (k < a ∨ a + n ≤ k) → f k = f2 k) (hg : ∀ k, k < n → g k = g2 k) : fb_put f g a n = fb_put f2 g2 a n := by
  funext k
  by_cases h : a ≤ k ∧ k < a + n
  · rw [fb_put_in h.1 h.2, fb_put_in h.1 h.2, hg _ (by omega)]
  · rw [fb_put_out (by omega), fb_put_out (by omega), hf _ (by omega)]
/-! ===== the least, the first, the best so far; that there is one alone ===== -/
theorem fb_first {p : Nat → Prop} [DecidablePred p] : ∀ {n : Nat}, (∃ i, i < n ∧ p i) → ∃ i, i < n ∧ p i ∧ ∀ j, j < i → ¬ p j
  | 0, h => by obtain ⟨i, hi, -⟩ := h; exact absurd hi (Nat.not_lt_zero i)
  | n + 1, h => by
    by_cases q : ∃ i, i < n ∧ p i
    · obtain ⟨i, h1, h2⟩ := fb_first q
      exact ⟨i, by omega, h2⟩
    · obtain ⟨i, h1, h2⟩ := h
      have e : i = n := by
        rcases Nat.lt_or_ge i n with r | r
        · exact absurd ⟨i, r, h2⟩ q
        · omega
      subst e
      exact ⟨i, by omega, h2, fun j hj hp => q ⟨j, hj, hp⟩⟩
theorem fb_first_one {p : Nat → Prop} {i j : Nat} (hi : p i) (hi2 : ∀ k, k < i → ¬ p k) (hj : p j) (hj2 : ∀ k, k < j → ¬ p k) : i = j := by
  rcases Nat.lt_trichotomy i j with q | q | q
  · exact absurd hi (hj2 i q)
  · exact q
  · exact absurd hj (hi2 j q)
theorem fb_last {p : Nat → Prop} [DecidablePred p] : ∀ {n : Nat}, (∃ i, i < n ∧ p i) → ∃ i, i < n ∧ p i ∧ ∀ j, i < j → j < n → ¬ p j
  | 0, h => by obtain ⟨i, hi, -⟩ := h; exact absurd hi (Nat.not_lt_zero i)
  | n + 1, h => by
    by_cases q : p n
    · exact ⟨n, by omega, q, fun j h1 h2 => by omega⟩
    · obtain ⟨i, h1, h2⟩ := h
      have hi : i < n := by
        rcases Nat.lt_or_ge i n with r | r
        · exact r
        · have e : i = n := by omega
          subst e
          exact absurd h2 q
      obtain ⟨i2, a1, a2, a3⟩ := fb_last (n := n) ⟨i, hi, h2⟩
      refine ⟨i2, by omega, a2, fun j b1 b2 => ?_⟩
      rcases Nat.lt_or_ge j n with r | r
      · exact a3 j b1 r
      · have e : j = n := by omega
        subst e
        exact q
/-- the first greatest -/
theorem fb_best (f : Nat → Int) : ∀ {n : Nat}, 0 < n → ∃ i, i < n ∧ (∀ j, j < n → f j ≤ f i) ∧ ∀ j, j < i → f j < f i
  | 0, h => absurd h (Nat.lt_irrefl 0)
  | 1, _ => ⟨0, by omega, fun j hj => by have e : j = 0 := by omega
                                         subst e; exact Int.le_refl _, fun j hj => absurd hj (Nat.not_lt_zero j)⟩
  | n + 2, _ => by
    obtain ⟨i, h1, h2, h3⟩ := fb_best f (n := n + 1) (by omega)
    by_cases q : f i < f (n + 1)
    · refine ⟨n + 1, by omega, fun j hj => ?_, fun j hj => ?_⟩
      · rcases Nat.lt_or_ge j (n + 1) with r | r
        · have := h2 j r; omega
        · have e : j = n + 1 := by omega
          subst e; exact Int.le_refl _
      · have := h2 j hj; omega
    · refine ⟨i, by omega, fun j hj => ?_, h3⟩
      rcases Nat.lt_or_ge j (n + 1) with r | r
      · exact h2 j r
      · have e : j = n + 1 := by omega
        subst e; omega
theorem fb_best_one {f : Nat → Int} {n i j : Nat} (hi : i < n) (hi2 : ∀ k, k < n → f k ≤ f i) (hi3 : ∀ k, k < i → f k < f i) (hj : j < n) (hj2 : ∀ k, k < n → f k ≤ f j) (hj3 : ∀ k, k < j → f k < f j) : i = j := by
  rcases Nat.lt_trichotomy i j with q | q | q
  · have a := hj3 i q
    have b := hi2 j hj
    omega
  · exact q
  · have a := hi3 j q
    have b := hj2 i hi
    omega
/-- the first least -/
theorem fb_low (f : Nat → Int) {n : Nat} (h : 0 < n) : ∃ i, i < n ∧ (∀ j, j < n → f i ≤ f j) ∧ ∀ j, j < i → f i < f j := by
  obtain ⟨i, h1, h2, h3⟩ := fb_best (fun k => -f k) h
  exact ⟨i, h1, fun j hj => by have := h2 j hj; omega, fun j hj => by have := h3 j hj; omega⟩
/-! ===== signed ints as whole numbers, within bounds ===== -/
theorem fb_rng (x : Int32) : -2147483648 ≤ x.toInt ∧ x.toInt < 2147483648 := by
  have h1 := Int32.le_toInt x
  have h2 := Int32.toInt_lt x
  omega
theorem fb_bmod {z : Int} (h1 : -2147483648 ≤ z) (h2 : z < 2147483648) : z.bmod (2 ^ 32) = z := by
  rw [Int.bmod_eq_of_le (by omega) (by omega)]
theorem fb_addI {x y : Int32} (h1 : -2147483648 ≤ x.toInt + y.toInt) (h2 : x.toInt + y.toInt < 2147483648) : (x + y).toInt = x.toInt + y.toInt := by
  rw [Int32.toInt_add, fb_bmod h1 h2]
theorem fb_subI {x y : Int32} (h1 : -2147483648 ≤ x.toInt - y.toInt) (h2 : x.toInt - y.toInt < 2147483648) : (x - y).toInt = x.toInt - y.toInt := by
  rw [Int32.toInt_sub, fb_bmod h1 h2]
theorem fb_mulI {x y : Int32} (h1 : -2147483648 ≤ x.toInt * y.toInt) (h2 : x.toInt * y.toInt < 2147483648) : (x * y).toInt = x.toInt * y.toInt := by
  rw [Int32.toInt_mul, fb_bmod h1 h2]
theorem fb_negI {x : Int32} (h : x.toInt ≠ -2147483648) : (-x).toInt = -x.toInt := by
  have := fb_rng x
  rw [Int32.toInt_neg, fb_bmod (by omega) (by omega)]
theorem fb_ofI {z : Int} (h1 : -2147483648 ≤ z) (h2 : z < 2147483648) : (Int32.ofInt z).toInt = z := by
  rw [Int32.toInt_ofInt, fb_bmod h1 h2]
theorem fb_asI (x : Int32) : Int32.ofInt x.toInt = x := Int32.ofInt_toInt x
theorem fb_rngL (x : Int64) : -9223372036854775808 ≤ x.toInt ∧ x.toInt < 9223372036854775808 := by
  have h1 := Int64.le_toInt x
  have h2 := Int64.toInt_lt x
  omega
theorem fb_bmodL {z : Int} (h1 : -9223372036854775808 ≤ z) (h2 : z < 9223372036854775808) : z.bmod (2 ^ 64) = z := by
  rw [Int.bmod_eq_of_le (by omega) (by omega)]
theorem fb_addL {x y : Int64} (h1 : -9223372036854775808 ≤ x.toInt + y.toInt) (h2 : x.toInt + y.toInt < 9223372036854775808) : (x + y).toInt = x.toInt + y.toInt := by
  rw [Int64.toInt_add, fb_bmodL h1 h2]
theorem fb_subL {x y : Int64} (h1 : -9223372036854775808 ≤ x.toInt - y.toInt) (h2 : x.toInt - y.toInt < 9223372036854775808) : (x - y).toInt = x.toInt - y.toInt := by
  rw [Int64.toInt_sub, fb_bmodL h1 h2]
theorem fb_mulL {x y : Int64} (h1 : -9223372036854775808 ≤ x.toInt * y.toInt) (h2 : x.toInt * y.toInt < 9223372036854775808) : (x * y).toInt = x.toInt * y.toInt := by
  rw [Int64.toInt_mul, fb_bmodL h1 h2]
/-! ===== cuts of what is narrow already ===== -/
theorem fb_byte {x : Int32} (h1 : -128 ≤ x.toInt) (h2 : x.toInt < 128) : x.toInt8.toInt32 = x := by
  apply Int32.toInt_inj.1
  rw [Int8.toInt_toInt32, Int32.toInt_toInt8, Int.bmod_eq_of_le (by omega) (by omega)]
theorem fb_short {x : Int32} (h1 : -32768 ≤ x.toInt) (h2 : x.toInt < 32768) : x.toInt16.toInt32 = x := by
  apply Int32.toInt_inj.1
  rw [Int16.toInt_toInt32, Int32.toInt_toInt16, Int.bmod_eq_of_le (by omega) (by omega)]
theorem fb_byte_rng (x : Int32) : -128 ≤ x.toInt8.toInt32.toInt ∧ x.toInt8.toInt32.toInt < 128 := by
  rw [Int8.toInt_toInt32]
  have h1 := Int8.le_toInt x.toInt8
  have h2 := Int8.toInt_lt x.toInt8
  omega
theorem fb_short_rng (x : Int32) : -32768 ≤ x.toInt16.toInt32.toInt ∧ x.toInt16.toInt32.toInt < 32768 := by
  rw [Int16.toInt_toInt32]
  have h1 := Int16.le_toInt x.toInt16
  have h2 := Int16.toInt_lt x.toInt16
  omega
theorem fb_byte_twice (x : Int32) : x.toInt8.toInt32.toInt8.toInt32 = x.toInt8.toInt32 := fb_byte (fb_byte_rng x).1 (fb_byte_rng x).2
theorem fb_short_twice (x : Int32) : x.toInt16.toInt32.toInt16.toInt32 = x.toInt16.toInt32 := fb_short (fb_short_rng x).1 (fb_short_rng x).2
theorem fb_char {n : Nat} (h : n < 65536) : (nI n).toUInt32.toUInt16.toUInt32.toInt32 = nI n := by
  apply Int32.toBitVec_inj.1
  apply BitVec.eq_of_toNat_eq
  have e1 : (nI n).toBitVec.toNat = n := by
    show (BitVec.ofNat 32 n).toNat = n
    rw [BitVec.toNat_ofNat, Nat.mod_eq_of_lt (by omega)]
  have e2 : ((nI n).toUInt32.toUInt16.toUInt32).toNat = n := by
    rw [UInt16.toNat_toUInt32, UInt32.toNat_toUInt16]
    show (nI n).toBitVec.toNat % 2 ^ 16 = n
    rw [e1, Nat.mod_eq_of_lt (by omega)]
  rw [e1]
  exact e2
end
section
-- ===== PART A: goes FIRST, ahead of the names: the tables' words, and 'selects' of the private methods out of them =====
/-- a private method of a class that the tables say can be made, by its rows of tables_1 -/
def lw_okq (q : MethodName × Nat) : Prop := (q.1.cls ≠ "java/lang/invoke/MethodHandle" ∧ q.1.cls ≠ "java/lang/invoke/VarHandle") ∧ Cond.instantiable q.1.cls q.2 ∈ tables_1 ∧ Cond.privateMethod q.1 ∈ tables_1 ∧ Cond.instanceMethod q.1 ∈ tables_1
theorem lw_p0 : lw_okq (⟨"LanternBoats$Coast", "reset", "()V"⟩, 11) := ⟨⟨by decide +kernel, by decide +kernel⟩, List.mem_of_getElem? (i := 49) (by decide +kernel), List.mem_of_getElem? (i := 150) (by decide +kernel), List.mem_of_getElem? (i := 151) (by decide +kernel)⟩
theorem lw_p1 : lw_okq (⟨"LanternBoats$Text", "signAt", "(I)I"⟩, 5) := ⟨⟨by decide +kernel, by decide +kernel⟩, List.mem_of_getElem? (i := 24) (by decide +kernel), List.mem_of_getElem? (i := 250) (by decide +kernel), List.mem_of_getElem? (i := 251) (by decide +kernel)⟩
theorem lw_p2 : lw_okq (⟨"LanternBoats$Text", "readNumber", "(III)I"⟩, 5) := ⟨⟨by decide +kernel, by decide +kernel⟩, List.mem_of_getElem? (i := 24) (by decide +kernel), List.mem_of_getElem? (i := 277) (by decide +kernel), List.mem_of_getElem? (i := 278) (by decide +kernel)⟩
theorem lw_p3 : lw_okq (⟨"java/lang/Throwable", "fillInStackTrace", "(I)Ljava/lang/Throwable;"⟩, 6) := ⟨⟨by decide +kernel, by decide +kernel⟩, List.mem_of_getElem? (i := 366) (by decide +kernel), List.mem_of_getElem? (i := 364) (by decide +kernel), List.mem_of_getElem? (i := 365) (by decide +kernel)⟩
theorem lw_p4 : lw_okq (⟨"LanternBoats", "obeyCommand", "()Z"⟩, 4) := ⟨⟨by decide +kernel, by decide +kernel⟩, List.mem_of_getElem? (i := 16) (by decide +kernel), List.mem_of_getElem? (i := 436) (by decide +kernel), List.mem_of_getElem? (i := 437) (by decide +kernel)⟩
theorem lw_p5 : lw_okq (⟨"LanternBoats$Coast", "sail", "(LLanternBoats$Boat;)V"⟩, 11) := ⟨⟨by decide +kernel, by decide +kernel⟩, List.mem_of_getElem? (i := 49) (by decide +kernel), List.mem_of_getElem? (i := 532) (by decide +kernel), List.mem_of_getElem? (i := 533) (by decide +kernel)⟩
theorem lw_p6 : lw_okq (⟨"LanternBoats$Coast", "lose", "(LLanternBoats$Boat;)V"⟩, 11) := ⟨⟨by decide +kernel, by decide +kernel⟩, List.mem_of_getElem? (i := 49) (by decide +kernel), List.mem_of_getElem? (i := 541) (by decide +kernel), List.mem_of_getElem? (i := 542) (by decide +kernel)⟩
theorem lw_p7 : lw_okq (⟨"LanternBoats$Coast", "serve", "(LLanternBoats$Boat;I)V"⟩, 11) := ⟨⟨by decide +kernel, by decide +kernel⟩, List.mem_of_getElem? (i := 49) (by decide +kernel), List.mem_of_getElem? (i := 545) (by decide +kernel), List.mem_of_getElem? (i := 546) (by decide +kernel)⟩
theorem lw_p8 : lw_okq (⟨"LanternBoats$Coast", "seekKeeper", "(LLanternBoats$Boat;)V"⟩, 11) := ⟨⟨by decide +kernel, by decide +kernel⟩, List.mem_of_getElem? (i := 49) (by decide +kernel), List.mem_of_getElem? (i := 553) (by decide +kernel), List.mem_of_getElem? (i := 554) (by decide +kernel)⟩
theorem lw_p9 : lw_okq (⟨"LanternBoats$Coast", "bestWish", "(LLanternBoats$Boat;LLanternBoats$Light;)I"⟩, 11) := ⟨⟨by decide +kernel, by decide +kernel⟩, List.mem_of_getElem? (i := 49) (by decide +kernel), List.mem_of_getElem? (i := 567) (by decide +kernel), List.mem_of_getElem? (i := 568) (by decide +kernel)⟩
theorem lw_p10 : lw_okq (⟨"LanternBoats$Coast", "ask", "(LLanternBoats$Boat;)V"⟩, 11) := ⟨⟨by decide +kernel, by decide +kernel⟩, List.mem_of_getElem? (i := 49) (by decide +kernel), List.mem_of_getElem? (i := 571) (by decide +kernel), List.mem_of_getElem? (i := 572) (by decide +kernel)⟩
theorem lw_p11 : lw_okq (⟨"LanternBoats$Coast", "servedBoats", "()I"⟩, 11) := ⟨⟨by decide +kernel, by decide +kernel⟩, List.mem_of_getElem? (i := 49) (by decide +kernel), List.mem_of_getElem? (i := 591) (by decide +kernel), List.mem_of_getElem? (i := 592) (by decide +kernel)⟩
theorem lw_p12 : lw_okq (⟨"LanternBoats$Coast", "talkingBoats", "()I"⟩, 11) := ⟨⟨by decide +kernel, by decide +kernel⟩, List.mem_of_getElem? (i := 49) (by decide +kernel), List.mem_of_getElem? (i := 595) (by decide +kernel), List.mem_of_getElem? (i := 596) (by decide +kernel)⟩
theorem lw_p13 : lw_okq (⟨"LanternBoats$Memory", "stateAt", "(I)LLanternBoats$Coast;"⟩, 5) := ⟨⟨by decide +kernel, by decide +kernel⟩, List.mem_of_getElem? (i := 192) (by decide +kernel), List.mem_of_getElem? (i := 696) (by decide +kernel), List.mem_of_getElem? (i := 697) (by decide +kernel)⟩
theorem lw_p14 : lw_okq (⟨"LanternBoats", "ticksUntilHanded", "(II)I"⟩, 4) := ⟨⟨by decide +kernel, by decide +kernel⟩, List.mem_of_getElem? (i := 16) (by decide +kernel), List.mem_of_getElem? (i := 815) (by decide +kernel), List.mem_of_getElem? (i := 816) (by decide +kernel)⟩
theorem lw_p15 : lw_okq (⟨"LanternBoats", "tryMargin", "(II)V"⟩, 4) := ⟨⟨by decide +kernel, by decide +kernel⟩, List.mem_of_getElem? (i := 16) (by decide +kernel), List.mem_of_getElem? (i := 829) (by decide +kernel), List.mem_of_getElem? (i := 830) (by decide +kernel)⟩
def lw_privs_1 : List (MethodName × Nat) := [(⟨"LanternBoats$Coast", "reset", "()V"⟩, 11), (⟨"LanternBoats$Text", "signAt", "(I)I"⟩, 5), (⟨"LanternBoats$Text", "readNumber", "(III)I"⟩, 5), (⟨"java/lang/Throwable", "fillInStackTrace", "(I)Ljava/lang/Throwable;"⟩, 6), (⟨"LanternBoats", "obeyCommand", "()Z"⟩, 4), (⟨"LanternBoats$Coast", "sail", "(LLanternBoats$Boat;)V"⟩, 11), (⟨"LanternBoats$Coast", "lose", "(LLanternBoats$Boat;)V"⟩, 11), (⟨"LanternBoats$Coast", "serve", "(LLanternBoats$Boat;I)V"⟩, 11), (⟨"LanternBoats$Coast", "seekKeeper", "(LLanternBoats$Boat;)V"⟩, 11), (⟨"LanternBoats$Coast", "bestWish", "(LLanternBoats$Boat;LLanternBoats$Light;)I"⟩, 11), (⟨"LanternBoats$Coast", "ask", "(LLanternBoats$Boat;)V"⟩, 11), (⟨"LanternBoats$Coast", "servedBoats", "()I"⟩, 11), (⟨"LanternBoats$Coast", "talkingBoats", "()I"⟩, 11), (⟨"LanternBoats$Memory", "stateAt", "(I)LLanternBoats$Coast;"⟩, 5), (⟨"LanternBoats", "ticksUntilHanded", "(II)I"⟩, 4), (⟨"LanternBoats", "tryMargin", "(II)V"⟩, 4)]
theorem lw_r1 : ∀ q ∈ lw_privs_1, lw_okq q := List.forall_mem_cons.mpr ⟨lw_p0, List.forall_mem_cons.mpr ⟨lw_p1, List.forall_mem_cons.mpr ⟨lw_p2, List.forall_mem_cons.mpr ⟨lw_p3, List.forall_mem_cons.mpr ⟨lw_p4, List.forall_mem_cons.mpr ⟨lw_p5, List.forall_mem_cons.mpr ⟨lw_p6, List.forall_mem_cons.mpr ⟨lw_p7, List.forall_mem_cons.mpr ⟨lw_p8, List.forall_mem_cons.mpr ⟨lw_p9, List.forall_mem_cons.mpr ⟨lw_p10, List.forall_mem_cons.mpr ⟨lw_p11, List.forall_mem_cons.mpr ⟨lw_p12, List.forall_mem_cons.mpr ⟨lw_p13, List.forall_mem_cons.mpr ⟨lw_p14, List.forall_mem_cons.mpr ⟨lw_p15, fun _ h => absurd h List.not_mem_nil⟩⟩⟩⟩⟩⟩⟩⟩⟩⟩⟩⟩⟩⟩⟩⟩
theorem lw_p16 : lw_okq (⟨"LanternBoats", "gained", "(I)I"⟩, 4) := ⟨⟨by decide +kernel, by decide +kernel⟩, List.mem_of_getElem? (i := 16) (by decide +kernel), List.mem_of_getElem? (i := 833) (by decide +kernel), List.mem_of_getElem? (i := 834) (by decide +kernel)⟩
theorem lw_p17 : lw_okq (⟨"LanternBoats", "runCommand", "(I)Z"⟩, 4) := ⟨⟨by decide +kernel, by decide +kernel⟩, List.mem_of_getElem? (i := 16) (by decide +kernel), List.mem_of_getElem? (i := 866) (by decide +kernel), List.mem_of_getElem? (i := 867) (by decide +kernel)⟩
theorem lw_p18 : lw_okq (⟨"LanternBoats", "takeTurn", "(I)V"⟩, 4) := ⟨⟨by decide +kernel, by decide +kernel⟩, List.mem_of_getElem? (i := 16) (by decide +kernel), List.mem_of_getElem? (i := 899) (by decide +kernel), List.mem_of_getElem? (i := 900) (by decide +kernel)⟩
theorem lw_p19 : lw_okq (⟨"LanternBoats$Memory", "slotAt", "(I)LLanternBoats$Coast;"⟩, 5) := ⟨⟨by decide +kernel, by decide +kernel⟩, List.mem_of_getElem? (i := 192) (by decide +kernel), List.mem_of_getElem? (i := 927) (by decide +kernel), List.mem_of_getElem? (i := 928) (by decide +kernel)⟩
theorem lw_p20 : lw_okq (⟨"LanternBoatsModel", "begins", "()V"⟩, 14) := ⟨⟨by decide +kernel, by decide +kernel⟩, List.mem_of_getElem? (i := 948) (by decide +kernel), List.mem_of_getElem? (i := 954) (by decide +kernel), List.mem_of_getElem? (i := 955) (by decide +kernel)⟩
theorem lw_p21 : lw_okq (⟨"LanternBoatsModel", "fails", "(I)I"⟩, 14) := ⟨⟨by decide +kernel, by decide +kernel⟩, List.mem_of_getElem? (i := 948) (by decide +kernel), List.mem_of_getElem? (i := 1013) (by decide +kernel), List.mem_of_getElem? (i := 1014) (by decide +kernel)⟩
theorem lw_p22 : lw_okq (⟨"LanternBoatsModel", "readsAll", "(Z)V"⟩, 14) := ⟨⟨by decide +kernel, by decide +kernel⟩, List.mem_of_getElem? (i := 948) (by decide +kernel), List.mem_of_getElem? (i := 1025) (by decide +kernel), List.mem_of_getElem? (i := 1026) (by decide +kernel)⟩
theorem lw_p23 : lw_okq (⟨"LanternBoatsModel", "sign", "()I"⟩, 14) := ⟨⟨by decide +kernel, by decide +kernel⟩, List.mem_of_getElem? (i := 948) (by decide +kernel), List.mem_of_getElem? (i := 1029) (by decide +kernel), List.mem_of_getElem? (i := 1030) (by decide +kernel)⟩
theorem lw_p24 : lw_okq (⟨"LanternBoatsModel", "carriesLight", "()I"⟩, 14) := ⟨⟨by decide +kernel, by decide +kernel⟩, List.mem_of_getElem? (i := 948) (by decide +kernel), List.mem_of_getElem? (i := 1036) (by decide +kernel), List.mem_of_getElem? (i := 1037) (by decide +kernel)⟩
theorem lw_p25 : lw_okq (⟨"LanternBoatsModel", "number", "(III)I"⟩, 14) := ⟨⟨by decide +kernel, by decide +kernel⟩, List.mem_of_getElem? (i := 948) (by decide +kernel), List.mem_of_getElem? (i := 1040) (by decide +kernel), List.mem_of_getElem? (i := 1041) (by decide +kernel)⟩
theorem lw_p26 : lw_okq (⟨"LanternBoatsModel", "actsLight", "(IIIIII)I"⟩, 14) := ⟨⟨by decide +kernel, by decide +kernel⟩, List.mem_of_getElem? (i := 948) (by decide +kernel), List.mem_of_getElem? (i := 1044) (by decide +kernel), List.mem_of_getElem? (i := 1045) (by decide +kernel)⟩
theorem lw_p27 : lw_okq (⟨"LanternBoatsModel", "addsLight", "(IIIIII)I"⟩, 14) := ⟨⟨by decide +kernel, by decide +kernel⟩, List.mem_of_getElem? (i := 948) (by decide +kernel), List.mem_of_getElem? (i := 1054) (by decide +kernel), List.mem_of_getElem? (i := 1055) (by decide +kernel)⟩
theorem lw_p28 : lw_okq (⟨"LanternBoatsModel", "carries", "(I)I"⟩, 14) := ⟨⟨by decide +kernel, by decide +kernel⟩, List.mem_of_getElem? (i := 948) (by decide +kernel), List.mem_of_getElem? (i := 1058) (by decide +kernel), List.mem_of_getElem? (i := 1059) (by decide +kernel)⟩
theorem lw_p29 : lw_okq (⟨"LanternBoatsModel", "actsBoat", "(II)I"⟩, 14) := ⟨⟨by decide +kernel, by decide +kernel⟩, List.mem_of_getElem? (i := 948) (by decide +kernel), List.mem_of_getElem? (i := 1062) (by decide +kernel), List.mem_of_getElem? (i := 1063) (by decide +kernel)⟩
theorem lw_p30 : lw_okq (⟨"LanternBoatsModel", "addsBoat", "(II)I"⟩, 14) := ⟨⟨by decide +kernel, by decide +kernel⟩, List.mem_of_getElem? (i := 948) (by decide +kernel), List.mem_of_getElem? (i := 1066) (by decide +kernel), List.mem_of_getElem? (i := 1067) (by decide +kernel)⟩
theorem lw_p31 : lw_okq (⟨"LanternBoatsModel", "layBoat", "(III)V"⟩, 14) := ⟨⟨by decide +kernel, by decide +kernel⟩, List.mem_of_getElem? (i := 948) (by decide +kernel), List.mem_of_getElem? (i := 1070) (by decide +kernel), List.mem_of_getElem? (i := 1071) (by decide +kernel)⟩
def lw_privs_2 : List (MethodName × Nat) := [(⟨"LanternBoats", "gained", "(I)I"⟩, 4), (⟨"LanternBoats", "runCommand", "(I)Z"⟩, 4), (⟨"LanternBoats", "takeTurn", "(I)V"⟩, 4), (⟨"LanternBoats$Memory", "slotAt", "(I)LLanternBoats$Coast;"⟩, 5), (⟨"LanternBoatsModel", "begins", "()V"⟩, 14), (⟨"LanternBoatsModel", "fails", "(I)I"⟩, 14), (⟨"LanternBoatsModel", "readsAll", "(Z)V"⟩, 14), (⟨"LanternBoatsModel", "sign", "()I"⟩, 14), (⟨"LanternBoatsModel", "carriesLight", "()I"⟩, 14), (⟨"LanternBoatsModel", "number", "(III)I"⟩, 14), (⟨"LanternBoatsModel", "actsLight", "(IIIIII)I"⟩, 14), (⟨"LanternBoatsModel", "addsLight", "(IIIIII)I"⟩, 14), (⟨"LanternBoatsModel", "carries", "(I)I"⟩, 14), (⟨"LanternBoatsModel", "actsBoat", "(II)I"⟩, 14), (⟨"LanternBoatsModel", "addsBoat", "(II)I"⟩, 14), (⟨"LanternBoatsModel", "layBoat", "(III)V"⟩, 14)]
theorem lw_r2 : ∀ q ∈ lw_privs_2, lw_okq q := List.forall_mem_cons.mpr ⟨lw_p16, List.forall_mem_cons.mpr ⟨lw_p17, List.forall_mem_cons.mpr ⟨lw_p18, List.forall_mem_cons.mpr ⟨lw_p19, List.forall_mem_cons.mpr ⟨lw_p20, List.forall_mem_cons.mpr ⟨lw_p21, List.forall_mem_cons.mpr ⟨lw_p22, List.forall_mem_cons.mpr ⟨lw_p23, List.forall_mem_cons.mpr ⟨lw_p24, List.forall_mem_cons.mpr ⟨lw_p25, List.forall_mem_cons.mpr ⟨lw_p26, List.forall_mem_cons.mpr ⟨lw_p27, List.forall_mem_cons.mpr ⟨lw_p28, List.forall_mem_cons.mpr ⟨lw_p29, List.forall_mem_cons.mpr ⟨lw_p30, List.forall_mem_cons.mpr ⟨lw_p31, fun _ h => absurd h List.not_mem_nil⟩⟩⟩⟩⟩⟩⟩⟩⟩⟩⟩⟩⟩⟩⟩⟩
theorem lw_p32 : lw_okq (⟨"LanternBoatsModel", "actsSteer", "(II)I"⟩, 14) := ⟨⟨by decide +kernel, by decide +kernel⟩, List.mem_of_getElem? (i := 948) (by decide +kernel), List.mem_of_getElem? (i := 1074) (by decide +kernel), List.mem_of_getElem? (i := 1075) (by decide +kernel)⟩
theorem lw_p33 : lw_okq (⟨"LanternBoatsModel", "isBoat", "(I)Z"⟩, 14) := ⟨⟨by decide +kernel, by decide +kernel⟩, List.mem_of_getElem? (i := 948) (by decide +kernel), List.mem_of_getElem? (i := 1078) (by decide +kernel), List.mem_of_getElem? (i := 1079) (by decide +kernel)⟩
theorem lw_p34 : lw_okq (⟨"LanternBoatsModel", "actsTalk", "(II)I"⟩, 14) := ⟨⟨by decide +kernel, by decide +kernel⟩, List.mem_of_getElem? (i := 948) (by decide +kernel), List.mem_of_getElem? (i := 1082) (by decide +kernel), List.mem_of_getElem? (i := 1083) (by decide +kernel)⟩
theorem lw_p35 : lw_okq (⟨"LanternBoatsModel", "canTalk", "(I)Z"⟩, 14) := ⟨⟨by decide +kernel, by decide +kernel⟩, List.mem_of_getElem? (i := 948) (by decide +kernel), List.mem_of_getElem? (i := 1086) (by decide +kernel), List.mem_of_getElem? (i := 1087) (by decide +kernel)⟩
theorem lw_p36 : lw_okq (⟨"LanternBoatsModel", "ofBoat", "(II)I"⟩, 14) := ⟨⟨by decide +kernel, by decide +kernel⟩, List.mem_of_getElem? (i := 948) (by decide +kernel), List.mem_of_getElem? (i := 1090) (by decide +kernel), List.mem_of_getElem? (i := 1091) (by decide +kernel)⟩
theorem lw_p37 : lw_okq (⟨"LanternBoatsModel", "actsSet", "(II)I"⟩, 14) := ⟨⟨by decide +kernel, by decide +kernel⟩, List.mem_of_getElem? (i := 948) (by decide +kernel), List.mem_of_getElem? (i := 1094) (by decide +kernel), List.mem_of_getElem? (i := 1095) (by decide +kernel)⟩
theorem lw_p38 : lw_okq (⟨"LanternBoatsModel", "actsTicks", "(I)I"⟩, 14) := ⟨⟨by decide +kernel, by decide +kernel⟩, List.mem_of_getElem? (i := 948) (by decide +kernel), List.mem_of_getElem? (i := 1104) (by decide +kernel), List.mem_of_getElem? (i := 1105) (by decide +kernel)⟩
theorem lw_p39 : lw_okq (⟨"LanternBoatsModel", "goesBy", "(II)I"⟩, 14) := ⟨⟨by decide +kernel, by decide +kernel⟩, List.mem_of_getElem? (i := 948) (by decide +kernel), List.mem_of_getElem? (i := 1108) (by decide +kernel), List.mem_of_getElem? (i := 1109) (by decide +kernel)⟩
theorem lw_p40 : lw_okq (⟨"LanternBoatsModel", "goesTick", "()V"⟩, 14) := ⟨⟨by decide +kernel, by decide +kernel⟩, List.mem_of_getElem? (i := 948) (by decide +kernel), List.mem_of_getElem? (i := 1112) (by decide +kernel), List.mem_of_getElem? (i := 1113) (by decide +kernel)⟩
theorem lw_p41 : lw_okq (⟨"LanternBoatsModel", "goesOn", "(I)V"⟩, 14) := ⟨⟨by decide +kernel, by decide +kernel⟩, List.mem_of_getElem? (i := 948) (by decide +kernel), List.mem_of_getElem? (i := 1116) (by decide +kernel), List.mem_of_getElem? (i := 1117) (by decide +kernel)⟩
theorem lw_p42 : lw_okq (⟨"LanternBoatsModel", "sails", "(I)V"⟩, 14) := ⟨⟨by decide +kernel, by decide +kernel⟩, List.mem_of_getElem? (i := 948) (by decide +kernel), List.mem_of_getElem? (i := 1120) (by decide +kernel), List.mem_of_getElem? (i := 1121) (by decide +kernel)⟩
theorem lw_p43 : lw_okq (⟨"LanternBoatsModel", "bright", "(II)I"⟩, 14) := ⟨⟨by decide +kernel, by decide +kernel⟩, List.mem_of_getElem? (i := 948) (by decide +kernel), List.mem_of_getElem? (i := 1124) (by decide +kernel), List.mem_of_getElem? (i := 1125) (by decide +kernel)⟩
theorem lw_p44 : lw_okq (⟨"LanternBoatsModel", "of", "(II)I"⟩, 14) := ⟨⟨by decide +kernel, by decide +kernel⟩, List.mem_of_getElem? (i := 948) (by decide +kernel), List.mem_of_getElem? (i := 1128) (by decide +kernel), List.mem_of_getElem? (i := 1129) (by decide +kernel)⟩
theorem lw_p45 : lw_okq (⟨"LanternBoatsModel", "drops", "(I)V"⟩, 14) := ⟨⟨by decide +kernel, by decide +kernel⟩, List.mem_of_getElem? (i := 948) (by decide +kernel), List.mem_of_getElem? (i := 1132) (by decide +kernel), List.mem_of_getElem? (i := 1133) (by decide +kernel)⟩
theorem lw_p46 : lw_okq (⟨"LanternBoatsModel", "wishes", "(I)V"⟩, 14) := ⟨⟨by decide +kernel, by decide +kernel⟩, List.mem_of_getElem? (i := 948) (by decide +kernel), List.mem_of_getElem? (i := 1136) (by decide +kernel), List.mem_of_getElem? (i := 1137) (by decide +kernel)⟩
theorem lw_p47 : lw_okq (⟨"LanternBoatsModel", "wished", "(I)I"⟩, 14) := ⟨⟨by decide +kernel, by decide +kernel⟩, List.mem_of_getElem? (i := 948) (by decide +kernel), List.mem_of_getElem? (i := 1140) (by decide +kernel), List.mem_of_getElem? (i := 1141) (by decide +kernel)⟩
def lw_privs_3 : List (MethodName × Nat) := [(⟨"LanternBoatsModel", "actsSteer", "(II)I"⟩, 14), (⟨"LanternBoatsModel", "isBoat", "(I)Z"⟩, 14), (⟨"LanternBoatsModel", "actsTalk", "(II)I"⟩, 14), (⟨"LanternBoatsModel", "canTalk", "(I)Z"⟩, 14), (⟨"LanternBoatsModel", "ofBoat", "(II)I"⟩, 14), (⟨"LanternBoatsModel", "actsSet", "(II)I"⟩, 14), (⟨"LanternBoatsModel", "actsTicks", "(I)I"⟩, 14), (⟨"LanternBoatsModel", "goesBy", "(II)I"⟩, 14), (⟨"LanternBoatsModel", "goesTick", "()V"⟩, 14), (⟨"LanternBoatsModel", "goesOn", "(I)V"⟩, 14), (⟨"LanternBoatsModel", "sails", "(I)V"⟩, 14), (⟨"LanternBoatsModel", "bright", "(II)I"⟩, 14), (⟨"LanternBoatsModel", "of", "(II)I"⟩, 14), (⟨"LanternBoatsModel", "drops", "(I)V"⟩, 14), (⟨"LanternBoatsModel", "wishes", "(I)V"⟩, 14), (⟨"LanternBoatsModel", "wished", "(I)I"⟩, 14)]
theorem lw_r3 : ∀ q ∈ lw_privs_3, lw_okq q := List.forall_mem_cons.mpr ⟨lw_p32, List.forall_mem_cons.mpr ⟨lw_p33, List.forall_mem_cons.mpr ⟨lw_p34, List.forall_mem_cons.mpr ⟨lw_p35, List.forall_mem_cons.mpr ⟨lw_p36, List.forall_mem_cons.mpr ⟨lw_p37, List.forall_mem_cons.mpr ⟨lw_p38, List.forall_mem_cons.mpr ⟨lw_p39, List.forall_mem_cons.mpr ⟨lw_p40, List.forall_mem_cons.mpr ⟨lw_p41, List.forall_mem_cons.mpr ⟨lw_p42, List.forall_mem_cons.mpr ⟨lw_p43, List.forall_mem_cons.mpr ⟨lw_p44, List.forall_mem_cons.mpr ⟨lw_p45, List.forall_mem_cons.mpr ⟨lw_p46, List.forall_mem_cons.mpr ⟨lw_p47, fun _ h => absurd h List.not_mem_nil⟩⟩⟩⟩⟩⟩⟩⟩⟩⟩⟩⟩⟩⟩⟩⟩
theorem lw_p48 : lw_okq (⟨"LanternBoatsModel", "worth", "(II)I"⟩, 14) := ⟨⟨by decide +kernel, by decide +kernel⟩, List.mem_of_getElem? (i := 948) (by decide +kernel), List.mem_of_getElem? (i := 1144) (by decide +kernel), List.mem_of_getElem? (i := 1145) (by decide +kernel)⟩
theorem lw_p49 : lw_okq (⟨"LanternBoatsModel", "serves", "(I)I"⟩, 14) := ⟨⟨by decide +kernel, by decide +kernel⟩, List.mem_of_getElem? (i := 948) (by decide +kernel), List.mem_of_getElem? (i := 1148) (by decide +kernel), List.mem_of_getElem? (i := 1149) (by decide +kernel)⟩
theorem lw_p50 : lw_okq (⟨"LanternBoatsModel", "hands", "(II)V"⟩, 14) := ⟨⟨by decide +kernel, by decide +kernel⟩, List.mem_of_getElem? (i := 948) (by decide +kernel), List.mem_of_getElem? (i := 1152) (by decide +kernel), List.mem_of_getElem? (i := 1153) (by decide +kernel)⟩
theorem lw_p51 : lw_okq (⟨"LanternBoatsModel", "finds", "(I)V"⟩, 14) := ⟨⟨by decide +kernel, by decide +kernel⟩, List.mem_of_getElem? (i := 948) (by decide +kernel), List.mem_of_getElem? (i := 1156) (by decide +kernel), List.mem_of_getElem? (i := 1157) (by decide +kernel)⟩
theorem lw_p52 : lw_okq (⟨"LanternBoatsModel", "tellsAbout", "(I)I"⟩, 14) := ⟨⟨by decide +kernel, by decide +kernel⟩, List.mem_of_getElem? (i := 948) (by decide +kernel), List.mem_of_getElem? (i := 1168) (by decide +kernel), List.mem_of_getElem? (i := 1169) (by decide +kernel)⟩
theorem lw_p53 : lw_okq (⟨"LanternBoatsModel", "boatsThat", "(I)I"⟩, 14) := ⟨⟨by decide +kernel, by decide +kernel⟩, List.mem_of_getElem? (i := 948) (by decide +kernel), List.mem_of_getElem? (i := 1172) (by decide +kernel), List.mem_of_getElem? (i := 1173) (by decide +kernel)⟩
theorem lw_p54 : lw_okq (⟨"LanternBoatsModel", "isLight", "(I)Z"⟩, 14) := ⟨⟨by decide +kernel, by decide +kernel⟩, List.mem_of_getElem? (i := 948) (by decide +kernel), List.mem_of_getElem? (i := 1180) (by decide +kernel), List.mem_of_getElem? (i := 1181) (by decide +kernel)⟩
theorem lw_p55 : lw_okq (⟨"LanternBoatsModel", "servedBy", "(I)I"⟩, 14) := ⟨⟨by decide +kernel, by decide +kernel⟩, List.mem_of_getElem? (i := 948) (by decide +kernel), List.mem_of_getElem? (i := 1184) (by decide +kernel), List.mem_of_getElem? (i := 1185) (by decide +kernel)⟩
theorem lw_p56 : lw_okq (⟨"LanternBoatsModel", "best", "(I)I"⟩, 14) := ⟨⟨by decide +kernel, by decide +kernel⟩, List.mem_of_getElem? (i := 948) (by decide +kernel), List.mem_of_getElem? (i := 1200) (by decide +kernel), List.mem_of_getElem? (i := 1201) (by decide +kernel)⟩
theorem lw_p57 : lw_okq (⟨"LanternBoatsModel", "saves", "()V"⟩, 14) := ⟨⟨by decide +kernel, by decide +kernel⟩, List.mem_of_getElem? (i := 948) (by decide +kernel), List.mem_of_getElem? (i := 1212) (by decide +kernel), List.mem_of_getElem? (i := 1213) (by decide +kernel)⟩
theorem lw_p58 : lw_okq (⟨"LanternBoatsModel", "actsLean", "(II)I"⟩, 14) := ⟨⟨by decide +kernel, by decide +kernel⟩, List.mem_of_getElem? (i := 948) (by decide +kernel), List.mem_of_getElem? (i := 1232) (by decide +kernel), List.mem_of_getElem? (i := 1233) (by decide +kernel)⟩
theorem lw_p59 : lw_okq (⟨"LanternBoatsModel", "actsDim", "(II)I"⟩, 14) := ⟨⟨by decide +kernel, by decide +kernel⟩, List.mem_of_getElem? (i := 948) (by decide +kernel), List.mem_of_getElem? (i := 1240) (by decide +kernel), List.mem_of_getElem? (i := 1241) (by decide +kernel)⟩
theorem lw_p60 : lw_okq (⟨"LanternBoatsModel", "putAside", "()V"⟩, 14) := ⟨⟨by decide +kernel, by decide +kernel⟩, List.mem_of_getElem? (i := 948) (by decide +kernel), List.mem_of_getElem? (i := 1260) (by decide +kernel), List.mem_of_getElem? (i := 1261) (by decide +kernel)⟩
theorem lw_p61 : lw_okq (⟨"LanternBoatsModel", "takeBack", "()V"⟩, 14) := ⟨⟨by decide +kernel, by decide +kernel⟩, List.mem_of_getElem? (i := 948) (by decide +kernel), List.mem_of_getElem? (i := 1264) (by decide +kernel), List.mem_of_getElem? (i := 1265) (by decide +kernel)⟩
theorem lw_p62 : lw_okq (⟨"LanternBoatsModel", "bringsBy", "(III)I"⟩, 14) := ⟨⟨by decide +kernel, by decide +kernel⟩, List.mem_of_getElem? (i := 948) (by decide +kernel), List.mem_of_getElem? (i := 1272) (by decide +kernel), List.mem_of_getElem? (i := 1273) (by decide +kernel)⟩
theorem lw_p63 : lw_okq (⟨"LanternBoatsModel", "laysFigures", "(J)V"⟩, 14) := ⟨⟨by decide +kernel, by decide +kernel⟩, List.mem_of_getElem? (i := 948) (by decide +kernel), List.mem_of_getElem? (i := 1297) (by decide +kernel), List.mem_of_getElem? (i := 1298) (by decide +kernel)⟩
def lw_privs_4 : List (MethodName × Nat) := [(⟨"LanternBoatsModel", "worth", "(II)I"⟩, 14), (⟨"LanternBoatsModel", "serves", "(I)I"⟩, 14), (⟨"LanternBoatsModel", "hands", "(II)V"⟩, 14), (⟨"LanternBoatsModel", "finds", "(I)V"⟩, 14), (⟨"LanternBoatsModel", "tellsAbout", "(I)I"⟩, 14), (⟨"LanternBoatsModel", "boatsThat", "(I)I"⟩, 14), (⟨"LanternBoatsModel", "isLight", "(I)Z"⟩, 14), (⟨"LanternBoatsModel", "servedBy", "(I)I"⟩, 14), (⟨"LanternBoatsModel", "best", "(I)I"⟩, 14), (⟨"LanternBoatsModel", "saves", "()V"⟩, 14), (⟨"LanternBoatsModel", "actsLean", "(II)I"⟩, 14), (⟨"LanternBoatsModel", "actsDim", "(II)I"⟩, 14), (⟨"LanternBoatsModel", "putAside", "()V"⟩, 14), (⟨"LanternBoatsModel", "takeBack", "()V"⟩, 14), (⟨"LanternBoatsModel", "bringsBy", "(III)I"⟩, 14), (⟨"LanternBoatsModel", "laysFigures", "(J)V"⟩, 14)]
theorem lw_r4 : ∀ q ∈ lw_privs_4, lw_okq q := List.forall_mem_cons.mpr ⟨lw_p48, List.forall_mem_cons.mpr ⟨lw_p49, List.forall_mem_cons.mpr ⟨lw_p50, List.forall_mem_cons.mpr ⟨lw_p51, List.forall_mem_cons.mpr ⟨lw_p52, List.forall_mem_cons.mpr ⟨lw_p53, List.forall_mem_cons.mpr ⟨lw_p54, List.forall_mem_cons.mpr ⟨lw_p55, List.forall_mem_cons.mpr ⟨lw_p56, List.forall_mem_cons.mpr ⟨lw_p57, List.forall_mem_cons.mpr ⟨lw_p58, List.forall_mem_cons.mpr ⟨lw_p59, List.forall_mem_cons.mpr ⟨lw_p60, List.forall_mem_cons.mpr ⟨lw_p61, List.forall_mem_cons.mpr ⟨lw_p62, List.forall_mem_cons.mpr ⟨lw_p63, fun _ h => absurd h List.not_mem_nil⟩⟩⟩⟩⟩⟩⟩⟩⟩⟩⟩⟩⟩⟩⟩⟩
theorem lw_p64 : lw_okq (⟨"LanternBoatsModel", "succeeds", "()Z"⟩, 14) := ⟨⟨by decide +kernel, by decide +kernel⟩, List.mem_of_getElem? (i := 948) (by decide +kernel), List.mem_of_getElem? (i := 1302) (by decide +kernel), List.mem_of_getElem? (i := 1303) (by decide +kernel)⟩
theorem lw_p65 : lw_okq (⟨"LanternBoatsModel", "pair", "(I)I"⟩, 14) := ⟨⟨by decide +kernel, by decide +kernel⟩, List.mem_of_getElem? (i := 948) (by decide +kernel), List.mem_of_getElem? (i := 1306) (by decide +kernel), List.mem_of_getElem? (i := 1307) (by decide +kernel)⟩
theorem lw_p66 : lw_okq (⟨"LanternBoatsModel", "turns", "(I)V"⟩, 14) := ⟨⟨by decide +kernel, by decide +kernel⟩, List.mem_of_getElem? (i := 948) (by decide +kernel), List.mem_of_getElem? (i := 1316) (by decide +kernel), List.mem_of_getElem? (i := 1317) (by decide +kernel)⟩
def lw_privs_5 : List (MethodName × Nat) := [(⟨"LanternBoatsModel", "succeeds", "()Z"⟩, 14), (⟨"LanternBoatsModel", "pair", "(I)I"⟩, 14), (⟨"LanternBoatsModel", "turns", "(I)V"⟩, 14)]
theorem lw_r5 : ∀ q ∈ lw_privs_5, lw_okq q := List.forall_mem_cons.mpr ⟨lw_p64, List.forall_mem_cons.mpr ⟨lw_p65, List.forall_mem_cons.mpr ⟨lw_p66, fun _ h => absurd h List.not_mem_nil⟩⟩⟩
def lw_privs : List (MethodName × Nat) := lw_privs_1 ++ (lw_privs_2 ++ (lw_privs_3 ++ (lw_privs_4 ++ (lw_privs_5))))
def lw_tbl : List Cond := k2_sels lw_privs ++ tables_1
theorem lw_privs_ok : ∀ q ∈ lw_privs, lw_okq q := by
  show ∀ q ∈ lw_privs_1 ++ (lw_privs_2 ++ (lw_privs_3 ++ (lw_privs_4 ++ (lw_privs_5)))), lw_okq q
  exact List.forall_mem_append.mpr ⟨lw_r1, List.forall_mem_append.mpr ⟨lw_r2, List.forall_mem_append.mpr ⟨lw_r3, List.forall_mem_append.mpr ⟨lw_r4, lw_r5⟩⟩⟩⟩
def RX0 : String := "LanternBoats$Boat"
def TX0 : u_T := fun k => match k with
  | 0 => ("LanternBoats$Boat", "bit", "I", true)
  | 1 => ("LanternBoats$Boat", "place", "I", false)
  | 2 => ("LanternBoats$Boat", "speed", "I", false)
  | 3 => ("LanternBoats$Boat", "keeper", "I", false)
  | 4 => ("LanternBoats$Boat", "talkLeft", "I", false)
  | 5 => ("LanternBoats$Boat", "wish", "I", false)
  | 6 => ("LanternBoats$Boat", "wishTicks", "I", false)
  | 7 => ("LanternBoats$Boat", "leftLast", "I", false)
  | 8 => ("LanternBoats$Boat", "leftTime", "I", false)
  | 9 => ("LanternBoats$Boat", "handed", "I", false)
  | _ => ("LanternBoats$Boat", "back", "I", false)
def tyX0 : Nat → FieldType := fun k => match k with
  | 0 => .int
  | 1 => .int
  | 2 => .int
  | 3 => .int
  | 4 => .int
  | 5 => .int
  | 6 => .int
  | 7 => .int
  | 8 => .int
  | 9 => .int
  | _ => .int
abbrev wsX00 : List Cond := u_ws RX0 TX0 11
theorem nmX0 : ∀ a, a < 11 → ∀ b, b < 11 → a ≠ b → (TX0 a).2.1 ≠ (TX0 b).2.1 := by decide +kernel
theorem tyX0_ok : ∀ k, k < 11 → parseFieldDescriptor (TX0 k).2.2.1 = some (tyX0 k) := by decide +kernel
abbrev cX0_init : ByteArray := prog_2_method_1_code
def yX0_init : MethodName := ⟨RX0, "<init>", "(I)V"⟩
abbrev cX0_begin : ByteArray := prog_2_method_2_code
def yX0_begin : MethodName := ⟨RX0, "begin", "(II)V"⟩
abbrev cX0_copyFrom : ByteArray := prog_2_method_3_code
def yX0_copyFrom : MethodName := ⟨RX0, "copyFrom", "(LLanternBoats$Boat;)V"⟩
abbrev cX0_numberOf : ByteArray := prog_2_method_4_code
def yX0_numberOf : MethodName := ⟨RX0, "numberOf", "(I)I"⟩
abbrev cX0_move : ByteArray := prog_2_method_5_code
def yX0_move : MethodName := ⟨RX0, "move", "()V"⟩
abbrev cX0_wishFor : ByteArray := prog_2_method_6_code
def yX0_wishFor : MethodName := ⟨RX0, "wishFor", "(I)V"⟩
def RX1 : String := "LanternBoats$Coast"
def TX1 : u_T := fun k => match k with
  | 0 => ("LanternBoats$Coast", "lights", "[LLanternBoats$Light;", true)
  | 1 => ("LanternBoats$Coast", "boats", "[LLanternBoats$Boat;", true)
  | 2 => ("LanternBoats$Coast", "settings", "[I", true)
  | 3 => ("LanternBoats$Coast", "lightCount", "I", false)
  | 4 => ("LanternBoats$Coast", "boatCount", "I", false)
  | 5 => ("LanternBoats$Coast", "time", "I", false)
  | 6 => ("LanternBoats$Coast", "handed", "I", false)
  | 7 => ("LanternBoats$Coast", "back", "I", false)
  | 8 => ("LanternBoats$Coast", "refused", "I", false)
  | 9 => ("LanternBoats$Coast", "lost", "I", false)
  | _ => ("LanternBoats$Coast", "taken", "I", false)
def tyX1 : Nat → FieldType := fun k => match k with
  | 0 => .array (.object "LanternBoats$Light")
  | 1 => .array (.object "LanternBoats$Boat")
  | 2 => .array .int
  | 3 => .int
  | 4 => .int
  | 5 => .int
  | 6 => .int
  | 7 => .int
  | 8 => .int
  | 9 => .int
  | _ => .int
abbrev wsX10 : List Cond := u_ws RX1 TX1 11
theorem nmX1 : ∀ a, a < 11 → ∀ b, b < 11 → a ≠ b → (TX1 a).2.1 ≠ (TX1 b).2.1 := by decide +kernel
theorem tyX1_ok : ∀ k, k < 11 → parseFieldDescriptor (TX1 k).2.2.1 = some (tyX1 k) := by decide +kernel
abbrev cX1_init : ByteArray := prog_3_method_1_code
def yX1_init : MethodName := ⟨RX1, "<init>", "()V"⟩
abbrev cX1_reset : ByteArray := prog_3_method_2_code
def yX1_reset : MethodName := ⟨RX1, "reset", "()V"⟩
abbrev cX1_copyFrom : ByteArray := prog_3_method_3_code
def yX1_copyFrom : MethodName := ⟨RX1, "copyFrom", "(LLanternBoats$Coast;)V"⟩
abbrev cX1_lightAt : ByteArray := prog_3_method_4_code
def yX1_lightAt : MethodName := ⟨RX1, "lightAt", "(I)LLanternBoats$Light;"⟩
abbrev cX1_boatAt : ByteArray := prog_3_method_5_code
def yX1_boatAt : MethodName := ⟨RX1, "boatAt", "(I)LLanternBoats$Boat;"⟩
abbrev cX1_settingOf : ByteArray := prog_3_method_6_code
def yX1_settingOf : MethodName := ⟨RX1, "settingOf", "(I)I"⟩
abbrev cX1_numberOf : ByteArray := prog_3_method_7_code
def yX1_numberOf : MethodName := ⟨RX1, "numberOf", "(I)I"⟩
abbrev cX1_servedBoats : ByteArray := prog_3_method_8_code
def yX1_servedBoats : MethodName := ⟨RX1, "servedBoats", "()I"⟩
abbrev cX1_talkingBoats : ByteArray := prog_3_method_9_code
def yX1_talkingBoats : MethodName := ⟨RX1, "talkingBoats", "()I"⟩
abbrev cX1_brightest : ByteArray := prog_3_method_10_code
def yX1_brightest : MethodName := ⟨RX1, "brightest", "(I)I"⟩
abbrev cX1_isDark : ByteArray := prog_3_method_11_code
def yX1_isDark : MethodName := ⟨RX1, "isDark", "(I)Z"⟩
abbrev cX1_freePlaces : ByteArray := prog_3_method_12_code
def yX1_freePlaces : MethodName := ⟨RX1, "freePlaces", "()I"⟩
abbrev cX1_isServing : ByteArray := prog_3_method_13_code
def yX1_isServing : MethodName := ⟨RX1, "isServing", "(II)Z"⟩
abbrev cX1_isServingAtLeast : ByteArray := prog_3_method_14_code
def yX1_isServingAtLeast : MethodName := ⟨RX1, "isServingAtLeast", "(II)Z"⟩
abbrev cX1_isBoatAt : ByteArray := prog_3_method_15_code
def yX1_isBoatAt : MethodName := ⟨RX1, "isBoatAt", "(II)Z"⟩
abbrev cX1_lightFault : ByteArray := prog_3_method_16_code
def yX1_lightFault : MethodName := ⟨RX1, "lightFault", "(IIIIII)I"⟩
abbrev cX1_boatFault : ByteArray := prog_3_method_17_code
def yX1_boatFault : MethodName := ⟨RX1, "boatFault", "(II)I"⟩
abbrev cX1_steerFault : ByteArray := prog_3_method_18_code
def yX1_steerFault : MethodName := ⟨RX1, "steerFault", "(II)I"⟩
abbrev cX1_talkFault : ByteArray := prog_3_method_19_code
def yX1_talkFault : MethodName := ⟨RX1, "talkFault", "(II)I"⟩
abbrev cX1_leanFault : ByteArray := prog_3_method_20_code
def yX1_leanFault : MethodName := ⟨RX1, "leanFault", "(II)I"⟩
abbrev cX1_dimFault : ByteArray := prog_3_method_21_code
def yX1_dimFault : MethodName := ⟨RX1, "dimFault", "(II)I"⟩
abbrev cX1_addLight : ByteArray := prog_3_method_22_code
def yX1_addLight : MethodName := ⟨RX1, "addLight", "(IIIIII)I"⟩
abbrev cX1_addBoat : ByteArray := prog_3_method_23_code
def yX1_addBoat : MethodName := ⟨RX1, "addBoat", "(II)I"⟩
abbrev cX1_putSpeed : ByteArray := prog_3_method_24_code
def yX1_putSpeed : MethodName := ⟨RX1, "putSpeed", "(II)I"⟩
abbrev cX1_putTalk : ByteArray := prog_3_method_25_code
def yX1_putTalk : MethodName := ⟨RX1, "putTalk", "(II)I"⟩
abbrev cX1_putLeaning : ByteArray := prog_3_method_26_code
def yX1_putLeaning : MethodName := ⟨RX1, "putLeaning", "(II)I"⟩
abbrev cX1_putStrength : ByteArray := prog_3_method_27_code
def yX1_putStrength : MethodName := ⟨RX1, "putStrength", "(II)I"⟩
abbrev cX1_putSetting : ByteArray := prog_3_method_28_code
def yX1_putSetting : MethodName := ⟨RX1, "putSetting", "(II)I"⟩
abbrev cX1_tryLight : ByteArray := prog_3_method_29_code
def yX1_tryLight : MethodName := ⟨RX1, "tryLight", "(IIIIII)Z"⟩
abbrev cX1_tryBoat : ByteArray := prog_3_method_30_code
def yX1_tryBoat : MethodName := ⟨RX1, "tryBoat", "(II)Z"⟩
abbrev cX1_trySteer : ByteArray := prog_3_method_31_code
def yX1_trySteer : MethodName := ⟨RX1, "trySteer", "(II)Z"⟩
abbrev cX1_tryTalk : ByteArray := prog_3_method_32_code
def yX1_tryTalk : MethodName := ⟨RX1, "tryTalk", "(II)Z"⟩
abbrev cX1_tryLean : ByteArray := prog_3_method_33_code
def yX1_tryLean : MethodName := ⟨RX1, "tryLean", "(II)Z"⟩
abbrev cX1_tryDim : ByteArray := prog_3_method_34_code
def yX1_tryDim : MethodName := ⟨RX1, "tryDim", "(II)Z"⟩
abbrev cX1_trySet : ByteArray := prog_3_method_35_code
def yX1_trySet : MethodName := ⟨RX1, "trySet", "(II)Z"⟩
abbrev cX1_pass : ByteArray := prog_3_method_36_code
def yX1_pass : MethodName := ⟨RX1, "pass", "(I)V"⟩
abbrev cX1_sail : ByteArray := prog_3_method_37_code
def yX1_sail : MethodName := ⟨RX1, "sail", "(LLanternBoats$Boat;)V"⟩
abbrev cX1_lose : ByteArray := prog_3_method_38_code
def yX1_lose : MethodName := ⟨RX1, "lose", "(LLanternBoats$Boat;)V"⟩
abbrev cX1_bestWish : ByteArray := prog_3_method_39_code
def yX1_bestWish : MethodName := ⟨RX1, "bestWish", "(LLanternBoats$Boat;LLanternBoats$Light;)I"⟩
abbrev cX1_ask : ByteArray := prog_3_method_40_code
def yX1_ask : MethodName := ⟨RX1, "ask", "(LLanternBoats$Boat;)V"⟩
abbrev cX1_seekKeeper : ByteArray := prog_3_method_41_code
def yX1_seekKeeper : MethodName := ⟨RX1, "seekKeeper", "(LLanternBoats$Boat;)V"⟩
abbrev cX1_serve : ByteArray := prog_3_method_42_code
def yX1_serve : MethodName := ⟨RX1, "serve", "(LLanternBoats$Boat;I)V"⟩
def RX2 : String := "LanternBoats$Light"
def TX2 : u_T := fun k => match k with
  | 0 => ("LanternBoats$Light", "place", "I", false)
  | 1 => ("LanternBoats$Light", "strength", "I", false)
  | 2 => ("LanternBoats$Light", "kind", "I", false)
  | 3 => ("LanternBoats$Light", "n", "I", false)
  | 4 => ("LanternBoats$Light", "most", "I", false)
  | 5 => ("LanternBoats$Light", "reserved", "I", false)
  | 6 => ("LanternBoats$Light", "leaning", "I", false)
  | 7 => ("LanternBoats$Light", "served", "I", false)
  | _ => ("LanternBoats$Light", "handedTo", "I", false)
def tyX2 : Nat → FieldType := fun k => match k with
  | 0 => .int
  | 1 => .int
  | 2 => .int
  | 3 => .int
  | 4 => .int
  | 5 => .int
  | 6 => .int
  | 7 => .int
  | _ => .int
abbrev wsX20 : List Cond := u_ws RX2 TX2 9
theorem nmX2 : ∀ a, a < 9 → ∀ b, b < 9 → a ≠ b → (TX2 a).2.1 ≠ (TX2 b).2.1 := by decide +kernel
theorem tyX2_ok : ∀ k, k < 9 → parseFieldDescriptor (TX2 k).2.2.1 = some (tyX2 k) := by decide +kernel
abbrev cX2_init : ByteArray := prog_4_method_1_code
def yX2_init : MethodName := ⟨RX2, "<init>", "()V"⟩
abbrev cX2_begin : ByteArray := prog_4_method_2_code
def yX2_begin : MethodName := ⟨RX2, "begin", "(IIIIII)V"⟩
abbrev cX2_copyFrom : ByteArray := prog_4_method_3_code
def yX2_copyFrom : MethodName := ⟨RX2, "copyFrom", "(LLanternBoats$Light;)V"⟩
abbrev cX2_numberOf : ByteArray := prog_4_method_4_code
def yX2_numberOf : MethodName := ⟨RX2, "numberOf", "(I)I"⟩
abbrev cX2_brightnessAt : ByteArray := prog_4_method_5_code
def yX2_brightnessAt : MethodName := ⟨RX2, "brightnessAt", "(II)I"⟩
abbrev cX2_worthAt : ByteArray := prog_4_method_6_code
def yX2_worthAt : MethodName := ⟨RX2, "worthAt", "(II)I"⟩
abbrev cX2_servedCount : ByteArray := prog_4_method_7_code
def yX2_servedCount : MethodName := ⟨RX2, "servedCount", "()I"⟩
abbrev cX2_takesHandedOn : ByteArray := prog_4_method_8_code
def yX2_takesHandedOn : MethodName := ⟨RX2, "takesHandedOn", "()Z"⟩
abbrev cX2_takesOthers : ByteArray := prog_4_method_9_code
def yX2_takesOthers : MethodName := ⟨RX2, "takesOthers", "()Z"⟩
def RX3 : String := "LanternBoats$Memory"
def TX3 : u_T := fun k => match k with
  | 0 => ("LanternBoats$Memory", "states", "[LLanternBoats$Coast;", true)
  | 1 => ("LanternBoats$Memory", "slots", "[LLanternBoats$Coast;", true)
  | 2 => ("LanternBoats$Memory", "first", "I", false)
  | 3 => ("LanternBoats$Memory", "count", "I", false)
  | _ => ("LanternBoats$Memory", "keptSlots", "I", false)
def tyX3 : Nat → FieldType := fun k => match k with
  | 0 => .array (.object "LanternBoats$Coast")
  | 1 => .array (.object "LanternBoats$Coast")
  | 2 => .int
  | 3 => .int
  | _ => .int
abbrev wsX30 : List Cond := u_ws RX3 TX3 5
theorem nmX3 : ∀ a, a < 5 → ∀ b, b < 5 → a ≠ b → (TX3 a).2.1 ≠ (TX3 b).2.1 := by decide +kernel
theorem tyX3_ok : ∀ k, k < 5 → parseFieldDescriptor (TX3 k).2.2.1 = some (tyX3 k) := by decide +kernel
abbrev cX3_init : ByteArray := prog_5_method_1_code
def yX3_init : MethodName := ⟨RX3, "<init>", "()V"⟩
abbrev cX3_reset : ByteArray := prog_5_method_2_code
def yX3_reset : MethodName := ⟨RX3, "reset", "()V"⟩
abbrev cX3_hasStates : ByteArray := prog_5_method_3_code
def yX3_hasStates : MethodName := ⟨RX3, "hasStates", "()Z"⟩
abbrev cX3_remember : ByteArray := prog_5_method_4_code
def yX3_remember : MethodName := ⟨RX3, "remember", "(LLanternBoats$Coast;)V"⟩
abbrev cX3_takeBack : ByteArray := prog_5_method_5_code
def yX3_takeBack : MethodName := ⟨RX3, "takeBack", "(LLanternBoats$Coast;)I"⟩
abbrev cX3_stateAt : ByteArray := prog_5_method_6_code
def yX3_stateAt : MethodName := ⟨RX3, "stateAt", "(I)LLanternBoats$Coast;"⟩
abbrev cX3_isSlot : ByteArray := prog_5_method_7_code
def yX3_isSlot : MethodName := ⟨RX3, "isSlot", "(I)Z"⟩
abbrev cX3_isKept : ByteArray := prog_5_method_8_code
def yX3_isKept : MethodName := ⟨RX3, "isKept", "(I)Z"⟩
abbrev cX3_keep : ByteArray := prog_5_method_9_code
def yX3_keep : MethodName := ⟨RX3, "keep", "(ILLanternBoats$Coast;)V"⟩
abbrev cX3_bring : ByteArray := prog_5_method_10_code
def yX3_bring : MethodName := ⟨RX3, "bring", "(ILLanternBoats$Coast;)V"⟩
abbrev cX3_slotAt : ByteArray := prog_5_method_11_code
def yX3_slotAt : MethodName := ⟨RX3, "slotAt", "(I)LLanternBoats$Coast;"⟩
def RX4 : String := "LanternBoats$Text"
def TX4 : u_T := fun k => match k with
  | 0 => ("LanternBoats$Text", "signs", "[C", true)
  | 1 => ("LanternBoats$Text", "numbers", "[I", true)
  | 2 => ("LanternBoats$Text", "length", "I", false)
  | 3 => ("LanternBoats$Text", "at", "I", false)
  | _ => ("LanternBoats$Text", "letter", "I", false)
def tyX4 : Nat → FieldType := fun k => match k with
  | 0 => .array .char
  | 1 => .array .int
  | 2 => .int
  | 3 => .int
  | _ => .int
abbrev wsX40 : List Cond := u_ws RX4 TX4 5
theorem nmX4 : ∀ a, a < 5 → ∀ b, b < 5 → a ≠ b → (TX4 a).2.1 ≠ (TX4 b).2.1 := by decide +kernel
theorem tyX4_ok : ∀ k, k < 5 → parseFieldDescriptor (TX4 k).2.2.1 = some (tyX4 k) := by decide +kernel
abbrev cX4_init : ByteArray := prog_6_method_1_code
def yX4_init : MethodName := ⟨RX4, "<init>", "()V"⟩
abbrev cX4_isFull : ByteArray := prog_6_method_2_code
def yX4_isFull : MethodName := ⟨RX4, "isFull", "()Z"⟩
abbrev cX4_add : ByteArray := prog_6_method_3_code
def yX4_add : MethodName := ⟨RX4, "add", "(I)I"⟩
abbrev cX4_empty : ByteArray := prog_6_method_4_code
def yX4_empty : MethodName := ⟨RX4, "empty", "()I"⟩
abbrev cX4_errorPlace : ByteArray := prog_6_method_5_code
def yX4_errorPlace : MethodName := ⟨RX4, "errorPlace", "()I"⟩
abbrev cX4_readHead : ByteArray := prog_6_method_6_code
def yX4_readHead : MethodName := ⟨RX4, "readHead", "()Z"⟩
abbrev cX4_hasMore : ByteArray := prog_6_method_7_code
def yX4_hasMore : MethodName := ⟨RX4, "hasMore", "()Z"⟩
abbrev cX4_readCommand : ByteArray := prog_6_method_8_code
def yX4_readCommand : MethodName := ⟨RX4, "readCommand", "()Z"⟩
abbrev cX4_number : ByteArray := prog_6_method_9_code
def yX4_number : MethodName := ⟨RX4, "number", "(I)I"⟩
abbrev cX4_signAt : ByteArray := prog_6_method_10_code
def yX4_signAt : MethodName := ⟨RX4, "signAt", "(I)I"⟩
abbrev cX4_formOf : ByteArray := prog_6_method_11_code
def yX4_formOf : MethodName := ⟨RX4, "formOf", "(I)[I"⟩
abbrev cX4_readNumber : ByteArray := prog_6_method_12_code
def yX4_readNumber : MethodName := ⟨RX4, "readNumber", "(III)I"⟩
def RX5 : String := "LanternBoats"
def TX5 : u_T := fun k => match k with
  | 0 => ("LanternBoats", "text", "LLanternBoats$Text;", true)
  | 1 => ("LanternBoats", "coast", "LLanternBoats$Coast;", true)
  | 2 => ("LanternBoats", "trial", "LLanternBoats$Coast;", true)
  | _ => ("LanternBoats", "memory", "LLanternBoats$Memory;", true)
def tyX5 : Nat → FieldType := fun k => match k with
  | 0 => .object "LanternBoats$Text"
  | 1 => .object "LanternBoats$Coast"
  | 2 => .object "LanternBoats$Coast"
  | _ => .object "LanternBoats$Memory"
abbrev wsX50 : List Cond := u_ws RX5 TX5 4
theorem nmX5 : ∀ a, a < 4 → ∀ b, b < 4 → a ≠ b → (TX5 a).2.1 ≠ (TX5 b).2.1 := by decide +kernel
theorem tyX5_ok : ∀ k, k < 4 → parseFieldDescriptor (TX5 k).2.2.1 = some (tyX5 k) := by decide +kernel
abbrev cX5_init : ByteArray := prog_1_method_1_code
def yX5_init : MethodName := ⟨RX5, "<init>", "()V"⟩
abbrev cX5_append : ByteArray := prog_1_method_2_code
def yX5_append : MethodName := ⟨RX5, "append", "(I)I"⟩
abbrev cX5_clearText : ByteArray := prog_1_method_3_code
def yX5_clearText : MethodName := ⟨RX5, "clearText", "()I"⟩
abbrev cX5_errorPosition : ByteArray := prog_1_method_4_code
def yX5_errorPosition : MethodName := ⟨RX5, "errorPosition", "()I"⟩
abbrev cX5_load : ByteArray := prog_1_method_5_code
def yX5_load : MethodName := ⟨RX5, "load", "()I"⟩
abbrev cX5_obeyCommand : ByteArray := prog_1_method_6_code
def yX5_obeyCommand : MethodName := ⟨RX5, "obeyCommand", "()Z"⟩
abbrev cX5_about : ByteArray := prog_1_method_7_code
def yX5_about : MethodName := ⟨RX5, "about", "(I)I"⟩
abbrev cX5_lightOf : ByteArray := prog_1_method_8_code
def yX5_lightOf : MethodName := ⟨RX5, "lightOf", "(II)I"⟩
abbrev cX5_boatOf : ByteArray := prog_1_method_9_code
def yX5_boatOf : MethodName := ⟨RX5, "boatOf", "(II)I"⟩
abbrev cX5_brightness : ByteArray := prog_1_method_10_code
def yX5_brightness : MethodName := ⟨RX5, "brightness", "(II)I"⟩
abbrev cX5_bestAt : ByteArray := prog_1_method_11_code
def yX5_bestAt : MethodName := ⟨RX5, "bestAt", "(II)I"⟩
abbrev cX5_setting : ByteArray := prog_1_method_12_code
def yX5_setting : MethodName := ⟨RX5, "setting", "(I)I"⟩
abbrev cX5_light : ByteArray := prog_1_method_13_code
def yX5_light : MethodName := ⟨RX5, "light", "(IIIIII)I"⟩
abbrev cX5_boat : ByteArray := prog_1_method_14_code
def yX5_boat : MethodName := ⟨RX5, "boat", "(II)I"⟩
abbrev cX5_steer : ByteArray := prog_1_method_15_code
def yX5_steer : MethodName := ⟨RX5, "steer", "(II)I"⟩
abbrev cX5_talk : ByteArray := prog_1_method_16_code
def yX5_talk : MethodName := ⟨RX5, "talk", "(II)I"⟩
abbrev cX5_lean : ByteArray := prog_1_method_17_code
def yX5_lean : MethodName := ⟨RX5, "lean", "(II)I"⟩
abbrev cX5_dim : ByteArray := prog_1_method_18_code
def yX5_dim : MethodName := ⟨RX5, "dim", "(II)I"⟩
abbrev cX5_set : ByteArray := prog_1_method_19_code
def yX5_set : MethodName := ⟨RX5, "set", "(II)I"⟩
abbrev cX5_ticks : ByteArray := prog_1_method_20_code
def yX5_ticks : MethodName := ⟨RX5, "ticks", "(I)I"⟩
abbrev cX5_undo : ByteArray := prog_1_method_21_code
def yX5_undo : MethodName := ⟨RX5, "undo", "()I"⟩
abbrev cX5_handedIn : ByteArray := prog_1_method_22_code
def yX5_handedIn : MethodName := ⟨RX5, "handedIn", "(II)I"⟩
abbrev cX5_ticksUntilHanded : ByteArray := prog_1_method_23_code
def yX5_ticksUntilHanded : MethodName := ⟨RX5, "ticksUntilHanded", "(II)I"⟩
abbrev cX5_ifMargin : ByteArray := prog_1_method_24_code
def yX5_ifMargin : MethodName := ⟨RX5, "ifMargin", "(III)I"⟩
abbrev cX5_tryMargin : ByteArray := prog_1_method_25_code
def yX5_tryMargin : MethodName := ⟨RX5, "tryMargin", "(II)V"⟩
abbrev cX5_gained : ByteArray := prog_1_method_26_code
def yX5_gained : MethodName := ⟨RX5, "gained", "(I)I"⟩
abbrev cX5_bestMargin : ByteArray := prog_1_method_27_code
def yX5_bestMargin : MethodName := ⟨RX5, "bestMargin", "(I)I"⟩
abbrev cX5_dark : ByteArray := prog_1_method_28_code
def yX5_dark : MethodName := ⟨RX5, "dark", "()I"⟩
abbrev cX5_border : ByteArray := prog_1_method_29_code
def yX5_border : MethodName := ⟨RX5, "border", "(I)I"⟩
abbrev cX5_room : ByteArray := prog_1_method_30_code
def yX5_room : MethodName := ⟨RX5, "room", "()I"⟩
abbrev cX5_runScript : ByteArray := prog_1_method_31_code
def yX5_runScript : MethodName := ⟨RX5, "runScript", "(IJ)I"⟩
abbrev cX5_withoutGroups : ByteArray := prog_1_method_32_code
def yX5_withoutGroups : MethodName := ⟨RX5, "withoutGroups", "(JI)J"⟩
abbrev cX5_runCommand : ByteArray := prog_1_method_33_code
def yX5_runCommand : MethodName := ⟨RX5, "runCommand", "(I)Z"⟩
abbrev cX5_simulate : ByteArray := prog_1_method_34_code
def yX5_simulate : MethodName := ⟨RX5, "simulate", "(JI)I"⟩
abbrev cX5_takeTurn : ByteArray := prog_1_method_35_code
def yX5_takeTurn : MethodName := ⟨RX5, "takeTurn", "(I)V"⟩
abbrev cX5_shown : ByteArray := prog_1_method_36_code
def yX5_shown : MethodName := ⟨RX5, "shown", "(I)I"⟩
abbrev cX5_save : ByteArray := prog_1_method_37_code
def yX5_save : MethodName := ⟨RX5, "save", "(I)I"⟩
abbrev cX5_restore : ByteArray := prog_1_method_38_code
def yX5_restore : MethodName := ⟨RX5, "restore", "(I)I"⟩
abbrev cX5_throwFault : ByteArray := prog_1_method_39_code
def yX5_throwFault : MethodName := ⟨RX5, "throwFault", "(I)V"⟩
abbrev cX5_isPlace : ByteArray := prog_1_method_40_code
def yX5_isPlace : MethodName := ⟨RX5, "isPlace", "(I)Z"⟩
abbrev cX5_isSpeed : ByteArray := prog_1_method_41_code
def yX5_isSpeed : MethodName := ⟨RX5, "isSpeed", "(I)Z"⟩
abbrev cX5_isStrength : ByteArray := prog_1_method_42_code
def yX5_isStrength : MethodName := ⟨RX5, "isStrength", "(I)Z"⟩
abbrev cX5_isTickCount : ByteArray := prog_1_method_43_code
def yX5_isTickCount : MethodName := ⟨RX5, "isTickCount", "(I)Z"⟩
abbrev cX5_isSetting : ByteArray := prog_1_method_44_code
def yX5_isSetting : MethodName := ⟨RX5, "isSetting", "(I)Z"⟩
abbrev cX5_isSettingValue : ByteArray := prog_1_method_45_code
def yX5_isSettingValue : MethodName := ⟨RX5, "isSettingValue", "(II)Z"⟩
def RX6 : String := "LanternBoatsModel"
def TX6 : u_T := fun k => match k with
  | 0 => ("LanternBoatsModel", "thrown", "I", false)
  | 1 => ("LanternBoatsModel", "s", "[I", true)
  | 2 => ("LanternBoatsModel", "aside", "[I", true)
  | 3 => ("LanternBoatsModel", "saved", "[I", true)
  | 4 => ("LanternBoatsModel", "savedMany", "I", false)
  | 5 => ("LanternBoatsModel", "slots", "[I", true)
  | 6 => ("LanternBoatsModel", "hasSlot", "[Z", true)
  | 7 => ("LanternBoatsModel", "text", "[I", true)
  | 8 => ("LanternBoatsModel", "length", "I", false)
  | 9 => ("LanternBoatsModel", "at", "I", false)
  | 10 => ("LanternBoatsModel", "isWell", "Z", false)
  | 11 => ("LanternBoatsModel", "isDone", "Z", false)
  | 12 => ("LanternBoatsModel", "leftOut", "I", false)
  | _ => ("LanternBoatsModel", "figures", "[I", true)
def tyX6 : Nat → FieldType := fun k => match k with
  | 0 => .int
  | 1 => .array .int
  | 2 => .array .int
  | 3 => .array .int
  | 4 => .int
  | 5 => .array .int
  | 6 => .array .boolean
  | 7 => .array .int
  | 8 => .int
  | 9 => .int
  | 10 => .boolean
  | 11 => .boolean
  | 12 => .int
  | _ => .array .int
abbrev wsX60 : List Cond := u_ws RX6 TX6 14
theorem nmX6 : ∀ a, a < 14 → ∀ b, b < 14 → a ≠ b → (TX6 a).2.1 ≠ (TX6 b).2.1 := by decide +kernel
theorem tyX6_ok : ∀ k, k < 14 → parseFieldDescriptor (TX6 k).2.2.1 = some (tyX6 k) := by decide +kernel
abbrev cX6_init : ByteArray := prog_8_method_1_code
def yX6_init : MethodName := ⟨RX6, "<init>", "()V"⟩
abbrev cX6_thrown : ByteArray := prog_8_method_2_code
def yX6_thrown : MethodName := ⟨RX6, "thrown", "()I"⟩
abbrev cX6_begins : ByteArray := prog_8_method_3_code
def yX6_begins : MethodName := ⟨RX6, "begins", "()V"⟩
abbrev cX6_in : ByteArray := prog_8_method_4_code
def yX6_in : MethodName := ⟨RX6, "in", "(III)Z"⟩
abbrev cX6_fails : ByteArray := prog_8_method_5_code
def yX6_fails : MethodName := ⟨RX6, "fails", "(I)I"⟩
abbrev cX6_of : ByteArray := prog_8_method_6_code
def yX6_of : MethodName := ⟨RX6, "of", "(II)I"⟩
abbrev cX6_ofBoat : ByteArray := prog_8_method_7_code
def yX6_ofBoat : MethodName := ⟨RX6, "ofBoat", "(II)I"⟩
abbrev cX6_layBoat : ByteArray := prog_8_method_8_code
def yX6_layBoat : MethodName := ⟨RX6, "layBoat", "(III)V"⟩
abbrev cX6_isLight : ByteArray := prog_8_method_9_code
def yX6_isLight : MethodName := ⟨RX6, "isLight", "(I)Z"⟩
abbrev cX6_isBoat : ByteArray := prog_8_method_10_code
def yX6_isBoat : MethodName := ⟨RX6, "isBoat", "(I)Z"⟩
abbrev cX6_isPlace : ByteArray := prog_8_method_11_code
def yX6_isPlace : MethodName := ⟨RX6, "isPlace", "(I)Z"⟩
abbrev cX6_saves : ByteArray := prog_8_method_12_code
def yX6_saves : MethodName := ⟨RX6, "saves", "()V"⟩
abbrev cX6_putAside : ByteArray := prog_8_method_13_code
def yX6_putAside : MethodName := ⟨RX6, "putAside", "()V"⟩
abbrev cX6_takeBack : ByteArray := prog_8_method_14_code
def yX6_takeBack : MethodName := ⟨RX6, "takeBack", "()V"⟩
abbrev cX6_bright : ByteArray := prog_8_method_15_code
def yX6_bright : MethodName := ⟨RX6, "bright", "(II)I"⟩
abbrev cX6_worth : ByteArray := prog_8_method_16_code
def yX6_worth : MethodName := ⟨RX6, "worth", "(II)I"⟩
abbrev cX6_serves : ByteArray := prog_8_method_17_code
def yX6_serves : MethodName := ⟨RX6, "serves", "(I)I"⟩
abbrev cX6_best : ByteArray := prog_8_method_18_code
def yX6_best : MethodName := ⟨RX6, "best", "(I)I"⟩
abbrev cX6_sails : ByteArray := prog_8_method_19_code
def yX6_sails : MethodName := ⟨RX6, "sails", "(I)V"⟩
abbrev cX6_drops : ByteArray := prog_8_method_20_code
def yX6_drops : MethodName := ⟨RX6, "drops", "(I)V"⟩
abbrev cX6_wished : ByteArray := prog_8_method_21_code
def yX6_wished : MethodName := ⟨RX6, "wished", "(I)I"⟩
abbrev cX6_hands : ByteArray := prog_8_method_22_code
def yX6_hands : MethodName := ⟨RX6, "hands", "(II)V"⟩
abbrev cX6_wishes : ByteArray := prog_8_method_23_code
def yX6_wishes : MethodName := ⟨RX6, "wishes", "(I)V"⟩
abbrev cX6_finds : ByteArray := prog_8_method_24_code
def yX6_finds : MethodName := ⟨RX6, "finds", "(I)V"⟩
abbrev cX6_goesOn : ByteArray := prog_8_method_25_code
def yX6_goesOn : MethodName := ⟨RX6, "goesOn", "(I)V"⟩
abbrev cX6_goesTick : ByteArray := prog_8_method_26_code
def yX6_goesTick : MethodName := ⟨RX6, "goesTick", "()V"⟩
abbrev cX6_goesBy : ByteArray := prog_8_method_27_code
def yX6_goesBy : MethodName := ⟨RX6, "goesBy", "(II)I"⟩
abbrev cX6_isLamp : ByteArray := prog_8_method_28_code
def yX6_isLamp : MethodName := ⟨RX6, "isLamp", "(IIIII)Z"⟩
abbrev cX6_addsLight : ByteArray := prog_8_method_29_code
def yX6_addsLight : MethodName := ⟨RX6, "addsLight", "(IIIIII)I"⟩
abbrev cX6_actsLight : ByteArray := prog_8_method_30_code
def yX6_actsLight : MethodName := ⟨RX6, "actsLight", "(IIIIII)I"⟩
abbrev cX6_addsBoat : ByteArray := prog_8_method_31_code
def yX6_addsBoat : MethodName := ⟨RX6, "addsBoat", "(II)I"⟩
abbrev cX6_actsBoat : ByteArray := prog_8_method_32_code
def yX6_actsBoat : MethodName := ⟨RX6, "actsBoat", "(II)I"⟩
abbrev cX6_actsSteer : ByteArray := prog_8_method_33_code
def yX6_actsSteer : MethodName := ⟨RX6, "actsSteer", "(II)I"⟩
abbrev cX6_canTalk : ByteArray := prog_8_method_34_code
def yX6_canTalk : MethodName := ⟨RX6, "canTalk", "(I)Z"⟩
abbrev cX6_actsTalk : ByteArray := prog_8_method_35_code
def yX6_actsTalk : MethodName := ⟨RX6, "actsTalk", "(II)I"⟩
abbrev cX6_actsLean : ByteArray := prog_8_method_36_code
def yX6_actsLean : MethodName := ⟨RX6, "actsLean", "(II)I"⟩
abbrev cX6_actsDim : ByteArray := prog_8_method_37_code
def yX6_actsDim : MethodName := ⟨RX6, "actsDim", "(II)I"⟩
abbrev cX6_mostOf : ByteArray := prog_8_method_38_code
def yX6_mostOf : MethodName := ⟨RX6, "mostOf", "(I)I"⟩
abbrev cX6_isSetting : ByteArray := prog_8_method_39_code
def yX6_isSetting : MethodName := ⟨RX6, "isSetting", "(II)Z"⟩
abbrev cX6_actsSet : ByteArray := prog_8_method_40_code
def yX6_actsSet : MethodName := ⟨RX6, "actsSet", "(II)I"⟩
abbrev cX6_actsTicks : ByteArray := prog_8_method_41_code
def yX6_actsTicks : MethodName := ⟨RX6, "actsTicks", "(I)I"⟩
abbrev cX6_append : ByteArray := prog_8_method_42_code
def yX6_append : MethodName := ⟨RX6, "append", "(I)I"⟩
abbrev cX6_clearText : ByteArray := prog_8_method_43_code
def yX6_clearText : MethodName := ⟨RX6, "clearText", "()I"⟩
abbrev cX6_sign : ByteArray := prog_8_method_44_code
def yX6_sign : MethodName := ⟨RX6, "sign", "()I"⟩
abbrev cX6_number : ByteArray := prog_8_method_45_code
def yX6_number : MethodName := ⟨RX6, "number", "(III)I"⟩
abbrev cX6_carriesLight : ByteArray := prog_8_method_46_code
def yX6_carriesLight : MethodName := ⟨RX6, "carriesLight", "()I"⟩
abbrev cX6_carries : ByteArray := prog_8_method_47_code
def yX6_carries : MethodName := ⟨RX6, "carries", "(I)I"⟩
abbrev cX6_isCommand : ByteArray := prog_8_method_48_code
def yX6_isCommand : MethodName := ⟨RX6, "isCommand", "(I)Z"⟩
abbrev cX6_readsAll : ByteArray := prog_8_method_49_code
def yX6_readsAll : MethodName := ⟨RX6, "readsAll", "(Z)V"⟩
abbrev cX6_errorPosition : ByteArray := prog_8_method_50_code
def yX6_errorPosition : MethodName := ⟨RX6, "errorPosition", "()I"⟩
abbrev cX6_load : ByteArray := prog_8_method_51_code
def yX6_load : MethodName := ⟨RX6, "load", "()I"⟩
abbrev cX6_boatsThat : ByteArray := prog_8_method_52_code
def yX6_boatsThat : MethodName := ⟨RX6, "boatsThat", "(I)I"⟩
abbrev cX6_tellsAbout : ByteArray := prog_8_method_53_code
def yX6_tellsAbout : MethodName := ⟨RX6, "tellsAbout", "(I)I"⟩
abbrev cX6_about : ByteArray := prog_8_method_54_code
def yX6_about : MethodName := ⟨RX6, "about", "(I)I"⟩
abbrev cX6_servedBy : ByteArray := prog_8_method_55_code
def yX6_servedBy : MethodName := ⟨RX6, "servedBy", "(I)I"⟩
abbrev cX6_lightOf : ByteArray := prog_8_method_56_code
def yX6_lightOf : MethodName := ⟨RX6, "lightOf", "(II)I"⟩
abbrev cX6_boatOf : ByteArray := prog_8_method_57_code
def yX6_boatOf : MethodName := ⟨RX6, "boatOf", "(II)I"⟩
abbrev cX6_brightness : ByteArray := prog_8_method_58_code
def yX6_brightness : MethodName := ⟨RX6, "brightness", "(II)I"⟩
abbrev cX6_bestAt : ByteArray := prog_8_method_59_code
def yX6_bestAt : MethodName := ⟨RX6, "bestAt", "(II)I"⟩
abbrev cX6_setting : ByteArray := prog_8_method_60_code
def yX6_setting : MethodName := ⟨RX6, "setting", "(I)I"⟩
abbrev cX6_light : ByteArray := prog_8_method_61_code
def yX6_light : MethodName := ⟨RX6, "light", "(IIIIII)I"⟩
abbrev cX6_boat : ByteArray := prog_8_method_62_code
def yX6_boat : MethodName := ⟨RX6, "boat", "(II)I"⟩
abbrev cX6_steer : ByteArray := prog_8_method_63_code
def yX6_steer : MethodName := ⟨RX6, "steer", "(II)I"⟩
abbrev cX6_talk : ByteArray := prog_8_method_64_code
def yX6_talk : MethodName := ⟨RX6, "talk", "(II)I"⟩
abbrev cX6_lean : ByteArray := prog_8_method_65_code
def yX6_lean : MethodName := ⟨RX6, "lean", "(II)I"⟩
abbrev cX6_dim : ByteArray := prog_8_method_66_code
def yX6_dim : MethodName := ⟨RX6, "dim", "(II)I"⟩
abbrev cX6_set : ByteArray := prog_8_method_67_code
def yX6_set : MethodName := ⟨RX6, "set", "(II)I"⟩
abbrev cX6_ticks : ByteArray := prog_8_method_68_code
def yX6_ticks : MethodName := ⟨RX6, "ticks", "(I)I"⟩
abbrev cX6_undo : ByteArray := prog_8_method_69_code
def yX6_undo : MethodName := ⟨RX6, "undo", "()I"⟩
abbrev cX6_handedIn : ByteArray := prog_8_method_70_code
def yX6_handedIn : MethodName := ⟨RX6, "handedIn", "(II)I"⟩
abbrev cX6_bringsBy : ByteArray := prog_8_method_71_code
def yX6_bringsBy : MethodName := ⟨RX6, "bringsBy", "(III)I"⟩
abbrev cX6_ifMargin : ByteArray := prog_8_method_72_code
def yX6_ifMargin : MethodName := ⟨RX6, "ifMargin", "(III)I"⟩
abbrev cX6_bestMargin : ByteArray := prog_8_method_73_code
def yX6_bestMargin : MethodName := ⟨RX6, "bestMargin", "(I)I"⟩
abbrev cX6_dark : ByteArray := prog_8_method_74_code
def yX6_dark : MethodName := ⟨RX6, "dark", "()I"⟩
abbrev cX6_border : ByteArray := prog_8_method_75_code
def yX6_border : MethodName := ⟨RX6, "border", "(I)I"⟩
abbrev cX6_room : ByteArray := prog_8_method_76_code
def yX6_room : MethodName := ⟨RX6, "room", "()I"⟩
abbrev cX6_pair : ByteArray := prog_8_method_77_code
def yX6_pair : MethodName := ⟨RX6, "pair", "(I)I"⟩
abbrev cX6_succeeds : ByteArray := prog_8_method_78_code
def yX6_succeeds : MethodName := ⟨RX6, "succeeds", "()Z"⟩
abbrev cX6_laysFigures : ByteArray := prog_8_method_79_code
def yX6_laysFigures : MethodName := ⟨RX6, "laysFigures", "(J)V"⟩
abbrev cX6_runScript : ByteArray := prog_8_method_80_code
def yX6_runScript : MethodName := ⟨RX6, "runScript", "(IJ)I"⟩
abbrev cX6_turns : ByteArray := prog_8_method_81_code
def yX6_turns : MethodName := ⟨RX6, "turns", "(I)V"⟩
abbrev cX6_held : ByteArray := prog_8_method_82_code
def yX6_held : MethodName := ⟨RX6, "held", "(I)I"⟩
abbrev cX6_simulate : ByteArray := prog_8_method_83_code
def yX6_simulate : MethodName := ⟨RX6, "simulate", "(JI)I"⟩
abbrev cX6_save : ByteArray := prog_8_method_84_code
def yX6_save : MethodName := ⟨RX6, "save", "(I)I"⟩
abbrev cX6_restore : ByteArray := prog_8_method_85_code
def yX6_restore : MethodName := ⟨RX6, "restore", "(I)I"⟩
def RJ6 : String := "java/lang/Integer"
def TJ6 : u_T := fun k => match k with
  | _ => ("", "", "", false)
def tyJ6 : Nat → FieldType := fun k => match k with
  | _ => .int
abbrev wsJ60 : List Cond := u_ws RJ6 TJ6 0
theorem nmJ6 : ∀ a, a < 0 → ∀ b, b < 0 → a ≠ b → (TJ6 a).2.1 ≠ (TJ6 b).2.1 := by decide +kernel
theorem tyJ6_ok : ∀ k, k < 0 → parseFieldDescriptor (TJ6 k).2.2.1 = some (tyJ6 k) := by decide +kernel
abbrev cJ6_bitCount_0f7a4 : ByteArray := prog_13_method_49_code
def yJ6_bitCount_0f7a4 : MethodName := ⟨RJ6, "bitCount", "(I)I"⟩
def RJ0 : String := "java/lang/String"
def TJ0 : u_T := fun k => match k with
  | _ => ("", "", "", false)
def tyJ0 : Nat → FieldType := fun k => match k with
  | _ => .int
abbrev wsJ00 : List Cond := u_ws RJ0 TJ0 0
theorem nmJ0 : ∀ a, a < 0 → ∀ b, b < 0 → a ≠ b → (TJ0 a).2.1 ≠ (TJ0 b).2.1 := by decide +kernel
theorem tyJ0_ok : ∀ k, k < 0 → parseFieldDescriptor (TJ0 k).2.2.1 = some (tyJ0 k) := by decide +kernel
def RL : String := "LanternBoatsLaw"
abbrev cL_append : ByteArray := method_3_code
def yL_append : MethodName := ⟨RL, "append", "(LLanternBoats;I[J)I"⟩
abbrev cL_load : ByteArray := method_4_code
def yL_load : MethodName := ⟨RL, "load", "(LLanternBoats;[J)I"⟩
abbrev cL_about : ByteArray := method_5_code
def yL_about : MethodName := ⟨RL, "about", "(LLanternBoats;I[J)I"⟩
abbrev cL_lightOf : ByteArray := method_6_code
def yL_lightOf : MethodName := ⟨RL, "lightOf", "(LLanternBoats;II[J)I"⟩
abbrev cL_boatOf : ByteArray := method_7_code
def yL_boatOf : MethodName := ⟨RL, "boatOf", "(LLanternBoats;II[J)I"⟩
abbrev cL_brightness : ByteArray := method_8_code
def yL_brightness : MethodName := ⟨RL, "brightness", "(LLanternBoats;II[J)I"⟩
abbrev cL_bestAt : ByteArray := method_9_code
def yL_bestAt : MethodName := ⟨RL, "bestAt", "(LLanternBoats;II[J)I"⟩
abbrev cL_setting : ByteArray := method_10_code
def yL_setting : MethodName := ⟨RL, "setting", "(LLanternBoats;I[J)I"⟩
abbrev cL_light : ByteArray := method_11_code
def yL_light : MethodName := ⟨RL, "light", "(LLanternBoats;IIIIII[J)I"⟩
abbrev cL_boat : ByteArray := method_12_code
def yL_boat : MethodName := ⟨RL, "boat", "(LLanternBoats;II[J)I"⟩
abbrev cL_steer : ByteArray := method_13_code
def yL_steer : MethodName := ⟨RL, "steer", "(LLanternBoats;II[J)I"⟩
abbrev cL_talk : ByteArray := method_14_code
def yL_talk : MethodName := ⟨RL, "talk", "(LLanternBoats;II[J)I"⟩
abbrev cL_lean : ByteArray := method_15_code
def yL_lean : MethodName := ⟨RL, "lean", "(LLanternBoats;II[J)I"⟩
abbrev cL_dim : ByteArray := method_16_code
def yL_dim : MethodName := ⟨RL, "dim", "(LLanternBoats;II[J)I"⟩
abbrev cL_set : ByteArray := method_17_code
def yL_set : MethodName := ⟨RL, "set", "(LLanternBoats;II[J)I"⟩
abbrev cL_ticks : ByteArray := method_18_code
def yL_ticks : MethodName := ⟨RL, "ticks", "(LLanternBoats;I[J)I"⟩
abbrev cL_undo : ByteArray := method_19_code
def yL_undo : MethodName := ⟨RL, "undo", "(LLanternBoats;[J)I"⟩
abbrev cL_handedIn : ByteArray := method_20_code
def yL_handedIn : MethodName := ⟨RL, "handedIn", "(LLanternBoats;II[J)I"⟩
abbrev cL_ifMargin : ByteArray := method_21_code
def yL_ifMargin : MethodName := ⟨RL, "ifMargin", "(LLanternBoats;III[J)I"⟩
abbrev cL_bestMargin : ByteArray := method_22_code
def yL_bestMargin : MethodName := ⟨RL, "bestMargin", "(LLanternBoats;I[J)I"⟩
abbrev cL_border : ByteArray := method_23_code
def yL_border : MethodName := ⟨RL, "border", "(LLanternBoats;I[J)I"⟩
abbrev cL_runScript : ByteArray := method_24_code
def yL_runScript : MethodName := ⟨RL, "runScript", "(LLanternBoats;IJ[J)I"⟩
abbrev cL_simulate : ByteArray := method_25_code
def yL_simulate : MethodName := ⟨RL, "simulate", "(LLanternBoats;JI[J)I"⟩
abbrev cL_save : ByteArray := method_26_code
def yL_save : MethodName := ⟨RL, "save", "(LLanternBoats;I[J)I"⟩
abbrev cL_restore : ByteArray := method_27_code
def yL_restore : MethodName := ⟨RL, "restore", "(LLanternBoats;I[J)I"⟩
abbrev cL_law : ByteArray := code
def yL_law : MethodName := ⟨RL, "law", "([I)Z"⟩
end
section
/-! THE FLAT MEMORY: a world w of n cells at the addresses ad 0 .. ad (n-1); K k = (kind, length) of the cell k; its ints are sg k j (Int32), its longs lm k j. Kinds: 0..6 the seven classes' objects (gcl), whole; 10 int row, 11 char row, 12 boolean row, 13 long row, 14, 15, 16 whole rows of Light, Boat, Coast; 20 the nine static rows (cells 1000000 + i, outside); 50 + kind: one that is being made (its references stand in rho). -/
abbrev VV : Type := Int32 ⊕ (Int64 ⊕ Option (Nat × Nat × Nat))
abbrev vI (x : Int32) : VV := .inl x
abbrev vL (x : Int64) : VV := .inr (.inl x)
abbrev vR (r : Option (Nat × Nat × Nat)) : VV := .inr (.inr r)
abbrev Sg : Type := Nat → Nat → Int32
abbrev Wd : Type := va_G × (Nat → ClassId) × (Nat → Nat) × Nat × Nat × (Nat → Nat × Nat) × (Nat → Nat → Option (Nat × Nat × Nat)) × (Nat → Nat → Int64)
abbrev wD (w : Wd) : va_G := w.1
abbrev wC (w : Wd) : Nat → ClassId := w.2.1
abbrev wA (w : Wd) : Nat → Nat := w.2.2.1
abbrev wB (w : Wd) : Nat := w.2.2.2.1
abbrev wN (w : Wd) : Nat := w.2.2.2.2.1
abbrev wK (w : Wd) : Nat → Nat × Nat := w.2.2.2.2.2.1
abbrev wR (w : Wd) : Nat → Nat → Option (Nat × Nat × Nat) := w.2.2.2.2.2.2.1
abbrev wL (w : Wd) : Nat → Nat → Int64 := w.2.2.2.2.2.2.2
abbrev wF (w : Wd) : Nat → Prop := fun q => wB w ≤ q
def slen (i : Nat) : Nat := [4, 4, 4, 18, 6, 6, 6, 3, 3].getD i 0
def srow (i j : Nat) : Int32 := ([[0, 1, 1, 0], [100, 10, 300, 50], [10, 3, 60, 12], [3, 0, 199, 2, 10, 99, 1, 0, 2, 2, 1, 20, 1, 1, 6, 1, 0, 6], [3, 0, 199, 2, 0, 12], [1, 0, 7, 2, 1, 99], [1, 0, 7, 2, 0, 12], [3, 0, 100], [2, 1, 60]] : List (List Int32)).getD i [] |>.getD j 0
def scls (i : Nat) : String := if i < 3 then "LanternBoats" else "LanternBoats$Text"
def snam (i : Nat) : String := ["SETTING_LEAST", "SETTING_MOST", "SETTING_FIRST", "LIGHT_FORM", "BOAT_FORM", "TALK_FORM", "STEER_FORM", "MARGIN_FORM", "TICKS_FORM"].getD i ""
/-- what an object of a whole kind refers to -/
def rf (kd k j : Nat) : Option (Nat × Nat × Nat) := match kd, j with
  | 1, 0 => some (14, 6, k + 1)
  | 1, 1 => some (15, 8, k + 8)
  | 1, 2 => some (10, 4, k + 17)
  | 3, 0 => some (16, 14, k + 1)
  | 3, 1 => some (16, 2, k + 254)
  | 4, 0 => some (11, 120, k + 1)
  | 4, 1 => some (10, 6, k + 2)
  | 5, 0 => some (4, 0, k + 1)
  | 5, 1 => some (1, 0, k + 4)
  | 5, 2 => some (1, 0, k + 22)
  | 5, 3 => some (3, 0, k + 40)
  | 6, 1 => some (10, 140, k + 1)
  | 6, 2 => some (10, 140, k + 2)
  | 6, 3 => some (10, 1960, k + 3)
  | 6, 5 => some (10, 280, k + 4)
  | 6, 6 => some (12, 2, k + 5)
  | 6, 7 => some (10, 120, k + 6)
  | 6, 13 => some (10, 6, k + 7)
  | _, _ => none
/-- the elements of a whole row of references -/
def ae (kd k j : Nat) : Option (Nat × Nat × Nat) := match kd with
  | 14 => some (2, 0, k + 1 + j)
  | 15 => some (0, 0, k + 1 + j)
  | 16 => some (1, 0, k + 1 + 18 * j)
  | _ => none
def nf (ci : Nat) : Nat := match ci with
  | 0 => 11
  | 1 => 11
  | 2 => 9
  | 3 => 5
  | 4 => 5
  | 5 => 4
  | 6 => 14
  | _ => 0
def gC (ci : Nat) : String := match ci with
  | 0 => RX0
  | 1 => RX1
  | 2 => RX2
  | 3 => RX3
  | 4 => RX4
  | 5 => RX5
  | _ => RX6
def gT (ci : Nat) : u_T := match ci with
  | 0 => TX0
  | 1 => TX1
  | 2 => TX2
  | 3 => TX3
  | 4 => TX4
  | 5 => TX5
  | _ => TX6
def gty (ci : Nat) : Nat → FieldType := match ci with
  | 0 => tyX0
  | 1 => tyX1
  | 2 => tyX2
  | 3 => tyX3
  | 4 => tyX4
  | 5 => tyX5
  | _ => tyX6
def gcl : List vw_C := (List.range 7).map (fun ci => (gC ci, gT ci, nf ci))
def den (w : Wd) : VV → Value
  | .inl x => .int x
  | .inr (.inl x) => .long x
  | .inr (.inr none) => .null
  | .inr (.inr (some q)) => .ref (wA w q.2.2)
/-- a reference that tells the truth of its cell -/
def okr (w : Wd) (q : Nat × Nat × Nat) : Prop := if q.1 = 20 then ∃ i, i < 9 ∧ q.2.2 = 1000000 + i ∧ q.2.1 = slen i else q.2.2 < wN w ∧ wK w q.2.2 = (q.1, q.2.1)
def okv (w : Wd) : VV → Prop
  | .inr (.inr (some q)) => okr w q
  | _ => True
def fV (w : Wd) (sg : Sg) (kd k j : Nat) : Value := match rf kd k j with
  | some q => .ref (wA w q.2.2)
  | none => .int (sg k j)
def fW (w : Wd) (sg : Sg) (kd k j : Nat) : Value := match rf kd k j with
  | some _ => den w (vR (wR w k j))
  | none => .int (sg k j)
def cE (w : Wd) (sg : Sg) (k : Nat) : va_E :=
  if (wK w k).1 < 7 then .inr ((wK w k).1, (List.range (nf (wK w k).1)).map (fV w sg (wK w k).1 k))
  else if (wK w k).1 < 13 then .inl (wC w (wK w k).1, ((wK w k).2, .inl (sg k)))
  else if (wK w k).1 = 13 then .inl (wC w 13, ((wK w k).2, .inr (.inl (wL w k))))
  else if (wK w k).1 < 20 then .inl (wC w (wK w k).1, ((wK w k).2, .inr (.inr (.inr (.inr (fun j => (ae (wK w k).1 k j).map (fun q => wA w q.2.2)))))))
  else if (wK w k).1 < 57 then .inr ((wK w k).1 - 50, (List.range (nf ((wK w k).1 - 50))).map (fW w sg ((wK w k).1 - 50) k))
  else .inl (wC w ((wK w k).1 - 50), ((wK w k).2, .inr (.inr (.inr (.inr (fun j => (wR w k j).map (fun q => wA w q.2.2)))))))
def wws (w : Wd) (sg : Sg) : va_W := (List.range (wN w)).map (fun k => (wA w k, cE w sg k))
def wty (w : Wd) : List (ClassId × FieldType) := [(wC w 10, .int), (wC w 11, .char), (wC w 12, .boolean), (wC w 13, .long), (wC w 14, .object "LanternBoats$Light"), (wC w 15, .object "LanternBoats$Boat"), (wC w 16, .object "LanternBoats$Coast")]
/-- the memory in the heap -/
def Wp (w : Wd) (sg : Sg) (H : Heap) : Prop := va_P (wD w) gcl (wws w sg) H ∧ va_D (wF w) (wws w sg)
def gTBL : List Cond := lw_tbl.filter goodWord
def isNest : Cond → Bool
  | .fieldLinkNest .. => true
  | .methodLinkNest .. => true
  | _ => false
def gNTB : List Cond := lw_tbl.filter isNest
/-- what the tables say, and the static rows -/
def Ws (w : Wd) (U : State) : Prop := va_K (wD w) gcl (wty w) U ∧ (∀ q ∈ gNTB, va_Nw q U) ∧ (va_AO "LanternBoats$Light" U ∧ va_AO "LanternBoats$Boat" U ∧ va_AO "LanternBoats$Coast" U) ∧
  ∀ i, i < 9 → va_Z (scls i) (snam i) "[I" (.ref (wA w (1000000 + i))) (wF w) U U.heap ∧ va_T .int (wA w (1000000 + i)) (slen i) (fun j => .int (srow i j)) (wF w) U U.heap
theorem va_Nw_warm {q : Cond} (hq : isNest q = true) {s U : State} (hW : s.WarmedH U.vm) (h : va_Nw q s) : va_Nw q U := by
  cases q <;> first | (cases hq; done) | exact va_Nw.warmF hW h | exact va_Nw.warmM hW h
theorem va_Nw_same {q : Cond} (hq : isNest q = true) {s U : State} (hv : s.vm = U.vm) (h : va_Nw q s) : va_Nw q U := by
  cases q <;> first | (cases hq; done) | exact va_Nw.same rfl hv h
theorem Ws.go {w : Wd} {s U : State} {H : Heap} {locs : List Loc} (h : Ws w s) (hW : s.WarmedH U.vm) (hH : U.heap = H) (hS : va_S (wF w) s.heap H locs) : Ws w U := by
  obtain ⟨h1, h2, ⟨h3, h4, h5⟩, h6⟩ := h
  subst hH
  have hk : ∀ a : Nat, a < s.heap.size → ¬ wF w a → U.heap[a]? = s.heap[a]? := fun a h1 h2 => hS.2.1 a h1 h2
  exact ⟨va_K.moved hW.alike h1, fun q hq => va_Nw_warm (List.mem_filter.mp hq).2 hW (h2 q hq), ⟨va_AO.moved hW.alike h3, va_AO.moved hW.alike h4, va_AO.moved hW.alike h5⟩,
    fun i hi => ⟨(va_Z.moved hW.alike (h6 i hi).1).kept hk, (va_T.moved hW.alike (h6 i hi).2).kept hk⟩⟩
theorem Ws.calling {w : Wd} {U : State} {g : JFrame} {mk : MethodId} {a : Array Value} (h : Ws w U) : Ws w (U.calling g mk a) := by
  obtain ⟨h1, h2, ⟨h3, h4, h5⟩, h6⟩ := h
  exact ⟨va_K.moved (u := U) (U := U.calling g mk a) (Vm.Alike.refl U.vm) h1, fun q hq => va_Nw_same (List.mem_filter.mp hq).2 (s := U) (U := U.calling g mk a) rfl (h2 q hq), ⟨va_AO.moved (u := U) (U := U.calling g mk a) (Vm.Alike.refl U.vm) h3, va_AO.moved (u := U) (U := U.calling g mk a) (Vm.Alike.refl U.vm) h4, va_AO.moved (u := U) (U := U.calling g mk a) (Vm.Alike.refl U.vm) h5⟩,
    fun i hi => ⟨va_Z.moved (u := U) (U := U.calling g mk a) (Vm.Alike.refl U.vm) (h6 i hi).1, va_T.moved (u := U) (U := U.calling g mk a) (Vm.Alike.refl U.vm) (h6 i hi).2⟩⟩
/-! a method: its name, bytes, locals, return type, room (frames, words of locals, cells, slots) -/
abbrev Mt : Type := MethodName × ByteArray × Nat × Option FieldType × Nat × Nat × Nat × Nat
abbrev mY (t : Mt) : MethodName := t.1
abbrev mB (t : Mt) : ByteArray := t.2.1
abbrev mL (t : Mt) : Nat := t.2.2.1
abbrev mT (t : Mt) : Option FieldType := t.2.2.2.1
abbrev mF (t : Mt) : Nat := t.2.2.2.2.1
abbrev mO (t : Mt) : Nat := t.2.2.2.2.2.1
abbrev mC (t : Mt) : Nat := t.2.2.2.2.2.2.1
abbrev mS (t : Mt) : Nat := t.2.2.2.2.2.2.2
abbrev mRm (t : Mt) : Room := { frames := mF t, cells := mC t, slots := mS t, locals := mO t }
abbrev mCd (t : Mt) : Cond := .code (mY t) (mB t) (mL t) (mT t)
abbrev mWs (t : Mt) : List Cond := mCd t :: gTBL
def Dk (t : Mt) (pc : Nat) (i : Instr) (len nx : Nat) : Prop := decode (mB t) pc = .ok (i, len) ∧ nx = pc + len
/-! locals -/
def dropL : Option VV → Option VV
  | some (.inr (.inl _)) => none
  | o => o
def lput1 : List (Option VV) → Nat → VV → List (Option VV)
  | [], _, _ => []
  | _ :: t, 0, v => some v :: t
  | o :: t, 1, v => dropL o :: lput1 t 0 v
  | o :: t, i + 2, v => o :: lput1 t (i + 1) v
def lput2 : List (Option VV) → Nat → VV → List (Option VV)
  | [], _, _ => []
  | _ :: t, 0, v => some v :: (match t with | [] => [] | _ :: t' => none :: t')
  | o :: t, 1, v => dropL o :: lput2 t 0 v
  | o :: t, i + 2, v => o :: lput2 t (i + 1) v
def catV : VV → Nat
  | .inr (.inl _) => 2
  | _ => 1
theorem catV_den (w : Wd) (v : VV) : (den w v).category = catV v := by
  rcases v with x | x | _ | q <;> rfl
theorem catV_sum (w : Wd) (st : List VV) : ((st.map (den w)).map fun v => v.category).sum = (st.map catV).sum := by
  rw [List.map_map]
  exact congrArg List.sum (List.map_congr_left fun v _ => catV_den w v)
/-- the locals that are known: a list by places -/
def Lk (w : Wd) (nL : Nat) (ls : Array Slot) (loc : List (Option VV)) : Prop := ls.size = nL ∧ lv_wf ls ∧ ∀ (i : Nat) (v : VV), loc[i]? = some (some v) → ls[i]? = some (.val (den w v)) ∧ okv w v
def ents (w : Wd) : Nat → List (Option VV) → List (Nat × Value)
  | _, [] => []
  | i, none :: t => ents w (i + 1) t
  | i, some v :: t => (i, den w v) :: ents w (i + 1) t
theorem ents_mem {w : Wd} : ∀ {loc : List (Option VV)} {i0 j : Nat} {x : Value}, (j, x) ∈ ents w i0 loc ↔ ∃ v, i0 ≤ j ∧ loc[j - i0]? = some (some v) ∧ x = den w v
  | [], i0, j, x => by simp [ents]
  | none :: t, i0, j, x => by
    rw [ents, ents_mem (loc := t)]
    constructor
    · rintro ⟨v, h1, h2, h3⟩
      exact ⟨v, by omega, by rw [show j - i0 = (j - (i0 + 1)) + 1 by omega, List.getElem?_cons_succ]; exact h2, h3⟩
    · rintro ⟨v, h1, h2, h3⟩
      rcases Nat.eq_or_lt_of_le h1 with h | h
      · subst h; simp at h2
      · exact ⟨v, by omega, by rw [show j - i0 = (j - (i0 + 1)) + 1 by omega, List.getElem?_cons_succ] at h2; exact h2, h3⟩
  | some u :: t, i0, j, x => by
    rw [ents, List.mem_cons, ents_mem (loc := t)]
    constructor
    · rintro (h | ⟨v, h1, h2, h3⟩)
      · cases h; exact ⟨u, Nat.le_refl _, by simp, rfl⟩
      · exact ⟨v, by omega, by rw [show j - i0 = (j - (i0 + 1)) + 1 by omega, List.getElem?_cons_succ]; exact h2, h3⟩
    · rintro ⟨v, h1, h2, h3⟩
      rcases Nat.eq_or_lt_of_le h1 with h | h
      · subst h
        rw [Nat.sub_self, List.getElem?_cons_zero] at h2
        cases h2; cases h3; exact Or.inl rfl
      · exact Or.inr ⟨v, by omega, by rw [show j - i0 = (j - (i0 + 1)) + 1 by omega, List.getElem?_cons_succ] at h2; exact h2, h3⟩
theorem Lk.has {w : Wd} {nL : Nat} {ls : Array Slot} {loc : List (Option VV)} (h : Lk w nL ls loc) : lv_has ls nL (ents w 0 loc) := by
  refine ⟨h.1, h.2.1, ?_⟩
  rintro ⟨j, x⟩ hq
  obtain ⟨v, -, h2, rfl⟩ := ents_mem.mp hq
  exact (h.2.2 j v h2).1
theorem lput1_at : ∀ {loc : List (Option VV)} {i j : Nat} {v u : VV}, (lput1 loc i v)[j]? = some (some u) → (j = i ∧ u = v) ∨ (j ≠ i ∧ loc[j]? = some (some u) ∧ (j + 1 = i → catV u = 1))
  | [], i, j, v, u, h => by simp [lput1] at h
  | o :: t, 0, j, v, u, h => by
    cases j with
    | zero => simp [lput1] at h; exact Or.inl ⟨rfl, h.symm⟩
    | succ j => exact Or.inr ⟨by omega, by simpa [lput1] using h, by omega⟩
  | o :: t, 1, j, v, u, h => by
    cases j with
    | zero =>
      simp only [lput1, List.getElem?_cons_zero, Option.some.injEq] at h
      refine Or.inr ⟨by omega, ?_, fun _ => ?_⟩
      · rcases o with _ | (x | x | r) <;> simp_all [dropL]
      · rcases o with _ | (x | x | r)
        · simp [dropL] at h
        · simp [dropL] at h; subst h; rfl
        · simp [dropL] at h
        · simp [dropL] at h; subst h; rfl
    | succ j =>
      simp only [lput1, List.getElem?_cons_succ] at h
      rcases lput1_at h with ⟨h1, h2⟩ | ⟨h1, h2, h3⟩
      · exact Or.inl ⟨by omega, h2⟩
      · exact Or.inr ⟨by omega, by rw [List.getElem?_cons_succ]; exact h2, fun z => h3 (by omega)⟩
  | o :: t, i + 2, j, v, u, h => by
    cases j with
    | zero => exact Or.inr ⟨by omega, by simpa [lput1] using h, by omega⟩
    | succ j =>
      simp only [lput1, List.getElem?_cons_succ] at h
      rcases lput1_at h with ⟨h1, h2⟩ | ⟨h1, h2, h3⟩
      · exact Or.inl ⟨by omega, h2⟩
      · exact Or.inr ⟨by omega, by rw [List.getElem?_cons_succ]; exact h2, fun z => h3 (by omega)⟩
theorem lput2_at : ∀ {loc : List (Option VV)} {i j : Nat} {v u : VV}, (lput2 loc i v)[j]? = some (some u) → (j = i ∧ u = v) ∨ (j ≠ i ∧ j ≠ i + 1 ∧ loc[j]? = some (some u) ∧ (j + 1 = i → catV u = 1))
  | [], i, j, v, u, h => by simp [lput2] at h
  | o :: t, 0, j, v, u, h => by
    cases j with
    | zero => simp [lput2] at h; exact Or.inl ⟨rfl, h.symm⟩
    | succ j =>
      cases t with
      | nil => simp [lput2] at h
      | cons a t =>
        cases j with
        | zero => simp [lput2] at h
        | succ j => exact Or.inr ⟨by omega, by omega, by simpa [lput2] using h, by omega⟩
  | o :: t, 1, j, v, u, h => by
    cases j with
    | zero =>
      simp only [lput2, List.getElem?_cons_zero, Option.some.injEq] at h
      refine Or.inr ⟨by omega, by omega, ?_, fun _ => ?_⟩
      · rcases o with _ | (x | x | r) <;> simp_all [dropL]
      · rcases o with _ | (x | x | r)
        · simp [dropL] at h
        · simp [dropL] at h; subst h; rfl
        · simp [dropL] at h
        · simp [dropL] at h; subst h; rfl
    | succ j =>
      simp only [lput2, List.getElem?_cons_succ] at h
      rcases lput2_at h with ⟨h1, h2⟩ | ⟨h1, h2, h3, h4⟩
      · exact Or.inl ⟨by omega, h2⟩
      · exact Or.inr ⟨by omega, by omega, by rw [List.getElem?_cons_succ]; exact h3, fun z => h4 (by omega)⟩
  | o :: t, i + 2, j, v, u, h => by
    cases j with
    | zero => exact Or.inr ⟨by omega, by omega, by simpa [lput2] using h, by omega⟩
    | succ j =>
      simp only [lput2, List.getElem?_cons_succ] at h
      rcases lput2_at h with ⟨h1, h2⟩ | ⟨h1, h2, h3, h4⟩
      · exact Or.inl ⟨by omega, h2⟩
      · exact Or.inr ⟨by omega, by omega, by rw [List.getElem?_cons_succ]; exact h3, fun z => h4 (by omega)⟩
theorem Lk.put1 {w : Wd} {nL i : Nat} {ls ls' : Array Slot} {loc : List (Option VV)} {v : VV} (h : Lk w nL ls loc) (hv : okv w v) (h' : lv_has ls' nL ((i, den w v) :: (ents w 0 loc).filter (fun q => !(q.1 == i) && !(q.1 + 1 == i && q.2.category == 2)))) : Lk w nL ls' (lput1 loc i v) := by
  refine ⟨h'.1, h'.2.1, fun j u hj => ?_⟩
  rcases lput1_at hj with ⟨rfl, rfl⟩ | ⟨h1, h2, h3⟩
  · exact ⟨h'.2.2 (j, den w u) List.mem_cons_self, hv⟩
  · refine ⟨h'.2.2 (j, den w u) (List.mem_cons_of_mem _ (List.mem_filter.mpr ⟨ents_mem.mpr ⟨u, Nat.zero_le _, h2, rfl⟩, ?_⟩)), (h.2.2 j u h2).2⟩
    by_cases hji : j + 1 = i
    · have := h3 hji
      simp [catV_den, this]; omega
    · simp [hji, h1]
theorem Lk.put2 {w : Wd} {nL i : Nat} {ls ls' : Array Slot} {loc : List (Option VV)} {v : VV} (h : Lk w nL ls loc) (hv : okv w v) (h' : lv_has ls' nL ((i, den w v) :: (ents w 0 loc).filter (fun q => !(q.1 == i) && (!(q.1 == i + 1) && !(q.1 + 1 == i && q.2.category == 2))))) : Lk w nL ls' (lput2 loc i v) := by
  refine ⟨h'.1, h'.2.1, fun j u hj => ?_⟩
  rcases lput2_at hj with ⟨rfl, rfl⟩ | ⟨h1, h0, h2, h3⟩
  · exact ⟨h'.2.2 (j, den w u) List.mem_cons_self, hv⟩
  · refine ⟨h'.2.2 (j, den w u) (List.mem_cons_of_mem _ (List.mem_filter.mpr ⟨ents_mem.mpr ⟨u, Nat.zero_le _, h2, rfl⟩, ?_⟩)), (h.2.2 j u h2).2⟩
    by_cases hji : j + 1 = i
    · have := h3 hji
      simp [catV_den, this, h0]; omega
    · simp [hji, h1, h0]
/-- the locals at a method's start -/
def largs : List VV → Nat → List (Option VV)
  | [], n => List.replicate n none
  | .inr (.inl x) :: t, n => some (vL x) :: none :: largs t (n - 2)
  | v :: t, n => some v :: largs t (n - 1)
theorem largs_at {w : Wd} : ∀ {av : List VV} {n i0 j : Nat} {v : VV}, (largs av n)[j]? = some (some v) → (i0 + j, den w v) ∈ lv_args i0 (av.map (den w)) ∧ v ∈ av
  | [], n, i0, j, v, h => by
    have := List.mem_of_getElem? h
    simp [largs] at this
  | .inr (.inl x) :: t, n, i0, j, v, h => by
    match j with
    | 0 => simp [largs] at h; subst h; exact ⟨by simp [lv_args], by simp⟩
    | 1 => simp [largs] at h
    | j + 2 =>
      simp only [largs, List.getElem?_cons_succ] at h
      obtain ⟨h1, h2⟩ := largs_at (w := w) (i0 := i0 + 2) h
      refine ⟨?_, List.mem_cons_of_mem _ h2⟩
      rw [List.map_cons, lv_args, if_pos (by rfl)]
      exact List.mem_cons_of_mem _ (by rw [show i0 + (j + 2) = i0 + 2 + j by omega]; exact h1)
  | .inl x :: t, n, i0, j, v, h => by
    match j with
    | 0 => simp [largs] at h; subst h; exact ⟨by simp [lv_args], by simp⟩
    | j + 1 =>
      simp only [largs, List.getElem?_cons_succ] at h
      obtain ⟨h1, h2⟩ := largs_at (w := w) (i0 := i0 + 1) h
      refine ⟨?_, List.mem_cons_of_mem _ h2⟩
      rw [List.map_cons, lv_args, if_neg (by rw [catV_den]; show ¬ (1 : Nat) = 2; decide)]
      exact List.mem_cons_of_mem _ (by rw [show i0 + (j + 1) = i0 + 1 + j by omega]; exact h1)
  | .inr (.inr r) :: t, n, i0, j, v, h => by
    match j with
    | 0 => simp [largs] at h; subst h; exact ⟨by simp [lv_args], by simp⟩
    | j + 1 =>
      simp only [largs, List.getElem?_cons_succ] at h
      obtain ⟨h1, h2⟩ := largs_at (w := w) (i0 := i0 + 1) h
      refine ⟨?_, List.mem_cons_of_mem _ h2⟩
      rw [List.map_cons, lv_args, if_neg (by rw [catV_den]; show ¬ (1 : Nat) = 2; decide)]
      exact List.mem_cons_of_mem _ (by rw [show i0 + (j + 1) = i0 + 1 + j by omega]; exact h1)
end
section
/-! cells of the world, read and written -/
theorem wws_at {w : Wd} {sg : Sg} {k : Nat} (hk : k < wN w) : (wws w sg)[k]? = some (wA w k, cE w sg k) := by
  simp [wws, hk]
theorem cE_obj {w : Wd} {sg : Sg} {k ci len : Nat} (hK : wK w k = (ci, len)) (hci : ci < 7) : cE w sg k = .inr (ci, (List.range (nf ci)).map (fV w sg ci k)) := by
  simp [cE, hK, hci]
theorem cE_row {w : Wd} {sg : Sg} {k kd len : Nat} (hK : wK w k = (kd, len)) (h1 : 10 ≤ kd) (h2 : kd < 13) : cE w sg k = .inl (wC w kd, (len, .inl (sg k))) := by
  unfold cE
  rw [hK, if_neg (by show ¬ kd < 7; omega), if_pos h2]
theorem cE_rowL {w : Wd} {sg : Sg} {k len : Nat} (hK : wK w k = (13, len)) : cE w sg k = .inl (wC w 13, (len, .inr (.inl (wL w k)))) := by
  simp [cE, hK]
theorem cE_rowQ {w : Wd} {sg : Sg} {k kd len : Nat} (hK : wK w k = (kd, len)) (h1 : 14 ≤ kd) (h2 : kd < 20) : cE w sg k = .inl (wC w kd, (len, .inr (.inr (.inr (.inr (fun j => (ae kd k j).map (fun q => wA w q.2.2))))))) := by
  unfold cE
  rw [hK, if_neg (by show ¬ kd < 7; omega), if_neg (by show ¬ kd < 13; omega), if_neg (by show ¬ kd = 13; omega), if_pos h2]
theorem gcl_at {ci : Nat} (h : ci < 7) : gcl[ci]? = some (gC ci, gT ci, nf ci) := by
  simp [gcl, h]
/-- a cell's ints replaced; one int of one cell put -/
def upr (sg : Sg) (k : Nat) (r : Nat → Int32) : Sg := fun k' => if k' = k then r else sg k'
def ups (sg : Sg) (k j : Nat) (x : Int32) : Sg := upr sg k (upd (sg k) j x)
theorem upr_at (sg : Sg) (k : Nat) (r : Nat → Int32) : upr sg k r k = r := if_pos rfl
theorem upr_ne (sg : Sg) {k k' : Nat} (r : Nat → Int32) (h : k' ≠ k) : upr sg k r k' = sg k' := if_neg h
theorem upr_upr (sg : Sg) (k : Nat) (r r' : Nat → Int32) : upr (upr sg k r) k r' = upr sg k r' := by
  funext k'
  by_cases h : k' = k <;> simp [upr, h]
theorem upr_self (sg : Sg) (k : Nat) : upr sg k (sg k) = sg := by
  funext k'
  by_cases h : k' = k <;> simp [upr, h]
theorem upr_comm (sg : Sg) {k k' : Nat} (r r' : Nat → Int32) (h : k ≠ k') : upr (upr sg k r) k' r' = upr (upr sg k' r') k r := by
  funext i
  by_cases h1 : i = k <;> by_cases h2 : i = k' <;> simp [upr, h1, h2]
  · exact absurd (h1.symm.trans h2) h
  · intro h3; exact absurd h3 h
  · intro h3; exact absurd h3.symm h
theorem ups_at (sg : Sg) (k j : Nat) (x : Int32) : ups sg k j x k = upd (sg k) j x := upr_at _ _ _
theorem ups_ne (sg : Sg) {k k' : Nat} (j : Nat) (x : Int32) (h : k' ≠ k) : ups sg k j x k' = sg k' := upr_ne _ _ h
theorem cE_ne {w : Wd} {sg sg' : Sg} {k : Nat} (h : sg' k = sg k) : cE w sg' k = cE w sg k := by
  unfold cE
  have e1 : ∀ kd, fV w sg' kd k = fV w sg kd k := fun kd => by funext j; simp [fV, h]
  have e2 : ∀ kd, fW w sg' kd k = fW w sg kd k := fun kd => by funext j; simp [fW, h]
  simp only [h, e1, e2]
/-- the world's list, one cell of it put -/
theorem wws_set {w : Wd} {sg sg' : Sg} {k : Nat} (hk : k < wN w) {E : va_E} (hE : cE w sg' k = E) (hne : ∀ k', k' ≠ k → sg' k' = sg k') : (wws w sg).set k (wA w k, E) = wws w sg' := by
  apply List.ext_getElem?
  intro i
  by_cases hi : i < wN w
  · by_cases hik : i = k
    · subst hik
      rw [List.getElem?_set_self (by simp [wws, hk]), wws_at hi, hE]
    · rw [List.getElem?_set_ne (Ne.symm hik), wws_at hi, wws_at hi, cE_ne (hne i hik)]
  · rw [List.getElem?_eq_none (by simp [wws]; omega), List.getElem?_eq_none (by simp [wws]; omega)]
theorem range_set {α : Type} {n j : Nat} (f g : Nat → α) (v : α) (h1 : g j = v) (h2 : ∀ i, i ≠ j → g i = f i) : ((List.range n).map f).set j v = (List.range n).map g := by
  apply List.ext_getElem?
  intro i
  by_cases hi : i < n
  · by_cases hij : i = j
    · subst hij
      rw [List.getElem?_set_self (by simp [hi])]
      simp [hi, h1]
    · rw [List.getElem?_set_ne (Ne.symm hij)]
      simp [hi, h2 i hij]
  · rw [List.getElem?_eq_none (by simp; omega), List.getElem?_eq_none (by simp; omega)]
theorem cE_put {w : Wd} {sg : Sg} {k ci len j : Nat} {x : Int32} (hK : wK w k = (ci, len)) (hci : ci < 7) (hr : rf ci k j = none) : cE w (ups sg k j x) k = .inr (ci, ((List.range (nf ci)).map (fV w sg ci k)).set j (.int x)) := by
  rw [cE_obj hK hci]
  congr 2
  refine (range_set (fV w sg ci k) (fV w (ups sg k j x) ci k) (.int x) ?_ ?_).symm
  · simp [fV, hr, ups_at, upd]
  · intro i hi
    unfold fV
    split
    · rfl
    · simp [ups_at, upd, hi]
section FLAT
variable {p : Program} {l : Launch} {e : Env} {R : Room} {s : State} {m : MethodId} {args : Array Value} {below : List Frame} {meth : Method} {c : Code} {Q : State → Prop} {t : Mt} {w : Wd} {cs sl pc nx : Nat} {loc : List (Option VV)} {st : List VV} {sg : Sg}
/-- what holds all through a method's body -/
def Cx (p : Program) (R : Room) (s : State) (m : MethodId) (args : Array Value) (meth : Method) (c : Code) (t : Mt) (w : Wd) : Prop :=
  p.tables.exec = Jvm.exec ∧ c.code = mB t ∧ c.maxLocals = mL t ∧ s.vm.findClass (mY t).cls = some m.cls ∧ (∀ q ∈ gTBL, q.before args s = true) ∧ meth.locks = false ∧ meth.sig.returnType = mT t ∧ R = mRm t ∧ Ws w s
/-- from here, in every heap that holds the memory, the method comes to an end with Q -/
def V (p : Program) (l : Launch) (e : Env) (R : Room) (s : State) (m : MethodId) (args : Array Value) (below : List Frame) (meth : Method) (c : Code) (t : Mt) (w : Wd) (Q : State → Prop) (cs sl pc : Nat) (loc : List (Option VV)) (st : List VV) (sg : Sg) : Prop :=
  ∀ (H : Heap) (locs : List Loc) (ls : Array Slot), Wp w sg H → va_S (wF w) s.heap H locs → Lk w (mL t) ls loc → (∀ v ∈ st, okv w v) → W p l e R s m args below meth c H locs cs sl Q (F0 m pc ls (st.map (den w)))
theorem okc {v : VV} {st : List VV} (h1 : okv w v) (h2 : ∀ v ∈ st, okv w v) : ∀ u ∈ v :: st, okv w u := List.forall_mem_cons.mpr ⟨h1, h2⟩
theorem ok1 {v : VV} {st : List VV} (h : ∀ u ∈ v :: st, okv w u) : ∀ u ∈ st, okv w u := (List.forall_mem_cons.mp h).2
theorem ok0 {v : VV} {st : List VV} (h : ∀ u ∈ v :: st, okv w u) : okv w v := (List.forall_mem_cons.mp h).1
/-! constants -/
theorem V_iconst (hC : Cx p R s m args meth c t w) {n : Int} (v : Int32) (hd : Dk t pc (.iconst n) 1 nx) (hv : Int32.ofInt n = v) (k : V p l e R s m args below meth c t w Q cs sl nx loc (vI v :: st) sg) : V p l e R s m args below meth c t w Q cs sl pc loc st sg := by
  intro H locs ls hP hS hL hO
  obtain ⟨hd, rfl⟩ := hd
  exact lv_iconst hC.1 hC.2.1 hd hv (k H locs ls hP hS hL (okc trivial hO))
theorem V_bipush (hC : Cx p R s m args meth c t w) {n : Int} (v : Int32) (hd : Dk t pc (.bipush n) 2 nx) (hv : (Int8.ofInt n).toInt32 = v) (k : V p l e R s m args below meth c t w Q cs sl nx loc (vI v :: st) sg) : V p l e R s m args below meth c t w Q cs sl pc loc st sg := by
  intro H locs ls hP hS hL hO
  obtain ⟨hd, rfl⟩ := hd
  exact lv_bipush hC.1 hC.2.1 hd hv (k H locs ls hP hS hL (okc trivial hO))
theorem V_sipush (hC : Cx p R s m args meth c t w) {n : Int} (v : Int32) (hd : Dk t pc (.sipush n) 3 nx) (hv : (Int16.ofInt n).toInt32 = v) (k : V p l e R s m args below meth c t w Q cs sl nx loc (vI v :: st) sg) : V p l e R s m args below meth c t w Q cs sl pc loc st sg := by
  intro H locs ls hP hS hL hO
  obtain ⟨hd, rfl⟩ := hd
  exact lv_sipush hC.1 hC.2.1 hd hv (k H locs ls hP hS hL (okc trivial hO))
theorem V_lconst (hC : Cx p R s m args meth c t w) {n : Fin 2} (v : Int64) (hd : Dk t pc (.lconst n) 1 nx) (hv : Int64.ofNat (n : Nat) = v) (k : V p l e R s m args below meth c t w Q cs sl nx loc (vL v :: st) sg) : V p l e R s m args below meth c t w Q cs sl pc loc st sg := by
  intro H locs ls hP hS hL hO
  obtain ⟨hd, rfl⟩ := hd
  exact lv_lconst hC.1 hC.2.1 hd hv (k H locs ls hP hS hL (okc trivial hO))
theorem V_null (hC : Cx p R s m args meth c t w) (hd : Dk t pc .aconst_null 1 nx) (k : V p l e R s m args below meth c t w Q cs sl nx loc (vR none :: st) sg) : V p l e R s m args below meth c t w Q cs sl pc loc st sg := by
  intro H locs ls hP hS hL hO
  obtain ⟨hd, rfl⟩ := hd
  exact lv_null hC.1 hC.2.1 hd (k H locs ls hP hS hL (okc trivial hO))
theorem mem_gTBL {q : Cond} (h : q ∈ lw_tbl) (g : goodWord q = true) : q ∈ gTBL := List.mem_filter.mpr ⟨h, g⟩
theorem V_ldc (hC : Cx p R s m args meth c t w) {i : Nat} {v : Int32} (hw : Cond.constant (mY t).cls i v ∈ lw_tbl) (hd : Dk t pc (.ldc i) 2 nx) (k : V p l e R s m args below meth c t w Q cs sl nx loc (vI v :: st) sg) : V p l e R s m args below meth c t w Q cs sl pc loc st sg := by
  intro H locs ls hP hS hL hO
  obtain ⟨hd, rfl⟩ := hd
  exact lv_ldc hC.1 hC.2.1 hC.2.2.2.1 (hC.2.2.2.2.1 _ (mem_gTBL hw rfl)) hd (k H locs ls hP hS hL (okc trivial hO))
theorem V_ldcw (hC : Cx p R s m args meth c t w) {i : Nat} {v : Int32} (hw : Cond.constant (mY t).cls i v ∈ lw_tbl) (hd : Dk t pc (.ldc_w i) 3 nx) (k : V p l e R s m args below meth c t w Q cs sl nx loc (vI v :: st) sg) : V p l e R s m args below meth c t w Q cs sl pc loc st sg := by
  intro H locs ls hP hS hL hO
  obtain ⟨hd, rfl⟩ := hd
  exact lv_ldcw hC.1 hC.2.1 hC.2.2.2.1 (hC.2.2.2.2.1 _ (mem_gTBL hw rfl)) hd (k H locs ls hP hS hL (okc trivial hO))
theorem V_ldc2 (hC : Cx p R s m args meth c t w) {i : Nat} {v : Int64} (hw : Cond.constantLong (mY t).cls i v ∈ lw_tbl) (hd : Dk t pc (.ldc2_w i) 3 nx) (k : V p l e R s m args below meth c t w Q cs sl nx loc (vL v :: st) sg) : V p l e R s m args below meth c t w Q cs sl pc loc st sg := by
  intro H locs ls hP hS hL hO
  obtain ⟨hd, rfl⟩ := hd
  exact lv_ldc2 hC.1 hC.2.1 hC.2.2.2.1 (hC.2.2.2.2.1 _ (mem_gTBL hw rfl)) hd (k H locs ls hP hS hL (okc trivial hO))
/-! locals -/
theorem V_iload_n (hC : Cx p R s m args meth c t w) {i : Fin 4} {x : Int32} (hd : Dk t pc (.iload_n i) 1 nx) (hl : loc[(i : Nat)]? = some (some (vI x))) (k : V p l e R s m args below meth c t w Q cs sl nx loc (vI x :: st) sg) : V p l e R s m args below meth c t w Q cs sl pc loc st sg := by
  intro H locs ls hP hS hL hO
  obtain ⟨hd, rfl⟩ := hd
  exact lv_iload_n hC.1 hC.2.1 hd rfl (hL.2.2 _ _ hl).1 (k H locs ls hP hS hL (okc trivial hO))
theorem V_iload (hC : Cx p R s m args meth c t w) {i : Nat} {x : Int32} (hd : Dk t pc (.iload i) 2 nx) (hl : loc[i]? = some (some (vI x))) (k : V p l e R s m args below meth c t w Q cs sl nx loc (vI x :: st) sg) : V p l e R s m args below meth c t w Q cs sl pc loc st sg := by
  intro H locs ls hP hS hL hO
  obtain ⟨hd, rfl⟩ := hd
  exact lv_iload hC.1 hC.2.1 hd (hL.2.2 _ _ hl).1 (k H locs ls hP hS hL (okc trivial hO))
theorem V_lload_n (hC : Cx p R s m args meth c t w) {i : Fin 4} {x : Int64} (hd : Dk t pc (.lload_n i) 1 nx) (hl : loc[(i : Nat)]? = some (some (vL x))) (k : V p l e R s m args below meth c t w Q cs sl nx loc (vL x :: st) sg) : V p l e R s m args below meth c t w Q cs sl pc loc st sg := by
  intro H locs ls hP hS hL hO
  obtain ⟨hd, rfl⟩ := hd
  exact lv_lload_n hC.1 hC.2.1 hd rfl (hL.2.2 _ _ hl).1 (k H locs ls hP hS hL (okc trivial hO))
theorem V_lload (hC : Cx p R s m args meth c t w) {i : Nat} {x : Int64} (hd : Dk t pc (.lload i) 2 nx) (hl : loc[i]? = some (some (vL x))) (k : V p l e R s m args below meth c t w Q cs sl nx loc (vL x :: st) sg) : V p l e R s m args below meth c t w Q cs sl pc loc st sg := by
  intro H locs ls hP hS hL hO
  obtain ⟨hd, rfl⟩ := hd
  exact lv_lload hC.1 hC.2.1 hd (hL.2.2 _ _ hl).1 (k H locs ls hP hS hL (okc trivial hO))
theorem V_aload_n (hC : Cx p R s m args meth c t w) {i : Fin 4} {r : Option (Nat × Nat × Nat)} (hd : Dk t pc (.aload_n i) 1 nx) (hl : loc[(i : Nat)]? = some (some (vR r))) (k : V p l e R s m args below meth c t w Q cs sl nx loc (vR r :: st) sg) : V p l e R s m args below meth c t w Q cs sl pc loc st sg := by
  intro H locs ls hP hS hL hO
  obtain ⟨hd, rfl⟩ := hd
  have h := hL.2.2 _ _ hl
  have k' := k H locs ls hP hS hL (okc h.2 hO)
  cases r with
  | none => exact lv_aload_nN hC.1 hC.2.1 hd rfl h.1 k'
  | some q => exact lv_aload_n hC.1 hC.2.1 hd rfl h.1 k'
theorem V_aload (hC : Cx p R s m args meth c t w) {i : Nat} {r : Option (Nat × Nat × Nat)} (hd : Dk t pc (.aload i) 2 nx) (hl : loc[i]? = some (some (vR r))) (k : V p l e R s m args below meth c t w Q cs sl nx loc (vR r :: st) sg) : V p l e R s m args below meth c t w Q cs sl pc loc st sg := by
  intro H locs ls hP hS hL hO
  obtain ⟨hd, rfl⟩ := hd
  have h := hL.2.2 _ _ hl
  have k' := k H locs ls hP hS hL (okc h.2 hO)
  cases r with
  | none => exact lv_aloadN hC.1 hC.2.1 hd h.1 k'
  | some q => exact lv_aload hC.1 hC.2.1 hd h.1 k'
theorem V_istore_n (hC : Cx p R s m args meth c t w) {i : Fin 4} {x : Int32} (loc' : List (Option VV)) (hd : Dk t pc (.istore_n i) 1 nx) (hl : lput1 loc i (vI x) = loc') (hn : (i : Nat) < mL t) (k : V p l e R s m args below meth c t w Q cs sl nx loc' st sg) : V p l e R s m args below meth c t w Q cs sl pc loc (vI x :: st) sg := by
  intro H locs ls hP hS hL hO
  obtain ⟨hd, rfl⟩ := hd
  exact lv_istore_n hC.1 hC.2.1 hd rfl hL.has hn rfl (fun ls' h' => k H locs ls' hP hS (hl ▸ hL.put1 trivial h') (ok1 hO))
theorem V_istore (hC : Cx p R s m args meth c t w) {i : Nat} {x : Int32} (loc' : List (Option VV)) (hd : Dk t pc (.istore i) 2 nx) (hl : lput1 loc i (vI x) = loc') (hn : i < mL t) (k : V p l e R s m args below meth c t w Q cs sl nx loc' st sg) : V p l e R s m args below meth c t w Q cs sl pc loc (vI x :: st) sg := by
  intro H locs ls hP hS hL hO
  obtain ⟨hd, rfl⟩ := hd
  exact lv_istore hC.1 hC.2.1 hd hL.has hn rfl (fun ls' h' => k H locs ls' hP hS (hl ▸ hL.put1 trivial h') (ok1 hO))
theorem V_lstore_n (hC : Cx p R s m args meth c t w) {i : Fin 4} {x : Int64} (loc' : List (Option VV)) (hd : Dk t pc (.lstore_n i) 1 nx) (hl : lput2 loc i (vL x) = loc') (hn : (i : Nat) + 1 < mL t) (k : V p l e R s m args below meth c t w Q cs sl nx loc' st sg) : V p l e R s m args below meth c t w Q cs sl pc loc (vL x :: st) sg := by
  intro H locs ls hP hS hL hO
  obtain ⟨hd, rfl⟩ := hd
  exact lv_lstore_n hC.1 hC.2.1 hd rfl hL.has hn rfl (fun ls' h' => k H locs ls' hP hS (hl ▸ hL.put2 trivial h') (ok1 hO))
theorem V_lstore (hC : Cx p R s m args meth c t w) {i : Nat} {x : Int64} (loc' : List (Option VV)) (hd : Dk t pc (.lstore i) 2 nx) (hl : lput2 loc i (vL x) = loc') (hn : i + 1 < mL t) (k : V p l e R s m args below meth c t w Q cs sl nx loc' st sg) : V p l e R s m args below meth c t w Q cs sl pc loc (vL x :: st) sg := by
  intro H locs ls hP hS hL hO
  obtain ⟨hd, rfl⟩ := hd
  exact lv_lstore hC.1 hC.2.1 hd hL.has hn rfl (fun ls' h' => k H locs ls' hP hS (hl ▸ hL.put2 trivial h') (ok1 hO))
theorem V_astore_n (hC : Cx p R s m args meth c t w) {i : Fin 4} {r : Option (Nat × Nat × Nat)} (loc' : List (Option VV)) (hd : Dk t pc (.astore_n i) 1 nx) (hl : lput1 loc i (vR r) = loc') (hn : (i : Nat) < mL t) (k : V p l e R s m args below meth c t w Q cs sl nx loc' st sg) : V p l e R s m args below meth c t w Q cs sl pc loc (vR r :: st) sg := by
  intro H locs ls hP hS hL hO
  obtain ⟨hd, rfl⟩ := hd
  have ho := ok0 hO
  subst hl
  cases r with
  | none => exact lv_astore_nN hC.1 hC.2.1 hd rfl hL.has hn rfl (fun ls' h' => k H locs ls' hP hS (hL.put1 (v := vR none) trivial h') (ok1 hO))
  | some q => exact lv_astore_n hC.1 hC.2.1 hd rfl hL.has hn rfl (fun ls' h' => k H locs ls' hP hS (hL.put1 (v := vR (some q)) ho h') (ok1 hO))
theorem V_astore (hC : Cx p R s m args meth c t w) {i : Nat} {r : Option (Nat × Nat × Nat)} (loc' : List (Option VV)) (hd : Dk t pc (.astore i) 2 nx) (hl : lput1 loc i (vR r) = loc') (hn : i < mL t) (k : V p l e R s m args below meth c t w Q cs sl nx loc' st sg) : V p l e R s m args below meth c t w Q cs sl pc loc (vR r :: st) sg := by
  intro H locs ls hP hS hL hO
  obtain ⟨hd, rfl⟩ := hd
  have ho := ok0 hO
  subst hl
  cases r with
  | none => exact lv_astoreN hC.1 hC.2.1 hd hL.has hn rfl (fun ls' h' => k H locs ls' hP hS (hL.put1 (v := vR none) trivial h') (ok1 hO))
  | some q => exact lv_astore hC.1 hC.2.1 hd hL.has hn rfl (fun ls' h' => k H locs ls' hP hS (hL.put1 (v := vR (some q)) ho h') (ok1 hO))
theorem V_iinc (hC : Cx p R s m args meth c t w) {i : Nat} {n : Int} {x : Int32} (v : Int32) (loc' : List (Option VV)) (hd : Dk t pc (.iinc i n) 3 nx) (hx : loc[i]? = some (some (vI x))) (hv : x + Int32.ofInt n = v) (hl : lput1 loc i (vI v) = loc') (hn : i < mL t) (k : V p l e R s m args below meth c t w Q cs sl nx loc' st sg) : V p l e R s m args below meth c t w Q cs sl pc loc st sg := by
  intro H locs ls hP hS hL hO
  obtain ⟨hd, rfl⟩ := hd
  obtain ⟨k0, hk0⟩ := List.getElem?_of_mem (ents_mem (w := w) (loc := loc) (i0 := 0) (j := i) (x := .int x) |>.mpr ⟨vI x, Nat.zero_le _, hx, rfl⟩)
  exact lv_iinc hC.1 hC.2.1 hd hL.has hk0 hv hn rfl (fun ls' h' => k H locs ls' hP hS (hl ▸ hL.put1 (v := vI v) trivial h') hO)
/-- a value gets a name -/
theorem V_nameI {x : Int32} (k : ∀ y : Int32, y = x → V p l e R s m args below meth c t w Q cs sl pc loc (vI y :: st) sg) : V p l e R s m args below meth c t w Q cs sl pc loc (vI x :: st) sg := k x rfl
theorem V_nameL {x : Int64} (k : ∀ y : Int64, y = x → V p l e R s m args below meth c t w Q cs sl pc loc (vL y :: st) sg) : V p l e R s m args below meth c t w Q cs sl pc loc (vL x :: st) sg := k x rfl
theorem V_nameR {x : Option (Nat × Nat × Nat)} (k : ∀ y, y = x → V p l e R s m args below meth c t w Q cs sl pc loc (vR y :: st) sg) : V p l e R s m args below meth c t w Q cs sl pc loc (vR x :: st) sg := k x rfl
theorem V_nameS (k : ∀ sg', sg' = sg → V p l e R s m args below meth c t w Q cs sl pc loc st sg') : V p l e R s m args below meth c t w Q cs sl pc loc st sg := k sg rfl
theorem V_iadd (hC : Cx p R s m args meth c t w) {x y : Int32} (hd : Dk t pc .iadd 1 nx) (k : V p l e R s m args below meth c t w Q cs sl nx loc (vI (x + y) :: st) sg) : V p l e R s m args below meth c t w Q cs sl pc loc (vI y :: vI x :: st) sg := by
  intro H locs ls hP hS hL hO
  obtain ⟨hd, rfl⟩ := hd
  exact lv_iadd hC.1 hC.2.1 hd (k H locs ls hP hS hL (okc trivial (fun v hv => hO v (by simp [hv]))))
theorem V_isub (hC : Cx p R s m args meth c t w) {x y : Int32} (hd : Dk t pc .isub 1 nx) (k : V p l e R s m args below meth c t w Q cs sl nx loc (vI (x - y) :: st) sg) : V p l e R s m args below meth c t w Q cs sl pc loc (vI y :: vI x :: st) sg := by
  intro H locs ls hP hS hL hO
  obtain ⟨hd, rfl⟩ := hd
  exact lv_isub hC.1 hC.2.1 hd (k H locs ls hP hS hL (okc trivial (fun v hv => hO v (by simp [hv]))))
theorem V_imul (hC : Cx p R s m args meth c t w) {x y : Int32} (hd : Dk t pc .imul 1 nx) (k : V p l e R s m args below meth c t w Q cs sl nx loc (vI (x * y) :: st) sg) : V p l e R s m args below meth c t w Q cs sl pc loc (vI y :: vI x :: st) sg := by
  intro H locs ls hP hS hL hO
  obtain ⟨hd, rfl⟩ := hd
  exact lv_imul hC.1 hC.2.1 hd (k H locs ls hP hS hL (okc trivial (fun v hv => hO v (by simp [hv]))))
theorem V_iand (hC : Cx p R s m args meth c t w) {x y : Int32} (hd : Dk t pc .iand 1 nx) (k : V p l e R s m args below meth c t w Q cs sl nx loc (vI (x &&& y) :: st) sg) : V p l e R s m args below meth c t w Q cs sl pc loc (vI y :: vI x :: st) sg := by
  intro H locs ls hP hS hL hO
  obtain ⟨hd, rfl⟩ := hd
  exact lv_iand hC.1 hC.2.1 hd (k H locs ls hP hS hL (okc trivial (fun v hv => hO v (by simp [hv]))))
theorem V_ior (hC : Cx p R s m args meth c t w) {x y : Int32} (hd : Dk t pc .ior 1 nx) (k : V p l e R s m args below meth c t w Q cs sl nx loc (vI (x ||| y) :: st) sg) : V p l e R s m args below meth c t w Q cs sl pc loc (vI y :: vI x :: st) sg := by
  intro H locs ls hP hS hL hO
  obtain ⟨hd, rfl⟩ := hd
  exact lv_ior hC.1 hC.2.1 hd (k H locs ls hP hS hL (okc trivial (fun v hv => hO v (by simp [hv]))))
theorem V_ixor (hC : Cx p R s m args meth c t w) {x y : Int32} (hd : Dk t pc .ixor 1 nx) (k : V p l e R s m args below meth c t w Q cs sl nx loc (vI (x ^^^ y) :: st) sg) : V p l e R s m args below meth c t w Q cs sl pc loc (vI y :: vI x :: st) sg := by
  intro H locs ls hP hS hL hO
  obtain ⟨hd, rfl⟩ := hd
  exact lv_ixor hC.1 hC.2.1 hd (k H locs ls hP hS hL (okc trivial (fun v hv => hO v (by simp [hv]))))
theorem V_idiv (hC : Cx p R s m args meth c t w) {x y : Int32} (hd : Dk t pc .idiv 1 nx) (hne : ¬ y = 0) (k : V p l e R s m args below meth c t w Q cs sl nx loc (vI (x / y) :: st) sg) : V p l e R s m args below meth c t w Q cs sl pc loc (vI y :: vI x :: st) sg := by
  intro H locs ls hP hS hL hO
  obtain ⟨hd, rfl⟩ := hd
  exact lv_idiv hC.1 hC.2.1 hd hne (k H locs ls hP hS hL (okc trivial (fun v hv => hO v (by simp [hv]))))
theorem V_irem (hC : Cx p R s m args meth c t w) {x y : Int32} (hd : Dk t pc .irem 1 nx) (hne : ¬ y = 0) (k : V p l e R s m args below meth c t w Q cs sl nx loc (vI (x - x / y * y) :: st) sg) : V p l e R s m args below meth c t w Q cs sl pc loc (vI y :: vI x :: st) sg := by
  intro H locs ls hP hS hL hO
  obtain ⟨hd, rfl⟩ := hd
  exact lv_irem hC.1 hC.2.1 hd hne (k H locs ls hP hS hL (okc trivial (fun v hv => hO v (by simp [hv]))))
theorem V_ishl (hC : Cx p R s m args meth c t w) {x y : Int32} (hd : Dk t pc .ishl 1 nx) (k : V p l e R s m args below meth c t w Q cs sl nx loc (vI (x <<< (y &&& 31)) :: st) sg) : V p l e R s m args below meth c t w Q cs sl pc loc (vI y :: vI x :: st) sg := by
  intro H locs ls hP hS hL hO
  obtain ⟨hd, rfl⟩ := hd
  exact lv_ishl hC.1 hC.2.1 hd (k H locs ls hP hS hL (okc trivial (fun v hv => hO v (by simp [hv]))))
theorem V_ishr (hC : Cx p R s m args meth c t w) {x y : Int32} (hd : Dk t pc .ishr 1 nx) (k : V p l e R s m args below meth c t w Q cs sl nx loc (vI (x >>> (y &&& 31)) :: st) sg) : V p l e R s m args below meth c t w Q cs sl pc loc (vI y :: vI x :: st) sg := by
  intro H locs ls hP hS hL hO
  obtain ⟨hd, rfl⟩ := hd
  exact lv_ishr hC.1 hC.2.1 hd (k H locs ls hP hS hL (okc trivial (fun v hv => hO v (by simp [hv]))))
theorem V_iushr (hC : Cx p R s m args meth c t w) {x y : Int32} (hd : Dk t pc .iushr 1 nx) (k : V p l e R s m args below meth c t w Q cs sl nx loc (vI ((x.toUInt32 >>> (y.toUInt32 &&& Int32.toUInt32 31)).toInt32) :: st) sg) : V p l e R s m args below meth c t w Q cs sl pc loc (vI y :: vI x :: st) sg := by
  intro H locs ls hP hS hL hO
  obtain ⟨hd, rfl⟩ := hd
  exact lv_iushr hC.1 hC.2.1 hd rfl (k H locs ls hP hS hL (okc trivial (fun v hv => hO v (by simp [hv]))))
theorem V_ineg (hC : Cx p R s m args meth c t w) {x : Int32} (hd : Dk t pc .ineg 1 nx) (k : V p l e R s m args below meth c t w Q cs sl nx loc (vI (-x) :: st) sg) : V p l e R s m args below meth c t w Q cs sl pc loc (vI x :: st) sg := by
  intro H locs ls hP hS hL hO
  obtain ⟨hd, rfl⟩ := hd
  exact lv_ineg hC.1 hC.2.1 hd (k H locs ls hP hS hL (okc trivial (fun v hv => hO v (by simp [hv]))))
theorem V_ladd (hC : Cx p R s m args meth c t w) {x y : Int64} (hd : Dk t pc .ladd 1 nx) (k : V p l e R s m args below meth c t w Q cs sl nx loc (vL (x + y) :: st) sg) : V p l e R s m args below meth c t w Q cs sl pc loc (vL y :: vL x :: st) sg := by
  intro H locs ls hP hS hL hO
  obtain ⟨hd, rfl⟩ := hd
  exact lv_ladd hC.1 hC.2.1 hd (k H locs ls hP hS hL (okc trivial (fun v hv => hO v (by simp [hv]))))
theorem V_lsub (hC : Cx p R s m args meth c t w) {x y : Int64} (hd : Dk t pc .lsub 1 nx) (k : V p l e R s m args below meth c t w Q cs sl nx loc (vL (x - y) :: st) sg) : V p l e R s m args below meth c t w Q cs sl pc loc (vL y :: vL x :: st) sg := by
  intro H locs ls hP hS hL hO
  obtain ⟨hd, rfl⟩ := hd
  exact lv_lsub hC.1 hC.2.1 hd (k H locs ls hP hS hL (okc trivial (fun v hv => hO v (by simp [hv]))))
theorem V_lmul (hC : Cx p R s m args meth c t w) {x y : Int64} (hd : Dk t pc .lmul 1 nx) (k : V p l e R s m args below meth c t w Q cs sl nx loc (vL (x * y) :: st) sg) : V p l e R s m args below meth c t w Q cs sl pc loc (vL y :: vL x :: st) sg := by
  intro H locs ls hP hS hL hO
  obtain ⟨hd, rfl⟩ := hd
  exact lv_lmul hC.1 hC.2.1 hd (k H locs ls hP hS hL (okc trivial (fun v hv => hO v (by simp [hv]))))
theorem V_land (hC : Cx p R s m args meth c t w) {x y : Int64} (hd : Dk t pc .land 1 nx) (k : V p l e R s m args below meth c t w Q cs sl nx loc (vL (x &&& y) :: st) sg) : V p l e R s m args below meth c t w Q cs sl pc loc (vL y :: vL x :: st) sg := by
  intro H locs ls hP hS hL hO
  obtain ⟨hd, rfl⟩ := hd
  exact lv_land hC.1 hC.2.1 hd (k H locs ls hP hS hL (okc trivial (fun v hv => hO v (by simp [hv]))))
theorem V_lor (hC : Cx p R s m args meth c t w) {x y : Int64} (hd : Dk t pc .lor 1 nx) (k : V p l e R s m args below meth c t w Q cs sl nx loc (vL (x ||| y) :: st) sg) : V p l e R s m args below meth c t w Q cs sl pc loc (vL y :: vL x :: st) sg := by
  intro H locs ls hP hS hL hO
  obtain ⟨hd, rfl⟩ := hd
  exact lv_lor hC.1 hC.2.1 hd (k H locs ls hP hS hL (okc trivial (fun v hv => hO v (by simp [hv]))))
theorem V_lxor (hC : Cx p R s m args meth c t w) {x y : Int64} (hd : Dk t pc .lxor 1 nx) (k : V p l e R s m args below meth c t w Q cs sl nx loc (vL (x ^^^ y) :: st) sg) : V p l e R s m args below meth c t w Q cs sl pc loc (vL y :: vL x :: st) sg := by
  intro H locs ls hP hS hL hO
  obtain ⟨hd, rfl⟩ := hd
  exact lv_lxor hC.1 hC.2.1 hd (k H locs ls hP hS hL (okc trivial (fun v hv => hO v (by simp [hv]))))
theorem V_ldiv (hC : Cx p R s m args meth c t w) {x y : Int64} (hd : Dk t pc .ldiv 1 nx) (hne : ¬ y = 0) (k : V p l e R s m args below meth c t w Q cs sl nx loc (vL (x / y) :: st) sg) : V p l e R s m args below meth c t w Q cs sl pc loc (vL y :: vL x :: st) sg := by
  intro H locs ls hP hS hL hO
  obtain ⟨hd, rfl⟩ := hd
  exact lv_ldiv hC.1 hC.2.1 hd hne (k H locs ls hP hS hL (okc trivial (fun v hv => hO v (by simp [hv]))))
theorem V_lrem (hC : Cx p R s m args meth c t w) {x y : Int64} (hd : Dk t pc .lrem 1 nx) (hne : ¬ y = 0) (k : V p l e R s m args below meth c t w Q cs sl nx loc (vL (x - x / y * y) :: st) sg) : V p l e R s m args below meth c t w Q cs sl pc loc (vL y :: vL x :: st) sg := by
  intro H locs ls hP hS hL hO
  obtain ⟨hd, rfl⟩ := hd
  exact lv_lrem hC.1 hC.2.1 hd hne (k H locs ls hP hS hL (okc trivial (fun v hv => hO v (by simp [hv]))))
theorem V_lshl (hC : Cx p R s m args meth c t w) {x : Int64} {y : Int32} (hd : Dk t pc .lshl 1 nx) (k : V p l e R s m args below meth c t w Q cs sl nx loc (vL (x <<< (y.toInt64 &&& 63)) :: st) sg) : V p l e R s m args below meth c t w Q cs sl pc loc (vI y :: vL x :: st) sg := by
  intro H locs ls hP hS hL hO
  obtain ⟨hd, rfl⟩ := hd
  exact lv_lshl hC.1 hC.2.1 hd rfl (k H locs ls hP hS hL (okc trivial (fun v hv => hO v (by simp [hv]))))
theorem V_lushr (hC : Cx p R s m args meth c t w) {x : Int64} {y : Int32} (hd : Dk t pc .lushr 1 nx) (k : V p l e R s m args below meth c t w Q cs sl nx loc (vL ((x.toUInt64 >>> (y.toInt64.toUInt64 &&& Int64.toUInt64 63)).toInt64) :: st) sg) : V p l e R s m args below meth c t w Q cs sl pc loc (vI y :: vL x :: st) sg := by
  intro H locs ls hP hS hL hO
  obtain ⟨hd, rfl⟩ := hd
  exact lv_lushr hC.1 hC.2.1 hd rfl (k H locs ls hP hS hL (okc trivial (fun v hv => hO v (by simp [hv]))))
theorem V_lcmp (hC : Cx p R s m args meth c t w) {x y : Int64} (hd : Dk t pc .lcmp 1 nx) (k : V p l e R s m args below meth c t w Q cs sl nx loc (vI (lg_cmp x y) :: st) sg) : V p l e R s m args below meth c t w Q cs sl pc loc (vL y :: vL x :: st) sg := by
  intro H locs ls hP hS hL hO
  obtain ⟨hd, rfl⟩ := hd
  exact W.lcmp hC.1 hC.2.1 hd (k H locs ls hP hS hL (okc trivial (fun v hv => hO v (by simp [hv]))))
theorem V_i2l (hC : Cx p R s m args meth c t w) {x : Int32} (hd : Dk t pc .i2l 1 nx) (k : V p l e R s m args below meth c t w Q cs sl nx loc (vL (x.toInt64) :: st) sg) : V p l e R s m args below meth c t w Q cs sl pc loc (vI x :: st) sg := by
  intro H locs ls hP hS hL hO
  obtain ⟨hd, rfl⟩ := hd
  exact lv_i2l hC.1 hC.2.1 hd rfl (k H locs ls hP hS hL (okc trivial (fun v hv => hO v (by simp [hv]))))
theorem V_l2i (hC : Cx p R s m args meth c t w) {x : Int64} (hd : Dk t pc .l2i 1 nx) (k : V p l e R s m args below meth c t w Q cs sl nx loc (vI (x.toInt32) :: st) sg) : V p l e R s m args below meth c t w Q cs sl pc loc (vL x :: st) sg := by
  intro H locs ls hP hS hL hO
  obtain ⟨hd, rfl⟩ := hd
  exact lv_l2i hC.1 hC.2.1 hd rfl (k H locs ls hP hS hL (okc trivial (fun v hv => hO v (by simp [hv]))))
theorem V_i2c (hC : Cx p R s m args meth c t w) {x : Int32} (hd : Dk t pc .i2c 1 nx) (k : V p l e R s m args below meth c t w Q cs sl nx loc (vI ((x.toUInt32 % 65536).toInt32) :: st) sg) : V p l e R s m args below meth c t w Q cs sl pc loc (vI x :: st) sg := by
  intro H locs ls hP hS hL hO
  obtain ⟨hd, rfl⟩ := hd
  exact lv_i2c hC.1 hC.2.1 hd rfl (k H locs ls hP hS hL (okc trivial (fun v hv => hO v (by simp [hv]))))
theorem V_dup (hC : Cx p R s m args meth c t w) {v : VV} (hd : Dk t pc .dup 1 nx) (hv : catV v = 1) (k : V p l e R s m args below meth c t w Q cs sl nx loc (v :: v :: st) sg) : V p l e R s m args below meth c t w Q cs sl pc loc (v :: st) sg := by
  intro H locs ls hP hS hL hO
  obtain ⟨hd, rfl⟩ := hd
  exact lv_dup hC.1 hC.2.1 hd (by rw [catV_den]; exact hv) (k H locs ls hP hS hL (okc (ok0 hO) hO))
theorem V_pop (hC : Cx p R s m args meth c t w) {v : VV} (hd : Dk t pc .pop 1 nx) (hv : catV v = 1) (k : V p l e R s m args below meth c t w Q cs sl nx loc st sg) : V p l e R s m args below meth c t w Q cs sl pc loc (v :: st) sg := by
  intro H locs ls hP hS hL hO
  obtain ⟨hd, rfl⟩ := hd
  exact lv_pop hC.1 hC.2.1 hd (by rw [catV_den]; exact hv) (k H locs ls hP hS hL (ok1 hO))
theorem V_dup2 (hC : Cx p R s m args meth c t w) {v u : VV} (hd : Dk t pc .dup2 1 nx) (hv : catV v = 1) (hu : catV u = 1) (k : V p l e R s m args below meth c t w Q cs sl nx loc (v :: u :: v :: u :: st) sg) : V p l e R s m args below meth c t w Q cs sl pc loc (v :: u :: st) sg := by
  intro H locs ls hP hS hL hO
  obtain ⟨hd, rfl⟩ := hd
  exact lv_dup2_11 hC.1 hC.2.1 hd (by rw [catV_den]; exact hv) (by rw [catV_den]; exact hu) (k H locs ls hP hS hL (okc (ok0 hO) (okc (ok0 (ok1 hO)) hO)))
theorem V_dup2L (hC : Cx p R s m args meth c t w) {v : VV} (hd : Dk t pc .dup2 1 nx) (hv : catV v = 2) (k : V p l e R s m args below meth c t w Q cs sl nx loc (v :: v :: st) sg) : V p l e R s m args below meth c t w Q cs sl pc loc (v :: st) sg := by
  intro H locs ls hP hS hL hO
  obtain ⟨hd, rfl⟩ := hd
  exact lv_dup2_2 hC.1 hC.2.1 hd (by rw [catV_den]; exact hv) (k H locs ls hP hS hL (okc (ok0 hO) hO))
theorem V_goto (hC : Cx p R s m args meth c t w) {off : Int} (tgt : Nat) (hd : Dk t pc (.goto off) 3 nx) (ht : (pc : Int) + off = (tgt : Int)) (k : V p l e R s m args below meth c t w Q cs sl tgt loc st sg) : V p l e R s m args below meth c t w Q cs sl pc loc st sg := by
  intro H locs ls hP hS hL hO
  exact lv_goto hC.1 hC.2.1 hd.1 ht (k H locs ls hP hS hL hO)
theorem V_ifnull (hC : Cx p R s m args meth c t w) {off : Int} (tgt : Nat) (hd : Dk t pc (.ifnull off) 3 nx) (ht : (pc : Int) + off = (tgt : Int)) {r : Option (Nat × Nat × Nat)} (kt : r = none → V p l e R s m args below meth c t w Q cs sl tgt loc st sg) (kf : ∀ q, r = some q → V p l e R s m args below meth c t w Q cs sl nx loc st sg) : V p l e R s m args below meth c t w Q cs sl pc loc (vR r :: st) sg := by
  intro H locs ls hP hS hL hO
  obtain ⟨hd, rfl⟩ := hd
  cases r with
  | none => exact lv_ifnullN hC.1 hC.2.1 hd ht (kt rfl H locs ls hP hS hL (ok1 hO))
  | some q => exact lv_ifnull hC.1 hC.2.1 hd (kf q rfl H locs ls hP hS hL (ok1 hO))
theorem V_ifnonnull (hC : Cx p R s m args meth c t w) {off : Int} (tgt : Nat) (hd : Dk t pc (.ifnonnull off) 3 nx) (ht : (pc : Int) + off = (tgt : Int)) {r : Option (Nat × Nat × Nat)} (kt : ∀ q, r = some q → V p l e R s m args below meth c t w Q cs sl tgt loc st sg) (kf : r = none → V p l e R s m args below meth c t w Q cs sl nx loc st sg) : V p l e R s m args below meth c t w Q cs sl pc loc (vR r :: st) sg := by
  intro H locs ls hP hS hL hO
  obtain ⟨hd, rfl⟩ := hd
  cases r with
  | none => exact lv_ifnonnullN hC.1 hC.2.1 hd (kf rfl H locs ls hP hS hL (ok1 hO))
  | some q => exact lv_ifnonnull hC.1 hC.2.1 hd ht (kt q rfl H locs ls hP hS hL (ok1 hO))
theorem V_if_eq (hC : Cx p R s m args meth c t w) {off : Int} (tgt : Nat) {x : Int32} (hd : Dk t pc (.ifCond .eq off) 3 nx) (ht : (pc : Int) + off = (tgt : Int)) (kt : x = 0 → V p l e R s m args below meth c t w Q cs sl tgt loc st sg) (kf : ¬ x = 0 → V p l e R s m args below meth c t w Q cs sl nx loc st sg) : V p l e R s m args below meth c t w Q cs sl pc loc (vI x :: st) sg := by
  intro H locs ls hP hS hL hO
  obtain ⟨hd, rfl⟩ := hd
  exact lv_if_eq hC.1 hC.2.1 hd ht (fun h => kt h H locs ls hP hS hL (ok1 hO)) (fun h => kf h H locs ls hP hS hL (ok1 hO))
theorem V_icmp_eq (hC : Cx p R s m args meth c t w) {off : Int} (tgt : Nat) {x y : Int32} (hd : Dk t pc (.if_icmp .eq off) 3 nx) (ht : (pc : Int) + off = (tgt : Int)) (kt : x = y → V p l e R s m args below meth c t w Q cs sl tgt loc st sg) (kf : ¬ x = y → V p l e R s m args below meth c t w Q cs sl nx loc st sg) : V p l e R s m args below meth c t w Q cs sl pc loc (vI y :: vI x :: st) sg := by
  intro H locs ls hP hS hL hO
  obtain ⟨hd, rfl⟩ := hd
  exact lv_icmp_eq hC.1 hC.2.1 hd ht (fun h => kt h H locs ls hP hS hL (ok1 (ok1 hO))) (fun h => kf h H locs ls hP hS hL (ok1 (ok1 hO)))
theorem V_if_ne (hC : Cx p R s m args meth c t w) {off : Int} (tgt : Nat) {x : Int32} (hd : Dk t pc (.ifCond .ne off) 3 nx) (ht : (pc : Int) + off = (tgt : Int)) (kt : ¬ x = 0 → V p l e R s m args below meth c t w Q cs sl tgt loc st sg) (kf : x = 0 → V p l e R s m args below meth c t w Q cs sl nx loc st sg) : V p l e R s m args below meth c t w Q cs sl pc loc (vI x :: st) sg := by
  intro H locs ls hP hS hL hO
  obtain ⟨hd, rfl⟩ := hd
  exact lv_if_ne hC.1 hC.2.1 hd ht (fun h => kt h H locs ls hP hS hL (ok1 hO)) (fun h => kf h H locs ls hP hS hL (ok1 hO))
theorem V_icmp_ne (hC : Cx p R s m args meth c t w) {off : Int} (tgt : Nat) {x y : Int32} (hd : Dk t pc (.if_icmp .ne off) 3 nx) (ht : (pc : Int) + off = (tgt : Int)) (kt : ¬ x = y → V p l e R s m args below meth c t w Q cs sl tgt loc st sg) (kf : x = y → V p l e R s m args below meth c t w Q cs sl nx loc st sg) : V p l e R s m args below meth c t w Q cs sl pc loc (vI y :: vI x :: st) sg := by
  intro H locs ls hP hS hL hO
  obtain ⟨hd, rfl⟩ := hd
  exact lv_icmp_ne hC.1 hC.2.1 hd ht (fun h => kt h H locs ls hP hS hL (ok1 (ok1 hO))) (fun h => kf h H locs ls hP hS hL (ok1 (ok1 hO)))
theorem V_if_lt (hC : Cx p R s m args meth c t w) {off : Int} (tgt : Nat) {x : Int32} (hd : Dk t pc (.ifCond .lt off) 3 nx) (ht : (pc : Int) + off = (tgt : Int)) (kt : x < 0 → V p l e R s m args below meth c t w Q cs sl tgt loc st sg) (kf : ¬ x < 0 → V p l e R s m args below meth c t w Q cs sl nx loc st sg) : V p l e R s m args below meth c t w Q cs sl pc loc (vI x :: st) sg := by
  intro H locs ls hP hS hL hO
  obtain ⟨hd, rfl⟩ := hd
  exact lv_if_lt hC.1 hC.2.1 hd ht (fun h => kt h H locs ls hP hS hL (ok1 hO)) (fun h => kf h H locs ls hP hS hL (ok1 hO))
theorem V_icmp_lt (hC : Cx p R s m args meth c t w) {off : Int} (tgt : Nat) {x y : Int32} (hd : Dk t pc (.if_icmp .lt off) 3 nx) (ht : (pc : Int) + off = (tgt : Int)) (kt : x < y → V p l e R s m args below meth c t w Q cs sl tgt loc st sg) (kf : ¬ x < y → V p l e R s m args below meth c t w Q cs sl nx loc st sg) : V p l e R s m args below meth c t w Q cs sl pc loc (vI y :: vI x :: st) sg := by
  intro H locs ls hP hS hL hO
  obtain ⟨hd, rfl⟩ := hd
  exact lv_icmp_lt hC.1 hC.2.1 hd ht (fun h => kt h H locs ls hP hS hL (ok1 (ok1 hO))) (fun h => kf h H locs ls hP hS hL (ok1 (ok1 hO)))
theorem V_if_ge (hC : Cx p R s m args meth c t w) {off : Int} (tgt : Nat) {x : Int32} (hd : Dk t pc (.ifCond .ge off) 3 nx) (ht : (pc : Int) + off = (tgt : Int)) (kt : 0 ≤ x → V p l e R s m args below meth c t w Q cs sl tgt loc st sg) (kf : ¬ 0 ≤ x → V p l e R s m args below meth c t w Q cs sl nx loc st sg) : V p l e R s m args below meth c t w Q cs sl pc loc (vI x :: st) sg := by
  intro H locs ls hP hS hL hO
  obtain ⟨hd, rfl⟩ := hd
  exact lv_if_ge hC.1 hC.2.1 hd ht (fun h => kt h H locs ls hP hS hL (ok1 hO)) (fun h => kf h H locs ls hP hS hL (ok1 hO))
theorem V_icmp_ge (hC : Cx p R s m args meth c t w) {off : Int} (tgt : Nat) {x y : Int32} (hd : Dk t pc (.if_icmp .ge off) 3 nx) (ht : (pc : Int) + off = (tgt : Int)) (kt : y ≤ x → V p l e R s m args below meth c t w Q cs sl tgt loc st sg) (kf : ¬ y ≤ x → V p l e R s m args below meth c t w Q cs sl nx loc st sg) : V p l e R s m args below meth c t w Q cs sl pc loc (vI y :: vI x :: st) sg := by
  intro H locs ls hP hS hL hO
  obtain ⟨hd, rfl⟩ := hd
  exact lv_icmp_ge hC.1 hC.2.1 hd ht (fun h => kt h H locs ls hP hS hL (ok1 (ok1 hO))) (fun h => kf h H locs ls hP hS hL (ok1 (ok1 hO)))
theorem V_if_gt (hC : Cx p R s m args meth c t w) {off : Int} (tgt : Nat) {x : Int32} (hd : Dk t pc (.ifCond .gt off) 3 nx) (ht : (pc : Int) + off = (tgt : Int)) (kt : 0 < x → V p l e R s m args below meth c t w Q cs sl tgt loc st sg) (kf : ¬ 0 < x → V p l e R s m args below meth c t w Q cs sl nx loc st sg) : V p l e R s m args below meth c t w Q cs sl pc loc (vI x :: st) sg := by
  intro H locs ls hP hS hL hO
  obtain ⟨hd, rfl⟩ := hd
  exact lv_if_gt hC.1 hC.2.1 hd ht (fun h => kt h H locs ls hP hS hL (ok1 hO)) (fun h => kf h H locs ls hP hS hL (ok1 hO))
theorem V_icmp_gt (hC : Cx p R s m args meth c t w) {off : Int} (tgt : Nat) {x y : Int32} (hd : Dk t pc (.if_icmp .gt off) 3 nx) (ht : (pc : Int) + off = (tgt : Int)) (kt : y < x → V p l e R s m args below meth c t w Q cs sl tgt loc st sg) (kf : ¬ y < x → V p l e R s m args below meth c t w Q cs sl nx loc st sg) : V p l e R s m args below meth c t w Q cs sl pc loc (vI y :: vI x :: st) sg := by
  intro H locs ls hP hS hL hO
  obtain ⟨hd, rfl⟩ := hd
  exact lv_icmp_gt hC.1 hC.2.1 hd ht (fun h => kt h H locs ls hP hS hL (ok1 (ok1 hO))) (fun h => kf h H locs ls hP hS hL (ok1 (ok1 hO)))
theorem V_if_le (hC : Cx p R s m args meth c t w) {off : Int} (tgt : Nat) {x : Int32} (hd : Dk t pc (.ifCond .le off) 3 nx) (ht : (pc : Int) + off = (tgt : Int)) (kt : x ≤ 0 → V p l e R s m args below meth c t w Q cs sl tgt loc st sg) (kf : ¬ x ≤ 0 → V p l e R s m args below meth c t w Q cs sl nx loc st sg) : V p l e R s m args below meth c t w Q cs sl pc loc (vI x :: st) sg := by
  intro H locs ls hP hS hL hO
  obtain ⟨hd, rfl⟩ := hd
  exact lv_if_le hC.1 hC.2.1 hd ht (fun h => kt h H locs ls hP hS hL (ok1 hO)) (fun h => kf h H locs ls hP hS hL (ok1 hO))
theorem V_icmp_le (hC : Cx p R s m args meth c t w) {off : Int} (tgt : Nat) {x y : Int32} (hd : Dk t pc (.if_icmp .le off) 3 nx) (ht : (pc : Int) + off = (tgt : Int)) (kt : x ≤ y → V p l e R s m args below meth c t w Q cs sl tgt loc st sg) (kf : ¬ x ≤ y → V p l e R s m args below meth c t w Q cs sl nx loc st sg) : V p l e R s m args below meth c t w Q cs sl pc loc (vI y :: vI x :: st) sg := by
  intro H locs ls hP hS hL hO
  obtain ⟨hd, rfl⟩ := hd
  exact lv_icmp_le hC.1 hC.2.1 hd ht (fun h => kt h H locs ls hP hS hL (ok1 (ok1 hO))) (fun h => kf h H locs ls hP hS hL (ok1 (ok1 hO)))
end FLAT
end
section
/-! the heap's rows; calls; returns -/
def LkF (own : String) (idx ci j : Nat) : Prop := Cond.fieldLink own idx (gT ci j).1 (gT ci j).2.1 (gT ci j).2.2.1 ∈ lw_tbl ∨ Cond.fieldLinkNest own idx (gT ci j).1 (gT ci j).2.1 (gT ci j).2.2.1 "LanternBoats" ∈ lw_tbl
theorem u_in_g {ci : Nat} (h : ci < 7) : ∀ q ∈ u_ws (gC ci) (gT ci) (nf ci), q ∈ gTBL := by
  have key : ∀ ci, ci < 7 → ∀ j, j < nf ci → u_lay (gC ci) (gT ci) j ∈ lw_tbl := by decide +kernel
  intro q hq
  obtain ⟨j, hj, rfl⟩ := List.mem_map.mp hq
  refine mem_gTBL (key ci h j (List.mem_range.mp hj)) ?_
  unfold u_lay
  split <;> rfl
theorem gty_ok {ci : Nat} (h : ci < 7) : ∀ k, k < nf ci → parseFieldDescriptor (gT ci k).2.2.1 = some (gty ci k) := by
  match ci, h with
  | 0, _ => exact tyX0_ok
  | 1, _ => exact tyX1_ok
  | 2, _ => exact tyX2_ok
  | 3, _ => exact tyX3_ok
  | 4, _ => exact tyX4_ok
  | 5, _ => exact tyX5_ok
  | 6, _ => exact tyX6_ok
theorem gnm_ok {ci : Nat} (h : ci < 7) : ∀ a, a < nf ci → ∀ b, b < nf ci → a ≠ b → (gT ci a).2.1 ≠ (gT ci b).2.1 := by
  match ci, h with
  | 0, _ => exact nmX0
  | 1, _ => exact nmX1
  | 2, _ => exact nmX2
  | 3, _ => exact nmX3
  | 4, _ => exact nmX4
  | 5, _ => exact nmX5
  | 6, _ => exact nmX6
theorem okr_in {w : Wd} {kd len k : Nat} (h : okr w (kd, len, k)) (hne : kd ≠ 20) : k < wN w ∧ wK w k = (kd, len) := by
  unfold okr at h
  rw [if_neg hne] at h
  exact h
theorem fields_at {w : Wd} {sg : Sg} {ci k j : Nat} (hj : j < nf ci) : ((List.range (nf ci)).map (fV w sg ci k))[j]? = some (fV w sg ci k j) := by
  simp [hj]
/-- the tables keep what an object of a whole kind refers to: told of each world -/
def Wr (w : Wd) : Prop := ∀ (k kd len : Nat), k < wN w → wK w k = (kd, len) → (kd < 7 → ∀ j q, rf kd k j = some q → okr w q) ∧ (14 ≤ kd → kd < 17 → ∀ j q, j < len → ae kd k j = some q → okr w q) ∧ (50 ≤ kd → ∀ j q, wR w k j = some q → okr w q)
section FLAT2
variable {p : Program} {l : Launch} {e : Env} {R : Room} {s : State} {m : MethodId} {args : Array Value} {below : List Frame} {meth : Method} {c : Code} {Q : State → Prop} {t : Mt} {w : Wd} {cs sl pc nx : Nat} {loc : List (Option VV)} {st : List VV} {sg : Sg}
theorem V_getI (hC : Cx p R s m args meth c t w) {idx : Nat} (ci j : Nat) {len k : Nat} (hlk : LkF (mY t).cls idx ci j) (hd : Dk t pc (.getfield idx) 3 nx) (hci : ci < 7) (hj : j < nf ci) (hr : rf ci k j = none) (kk : V p l e R s m args below meth c t w Q cs sl nx loc (vI (sg k j) :: st) sg) : V p l e R s m args below meth c t w Q cs sl pc loc (vR (some (ci, len, k)) :: st) sg := by
  intro H locs ls hP hS hL hO
  obtain ⟨hd, rfl⟩ := hd
  obtain ⟨hx, hb, hml, hown, hts, -, -, -, hW⟩ := hC
  obtain ⟨hk, hK⟩ := okr_in (ok0 hO) (by omega)
  have hv : ((List.range (nf ci)).map (fV w sg ci k))[j]? = some (.int (sg k j)) := by rw [fields_at hj]; simp [fV, hr]
  rcases hlk with h | h
  · exact va_get hx hb hts (u_in_g hci) hown hW.1 hP.1 k (by rw [wws_at hk, cE_obj hK hci]) (gcl_at hci) j hj (hts _ (mem_gTBL h rfl)) (fun _ h => h) hv hd (kk H locs ls hP hS hL (okc trivial (ok1 hO)))
  · exact va_getN hx hb hts (u_in_g hci) hown hW.1 hP.1 k (by rw [wws_at hk, cE_obj hK hci]) (gcl_at hci) j hj (va_Nw.use rfl (hW.2.1 _ (List.mem_filter.mpr ⟨h, rfl⟩))) (fun _ h => h) hv hd (kk H locs ls hP hS hL (okc trivial (ok1 hO)))
theorem V_getR (hC : Cx p R s m args meth c t w) (hWr : Wr w) {idx : Nat} (ci j : Nat) {len k : Nat} {q : Nat × Nat × Nat} (hlk : LkF (mY t).cls idx ci j) (hd : Dk t pc (.getfield idx) 3 nx) (hci : ci < 7) (hj : j < nf ci) (hr : rf ci k j = some q) (kk : V p l e R s m args below meth c t w Q cs sl nx loc (vR (some q) :: st) sg) : V p l e R s m args below meth c t w Q cs sl pc loc (vR (some (ci, len, k)) :: st) sg := by
  intro H locs ls hP hS hL hO
  obtain ⟨hd, rfl⟩ := hd
  obtain ⟨hx, hb, hml, hown, hts, -, -, -, hW⟩ := hC
  obtain ⟨hk, hK⟩ := okr_in (ok0 hO) (by omega)
  have hv : ((List.range (nf ci)).map (fV w sg ci k))[j]? = some (.ref (wA w q.2.2)) := by rw [fields_at hj]; simp [fV, hr]
  have hq : okv w (vR (some q)) := (hWr k ci len hk hK).1 hci j q hr
  rcases hlk with h | h
  · exact va_get hx hb hts (u_in_g hci) hown hW.1 hP.1 k (by rw [wws_at hk, cE_obj hK hci]) (gcl_at hci) j hj (hts _ (mem_gTBL h rfl)) (fun _ h => h) hv hd (kk H locs ls hP hS hL (okc hq (ok1 hO)))
  · exact va_getN hx hb hts (u_in_g hci) hown hW.1 hP.1 k (by rw [wws_at hk, cE_obj hK hci]) (gcl_at hci) j hj (va_Nw.use rfl (hW.2.1 _ (List.mem_filter.mpr ⟨h, rfl⟩))) (fun _ h => h) hv hd (kk H locs ls hP hS hL (okc hq (ok1 hO)))
theorem V_putI (hC : Cx p R s m args meth c t w) {idx : Nat} (ci j : Nat) {len k : Nat} {x : Int32} (hlk : LkF (mY t).cls idx ci j) (hd : Dk t pc (.putfield idx) 3 nx) (hci : ci < 7) (hj : j < nf ci) (hr : rf ci k j = none) (hfin : (gT ci j).2.2.2 = false) (hn : narrow (gty ci j) (.int x) = .int x ∧ fits (gty ci j) (.int x) = true) (kk : V p l e R s m args below meth c t w Q cs sl nx loc st (ups sg k j x)) : V p l e R s m args below meth c t w Q cs sl pc loc (vI x :: vR (some (ci, len, k)) :: st) sg := by
  intro H locs ls hP hS hL hO
  obtain ⟨hd, rfl⟩ := hd
  obtain ⟨hx, hb, hml, hown, hts, -, -, -, hW⟩ := hC
  obtain ⟨hk, hK⟩ := okr_in (ok0 (ok1 hO)) (by omega)
  have he := cE_put (x := x) (sg := sg) hK hci hr
  have hset := wws_set (sg := sg) (sg' := ups sg k j x) hk he (fun k' h => ups_ne sg j x h)
  have kf : ∀ (H1 : Heap) (locs1 : List Loc), va_P (wD w) gcl ((wws w sg).set k (wA w k, .inr (ci, ((List.range (nf ci)).map (fV w sg ci k)).set j (.int x)))) H1 → va_D (wF w) ((wws w sg).set k (wA w k, .inr (ci, ((List.range (nf ci)).map (fV w sg ci k)).set j (.int x)))) → va_S (wF w) s.heap H1 locs1 → W p l e R s m args below meth c H1 locs1 cs sl Q (F0 m (pc + 3) ls (st.map (den w))) := by
    intro H1 locs1 h1 h2 h3
    rw [hset] at h1 h2
    exact kk H1 locs1 ls ⟨h1, h2⟩ h3 hL (ok1 (ok1 hO))
  rcases hlk with h | h
  · exact va_put hx hb hts (u_in_g hci) (gty ci) (gty_ok hci) (gnm_ok hci) hown hW.1 hP.1 hP.2 hS k (by rw [wws_at hk, cE_obj hK hci]) (gcl_at hci) j hj (hts _ (mem_gTBL h rfl)) (fun _ h => h) hfin (gty_ok hci j hj) hn.1 hn.2 (by simp [hj]) hd kf
  · exact va_putN hx hb hts (u_in_g hci) (gty ci) (gty_ok hci) (gnm_ok hci) hown hW.1 hP.1 hP.2 hS k (by rw [wws_at hk, cE_obj hK hci]) (gcl_at hci) j hj (va_Nw.use rfl (hW.2.1 _ (List.mem_filter.mpr ⟨h, rfl⟩))) (fun _ h => h) hfin (gty_ok hci j hj) hn.1 hn.2 (by simp [hj]) hd kf
/-! rows of ints -/
theorem V_iald (hC : Cx p R s m args meth c t w) {len k : Nat} {x : Int32} (j : Nat) (hj : x.toNatClampNeg = j) (hd : Dk t pc .iaload 1 nx) (hin : vp_in x len) (kk : V p l e R s m args below meth c t w Q cs sl nx loc (vI (sg k j) :: st) sg) : V p l e R s m args below meth c t w Q cs sl pc loc (vI x :: vR (some (10, len, k)) :: st) sg := by
  subst hj
  intro H locs ls hP hS hL hO
  obtain ⟨hd, rfl⟩ := hd
  obtain ⟨hx, hb, hml, hown, hts, -, -, -, hW⟩ := hC
  obtain ⟨hk, hK⟩ := okr_in (ok0 (ok1 hO)) (by omega)
  exact va_iald hx hb hW.1 hP.1 k 0 (by rw [wws_at hk, cE_row hK (by omega) (by omega)]) rfl hin hd (kk H locs ls hP hS hL (okc trivial (ok1 (ok1 hO))))
theorem V_cald (hC : Cx p R s m args meth c t w) {len k : Nat} {x : Int32} (j : Nat) (hj : x.toNatClampNeg = j) (hd : Dk t pc .caload 1 nx) (hin : vp_in x len) (kk : V p l e R s m args below meth c t w Q cs sl nx loc (vI (sg k j) :: st) sg) : V p l e R s m args below meth c t w Q cs sl pc loc (vI x :: vR (some (11, len, k)) :: st) sg := by
  subst hj
  intro H locs ls hP hS hL hO
  obtain ⟨hd, rfl⟩ := hd
  obtain ⟨hx, hb, hml, hown, hts, -, -, -, hW⟩ := hC
  obtain ⟨hk, hK⟩ := okr_in (ok0 (ok1 hO)) (by omega)
  exact va_cald hx hb hW.1 hP.1 k 1 (by rw [wws_at hk, cE_row hK (by omega) (by omega)]) rfl hin hd (kk H locs ls hP hS hL (okc trivial (ok1 (ok1 hO))))
theorem V_zald (hC : Cx p R s m args meth c t w) {len k : Nat} {x : Int32} (j : Nat) (hj : x.toNatClampNeg = j) (hd : Dk t pc .baload 1 nx) (hin : vp_in x len) (kk : V p l e R s m args below meth c t w Q cs sl nx loc (vI (sg k j) :: st) sg) : V p l e R s m args below meth c t w Q cs sl pc loc (vI x :: vR (some (12, len, k)) :: st) sg := by
  subst hj
  intro H locs ls hP hS hL hO
  obtain ⟨hd, rfl⟩ := hd
  obtain ⟨hx, hb, hml, hown, hts, -, -, -, hW⟩ := hC
  obtain ⟨hk, hK⟩ := okr_in (ok0 (ok1 hO)) (by omega)
  exact va_zald hx hb hW.1 hP.1 k 2 (by rw [wws_at hk, cE_row hK (by omega) (by omega)]) rfl hin hd (kk H locs ls hP hS hL (okc trivial (ok1 (ok1 hO))))
theorem cE_rowput {w : Wd} {sg : Sg} {k kd len j : Nat} {x : Int32} (hK : wK w k = (kd, len)) (h1 : 10 ≤ kd) (h2 : kd < 13) : cE w (ups sg k j x) k = .inl (wC w kd, (len, .inl (upd (sg k) j x))) := by
  rw [cE_row hK h1 h2, ups_at]
theorem V_iast (hC : Cx p R s m args meth c t w) {len k : Nat} {x y : Int32} (j : Nat) (hj : x.toNatClampNeg = j) (hd : Dk t pc .iastore 1 nx) (hin : vp_in x len) (kk : V p l e R s m args below meth c t w Q cs sl nx loc st (ups sg k j y)) : V p l e R s m args below meth c t w Q cs sl pc loc (vI y :: vI x :: vR (some (10, len, k)) :: st) sg := by
  subst hj
  intro H locs ls hP hS hL hO
  obtain ⟨hd, rfl⟩ := hd
  obtain ⟨hx, hb, hml, hown, hts, -, -, -, hW⟩ := hC
  obtain ⟨hk, hK⟩ := okr_in (ok0 (ok1 (ok1 hO))) (by omega)
  have hset := wws_set (sg := sg) (sg' := ups sg k x.toNatClampNeg y) hk (cE_rowput hK (by omega) (by omega)) (fun k' h => ups_ne sg _ y h)
  refine va_iast hx hb hW.1 hP.1 hP.2 hS k 0 (by rw [wws_at hk, cE_row hK (by omega) (by omega)]) rfl hin hd (fun H1 locs1 h1 h2 h3 => ?_)
  rw [hset] at h1 h2
  exact kk H1 locs1 ls ⟨h1, h2⟩ h3 hL (ok1 (ok1 (ok1 hO)))
theorem V_cast (hC : Cx p R s m args meth c t w) {len k : Nat} {x y : Int32} (j : Nat) (hj : x.toNatClampNeg = j) (hd : Dk t pc .castore 1 nx) (hin : vp_in x len) (hy : vp_nar .char y = y) (kk : V p l e R s m args below meth c t w Q cs sl nx loc st (ups sg k j y)) : V p l e R s m args below meth c t w Q cs sl pc loc (vI y :: vI x :: vR (some (11, len, k)) :: st) sg := by
  subst hj
  intro H locs ls hP hS hL hO
  obtain ⟨hd, rfl⟩ := hd
  obtain ⟨hx, hb, hml, hown, hts, -, -, -, hW⟩ := hC
  obtain ⟨hk, hK⟩ := okr_in (ok0 (ok1 (ok1 hO))) (by omega)
  have hset := wws_set (sg := sg) (sg' := ups sg k x.toNatClampNeg y) hk (cE_rowput hK (by omega) (by omega)) (fun k' h => ups_ne sg _ y h)
  refine va_cast hx hb hW.1 hP.1 hP.2 hS k 1 (by rw [wws_at hk, cE_row hK (by omega) (by omega)]) rfl hin hd (fun H1 locs1 h1 h2 h3 => ?_)
  rw [hy, hset] at h1 h2
  exact kk H1 locs1 ls ⟨h1, h2⟩ h3 hL (ok1 (ok1 (ok1 hO)))
theorem V_zast (hC : Cx p R s m args meth c t w) {len k : Nat} {x y : Int32} (j : Nat) (hj : x.toNatClampNeg = j) (hd : Dk t pc .bastore 1 nx) (hin : vp_in x len) (hy : vp_nar .boolean y = y) (kk : V p l e R s m args below meth c t w Q cs sl nx loc st (ups sg k j y)) : V p l e R s m args below meth c t w Q cs sl pc loc (vI y :: vI x :: vR (some (12, len, k)) :: st) sg := by
  subst hj
  intro H locs ls hP hS hL hO
  obtain ⟨hd, rfl⟩ := hd
  obtain ⟨hx, hb, hml, hown, hts, -, -, -, hW⟩ := hC
  obtain ⟨hk, hK⟩ := okr_in (ok0 (ok1 (ok1 hO))) (by omega)
  have hset := wws_set (sg := sg) (sg' := ups sg k x.toNatClampNeg y) hk (cE_rowput hK (by omega) (by omega)) (fun k' h => ups_ne sg _ y h)
  refine va_zast hx hb hW.1 hP.1 hP.2 hS k 2 (by rw [wws_at hk, cE_row hK (by omega) (by omega)]) rfl hin hd (fun H1 locs1 h1 h2 h3 => ?_)
  rw [hy, hset] at h1 h2
  exact kk H1 locs1 ls ⟨h1, h2⟩ h3 hL (ok1 (ok1 (ok1 hO)))
theorem V_aald (hC : Cx p R s m args meth c t w) (hWr : Wr w) {kd len k : Nat} {x : Int32} {q : Nat × Nat × Nat} (hd : Dk t pc .aaload 1 nx) (hkd : 14 ≤ kd ∧ kd < 17) (hin : vp_in x len) (hq : ae kd k x.toNatClampNeg = some q) (kk : V p l e R s m args below meth c t w Q cs sl nx loc (vR (some q) :: st) sg) : V p l e R s m args below meth c t w Q cs sl pc loc (vI x :: vR (some (kd, len, k)) :: st) sg := by
  intro H locs ls hP hS hL hO
  obtain ⟨hd, rfl⟩ := hd
  obtain ⟨hx, hb, hml, hown, hts, -, -, -, hW⟩ := hC
  obtain ⟨hk, hK⟩ := okr_in (ok0 (ok1 hO)) (by omega)
  have hlt : x.toNatClampNeg < len := Nat.not_le.mp fun q => hin (Or.inr q)
  have ho : okv w (vR (some q)) := (hWr k kd len hk hK).2.1 hkd.1 hkd.2 _ _ hlt hq
  have h := kk H locs ls hP hS hL (okc ho (ok1 (ok1 hO)))
  have he : (wws w sg)[k]? = some (wA w k, .inl (wC w kd, (len, .inr (.inr (.inr (.inr (fun j => (ae kd k j).map (fun q => wA w q.2.2)))))))) := by rw [wws_at hk, cE_rowQ hK (by omega) (by omega)]
  have hv : va_rf ((fun j => (ae kd k j).map (fun q => wA w q.2.2)) x.toNatClampNeg) = den w (vR (some q)) := by
    show va_rf ((ae kd k x.toNatClampNeg).map (fun q => wA w q.2.2)) = _
    rw [hq]; rfl
  obtain ⟨h1, h2⟩ := hkd
  rcases (show kd = 14 ∨ kd = 15 ∨ kd = 16 by omega) with rfl | rfl | rfl
  · exact va_aldq hx hb hW.1 hP.1 k 4 he rfl hin hd (by rw [hv]; exact h)
  · exact va_aldq hx hb hW.1 hP.1 k 5 he rfl hin hd (by rw [hv]; exact h)
  · exact va_aldq hx hb hW.1 hP.1 k 6 he rfl hin hd (by rw [hv]; exact h)
theorem V_alen (hC : Cx p R s m args meth c t w) {kd len k : Nat} (v : Int32) (hd : Dk t pc .arraylength 1 nx) (hkd : 10 ≤ kd ∧ kd < 17) (hv : Int32.ofNat len = v) (kk : V p l e R s m args below meth c t w Q cs sl nx loc (vI v :: st) sg) : V p l e R s m args below meth c t w Q cs sl pc loc (vR (some (kd, len, k)) :: st) sg := by
  intro H locs ls hP hS hL hO
  obtain ⟨hd, rfl⟩ := hd
  obtain ⟨hx, hb, hml, hown, hts, -, -, -, hW⟩ := hC
  obtain ⟨hk, hK⟩ := okr_in (ok0 hO) (by omega)
  have h := kk H locs ls hP hS hL (okc trivial (ok1 hO))
  obtain ⟨h1, h2⟩ := hkd
  rcases (show kd = 10 ∨ kd = 11 ∨ kd = 12 ∨ kd = 13 ∨ kd = 14 ∨ kd = 15 ∨ kd = 16 by omega) with rfl | rfl | rfl | rfl | rfl | rfl | rfl
  · exact va_alen hx hb hW.1 hP.1 k 0 (x := (len, _)) (by rw [wws_at hk, cE_row hK (by omega) (by omega)]) rfl hv hd h
  · exact va_alen hx hb hW.1 hP.1 k 1 (x := (len, _)) (by rw [wws_at hk, cE_row hK (by omega) (by omega)]) rfl hv hd h
  · exact va_alen hx hb hW.1 hP.1 k 2 (x := (len, _)) (by rw [wws_at hk, cE_row hK (by omega) (by omega)]) rfl hv hd h
  · exact va_alen hx hb hW.1 hP.1 k 3 (x := (len, _)) (by rw [wws_at hk, cE_rowL hK]) rfl hv hd h
  · exact va_alen hx hb hW.1 hP.1 k 4 (x := (len, _)) (by rw [wws_at hk, cE_rowQ hK (by omega) (by omega)]) rfl hv hd h
  · exact va_alen hx hb hW.1 hP.1 k 5 (x := (len, _)) (by rw [wws_at hk, cE_rowQ hK (by omega) (by omega)]) rfl hv hd h
  · exact va_alen hx hb hW.1 hP.1 k 6 (x := (len, _)) (by rw [wws_at hk, cE_rowQ hK (by omega) (by omega)]) rfl hv hd h
/-! the static rows -/
theorem okr_st {w : Wd} {len k : Nat} (h : okr w (20, len, k)) : ∃ i, i < 9 ∧ k = 1000000 + i ∧ len = slen i := by
  unfold okr at h
  rw [if_pos rfl] at h
  exact h
theorem V_gets (hC : Cx p R s m args meth c t w) {idx : Nat} (i : Nat) (hlk : Cond.fieldLink (mY t).cls idx (scls i) (snam i) "[I" ∈ lw_tbl) (hd : Dk t pc (.getstatic idx) 3 nx) (hi : i < 9) (kk : V p l e R s m args below meth c t w Q cs sl nx loc (vR (some (20, slen i, 1000000 + i)) :: st) sg) : V p l e R s m args below meth c t w Q cs sl pc loc st sg := by
  intro H locs ls hP hS hL hO
  obtain ⟨hd, rfl⟩ := hd
  obtain ⟨hx, hb, hml, hown, hts, -, -, -, hW⟩ := hC
  exact va_gets hx hb (hW.2.2.2 i hi).1 hS hown (hts _ (mem_gTBL hlk rfl)) (fun _ h => h) hd (kk H locs ls hP hS hL (okc (by unfold okv okr; simp only; exact ⟨i, hi, rfl, rfl⟩) hO))
theorem V_sald (hC : Cx p R s m args meth c t w) {len k : Nat} {x : Int32} (j : Nat) (hj : x.toNatClampNeg = j) (hd : Dk t pc .iaload 1 nx) (hin : vp_in x len) (kk : V p l e R s m args below meth c t w Q cs sl nx loc (vI (srow (k - 1000000) j) :: st) sg) : V p l e R s m args below meth c t w Q cs sl pc loc (vI x :: vR (some (20, len, k)) :: st) sg := by
  subst hj
  intro H locs ls hP hS hL hO
  obtain ⟨hd, rfl⟩ := hd
  obtain ⟨hx, hb, hml, hown, hts, -, -, -, hW⟩ := hC
  obtain ⟨i, hi, rfl, rfl⟩ := okr_st (ok0 (ok1 hO))
  have h := kk H locs ls hP hS hL (okc trivial (ok1 (ok1 hO)))
  rw [Nat.add_sub_cancel_left] at h
  exact va_ti hx hb (hW.2.2.2 i hi).2 hS hin rfl hd h
theorem V_slen (hC : Cx p R s m args meth c t w) {len k : Nat} (v : Int32) (hd : Dk t pc .arraylength 1 nx) (hv : Int32.ofNat len = v) (kk : V p l e R s m args below meth c t w Q cs sl nx loc (vI v :: st) sg) : V p l e R s m args below meth c t w Q cs sl pc loc (vR (some (20, len, k)) :: st) sg := by
  intro H locs ls hP hS hL hO
  obtain ⟨hd, rfl⟩ := hd
  obtain ⟨hx, hb, hml, hown, hts, -, -, -, hW⟩ := hC
  obtain ⟨i, hi, rfl, rfl⟩ := okr_st (ok0 hO)
  exact va_tlen hx hb (hW.2.2.2 i hi).2 hS hv hd (kk H locs ls hP hS hL (okc trivial (ok1 hO)))
/-! switches -/
theorem V_lookup (hC : Cx p R s m args meth c t w) {dflt : Int} {ps : Array (Int × Int)} {len : Nat} {x : Int32} (off : Int) (tgt : Nat) (hd : Dk t pc (.lookupswitch dflt ps) len nx) (hp : (ps.toList.zip (ps.toList.drop 1)).all (fun (a, next) => a.1 < next.1) = true) (ho : Op.lookupswitch.offset ps.toList dflt x.toInt = off) (ht : (pc : Int) + off = (tgt : Int)) (k : V p l e R s m args below meth c t w Q cs sl tgt loc st sg) : V p l e R s m args below meth c t w Q cs sl pc loc (vI x :: st) sg := by
  intro H locs ls hP hS hL hO
  exact lv_lookup hC.1 hC.2.1 hd.1 hp ho ht (k H locs ls hP hS hL (ok1 hO))
theorem V_tabOut (hC : Cx p R s m args meth c t w) {dflt lo hi : Int} {offs : Array Int} {len : Nat} {x : Int32} (tgt : Nat) (hd : Dk t pc (.tableswitch dflt lo hi offs) len nx) (h : x.toInt < lo ∨ hi < x.toInt) (ht : (pc : Int) + dflt = (tgt : Int)) (k : V p l e R s m args below meth c t w Q cs sl tgt loc st sg) : V p l e R s m args below meth c t w Q cs sl pc loc (vI x :: st) sg := by
  intro H locs ls hP hS hL hO
  exact lv_tableOut hC.1 hC.2.1 hd.1 h ht (k H locs ls hP hS hL (ok1 hO))
theorem V_tabIn (hC : Cx p R s m args meth c t w) {dflt lo hi : Int} {offs : Array Int} {len : Nat} {x : Int32} (off : Int) (tgt : Nat) (hd : Dk t pc (.tableswitch dflt lo hi offs) len nx) (h1 : ¬ x.toInt < lo) (h2 : ¬ hi < x.toInt) (ho : offs[(x.toInt - lo).toNat]? = some off) (ht : (pc : Int) + off = (tgt : Int)) (k : V p l e R s m args below meth c t w Q cs sl tgt loc st sg) : V p l e R s m args below meth c t w Q cs sl pc loc (vI x :: st) sg := by
  intro H locs ls hP hS hL hO
  exact lv_tableIn hC.1 hC.2.1 hd.1 h1 h2 ho ht (k H locs ls hP hS hL (ok1 hO))
end FLAT2
/-! contracts: a call of t with av in sg comes back with (r, sg') of which post tells -/
def Qm (w w' : Wd) (post : Option VV → Sg → Prop) : Array Value → State → Outcome → State → Prop := fun _ st o u =>
  (∃ (r : Option VV) (sg' : Sg), o = .returned (r.map (den w')) ∧ (∀ v, r = some v → okv w' v) ∧ post r sg' ∧ Wp w' sg' u.heap) ∧ va_F (wF w) st u
def Pm (w : Wd) (av : List VV) (sg : Sg) : Array Value → State → Prop := va_Pc (av.map (den w)) (fun U => Ws w U ∧ Wp w sg U.heap ∧ ∀ v ∈ av, okv w v)
def M (l : Launch) (t : Mt) (w : Wd) (av : List VV) (sg : Sg) (post : Option VV → Sg → Prop) : Prop :=
  Met l (mY t) (mWs t) (mRm t) (Pm w av sg) (Qm w w post) (mC t) (mS t) (wF w)
/-- an int comes back -/
def rI (f : Int32 → Sg → Prop) : Option VV → Sg → Prop := fun r g => ∃ x, r = some (vI x) ∧ f x g
def rL (f : Int64 → Sg → Prop) : Option VV → Sg → Prop := fun r g => ∃ x, r = some (vL x) ∧ f x g
def rR (f : Option (Nat × Nat × Nat) → Sg → Prop) : Option VV → Sg → Prop := fun r g => ∃ x, r = some (vR x) ∧ f x g
def rV (f : Sg → Prop) : Option VV → Sg → Prop := fun r g => r = none ∧ f g
theorem Pm_blind {w : Wd} {av : List VV} {sg : Sg} : FrameBlind (Pm w av sg) := fun _ _ _ _ h => ⟨h.1, h.2.1.calling, h.2.2⟩
/-- the facts of a method that is called: its place among the words, and its arguments -/
def MkV (t : Mt) (n : Nat) : Prop := mCd t ∈ lw_tbl ∧ Cond.instanceMethod (mY t) ∈ lw_tbl ∧ Cond.selects (mY t).cls (mY t) (mY t) ∈ lw_tbl ∧ Cond.initialized (mY t).cls ∈ lw_tbl ∧ ((mY t).cls ≠ "java/lang/invoke/MethodHandle" ∧ (mY t).cls ≠ "java/lang/invoke/VarHandle" ∧ (parseMethodDescriptor (mY t).desc).map (fun d => d.parameters.length) = some n)
def MkS (t : Mt) (n : Nat) : Prop := mCd t ∈ lw_tbl ∧ Cond.static (mY t) ∈ lw_tbl ∧ Cond.initialized (mY t).cls ∈ lw_tbl ∧ ((mY t).cls ≠ "java/lang/invoke/MethodHandle" ∧ (mY t).cls ≠ "java/lang/invoke/VarHandle" ∧ (parseMethodDescriptor (mY t).desc).map (fun d => d.parameters.length) = some n)
def LkM (own : String) (idx : Nat) (t : Mt) : Prop := Cond.methodLink own idx (mY t) ∈ lw_tbl ∨ Cond.methodLinkNest own idx (mY t) "LanternBoats" ∈ lw_tbl
theorem mWs_good {t t' : Mt} (h : mCd t' ∈ lw_tbl) : GoodIn gTBL (mWs t') := by
  intro q hq
  rcases List.mem_cons.mp hq with rfl | hq
  · exact ⟨mem_gTBL h rfl, Or.inl rfl⟩
  · exact ⟨hq, good_of_word (List.mem_filter.mp hq).2⟩
def fI (x : Int32) (G : Sg) : Option VV → Sg → Prop := fun r g => r = some (vI x) ∧ g = G
def fL (x : Int64) (G : Sg) : Option VV → Sg → Prop := fun r g => r = some (vL x) ∧ g = G
def fR (x : Option (Nat × Nat × Nat)) (G : Sg) : Option VV → Sg → Prop := fun r g => r = some (vR x) ∧ g = G
def fV0 (G : Sg) : Option VV → Sg → Prop := fun r g => r = none ∧ g = G
section FLAT3
variable {p : Program} {l : Launch} {e : Env} {R : Room} {s : State} {m : MethodId} {args : Array Value} {below : List Frame} {meth : Method} {c : Code} {Q : State → Prop} {t : Mt} {w : Wd} {cs sl pc nx : Nat} {loc : List (Option VV)} {st : List VV} {sg : Sg}
theorem lg_len (w : Wd) : ∀ av : List VV, (lg_sl (av.map (den w))).length = (av.map catV).sum
  | [] => rfl
  | v :: av => by
    rw [List.map_cons, List.map_cons, List.sum_cons, ← lg_len w av]
    rcases v with x | x | _ | q <;> simp [lg_sl, den, catV, Value.category] <;> omega
theorem Lk.start {av : List VV} {nL : Nat} (hlen : (av.map catV).sum ≤ nL) (ho : ∀ v ∈ av, okv w v) : Lk w nL ((lg_sl (av.map (den w)) ++ List.replicate (nL - (lg_sl (av.map (den w))).length) Slot.unset).toArray) (largs av nL) := by
  have hl := lv_entry (av.map (den w)) (n := nL) (by rw [lg_len]; exact hlen)
  refine ⟨hl.1, hl.2.1, fun i v hi => ?_⟩
  obtain ⟨h1, h2⟩ := largs_at (w := w) (i0 := 0) hi
  rw [Nat.zero_add] at h1
  exact ⟨hl.2.2 _ h1, ho v h2⟩
theorem M_of {av : List VV} {post : Option VV → Sg → Prop} (loc : List (Option VV)) (hl : largs av (mL t) = loc) (hlen : (av.map catV).sum ≤ mL t) (hy : plainName (mY t).cls = true)
    (body : ∀ p e s m args below meth c, Cx p (mRm t) s m args meth c t w → (∀ v ∈ av, okv w v) → V p l e (mRm t) s m args below meth c t w (MQ below (Qm w w post) args s (mC t) (mS t) (wF w)) 0 0 0 loc [] sg) : M l t w av sg post := by
  subst hl
  refine Met.ofW (cc := mB t) (maxL := mL t) (ret := mT t) hy rfl ?_
  intro p e s m args below meth c s₁ B hml hv
  obtain ⟨rfl, hW, hP, ho⟩ := hv
  have hts := atoms_spec (ws := mWs t) B.pre
  have hC : Cx p (mRm t) s m (av.map (den w)).toArray meth c t w := ⟨B.exec, B.bytes, hml, findClass_of_methodNamed B.named, fun q hq => hts q (List.mem_cons_of_mem _ hq), B.notSynchronized, B.returns, rfl, hW⟩
  rw [lg_entry_eq]
  exact body p e s m _ below meth c hC ho s.heap [] _ hP va_S.rf (Lk.start hlen ho) (fun _ h => absurd h List.not_mem_nil)
/-! returns -/
theorem V_ireti {post : Option VV → Sg → Prop} (hC : Cx p R s m args meth c t w) (hT : mT t = some .int) {x : Int32} (hd : Dk t pc .ireturn 1 nx) (hp : post (some (vI x)) sg) : V p l e R s m args below meth c t w (MQ below (Qm w w post) args s (mC t) (mS t) (wF w)) (mC t) (mS t) pc loc [vI x] sg := by
  intro H locs ls hP hS hL hO
  obtain ⟨hd, rfl⟩ := hd
  obtain ⟨hx, hb, hml, hown, hts, hlk, hr, -, hW⟩ := hC
  exact W.iret hx hb (hr.trans hT) (fun u hu hw => ⟨⟨some (vI x), sg, rfl, fun v h => by cases h; trivial, hp, by rw [hu]; exact hP⟩, hS.F hu⟩) hS.2.2 hd hlk
theorem V_iretz {post : Option VV → Sg → Prop} (hC : Cx p R s m args meth c t w) (hT : mT t = some .boolean) {x : Int32} (hd : Dk t pc .ireturn 1 nx) (hz : x = 0 ∨ x = 1) (hp : post (some (vI x)) sg) : V p l e R s m args below meth c t w (MQ below (Qm w w post) args s (mC t) (mS t) (wF w)) (mC t) (mS t) pc loc [vI x] sg := by
  intro H locs ls hP hS hL hO
  obtain ⟨hd, rfl⟩ := hd
  obtain ⟨hx, hb, hml, hown, hts, hlk, hr, -, hW⟩ := hC
  exact W.zret hx hb (hr.trans hT) (by rcases hz with rfl | rfl <;> rfl) (fun u hu hw => ⟨⟨some (vI x), sg, rfl, fun v h => by cases h; trivial, hp, by rw [hu]; exact hP⟩, hS.F hu⟩) hS.2.2 hd hlk
theorem V_lret {post : Option VV → Sg → Prop} (hC : Cx p R s m args meth c t w) (hT : mT t = some .long) {x : Int64} (hd : Dk t pc .lreturn 1 nx) (hp : post (some (vL x)) sg) : V p l e R s m args below meth c t w (MQ below (Qm w w post) args s (mC t) (mS t) (wF w)) (mC t) (mS t) pc loc [vL x] sg := by
  intro H locs ls hP hS hL hO
  obtain ⟨hd, rfl⟩ := hd
  obtain ⟨hx, hb, hml, hown, hts, hlk, hr, -, hW⟩ := hC
  exact W.lret hx hb (hr.trans hT) (fun u hu hw => ⟨⟨some (vL x), sg, rfl, fun v h => by cases h; trivial, hp, by rw [hu]; exact hP⟩, hS.F hu⟩) hS.2.2 hd hlk
theorem V_aret {post : Option VV → Sg → Prop} (hC : Cx p R s m args meth c t w) {rt : FieldType} (hT : mT t = some rt) (hrt : (∃ n, rt = .object n) ∨ ∃ t, rt = .array t) {r : Option (Nat × Nat × Nat)} (hd : Dk t pc .areturn 1 nx) (hp : post (some (vR r)) sg) : V p l e R s m args below meth c t w (MQ below (Qm w w post) args s (mC t) (mS t) (wF w)) (mC t) (mS t) pc loc [vR r] sg := by
  intro H locs ls hP hS hL hO
  obtain ⟨hd, rfl⟩ := hd
  obtain ⟨hx, hb, hml, hown, hts, hlk, hr, -, hW⟩ := hC
  exact W.aret hx hb (hr.trans hT) hrt (by cases r with | none => exact Or.inl rfl | some q => exact Or.inr ⟨_, rfl⟩) (fun u hu hw => ⟨⟨some (vR r), sg, rfl, fun v h => by cases h; exact ok0 hO, hp, by rw [hu]; exact hP⟩, hS.F hu⟩) hS.2.2 hd hlk
theorem V_vret {post : Option VV → Sg → Prop} (hC : Cx p R s m args meth c t w) (hT : mT t = none) (hd : Dk t pc .return_ 1 nx) (hp : post none sg) : V p l e R s m args below meth c t w (MQ below (Qm w w post) args s (mC t) (mS t) (wF w)) (mC t) (mS t) pc loc [] sg := by
  intro H locs ls hP hS hL hO
  obtain ⟨hd, rfl⟩ := hd
  obtain ⟨hx, hb, hml, hown, hts, hlk, hr, -, hW⟩ := hC
  exact W.vret hx hb (hr.trans hT) (fun u hu hw => ⟨⟨none, sg, rfl, (fun v h => by cases h), hp, by rw [hu]; exact hP⟩, hS.F hu⟩) hS.2.2 hd hlk
/-! calls -/
/-- behind a call: the callee's world w', its answer, its memory -/
theorem W_ofRun {w' : Wd} {mc ms : Nat} {H : Heap} {locs : List Loc} {ls : Array Slot} {st0 rest : List Value} {a : Array Value} {post : Option VV → Sg → Prop} (hr : va_Run p l e R s m args below meth c H locs cs sl mc ms (F0 m pc ls st0) rest (Qm w w' post a) (wF w)) (hS : va_S (wF w) s.heap H locs)
    (kk : ∀ (r : Option VV) (sg' : Sg) (H1 : Heap) (locs1 : List Loc), (∀ v, r = some v → okv w' v) → post r sg' → Wp w' sg' H1 → va_S (wF w) s.heap H1 locs1 → W p l e R s m args below meth c H1 locs1 (cs + mc) (sl + ms) Q (F0 m (pc + 3) ls ((r.map (den w')).toList ++ rest))) : W p l e R s m args below meth c H locs cs sl Q (F0 m pc ls st0) := by
  intro T hT X
  obtain ⟨v, st₀, u, T', L, h0, X', hL, e1, e2, ⟨⟨r, sg', hv, ho, hp, hW⟩, hz, hk⟩, hst⟩ := hr T hT X
  cases hv
  rw [h0] at hz hk
  rw [← e1] at hW hz hk
  obtain ⟨t2, a1, b1⟩ := kk r sg' T'.heap (locs ++ L) ho hp hW
    ⟨Nat.le_trans hS.1 hz, fun q h1 h2 => by rw [hk q (Nat.lt_of_lt_of_le h1 hS.1) h2]; exact hS.2.1 q h1 h2, fun q hq => by
      rcases List.mem_append.mp hq with h | h
      · exact hS.2.2 q h
      · exact hL q h⟩ T' rfl X'
  exact ⟨t2, hst t2 a1, b1⟩
theorem Wp_recv {H : Heap} {ci len k : Nat} (hW : Ws w s) (hP : Wp w sg H) (hci : ci < 7) (ho : okr w (ci, len, k)) : ∃ cell : Cell, H[wA w k]? = some cell ∧ cell.vm.isStatics = false ∧ s.vm.findClass (gC ci) = some cell.cls := by
  obtain ⟨hk, hK⟩ := okr_in ho (by omega)
  exact va_recv hW.1 hP.1 (gcl_at hci) (by rw [wws_at hk, cE_obj hK hci])
theorem rest_room {rest : List VV} {pc0 : Nat} {ls : Array Slot} {st0 : List Value} (h : (rest.map catV).sum ≤ 8) : 2 * (F0 m pc0 ls st0).monitorRoom + ((rest.map (den w)).map fun v => v.category).sum ≤ 8 := lv_room (by rw [catV_sum]; exact h)
theorem V_invV {t' : Mt} {n : Nat} {idx : Nat} {ci len k : Nat} {av rest : List VV} {post : Option VV → Sg → Prop} (hC : Cx p R s m args meth c t w) (hM : M l t' w (vR (some (ci, len, k)) :: av) sg post) (hmk : MkV t' n) (hlk : LkM (mY t).cls idx t') (hd : Dk t pc (.invokevirtual idx) 3 nx) (hci : ci < 7) (hcls : gC ci = (mY t').cls) (hn : av.length = n) (hst : st = av.reverse ++ vR (some (ci, len, k)) :: rest) (hroom : (rest.map catV).sum ≤ 8) (hR : mF t' + 1 ≤ mF t ∧ 8 + (mL t' + 11) + mO t' ≤ mO t) (hcell : cs + mC t' ≤ mC t ∧ sl + mS t' ≤ mS t)
    (kk : ∀ r sg', post r sg' → V p l e R s m args below meth c t w Q (cs + mC t') (sl + mS t') nx loc (r.toList ++ rest) sg') : V p l e R s m args below meth c t w Q cs sl pc loc st sg := by
  intro H locs ls hP hS hL hO
  obtain ⟨hd, rfl⟩ := hd
  obtain ⟨hx, hb, hml, hown, hts, hlks, hr, rfl, hW⟩ := hC
  obtain ⟨hc1, hc2, hc3, hc4, hc5⟩ := hmk
  subst hst
  have hor : ∀ v ∈ vR (some (ci, len, k)) :: av, okv w v := by
    intro v hv
    rcases List.mem_cons.mp hv with rfl | hv
    · exact hO _ (by simp)
    · exact hO _ (by simp [hv])
  have hrest : ∀ v ∈ rest, okv w v := fun v hv => hO v (by simp [hv])
  have hstk : ((av.reverse ++ vR (some (ci, len, k)) :: rest).map (den w)) = (av.map (den w)).reverse ++ .ref (wA w k) :: rest.map (den w) := by simp [den]
  have hpre : PreV s H (mY t').cls (wA w k) (Pm w (vR (some (ci, len, k)) :: av) sg) (av.map (den w)) := by
    refine ⟨Pm_blind, ?_, fun U hU hWU => ⟨rfl, hW.go hWU hU hS, by rw [hU]; exact hP, hor⟩⟩
    rw [← hcls]
    exact Wp_recv hW hP hci (hor _ List.mem_cons_self)
  have hsel : (Cond.selects (mY t').cls (mY t') (mY t')).before args s = true := hts _ (mem_gTBL hc3 rfl)
  have hins : (Cond.instanceMethod (mY t')).before args s = true := hts _ (mem_gTBL hc2 rfl)
  have hlen : (av.map (den w)).length = n := by rw [List.length_map]; exact hn
  have hrun : va_Run p l e (mRm t) s m args below meth c H locs cs sl (mC t') (mS t') (F0 m pc ls ((av.reverse ++ vR (some (ci, len, k)) :: rest).map (den w))) (rest.map (den w)) (Qm w w post (Value.ref (wA w k) :: av.map (den w)).toArray) (wF w) := by
    rcases hlk with h | h
    · exact va_runV ⟨hx, hb, hml, hown, hts⟩ hM ⟨callB_of n hts (mWs_good (t := t) hc1) rfl rfl rfl (hts _ (mem_gTBL hc4 rfl)) (hts _ (mem_gTBL h rfl)) hc5 hR, hins, hsel⟩ hpre rfl hlen hL.1 hstk (rest_room hroom) hd hcell
    · exact va_runVN ⟨hx, hb, hml, hown, hts⟩ hM ⟨va_cnB n hts (mWs_good (t := t) hc1) rfl rfl rfl (hW.2.1 _ (List.mem_filter.mpr ⟨h, rfl⟩)) (hts _ (mem_gTBL hc4 rfl)) hc5 hR, hins, hsel⟩ hpre rfl hlen hL.1 hstk (rest_room hroom) hd hcell
  refine W_ofRun hrun hS (fun r sg' H1 locs1 ho hp hP1 hS1 => ?_)
  have h := kk r sg' hp H1 locs1 ls hP1 hS1 hL (by
    intro v hv
    rcases List.mem_append.mp hv with hv | hv
    · exact ho v (by simpa using hv)
    · exact hrest v hv)
  rw [List.map_append] at h
  cases r <;> exact h
theorem V_invS {t' : Mt} {n : Nat} {idx : Nat} {av rest : List VV} {post : Option VV → Sg → Prop} (hC : Cx p R s m args meth c t w) (hM : M l t' w av sg post) (hmk : MkS t' n) (hlk : LkM (mY t).cls idx t') (hd : Dk t pc (.invokestatic idx) 3 nx) (hn : av.length = n) (hst : st = av.reverse ++ rest) (hroom : (rest.map catV).sum ≤ 8) (hR : mF t' + 1 ≤ mF t ∧ 8 + (mL t' + 11) + mO t' ≤ mO t) (hcell : cs + mC t' ≤ mC t ∧ sl + mS t' ≤ mS t)
    (kk : ∀ r sg', post r sg' → V p l e R s m args below meth c t w Q (cs + mC t') (sl + mS t') nx loc (r.toList ++ rest) sg') : V p l e R s m args below meth c t w Q cs sl pc loc st sg := by
  intro H locs ls hP hS hL hO
  obtain ⟨hd, rfl⟩ := hd
  obtain ⟨hx, hb, hml, hown, hts, hlks, hr, rfl, hW⟩ := hC
  obtain ⟨hc1, hc2, hc4, hc5⟩ := hmk
  subst hst
  have hor : ∀ v ∈ av, okv w v := fun v hv => hO v (by simp [hv])
  have hrest : ∀ v ∈ rest, okv w v := fun v hv => hO v (by simp [hv])
  have hstk : ((av.reverse ++ rest).map (den w)) = (av.map (den w)).reverse ++ rest.map (den w) := by simp
  have hpre : PreS s H (Pm w av sg) (av.map (den w)) := ⟨Pm_blind, fun U hU hWU => ⟨rfl, hW.go hWU hU hS, by rw [hU]; exact hP, hor⟩⟩
  have hstt : (Cond.static (mY t')).before args s = true := hts _ (mem_gTBL hc2 rfl)
  have hlen : (av.map (den w)).length = n := by rw [List.length_map]; exact hn
  have hrun : va_Run p l e (mRm t) s m args below meth c H locs cs sl (mC t') (mS t') (F0 m pc ls ((av.reverse ++ rest).map (den w))) (rest.map (den w)) (Qm w w post (av.map (den w)).toArray) (wF w) := by
    rcases hlk with h | h
    · exact va_runS ⟨hx, hb, hml, hown, hts⟩ hM ⟨callB_of n hts (mWs_good (t := t) hc1) rfl rfl rfl (hts _ (mem_gTBL hc4 rfl)) (hts _ (mem_gTBL h rfl)) hc5 hR, hstt⟩ hpre rfl hlen hL.1 hstk (rest_room hroom) hd hcell
    · exact va_runSN ⟨hx, hb, hml, hown, hts⟩ hM ⟨va_cnB n hts (mWs_good (t := t) hc1) rfl rfl rfl (hW.2.1 _ (List.mem_filter.mpr ⟨h, rfl⟩)) (hts _ (mem_gTBL hc4 rfl)) hc5 hR, hstt, trivial⟩ hpre rfl hlen hL.1 hstk (rest_room hroom) hd hcell
  refine W_ofRun hrun hS (fun r sg' H1 locs1 ho hp hP1 hS1 => ?_)
  have h := kk r sg' hp H1 locs1 ls hP1 hS1 hL (by
    intro v hv
    rcases List.mem_append.mp hv with hv | hv
    · exact ho v (by simpa using hv)
    · exact hrest v hv)
  rw [List.map_append] at h
  cases r <;> exact h
/-! contracts that tell the answer and the memory: an int, a long, a reference, nothing -/
theorem V_cV_fI {t' : Mt} {n : Nat} {idx : Nat} {ci len k : Nat} {av rest : List VV} {x : Int32} {G : Sg} (hC : Cx p R s m args meth c t w) (hM : M l t' w (vR (some (ci, len, k)) :: av) sg (fI x G)) (hmk : MkV t' n) (hlk : LkM (mY t).cls idx t') (hd : Dk t pc (.invokevirtual idx) 3 nx) (hci : ci < 7) (hcls : gC ci = (mY t').cls) (hn : av.length = n) (hst : st = av.reverse ++ vR (some (ci, len, k)) :: rest) (hroom : (rest.map catV).sum ≤ 8) (hR : mF t' + 1 ≤ mF t ∧ 8 + (mL t' + 11) + mO t' ≤ mO t) (hz : mC t' = 0 ∧ mS t' = 0) (hcell : cs ≤ mC t ∧ sl ≤ mS t) (kk : V p l e R s m args below meth c t w Q cs sl nx loc (vI x :: rest) G) : V p l e R s m args below meth c t w Q cs sl pc loc st sg := V_invV hC hM hmk hlk hd hci hcls hn hst hroom hR (by rw [hz.1, hz.2]; exact hcell) (fun r sg' h => by rw [hz.1, hz.2]; obtain ⟨rfl, rfl⟩ := h; exact kk)
theorem V_cV_fL {t' : Mt} {n : Nat} {idx : Nat} {ci len k : Nat} {av rest : List VV} {x : Int64} {G : Sg} (hC : Cx p R s m args meth c t w) (hM : M l t' w (vR (some (ci, len, k)) :: av) sg (fL x G)) (hmk : MkV t' n) (hlk : LkM (mY t).cls idx t') (hd : Dk t pc (.invokevirtual idx) 3 nx) (hci : ci < 7) (hcls : gC ci = (mY t').cls) (hn : av.length = n) (hst : st = av.reverse ++ vR (some (ci, len, k)) :: rest) (hroom : (rest.map catV).sum ≤ 8) (hR : mF t' + 1 ≤ mF t ∧ 8 + (mL t' + 11) + mO t' ≤ mO t) (hz : mC t' = 0 ∧ mS t' = 0) (hcell : cs ≤ mC t ∧ sl ≤ mS t) (kk : V p l e R s m args below meth c t w Q cs sl nx loc (vL x :: rest) G) : V p l e R s m args below meth c t w Q cs sl pc loc st sg := V_invV hC hM hmk hlk hd hci hcls hn hst hroom hR (by rw [hz.1, hz.2]; exact hcell) (fun r sg' h => by rw [hz.1, hz.2]; obtain ⟨rfl, rfl⟩ := h; exact kk)
theorem V_cV_fR {t' : Mt} {n : Nat} {idx : Nat} {ci len k : Nat} {av rest : List VV} {x : Option (Nat × Nat × Nat)} {G : Sg} (hC : Cx p R s m args meth c t w) (hM : M l t' w (vR (some (ci, len, k)) :: av) sg (fR x G)) (hmk : MkV t' n) (hlk : LkM (mY t).cls idx t') (hd : Dk t pc (.invokevirtual idx) 3 nx) (hci : ci < 7) (hcls : gC ci = (mY t').cls) (hn : av.length = n) (hst : st = av.reverse ++ vR (some (ci, len, k)) :: rest) (hroom : (rest.map catV).sum ≤ 8) (hR : mF t' + 1 ≤ mF t ∧ 8 + (mL t' + 11) + mO t' ≤ mO t) (hz : mC t' = 0 ∧ mS t' = 0) (hcell : cs ≤ mC t ∧ sl ≤ mS t) (kk : V p l e R s m args below meth c t w Q cs sl nx loc (vR x :: rest) G) : V p l e R s m args below meth c t w Q cs sl pc loc st sg := V_invV hC hM hmk hlk hd hci hcls hn hst hroom hR (by rw [hz.1, hz.2]; exact hcell) (fun r sg' h => by rw [hz.1, hz.2]; obtain ⟨rfl, rfl⟩ := h; exact kk)
theorem V_cV_fV {t' : Mt} {n : Nat} {idx : Nat} {ci len k : Nat} {av rest : List VV} {G : Sg} (hC : Cx p R s m args meth c t w) (hM : M l t' w (vR (some (ci, len, k)) :: av) sg (fV0 G)) (hmk : MkV t' n) (hlk : LkM (mY t).cls idx t') (hd : Dk t pc (.invokevirtual idx) 3 nx) (hci : ci < 7) (hcls : gC ci = (mY t').cls) (hn : av.length = n) (hst : st = av.reverse ++ vR (some (ci, len, k)) :: rest) (hroom : (rest.map catV).sum ≤ 8) (hR : mF t' + 1 ≤ mF t ∧ 8 + (mL t' + 11) + mO t' ≤ mO t) (hz : mC t' = 0 ∧ mS t' = 0) (hcell : cs ≤ mC t ∧ sl ≤ mS t) (kk : V p l e R s m args below meth c t w Q cs sl nx loc rest G) : V p l e R s m args below meth c t w Q cs sl pc loc st sg := V_invV hC hM hmk hlk hd hci hcls hn hst hroom hR (by rw [hz.1, hz.2]; exact hcell) (fun r sg' h => by rw [hz.1, hz.2]; obtain ⟨rfl, rfl⟩ := h; exact kk)
theorem V_cV_rI {t' : Mt} {n : Nat} {idx : Nat} {ci len k : Nat} {av rest : List VV} {f : Int32 → Sg → Prop} (hC : Cx p R s m args meth c t w) (hM : M l t' w (vR (some (ci, len, k)) :: av) sg (rI f)) (hmk : MkV t' n) (hlk : LkM (mY t).cls idx t') (hd : Dk t pc (.invokevirtual idx) 3 nx) (hci : ci < 7) (hcls : gC ci = (mY t').cls) (hn : av.length = n) (hst : st = av.reverse ++ vR (some (ci, len, k)) :: rest) (hroom : (rest.map catV).sum ≤ 8) (hR : mF t' + 1 ≤ mF t ∧ 8 + (mL t' + 11) + mO t' ≤ mO t) (hz : mC t' = 0 ∧ mS t' = 0) (hcell : cs ≤ mC t ∧ sl ≤ mS t) (kk : ∀ x sg', f x sg' → V p l e R s m args below meth c t w Q cs sl nx loc (vI x :: rest) sg') : V p l e R s m args below meth c t w Q cs sl pc loc st sg := V_invV hC hM hmk hlk hd hci hcls hn hst hroom hR (by rw [hz.1, hz.2]; exact hcell) (fun r sg' h => by rw [hz.1, hz.2]; obtain ⟨x, rfl, h2⟩ := h; exact kk x sg' h2)
theorem V_cV_rR {t' : Mt} {n : Nat} {idx : Nat} {ci len k : Nat} {av rest : List VV} {f : Option (Nat × Nat × Nat) → Sg → Prop} (hC : Cx p R s m args meth c t w) (hM : M l t' w (vR (some (ci, len, k)) :: av) sg (rR f)) (hmk : MkV t' n) (hlk : LkM (mY t).cls idx t') (hd : Dk t pc (.invokevirtual idx) 3 nx) (hci : ci < 7) (hcls : gC ci = (mY t').cls) (hn : av.length = n) (hst : st = av.reverse ++ vR (some (ci, len, k)) :: rest) (hroom : (rest.map catV).sum ≤ 8) (hR : mF t' + 1 ≤ mF t ∧ 8 + (mL t' + 11) + mO t' ≤ mO t) (hz : mC t' = 0 ∧ mS t' = 0) (hcell : cs ≤ mC t ∧ sl ≤ mS t) (kk : ∀ x sg', f x sg' → V p l e R s m args below meth c t w Q cs sl nx loc (vR x :: rest) sg') : V p l e R s m args below meth c t w Q cs sl pc loc st sg := V_invV hC hM hmk hlk hd hci hcls hn hst hroom hR (by rw [hz.1, hz.2]; exact hcell) (fun r sg' h => by rw [hz.1, hz.2]; obtain ⟨x, rfl, h2⟩ := h; exact kk x sg' h2)
theorem V_cV_rV {t' : Mt} {n : Nat} {idx : Nat} {ci len k : Nat} {av rest : List VV} {f : Sg → Prop} (hC : Cx p R s m args meth c t w) (hM : M l t' w (vR (some (ci, len, k)) :: av) sg (rV f)) (hmk : MkV t' n) (hlk : LkM (mY t).cls idx t') (hd : Dk t pc (.invokevirtual idx) 3 nx) (hci : ci < 7) (hcls : gC ci = (mY t').cls) (hn : av.length = n) (hst : st = av.reverse ++ vR (some (ci, len, k)) :: rest) (hroom : (rest.map catV).sum ≤ 8) (hR : mF t' + 1 ≤ mF t ∧ 8 + (mL t' + 11) + mO t' ≤ mO t) (hz : mC t' = 0 ∧ mS t' = 0) (hcell : cs ≤ mC t ∧ sl ≤ mS t) (kk : ∀ sg', f sg' → V p l e R s m args below meth c t w Q cs sl nx loc rest sg') : V p l e R s m args below meth c t w Q cs sl pc loc st sg := V_invV hC hM hmk hlk hd hci hcls hn hst hroom hR (by rw [hz.1, hz.2]; exact hcell) (fun r sg' h => by rw [hz.1, hz.2]; obtain ⟨rfl, h2⟩ := h; exact kk sg' h2)
theorem V_cS_fI {t' : Mt} {n : Nat} {idx : Nat} {av rest : List VV} {x : Int32} {G : Sg} (hC : Cx p R s m args meth c t w) (hM : M l t' w av sg (fI x G)) (hmk : MkS t' n) (hlk : LkM (mY t).cls idx t') (hd : Dk t pc (.invokestatic idx) 3 nx) (hn : av.length = n) (hst : st = av.reverse ++ rest) (hroom : (rest.map catV).sum ≤ 8) (hR : mF t' + 1 ≤ mF t ∧ 8 + (mL t' + 11) + mO t' ≤ mO t) (hz : mC t' = 0 ∧ mS t' = 0) (hcell : cs ≤ mC t ∧ sl ≤ mS t) (kk : V p l e R s m args below meth c t w Q cs sl nx loc (vI x :: rest) G) : V p l e R s m args below meth c t w Q cs sl pc loc st sg := V_invS hC hM hmk hlk hd hn hst hroom hR (by rw [hz.1, hz.2]; exact hcell) (fun r sg' h => by rw [hz.1, hz.2]; obtain ⟨rfl, rfl⟩ := h; exact kk)
theorem V_cS_fL {t' : Mt} {n : Nat} {idx : Nat} {av rest : List VV} {x : Int64} {G : Sg} (hC : Cx p R s m args meth c t w) (hM : M l t' w av sg (fL x G)) (hmk : MkS t' n) (hlk : LkM (mY t).cls idx t') (hd : Dk t pc (.invokestatic idx) 3 nx) (hn : av.length = n) (hst : st = av.reverse ++ rest) (hroom : (rest.map catV).sum ≤ 8) (hR : mF t' + 1 ≤ mF t ∧ 8 + (mL t' + 11) + mO t' ≤ mO t) (hz : mC t' = 0 ∧ mS t' = 0) (hcell : cs ≤ mC t ∧ sl ≤ mS t) (kk : V p l e R s m args below meth c t w Q cs sl nx loc (vL x :: rest) G) : V p l e R s m args below meth c t w Q cs sl pc loc st sg := V_invS hC hM hmk hlk hd hn hst hroom hR (by rw [hz.1, hz.2]; exact hcell) (fun r sg' h => by rw [hz.1, hz.2]; obtain ⟨rfl, rfl⟩ := h; exact kk)
theorem V_cS_fR {t' : Mt} {n : Nat} {idx : Nat} {av rest : List VV} {x : Option (Nat × Nat × Nat)} {G : Sg} (hC : Cx p R s m args meth c t w) (hM : M l t' w av sg (fR x G)) (hmk : MkS t' n) (hlk : LkM (mY t).cls idx t') (hd : Dk t pc (.invokestatic idx) 3 nx) (hn : av.length = n) (hst : st = av.reverse ++ rest) (hroom : (rest.map catV).sum ≤ 8) (hR : mF t' + 1 ≤ mF t ∧ 8 + (mL t' + 11) + mO t' ≤ mO t) (hz : mC t' = 0 ∧ mS t' = 0) (hcell : cs ≤ mC t ∧ sl ≤ mS t) (kk : V p l e R s m args below meth c t w Q cs sl nx loc (vR x :: rest) G) : V p l e R s m args below meth c t w Q cs sl pc loc st sg := V_invS hC hM hmk hlk hd hn hst hroom hR (by rw [hz.1, hz.2]; exact hcell) (fun r sg' h => by rw [hz.1, hz.2]; obtain ⟨rfl, rfl⟩ := h; exact kk)
theorem V_cS_fV {t' : Mt} {n : Nat} {idx : Nat} {av rest : List VV} {G : Sg} (hC : Cx p R s m args meth c t w) (hM : M l t' w av sg (fV0 G)) (hmk : MkS t' n) (hlk : LkM (mY t).cls idx t') (hd : Dk t pc (.invokestatic idx) 3 nx) (hn : av.length = n) (hst : st = av.reverse ++ rest) (hroom : (rest.map catV).sum ≤ 8) (hR : mF t' + 1 ≤ mF t ∧ 8 + (mL t' + 11) + mO t' ≤ mO t) (hz : mC t' = 0 ∧ mS t' = 0) (hcell : cs ≤ mC t ∧ sl ≤ mS t) (kk : V p l e R s m args below meth c t w Q cs sl nx loc rest G) : V p l e R s m args below meth c t w Q cs sl pc loc st sg := V_invS hC hM hmk hlk hd hn hst hroom hR (by rw [hz.1, hz.2]; exact hcell) (fun r sg' h => by rw [hz.1, hz.2]; obtain ⟨rfl, rfl⟩ := h; exact kk)
theorem V_cS_rI {t' : Mt} {n : Nat} {idx : Nat} {av rest : List VV} {f : Int32 → Sg → Prop} (hC : Cx p R s m args meth c t w) (hM : M l t' w av sg (rI f)) (hmk : MkS t' n) (hlk : LkM (mY t).cls idx t') (hd : Dk t pc (.invokestatic idx) 3 nx) (hn : av.length = n) (hst : st = av.reverse ++ rest) (hroom : (rest.map catV).sum ≤ 8) (hR : mF t' + 1 ≤ mF t ∧ 8 + (mL t' + 11) + mO t' ≤ mO t) (hz : mC t' = 0 ∧ mS t' = 0) (hcell : cs ≤ mC t ∧ sl ≤ mS t) (kk : ∀ x sg', f x sg' → V p l e R s m args below meth c t w Q cs sl nx loc (vI x :: rest) sg') : V p l e R s m args below meth c t w Q cs sl pc loc st sg := V_invS hC hM hmk hlk hd hn hst hroom hR (by rw [hz.1, hz.2]; exact hcell) (fun r sg' h => by rw [hz.1, hz.2]; obtain ⟨x, rfl, h2⟩ := h; exact kk x sg' h2)
theorem V_cS_rR {t' : Mt} {n : Nat} {idx : Nat} {av rest : List VV} {f : Option (Nat × Nat × Nat) → Sg → Prop} (hC : Cx p R s m args meth c t w) (hM : M l t' w av sg (rR f)) (hmk : MkS t' n) (hlk : LkM (mY t).cls idx t') (hd : Dk t pc (.invokestatic idx) 3 nx) (hn : av.length = n) (hst : st = av.reverse ++ rest) (hroom : (rest.map catV).sum ≤ 8) (hR : mF t' + 1 ≤ mF t ∧ 8 + (mL t' + 11) + mO t' ≤ mO t) (hz : mC t' = 0 ∧ mS t' = 0) (hcell : cs ≤ mC t ∧ sl ≤ mS t) (kk : ∀ x sg', f x sg' → V p l e R s m args below meth c t w Q cs sl nx loc (vR x :: rest) sg') : V p l e R s m args below meth c t w Q cs sl pc loc st sg := V_invS hC hM hmk hlk hd hn hst hroom hR (by rw [hz.1, hz.2]; exact hcell) (fun r sg' h => by rw [hz.1, hz.2]; obtain ⟨x, rfl, h2⟩ := h; exact kk x sg' h2)
theorem V_cS_rV {t' : Mt} {n : Nat} {idx : Nat} {av rest : List VV} {f : Sg → Prop} (hC : Cx p R s m args meth c t w) (hM : M l t' w av sg (rV f)) (hmk : MkS t' n) (hlk : LkM (mY t).cls idx t') (hd : Dk t pc (.invokestatic idx) 3 nx) (hn : av.length = n) (hst : st = av.reverse ++ rest) (hroom : (rest.map catV).sum ≤ 8) (hR : mF t' + 1 ≤ mF t ∧ 8 + (mL t' + 11) + mO t' ≤ mO t) (hz : mC t' = 0 ∧ mS t' = 0) (hcell : cs ≤ mC t ∧ sl ≤ mS t) (kk : ∀ sg', f sg' → V p l e R s m args below meth c t w Q cs sl nx loc rest sg') : V p l e R s m args below meth c t w Q cs sl pc loc st sg := V_invS hC hM hmk hlk hd hn hst hroom hR (by rw [hz.1, hz.2]; exact hcell) (fun r sg' h => by rw [hz.1, hz.2]; obtain ⟨rfl, h2⟩ := h; exact kk sg' h2)
/-! loops, joins -/
theorem V_eq {loc' : List (Option VV)} {sg' : Sg} (hl : loc' = loc) (hs : sg' = sg) (k : V p l e R s m args below meth c t w Q cs sl pc loc st sg) : V p l e R s m args below meth c t w Q cs sl pc loc' st sg' := by subst hl hs; exact k
theorem V_eqS {st' : List VV} {sg' : Sg} (hl : st' = st) (hs : sg' = sg) (k : V p l e R s m args below meth c t w Q cs sl pc loc st sg) : V p l e R s m args below meth c t w Q cs sl pc loc st' sg' := by subst hl hs; exact k
theorem V_loop (N : Nat) (locF : Nat → List (Option VV)) (sgF : Nat → Sg) (h0 : loc = locF 0) (hs : sg = sgF 0) (hx : V p l e R s m args below meth c t w Q cs sl pc (locF N) st (sgF N)) (hstep : ∀ i, i < N → V p l e R s m args below meth c t w Q cs sl pc (locF (i + 1)) st (sgF (i + 1)) → V p l e R s m args below meth c t w Q cs sl pc (locF i) st (sgF i)) : V p l e R s m args below meth c t w Q cs sl pc loc st sg := by
  subst h0 hs
  have key : ∀ k, k ≤ N → V p l e R s m args below meth c t w Q cs sl pc (locF (N - k)) st (sgF (N - k)) := by
    intro k
    induction k with
    | zero => intro _; exact hx
    | succ k ih =>
      intro hk
      have h := ih (by omega)
      have e : N - k = (N - (k + 1)) + 1 := by omega
      rw [e] at h
      exact hstep _ (by omega) h
  have h := key N (Nat.le_refl N)
  rw [Nat.sub_self] at h
  exact h
theorem V_loopR {α : Type} (N : Nat) (I : Nat → α → Prop) (locF : Nat → α → List (Option VV)) (sgF : Nat → α → Sg) (a0 : α) (h0 : loc = locF 0 a0) (hs : sg = sgF 0 a0) (hI : I 0 a0) (hx : ∀ a, I N a → V p l e R s m args below meth c t w Q cs sl pc (locF N a) st (sgF N a)) (hstep : ∀ i a, i < N → I i a → (∀ a', I (i + 1) a' → V p l e R s m args below meth c t w Q cs sl pc (locF (i + 1) a') st (sgF (i + 1) a')) → V p l e R s m args below meth c t w Q cs sl pc (locF i a) st (sgF i a)) : V p l e R s m args below meth c t w Q cs sl pc loc st sg := by
  subst h0 hs
  have key : ∀ k, k ≤ N → ∀ a, I (N - k) a → V p l e R s m args below meth c t w Q cs sl pc (locF (N - k) a) st (sgF (N - k) a) := by
    intro k
    induction k with
    | zero => intro _ a ha; exact hx a ha
    | succ k ih =>
      intro hk a ha
      have h := ih (by omega)
      have e : N - k = (N - (k + 1)) + 1 := by omega
      rw [e] at h
      exact hstep _ a (by omega) ha h
  have h := key N (Nat.le_refl N)
  rw [Nat.sub_self] at h
  exact h a0 hI
/-- two ways that meet at J with one int more on the stack -/
theorem V_join (J : Nat) (x : Int32) (k : V p l e R s m args below meth c t w Q cs sl J loc (vI x :: st) sg) (body : (∀ y, y = x → V p l e R s m args below meth c t w Q cs sl J loc (vI y :: st) sg) → V p l e R s m args below meth c t w Q cs sl pc loc st sg) : V p l e R s m args below meth c t w Q cs sl pc loc st sg := body (fun y h => by subst h; exact k)
theorem V_canon (G : Sg) (h : sg = G) (k : V p l e R s m args below meth c t w Q cs sl pc loc st G) : V p l e R s m args below meth c t w Q cs sl pc loc st sg := by subst h; exact k
/-- a local is forgotten -/
theorem V_drop (i : Nat) (loc' : List (Option VV)) (h : loc.set i none = loc') (k : V p l e R s m args below meth c t w Q cs sl pc loc' st sg) : V p l e R s m args below meth c t w Q cs sl pc loc st sg := by
  subst h
  intro H locs ls hP hS hL hO
  refine k H locs ls hP hS ⟨hL.1, hL.2.1, fun j v hj => hL.2.2 j v ?_⟩ hO
  by_cases hij : i = j
  · subst hij
    rw [List.getElem?_set] at hj
    split at hj
    · split at hj <;> simp at hj
    · exact hj
  · rw [List.getElem?_set_ne hij] at hj
    exact hj
theorem V_joinS (J : Nat) (G : Sg) (k : V p l e R s m args below meth c t w Q cs sl J loc st G) (body : (∀ sg', sg' = G → V p l e R s m args below meth c t w Q cs sl J loc st sg') → V p l e R s m args below meth c t w Q cs sl pc loc st sg) : V p l e R s m args below meth c t w Q cs sl pc loc st sg := body (fun y h => by subst h; exact k)
end FLAT3
end
section
/-! the reference's state, as its row of 140 ints, and what its methods do to it: pure -/
def b01 (c : Prop) [Decidable c] : Int32 := if c then 1 else 0
theorem b01_t {c : Prop} [Decidable c] (h : c) : b01 c = 1 := if_pos h
theorem b01_f {c : Prop} [Decidable c] (h : ¬ c) : b01 c = 0 := if_neg h
theorem b01e {c : Prop} [Decidable c] : b01 c = 0 ↔ ¬ c := by unfold b01; split <;> simp_all
theorem b01n {c : Prop} [Decidable c] : ¬ b01 c = 0 ↔ c := by unfold b01; split <;> simp_all
theorem b01i {c : Prop} [Decidable c] : b01 c = 1 ↔ c := by unfold b01; split <;> simp_all
theorem b01_z (c : Prop) [Decidable c] : b01 c = 0 ∨ b01 c = 1 := by unfold b01; split <;> simp
abbrev tn (x : Int32) : Nat := x.toNatClampNeg
abbrev rm (x y : Int32) : Int32 := x - x / y * y
abbrev Gs : Type := Nat → Int32
def gL (g : Gs) (l j : Int32) : Int32 := g (tn (12 + 8 * l + j))
def gB (g : Gs) (b j : Int32) : Int32 := g (tn (60 + 10 * b + j))
def pB (g : Gs) (b j v : Int32) : Gs := upd g (tn (60 + 10 * b + j)) v
abbrev inn (v a b : Int32) : Prop := a ≤ v ∧ v ≤ b
def F_bright (g : Gs) (l p : Int32) : Int32 :=
  if gL g l 2 = 1 then (if rm (g 6 / gL g l 3) 2 = 1 then gL g l 1 * 100 / (10 + (if p - gL g l 0 < 0 then -(p - gL g l 0) else p - gL g l 0)) / 2 else gL g l 1 * 100 / (10 + (if p - gL g l 0 < 0 then -(p - gL g l 0) else p - gL g l 0)))
  else if gL g l 2 = 2 ∧ (if rm (gL g l 3) 2 = 1 then p - gL g l 0 < 0 else 0 < p - gL g l 0) then 0 else gL g l 1 * 100 / (10 + (if p - gL g l 0 < 0 then -(p - gL g l 0) else p - gL g l 0))
def F_worth (g : Gs) (l p : Int32) : Int32 := F_bright g l p + gL g l 6
def F_servesN (g : Gs) (l : Int32) : Nat → Int32
  | 0 => 0
  | n + 1 => F_servesN g l n + b01 (gB g (nI n) 2 = l + 1)
def F_serves (g : Gs) (l : Int32) : Int32 := F_servesN g l (tn (g 5))
def F_bestN (g : Gs) (p : Int32) : Nat → Int32
  | 0 => -1
  | n + 1 => if F_bestN g p n = -1 ∨ F_worth g (F_bestN g p n) p < F_worth g (nI n) p then nI n else F_bestN g p n
def F_best (g : Gs) (p : Int32) : Int32 := F_bestN g p (tn (g 4))
def F_sails (g : Gs) (b : Int32) : Gs := if inn (gB g b 0 + gB g b 1) 0 199 then pB g b 0 (gB g b 0 + gB g b 1) else pB g b 1 (-(gB g b 1))
def F_dropsA (g : Gs) (b : Int32) : Gs := pB (pB (pB g b 2 0) b 4 0) b 5 0
def F_drops (g : Gs) (b : Int32) : Gs := pB (upd (F_dropsA g b) 10 (F_dropsA g b 10 + b01 (0 < gB (F_dropsA g b) b 3))) b 3 0
def F_wishedN (g : Gs) (b : Int32) : Nat → Int32
  | 0 => -1
  | n + 1 => if (¬ nI n = gB g b 2 - 1 ∧ F_worth g (gB g b 2 - 1) (gB g b 0) + g 0 ≤ F_worth g (nI n) (gB g b 0)) ∧ (F_wishedN g b n = -1 ∨ F_worth g (F_wishedN g b n) (gB g b 0) < F_worth g (nI n) (gB g b 0)) then nI n else F_wishedN g b n
def F_wished (g : Gs) (b : Int32) : Int32 := F_wishedN g b (tn (g 4))
def F_findsN (g : Gs) (b : Int32) : Nat → Int32
  | 0 => -1
  | n + 1 => if (g 2 ≤ F_bright g (nI n) (gB g b 0) ∧ F_serves g (nI n) < gL g (nI n) 4 - gL g (nI n) 5) ∧ (F_findsN g b n = -1 ∨ F_worth g (F_findsN g b n) (gB g b 0) < F_worth g (nI n) (gB g b 0)) then nI n else F_findsN g b n
def F_finds (g : Gs) (b : Int32) : Gs :=
  let f := F_findsN g b (tn (g 4))
  let g1 := pB g b 2 (f + 1)
  upd g1 11 (g1 11 + (if f = -1 then 0 else 1))
def F_isBack (g : Gs) (b to : Int32) : Int32 := b01 (gB g b 6 = to + 1 ∧ g 6 - gB g b 9 ≤ g 3)
def F_handsA (g : Gs) (b to : Int32) : Gs := pB (pB (pB (pB g b 2 (to + 1)) b 4 0) b 5 0) b 6 (gB g b 2)
def F_handsB (g : Gs) (b : Int32) : Gs := pB g b 9 (g 6)
def F_inc (g : Gs) (j : Nat) (x : Int32) : Gs := upd g j (g j + x)
def F_hands (g : Gs) (b to : Int32) : Gs :=
  F_inc (F_inc (F_inc (F_inc (F_inc (F_handsB (F_handsA g b to) b) (tn (60 + 10 * b + 7)) 1) (tn (60 + 10 * b + 8)) (F_isBack g b to)) (tn (12 + 8 * to + 7)) 1) 7 1) 8 (F_isBack g b to)
def F_wticks (g : Gs) (b wi : Int32) : Int32 := if wi = -1 then 0 else if wi + 1 = gB g b 4 then gB g b 5 + 1 else 1
def F_wishA (g : Gs) (b : Int32) : Gs := pB (pB g b 4 (F_wished g b + 1)) b 5 (F_wticks g b (F_wished g b))
def F_wishes (g : Gs) (b : Int32) : Gs :=
  if F_wished g b = -1 ∨ F_wticks g b (F_wished g b) < F_wishA g b 1 then F_wishA g b
  else if F_serves (F_wishA g b) (F_wished g b) = gL (F_wishA g b) (F_wished g b) 4 then F_inc (F_wishA g b) 9 1
  else F_hands (F_wishA g b) b (F_wished g b)
def F_onA (g : Gs) (b : Int32) : Gs :=
  if ¬ gB g b 2 - 1 = -1 ∧ F_bright g (gB g b 2 - 1) (gB g b 0) < g 2 then F_drops g b else if ¬ gB g b 2 - 1 = -1 then F_wishes g b else g
def F_onB (g : Gs) (b : Int32) : Gs := if gB g b 2 = 0 then F_finds g b else g
def F_onC (g : Gs) (b : Int32) : Gs := pB g b 3 (if 0 < gB g b 3 then gB g b 3 - 1 else 0)
def F_goesOn (g : Gs) (b : Int32) : Gs := F_onC (F_onB (F_onA (F_sails g b) b) b) b
def F_tickN (g : Gs) : Nat → Gs
  | 0 => F_inc g 6 1
  | n + 1 => F_goesOn (F_tickN g n) (nI n)
def F_tick (g : Gs) : Gs := F_tickN g (tn (g 5))
def F_ticks (g : Gs) : Nat → Gs
  | 0 => g
  | n + 1 => F_tick (F_ticks g n)
end
section
/-! the reference, first part: what it sees, its tick -/
theorem vp_lit {x : Int32} {n : Nat} (h : decide (0 ≤ x.toInt ∧ x.toInt < n) = true) : vp_in x n := vp_in_iff.mpr (of_decide_eq_true h)
theorem inL {l : Int32} {j : Int32} (hl : vp_in l 6) (hj : vp_in j 8) : vp_in (12 + 8 * l + j) 140 := by
  obtain ⟨a, ha, rfl⟩ := vp_in_of hl (by decide)
  obtain ⟨b, hb, rfl⟩ := vp_in_of hj (by decide)
  rw [show (12 : Int32) + 8 * nI a + nI b = nI (12 + 8 * a + b) by rw [← nI_add, ← nI_add, ← pk_mul]; rfl]
  exact vp_in_nI (by omega) (by decide)
theorem inB {l : Int32} {j : Int32} (hl : vp_in l 8) (hj : vp_in j 10) : vp_in (60 + 10 * l + j) 140 := by
  obtain ⟨a, ha, rfl⟩ := vp_in_of hl (by decide)
  obtain ⟨b, hb, rfl⟩ := vp_in_of hj (by decide)
  rw [show (60 : Int32) + 10 * nI a + nI b = nI (60 + 10 * a + b) by rw [← nI_add, ← nI_add, ← pk_mul]; rfl]
  exact vp_in_nI (by omega) (by decide)
theorem ne_span (d : Int32) : ¬ 10 + (if d < 0 then -d else d) = 0 := by
  intro h
  split at h
  · rename_i hd
    have e : d = 10 := by grind
    subst e
    exact absurd hd (by decide)
  · rename_i hd
    have e : d = -10 := by grind
    subst e
    exact absurd hd (by decide)
theorem cnt_in {x : Int32} {n : Nat} (h0 : 0 ≤ x.toInt) (hn : x.toInt ≤ n) : tn x ≤ n ∧ x = nI (tn x) := by
  have hr := fb_rng x
  have h1 : ¬ x < 0 := fun q => by have := Int32.lt_iff_toInt_lt.mp q; have e0 : (0 : Int32).toInt = 0 := rfl; omega
  obtain ⟨j, hj, rfl⟩ := nI_of h1
  have := nI_toInt hj
  rw [show tn (nI j) = j from nI_clamp hj]
  exact ⟨by omega, rfl⟩

theorem cI {x y : Int32} (h : x = y) : (some (vI x) : Option VV) = some (vI y) := by rw [h]
theorem cnt_le {x : Int32} (h0 : 0 ≤ x.toInt) : x ≤ nI (tn x) := by
  have hr := fb_rng x
  obtain ⟨h1, h2⟩ := cnt_in (x := x) (n := 2147483647) h0 (by omega)
  rw [← h2]
  exact Int32.le_refl x
theorem cnt_lt {x : Int32} {i : Nat} (h0 : 0 ≤ x.toInt) (hi : i < tn x) : ¬ x ≤ nI i := by
  have hr := fb_rng x
  obtain ⟨h1, h2⟩ := cnt_in (x := x) (n := 2147483647) h0 (by omega)
  rw [h2]
  exact nI_ge hi (by omega)
theorem cnt_lt' {x : Int32} {i : Nat} (h0 : 0 ≤ x.toInt) (hi : i < tn x) : nI i < x := Int32.not_le.mp (cnt_lt h0 hi)
theorem b01_1 {x : Int32} {c : Prop} [Decidable c] (e : x = b01 c) (h : ¬ x = 0) : 1 = x := by
  subst e
  rw [b01_t (b01n.mp h)]
def inI (x : Int32) (a b : Int) : Prop := a ≤ x.toInt ∧ x.toInt ≤ b
def LInv (g : Gs) (n : Nat) : Prop := inI (g (12 + 8 * n)) 0 199 ∧ inI (g (12 + 8 * n + 1)) 10 99 ∧ inI (g (12 + 8 * n + 2)) 0 2 ∧ inI (g (12 + 8 * n + 3)) 1 20 ∧ inI (g (12 + 8 * n + 4)) 1 6 ∧ inI (g (12 + 8 * n + 5)) 0 (g (12 + 8 * n + 4)).toInt ∧ inI (g (12 + 8 * n + 6)) (-30) 30
def BInv (g : Gs) (n : Nat) : Prop := inI (g (60 + 10 * n)) 0 199 ∧ inI (g (60 + 10 * n + 1)) (-6) 6 ∧ inI (g (60 + 10 * n + 2)) 0 (g 4).toInt ∧ inI (g (60 + 10 * n + 3)) 0 99 ∧ inI (g (60 + 10 * n + 4)) 0 (g 4).toInt ∧ inI (g (60 + 10 * n + 6)) 0 (g 4).toInt
/-- what holds of the row at every call -/
def Inv (g : Gs) : Prop :=
  (inI (g 0) 0 100 ∧ inI (g 1) 1 10 ∧ inI (g 2) 1 300 ∧ inI (g 3) 0 50) ∧ (inI (g 4) 0 6 ∧ inI (g 5) 0 8) ∧ (∀ n, n < tn (g 4) → LInv g n) ∧ (∀ n, n < tn (g 5) → BInv g n) ∧
  (∀ n, n < tn (g 4) → (F_servesN g (nI n) (tn (g 5))).toInt ≤ (g (12 + 8 * n + 4)).toInt) ∧
  (∀ n, tn (g 4) ≤ n → n < 6 → g (12 + 8 * n + 6) = 0 ∧ g (12 + 8 * n + 7) = 0) ∧ (∀ n, tn (g 5) ≤ n → n < 8 → ∀ j, 2 ≤ j → j < 10 → g (60 + 10 * n + j) = 0)
theorem gL_at (g : Gs) {n j : Nat} (hn : n < 6) (hj : j < 8) : gL g (nI n) (nI j) = g (12 + 8 * n + j) := by
  unfold gL
  rw [show (12 : Int32) + 8 * nI n + nI j = nI (12 + 8 * n + j) by rw [← nI_add, ← nI_add, ← pk_mul]; rfl, show tn (nI (12 + 8 * n + j)) = 12 + 8 * n + j from nI_clamp (by omega)]
theorem gB_at (g : Gs) {n j : Nat} (hn : n < 8) (hj : j < 10) : gB g (nI n) (nI j) = g (60 + 10 * n + j) := by
  unfold gB
  rw [show (60 : Int32) + 10 * nI n + nI j = nI (60 + 10 * n + j) by rw [← nI_add, ← nI_add, ← pk_mul]; rfl, show tn (nI (60 + 10 * n + j)) = 60 + 10 * n + j from nI_clamp (by omega)]
theorem pB_at (g : Gs) {n j : Nat} (v : Int32) (hn : n < 8) (hj : j < 10) : pB g (nI n) (nI j) v = upd g (60 + 10 * n + j) v := by
  unfold pB
  rw [show (60 : Int32) + 10 * nI n + nI j = nI (60 + 10 * n + j) by rw [← nI_add, ← nI_add, ← pk_mul]; rfl, show tn (nI (60 + 10 * n + j)) = 60 + 10 * n + j from nI_clamp (by omega)]
theorem tnB {n j : Nat} (hn : n < 8) (hj : j < 10) : tn (60 + 10 * nI n + nI j) = 60 + 10 * n + j := by
  rw [show (60 : Int32) + 10 * nI n + nI j = nI (60 + 10 * n + j) by rw [← nI_add, ← nI_add, ← pk_mul]; rfl]
  exact nI_clamp (by omega)
theorem tnL {n j : Nat} (hn : n < 6) (hj : j < 8) : tn (12 + 8 * nI n + nI j) = 12 + 8 * n + j := by
  rw [show (12 : Int32) + 8 * nI n + nI j = nI (12 + 8 * n + j) by rw [← nI_add, ← nI_add, ← pk_mul]; rfl]
  exact nI_clamp (by omega)
theorem Inv.c4 {g : Gs} (h : Inv g) : tn (g 4) ≤ 6 ∧ g 4 = nI (tn (g 4)) := cnt_in h.2.1.1.1 h.2.1.1.2
theorem Inv.c5 {g : Gs} (h : Inv g) : tn (g 5) ≤ 8 ∧ g 5 = nI (tn (g 5)) := cnt_in h.2.1.2.1 h.2.1.2.2
/-- a lighthouse's number n is never 0 -/
theorem Inv.ne {g : Gs} (h : Inv g) {n : Nat} (hn : n < tn (g 4)) : ¬ gL g (nI n) 3 = 0 := by
  intro q
  have h1 := (h.2.2.1 n hn).2.2.2.1
  have := h.c4.1
  rw [show gL g (nI n) 3 = g (12 + 8 * n + 3) from gL_at g (j := 3) (by omega) (by omega)] at q
  rw [q] at h1
  exact absurd h1.1 (by decide)
theorem F_bestN_in (g : Gs) (p : Int32) : ∀ n, F_bestN g p n = -1 ∨ ∃ j, j < n ∧ F_bestN g p n = nI j
  | 0 => Or.inl rfl
  | n + 1 => by
    rw [F_bestN]
    split
    · exact Or.inr ⟨n, by omega, rfl⟩
    · rcases F_bestN_in g p n with h | ⟨j, h1, h2⟩
      · exact Or.inl h
      · exact Or.inr ⟨j, by omega, h2⟩
theorem F_wishedN_in (g : Gs) (b : Int32) : ∀ n, F_wishedN g b n = -1 ∨ ∃ j, j < n ∧ F_wishedN g b n = nI j
  | 0 => Or.inl rfl
  | n + 1 => by
    rw [F_wishedN]
    split
    · exact Or.inr ⟨n, by omega, rfl⟩
    · rcases F_wishedN_in g b n with h | ⟨j, h1, h2⟩
      · exact Or.inl h
      · exact Or.inr ⟨j, by omega, h2⟩
theorem F_findsN_in (g : Gs) (b : Int32) : ∀ n, F_findsN g b n = -1 ∨ ∃ j, j < n ∧ F_findsN g b n = nI j
  | 0 => Or.inl rfl
  | n + 1 => by
    rw [F_findsN]
    split
    · exact Or.inr ⟨n, by omega, rfl⟩
    · rcases F_findsN_in g b n with h | ⟨j, h1, h2⟩
      · exact Or.inl h
      · exact Or.inr ⟨j, by omega, h2⟩
/-- the lighthouse that serves the boat n, less one: none, or one that is there -/
theorem Inv.by {g : Gs} (h : Inv g) {n : Nat} (hn : n < tn (g 5)) : gB g (nI n) 2 - 1 = -1 ∨ ∃ j, j < tn (g 4) ∧ gB g (nI n) 2 - 1 = nI j := by
  have h1 := (h.2.2.2.1 n hn).2.2.1
  have h5 := h.c5.1
  have h4 := h.c4
  rw [show gB g (nI n) 2 = g (60 + 10 * n + 2) from gB_at g (j := 2) (by omega) (by omega)]
  generalize g (60 + 10 * n + 2) = x at h1
  obtain ⟨h2, h3⟩ := h1
  obtain ⟨hx1, hx2⟩ := cnt_in (x := x) (n := tn (g 4)) h2 (by rw [h4.2] at h3; rw [nI_toInt (by omega)] at h3; exact h3)
  rcases Nat.eq_zero_or_pos (tn x) with h0 | h0
  · left; rw [hx2, h0]; rfl
  · right
    refine ⟨tn x - 1, by omega, ?_⟩
    rw [hx2]
    obtain ⟨y, hy⟩ : ∃ y, tn x = y + 1 := ⟨tn x - 1, by omega⟩
    rw [show tn (nI (tn x)) = tn x from nI_clamp (by omega), hy, nI_pred, Nat.add_sub_cancel]
theorem b0_of {x : Int32} {c : Prop} [Decidable c] (e : x = b01 c) (h : x = 0) : ¬ c := b01e.mp (e.symm.trans h)
theorem b1_of {x : Int32} {c : Prop} [Decidable c] (e : x = b01 c) (h : ¬ x = 0) : c := b01n.mp (fun z => h (e.trans z))
end
section
-- HOW ct_in fI
-- HOW ct_fails fI
-- HOW ct_of fI
-- HOW ct_ofBoat fI
-- HOW ct_layBoat fV
-- HOW ct_isLight fI
-- HOW ct_isBoat fI
-- HOW ct_isPlace fI
-- HOW ct_bright fI
-- HOW ct_worth fI
-- HOW ct_serves fI
-- HOW ct_best fI
-- HOW ct_sails fV
-- HOW ct_drops fV
-- HOW ct_wished fI
-- HOW ct_hands fV
def mtX6_in : Mt := (yX6_in, cX6_in, 3, (some .boolean), 0, 0, 0, 0)
theorem kX6_in_0 : Dk mtX6_in 0 (.iload_n 0) 1 1 := ⟨by decide +kernel, rfl⟩
theorem kX6_in_1 : Dk mtX6_in 1 (.iload_n 1) 1 2 := ⟨by decide +kernel, rfl⟩
theorem kX6_in_2 : Dk mtX6_in 2 (.if_icmp .lt 12) 3 5 := ⟨by decide +kernel, rfl⟩
theorem kX6_in_5 : Dk mtX6_in 5 (.iload_n 0) 1 6 := ⟨by decide +kernel, rfl⟩
theorem kX6_in_6 : Dk mtX6_in 6 (.iload_n 2) 1 7 := ⟨by decide +kernel, rfl⟩
theorem kX6_in_7 : Dk mtX6_in 7 (.if_icmp .gt 7) 3 10 := ⟨by decide +kernel, rfl⟩
theorem kX6_in_10 : Dk mtX6_in 10 (.iconst 1) 1 11 := ⟨by decide +kernel, rfl⟩
theorem kX6_in_11 : Dk mtX6_in 11 (.goto 4) 3 14 := ⟨by decide +kernel, rfl⟩
theorem kX6_in_14 : Dk mtX6_in 14 (.iconst 0) 1 15 := ⟨by decide +kernel, rfl⟩
theorem kX6_in_15 : Dk mtX6_in 15 (.ireturn) 1 16 := ⟨by decide +kernel, rfl⟩
set_option maxHeartbeats 4000000 in
set_option maxRecDepth 100000 in
theorem ct_in {l : Launch} {w : Wd} {sg : Sg} (hWr : Wr w) (v a b : Int32) : M l mtX6_in w [vI v, vI a, vI b] sg (fI (b01 (inn v a b)) sg) := by
  refine M_of [some (vI v), some (vI a), some (vI b)] rfl (Nat.le_of_ble_eq_true rfl) (by decide +kernel) ?_
  intro p_ e_ s_ m_ args_ below_ meth_ c_ hC hO
  refine V_iload_n hC kX6_in_0 rfl ?_
  refine V_iload_n hC kX6_in_1 rfl ?_
  refine V_icmp_lt hC 14 kX6_in_2 (by decide) (fun h2 => ?_) (fun h2 => ?_)
  · refine V_iconst hC (0) kX6_in_14 (by decide) ?_
    refine V_iretz hC rfl kX6_in_15 ?_ ?_
    · first | exact Or.inl rfl | exact Or.inr rfl
    · refine ⟨?_, rfl⟩
      first | exact cI (b01_t ⟨Int32.not_lt.mp h2, Int32.not_lt.mp h7⟩).symm | exact cI (b01_f (fun q => absurd q.1 (Int32.not_le.mpr h2))).symm | exact cI (b01_f (fun q => absurd q.2 (Int32.not_le.mpr h7))).symm
  · refine V_iload_n hC kX6_in_5 rfl ?_
    refine V_iload_n hC kX6_in_6 rfl ?_
    refine V_icmp_gt hC 14 kX6_in_7 (by decide) (fun h7 => ?_) (fun h7 => ?_)
    · refine V_iconst hC (0) kX6_in_14 (by decide) ?_
      refine V_iretz hC rfl kX6_in_15 ?_ ?_
      · first | exact Or.inl rfl | exact Or.inr rfl
      · refine ⟨?_, rfl⟩
        first | exact cI (b01_t ⟨Int32.not_lt.mp h2, Int32.not_lt.mp h7⟩).symm | exact cI (b01_f (fun q => absurd q.1 (Int32.not_le.mpr h2))).symm | exact cI (b01_f (fun q => absurd q.2 (Int32.not_le.mpr h7))).symm
    · refine V_iconst hC (1) kX6_in_10 (by decide) ?_
      refine V_goto hC 15 kX6_in_11 (by decide) ?_
      refine V_iretz hC rfl kX6_in_15 ?_ ?_
      · first | exact Or.inl rfl | exact Or.inr rfl
      · refine ⟨?_, rfl⟩
        first | exact cI (b01_t ⟨Int32.not_lt.mp h2, Int32.not_lt.mp h7⟩).symm | exact cI (b01_f (fun q => absurd q.1 (Int32.not_le.mpr h2))).symm | exact cI (b01_f (fun q => absurd q.2 (Int32.not_le.mpr h7))).symm
def mtX6_fails : Mt := (yX6_fails, cX6_fails, 2, (some .int), 0, 0, 0, 0)
theorem kX6_fails_0 : Dk mtX6_fails 0 (.aload_n 0) 1 1 := ⟨by decide +kernel, rfl⟩
theorem kX6_fails_1 : Dk mtX6_fails 1 (.iload_n 1) 1 2 := ⟨by decide +kernel, rfl⟩
theorem kX6_fails_2 : Dk mtX6_fails 2 (.putfield 32) 3 5 := ⟨by decide +kernel, rfl⟩
theorem kX6_fails_5 : Dk mtX6_fails 5 (.iconst 0) 1 6 := ⟨by decide +kernel, rfl⟩
theorem kX6_fails_6 : Dk mtX6_fails 6 (.ireturn) 1 7 := ⟨by decide +kernel, rfl⟩
theorem lfX6_32 : LkF RX6 32 6 0 := Or.inl (by decide +kernel)
set_option maxHeartbeats 4000000 in
set_option maxRecDepth 100000 in
theorem ct_fails {l : Launch} {w : Wd} {sg : Sg} (hWr : Wr w) {mo : Nat} (x : Int32) : M l mtX6_fails w [vR (some (6, 0, mo)), vI x] sg (fI 0 (ups sg mo 0 x)) := by
  refine M_of [some (vR (some (6, 0, mo))), some (vI x)] rfl (Nat.le_of_ble_eq_true rfl) (by decide +kernel) ?_
  intro p_ e_ s_ m_ args_ below_ meth_ c_ hC hO
  refine V_aload_n hC kX6_fails_0 rfl ?_
  refine V_iload_n hC kX6_fails_1 rfl ?_
  refine V_putI hC 6 0 lfX6_32 kX6_fails_2 (Nat.le_of_ble_eq_true rfl) (Nat.le_of_ble_eq_true rfl) rfl rfl ⟨rfl, rfl⟩ ?_
  refine V_iconst hC (0) kX6_fails_5 (by decide) ?_
  refine V_ireti hC rfl kX6_fails_6 ?_
  exact ⟨by with_reducible rfl, by with_reducible rfl⟩
def mtX6_of : Mt := (yX6_of, cX6_of, 3, (some .int), 0, 0, 0, 0)
theorem kX6_of_0 : Dk mtX6_of 0 (.aload_n 0) 1 1 := ⟨by decide +kernel, rfl⟩
theorem kX6_of_1 : Dk mtX6_of 1 (.getfield 7) 3 4 := ⟨by decide +kernel, rfl⟩
theorem kX6_of_4 : Dk mtX6_of 4 (.bipush 12) 2 6 := ⟨by decide +kernel, rfl⟩
theorem kX6_of_6 : Dk mtX6_of 6 (.bipush 8) 2 8 := ⟨by decide +kernel, rfl⟩
theorem kX6_of_8 : Dk mtX6_of 8 (.iload_n 1) 1 9 := ⟨by decide +kernel, rfl⟩
theorem kX6_of_9 : Dk mtX6_of 9 (.imul) 1 10 := ⟨by decide +kernel, rfl⟩
theorem kX6_of_10 : Dk mtX6_of 10 (.iadd) 1 11 := ⟨by decide +kernel, rfl⟩
theorem kX6_of_11 : Dk mtX6_of 11 (.iload_n 2) 1 12 := ⟨by decide +kernel, rfl⟩
theorem kX6_of_12 : Dk mtX6_of 12 (.iadd) 1 13 := ⟨by decide +kernel, rfl⟩
theorem kX6_of_13 : Dk mtX6_of 13 (.iaload) 1 14 := ⟨by decide +kernel, rfl⟩
theorem kX6_of_14 : Dk mtX6_of 14 (.ireturn) 1 15 := ⟨by decide +kernel, rfl⟩
theorem lfX6_7 : LkF RX6 7 6 1 := Or.inl (by decide +kernel)
set_option maxHeartbeats 4000000 in
set_option maxRecDepth 100000 in
theorem ct_of {l : Launch} {w : Wd} {sg : Sg} (hWr : Wr w) {mo : Nat} (a j : Int32) (ha : vp_in a 6) (hj : vp_in j 8) : M l mtX6_of w [vR (some (6, 0, mo)), vI a, vI j] sg (fI (gL (sg (mo + 1)) a j) sg) := by
  refine M_of [some (vR (some (6, 0, mo))), some (vI a), some (vI j)] rfl (Nat.le_of_ble_eq_true rfl) (by decide +kernel) ?_
  intro p_ e_ s_ m_ args_ below_ meth_ c_ hC hO
  refine V_aload_n hC kX6_of_0 rfl ?_
  refine V_getR hC hWr 6 1 lfX6_7 kX6_of_1 (Nat.le_of_ble_eq_true rfl) (Nat.le_of_ble_eq_true rfl) rfl ?_
  refine V_bipush hC (12) kX6_of_4 (by decide) ?_
  refine V_bipush hC (8) kX6_of_6 (by decide) ?_
  refine V_iload_n hC kX6_of_8 rfl ?_
  refine V_imul hC kX6_of_9 ?_
  refine V_iadd hC kX6_of_10 ?_
  refine V_iload_n hC kX6_of_11 rfl ?_
  refine V_iadd hC kX6_of_12 ?_
  refine V_iald hC _ rfl kX6_of_13 (inL ha hj) ?_
  refine V_ireti hC rfl kX6_of_14 ?_
  refine ⟨cI ?_, by with_reducible rfl⟩
  unfold gL tn
  with_reducible rfl
def mtX6_ofBoat : Mt := (yX6_ofBoat, cX6_ofBoat, 3, (some .int), 0, 0, 0, 0)
theorem kX6_ofBoat_0 : Dk mtX6_ofBoat 0 (.aload_n 0) 1 1 := ⟨by decide +kernel, rfl⟩
theorem kX6_ofBoat_1 : Dk mtX6_ofBoat 1 (.getfield 7) 3 4 := ⟨by decide +kernel, rfl⟩
theorem kX6_ofBoat_4 : Dk mtX6_ofBoat 4 (.bipush 60) 2 6 := ⟨by decide +kernel, rfl⟩
theorem kX6_ofBoat_6 : Dk mtX6_ofBoat 6 (.bipush 10) 2 8 := ⟨by decide +kernel, rfl⟩
theorem kX6_ofBoat_8 : Dk mtX6_ofBoat 8 (.iload_n 1) 1 9 := ⟨by decide +kernel, rfl⟩
theorem kX6_ofBoat_9 : Dk mtX6_ofBoat 9 (.imul) 1 10 := ⟨by decide +kernel, rfl⟩
theorem kX6_ofBoat_10 : Dk mtX6_ofBoat 10 (.iadd) 1 11 := ⟨by decide +kernel, rfl⟩
theorem kX6_ofBoat_11 : Dk mtX6_ofBoat 11 (.iload_n 2) 1 12 := ⟨by decide +kernel, rfl⟩
theorem kX6_ofBoat_12 : Dk mtX6_ofBoat 12 (.iadd) 1 13 := ⟨by decide +kernel, rfl⟩
theorem kX6_ofBoat_13 : Dk mtX6_ofBoat 13 (.iaload) 1 14 := ⟨by decide +kernel, rfl⟩
theorem kX6_ofBoat_14 : Dk mtX6_ofBoat 14 (.ireturn) 1 15 := ⟨by decide +kernel, rfl⟩
set_option maxHeartbeats 4000000 in
set_option maxRecDepth 100000 in
theorem ct_ofBoat {l : Launch} {w : Wd} {sg : Sg} (hWr : Wr w) {mo : Nat} (a j : Int32) (ha : vp_in a 8) (hj : vp_in j 10) : M l mtX6_ofBoat w [vR (some (6, 0, mo)), vI a, vI j] sg (fI (gB (sg (mo + 1)) a j) sg) := by
  refine M_of [some (vR (some (6, 0, mo))), some (vI a), some (vI j)] rfl (Nat.le_of_ble_eq_true rfl) (by decide +kernel) ?_
  intro p_ e_ s_ m_ args_ below_ meth_ c_ hC hO
  refine V_aload_n hC kX6_ofBoat_0 rfl ?_
  refine V_getR hC hWr 6 1 lfX6_7 kX6_ofBoat_1 (Nat.le_of_ble_eq_true rfl) (Nat.le_of_ble_eq_true rfl) rfl ?_
  refine V_bipush hC (60) kX6_ofBoat_4 (by decide) ?_
  refine V_bipush hC (10) kX6_ofBoat_6 (by decide) ?_
  refine V_iload_n hC kX6_ofBoat_8 rfl ?_
  refine V_imul hC kX6_ofBoat_9 ?_
  refine V_iadd hC kX6_ofBoat_10 ?_
  refine V_iload_n hC kX6_ofBoat_11 rfl ?_
  refine V_iadd hC kX6_ofBoat_12 ?_
  refine V_iald hC _ rfl kX6_ofBoat_13 (inB ha hj) ?_
  refine V_ireti hC rfl kX6_ofBoat_14 ?_
  refine ⟨cI ?_, by with_reducible rfl⟩
  unfold gB tn
  with_reducible rfl
def mtX6_layBoat : Mt := (yX6_layBoat, cX6_layBoat, 4, none, 0, 0, 0, 0)
theorem kX6_layBoat_0 : Dk mtX6_layBoat 0 (.aload_n 0) 1 1 := ⟨by decide +kernel, rfl⟩
theorem kX6_layBoat_1 : Dk mtX6_layBoat 1 (.getfield 7) 3 4 := ⟨by decide +kernel, rfl⟩
theorem kX6_layBoat_4 : Dk mtX6_layBoat 4 (.bipush 60) 2 6 := ⟨by decide +kernel, rfl⟩
theorem kX6_layBoat_6 : Dk mtX6_layBoat 6 (.bipush 10) 2 8 := ⟨by decide +kernel, rfl⟩
theorem kX6_layBoat_8 : Dk mtX6_layBoat 8 (.iload_n 1) 1 9 := ⟨by decide +kernel, rfl⟩
theorem kX6_layBoat_9 : Dk mtX6_layBoat 9 (.imul) 1 10 := ⟨by decide +kernel, rfl⟩
theorem kX6_layBoat_10 : Dk mtX6_layBoat 10 (.iadd) 1 11 := ⟨by decide +kernel, rfl⟩
theorem kX6_layBoat_11 : Dk mtX6_layBoat 11 (.iload_n 2) 1 12 := ⟨by decide +kernel, rfl⟩
theorem kX6_layBoat_12 : Dk mtX6_layBoat 12 (.iadd) 1 13 := ⟨by decide +kernel, rfl⟩
theorem kX6_layBoat_13 : Dk mtX6_layBoat 13 (.iload_n 3) 1 14 := ⟨by decide +kernel, rfl⟩
theorem kX6_layBoat_14 : Dk mtX6_layBoat 14 (.iastore) 1 15 := ⟨by decide +kernel, rfl⟩
theorem kX6_layBoat_15 : Dk mtX6_layBoat 15 (.return_) 1 16 := ⟨by decide +kernel, rfl⟩
set_option maxHeartbeats 4000000 in
set_option maxRecDepth 100000 in
theorem ct_layBoat {l : Launch} {w : Wd} {sg : Sg} (hWr : Wr w) {mo : Nat} (a j x : Int32) (ha : vp_in a 8) (hj : vp_in j 10) : M l mtX6_layBoat w [vR (some (6, 0, mo)), vI a, vI j, vI x] sg (fV0 (upr sg (mo + 1) (pB (sg (mo + 1)) a j x))) := by
  refine M_of [some (vR (some (6, 0, mo))), some (vI a), some (vI j), some (vI x)] rfl (Nat.le_of_ble_eq_true rfl) (by decide +kernel) ?_
  intro p_ e_ s_ m_ args_ below_ meth_ c_ hC hO
  refine V_aload_n hC kX6_layBoat_0 rfl ?_
  refine V_getR hC hWr 6 1 lfX6_7 kX6_layBoat_1 (Nat.le_of_ble_eq_true rfl) (Nat.le_of_ble_eq_true rfl) rfl ?_
  refine V_bipush hC (60) kX6_layBoat_4 (by decide) ?_
  refine V_bipush hC (10) kX6_layBoat_6 (by decide) ?_
  refine V_iload_n hC kX6_layBoat_8 rfl ?_
  refine V_imul hC kX6_layBoat_9 ?_
  refine V_iadd hC kX6_layBoat_10 ?_
  refine V_iload_n hC kX6_layBoat_11 rfl ?_
  refine V_iadd hC kX6_layBoat_12 ?_
  refine V_iload_n hC kX6_layBoat_13 rfl ?_
  refine V_iast hC _ rfl kX6_layBoat_14 (inB ha hj) ?_
  refine V_vret hC rfl kX6_layBoat_15 ?_
  refine ⟨by with_reducible rfl, ?_⟩
  unfold pB tn ups
  with_reducible rfl
def mtX6_isLight : Mt := (yX6_isLight, cX6_isLight, 2, (some .boolean), 1, 22, 0, 0)
theorem kX6_isLight_0 : Dk mtX6_isLight 0 (.iload_n 1) 1 1 := ⟨by decide +kernel, rfl⟩
theorem kX6_isLight_1 : Dk mtX6_isLight 1 (.iconst 0) 1 2 := ⟨by decide +kernel, rfl⟩
theorem kX6_isLight_2 : Dk mtX6_isLight 2 (.aload_n 0) 1 3 := ⟨by decide +kernel, rfl⟩
theorem kX6_isLight_3 : Dk mtX6_isLight 3 (.getfield 7) 3 6 := ⟨by decide +kernel, rfl⟩
theorem kX6_isLight_6 : Dk mtX6_isLight 6 (.iconst 4) 1 7 := ⟨by decide +kernel, rfl⟩
theorem kX6_isLight_7 : Dk mtX6_isLight 7 (.iaload) 1 8 := ⟨by decide +kernel, rfl⟩
theorem kX6_isLight_8 : Dk mtX6_isLight 8 (.iconst 1) 1 9 := ⟨by decide +kernel, rfl⟩
theorem kX6_isLight_9 : Dk mtX6_isLight 9 (.isub) 1 10 := ⟨by decide +kernel, rfl⟩
theorem kX6_isLight_10 : Dk mtX6_isLight 10 (.invokestatic 39) 3 13 := ⟨by decide +kernel, rfl⟩
theorem kX6_isLight_13 : Dk mtX6_isLight 13 (.ireturn) 1 14 := ⟨by decide +kernel, rfl⟩
theorem lmX6_39 : LkM RX6 39 mtX6_in := Or.inl (by decide +kernel)
theorem mkX6_in : MkS mtX6_in 3 := ⟨List.mem_of_getElem? (i := 1078) (by decide +kernel), by decide +kernel, by decide +kernel, ⟨by decide +kernel, by decide +kernel, by decide +kernel⟩⟩
set_option maxHeartbeats 4000000 in
set_option maxRecDepth 100000 in
theorem ct_isLight {l : Launch} {w : Wd} {sg : Sg} (hWr : Wr w) {mo : Nat} (a : Int32) : M l mtX6_isLight w [vR (some (6, 0, mo)), vI a] sg (fI (b01 (inn a 0 ((sg (mo + 1)) 4 - 1))) sg) := by
  refine M_of [some (vR (some (6, 0, mo))), some (vI a)] rfl (Nat.le_of_ble_eq_true rfl) (by decide +kernel) ?_
  intro p_ e_ s_ m_ args_ below_ meth_ c_ hC hO
  refine V_iload_n hC kX6_isLight_0 rfl ?_
  refine V_iconst hC (0) kX6_isLight_1 (by decide) ?_
  refine V_aload_n hC kX6_isLight_2 rfl ?_
  refine V_getR hC hWr 6 1 lfX6_7 kX6_isLight_3 (Nat.le_of_ble_eq_true rfl) (Nat.le_of_ble_eq_true rfl) rfl ?_
  refine V_iconst hC (4) kX6_isLight_6 (by decide) ?_
  refine V_iald hC 4 rfl kX6_isLight_7 (vp_lit rfl) ?_
  refine V_iconst hC (1) kX6_isLight_8 (by decide) ?_
  refine V_isub hC kX6_isLight_9 ?_
  refine V_cS_fI hC (ct_in hWr _ _ _) mkX6_in lmX6_39 kX6_isLight_10 rfl rfl (Nat.le_of_ble_eq_true rfl) ⟨(Nat.le_of_ble_eq_true rfl), (Nat.le_of_ble_eq_true rfl)⟩ ⟨rfl, rfl⟩ ⟨(Nat.le_of_ble_eq_true rfl), (Nat.le_of_ble_eq_true rfl)⟩ ?_
  refine V_iretz hC rfl kX6_isLight_13 ?_ ?_
  · exact b01_z _
  · exact ⟨by with_reducible rfl, by with_reducible rfl⟩
def mtX6_isBoat : Mt := (yX6_isBoat, cX6_isBoat, 2, (some .boolean), 1, 22, 0, 0)
theorem kX6_isBoat_0 : Dk mtX6_isBoat 0 (.iload_n 1) 1 1 := ⟨by decide +kernel, rfl⟩
theorem kX6_isBoat_1 : Dk mtX6_isBoat 1 (.iconst 0) 1 2 := ⟨by decide +kernel, rfl⟩
theorem kX6_isBoat_2 : Dk mtX6_isBoat 2 (.aload_n 0) 1 3 := ⟨by decide +kernel, rfl⟩
theorem kX6_isBoat_3 : Dk mtX6_isBoat 3 (.getfield 7) 3 6 := ⟨by decide +kernel, rfl⟩
theorem kX6_isBoat_6 : Dk mtX6_isBoat 6 (.iconst 5) 1 7 := ⟨by decide +kernel, rfl⟩
theorem kX6_isBoat_7 : Dk mtX6_isBoat 7 (.iaload) 1 8 := ⟨by decide +kernel, rfl⟩
theorem kX6_isBoat_8 : Dk mtX6_isBoat 8 (.iconst 1) 1 9 := ⟨by decide +kernel, rfl⟩
theorem kX6_isBoat_9 : Dk mtX6_isBoat 9 (.isub) 1 10 := ⟨by decide +kernel, rfl⟩
theorem kX6_isBoat_10 : Dk mtX6_isBoat 10 (.invokestatic 39) 3 13 := ⟨by decide +kernel, rfl⟩
theorem kX6_isBoat_13 : Dk mtX6_isBoat 13 (.ireturn) 1 14 := ⟨by decide +kernel, rfl⟩
set_option maxHeartbeats 4000000 in
set_option maxRecDepth 100000 in
theorem ct_isBoat {l : Launch} {w : Wd} {sg : Sg} (hWr : Wr w) {mo : Nat} (a : Int32) : M l mtX6_isBoat w [vR (some (6, 0, mo)), vI a] sg (fI (b01 (inn a 0 ((sg (mo + 1)) 5 - 1))) sg) := by
  refine M_of [some (vR (some (6, 0, mo))), some (vI a)] rfl (Nat.le_of_ble_eq_true rfl) (by decide +kernel) ?_
  intro p_ e_ s_ m_ args_ below_ meth_ c_ hC hO
  refine V_iload_n hC kX6_isBoat_0 rfl ?_
  refine V_iconst hC (0) kX6_isBoat_1 (by decide) ?_
  refine V_aload_n hC kX6_isBoat_2 rfl ?_
  refine V_getR hC hWr 6 1 lfX6_7 kX6_isBoat_3 (Nat.le_of_ble_eq_true rfl) (Nat.le_of_ble_eq_true rfl) rfl ?_
  refine V_iconst hC (5) kX6_isBoat_6 (by decide) ?_
  refine V_iald hC 5 rfl kX6_isBoat_7 (vp_lit rfl) ?_
  refine V_iconst hC (1) kX6_isBoat_8 (by decide) ?_
  refine V_isub hC kX6_isBoat_9 ?_
  refine V_cS_fI hC (ct_in hWr _ _ _) mkX6_in lmX6_39 kX6_isBoat_10 rfl rfl (Nat.le_of_ble_eq_true rfl) ⟨(Nat.le_of_ble_eq_true rfl), (Nat.le_of_ble_eq_true rfl)⟩ ⟨rfl, rfl⟩ ⟨(Nat.le_of_ble_eq_true rfl), (Nat.le_of_ble_eq_true rfl)⟩ ?_
  refine V_iretz hC rfl kX6_isBoat_13 ?_ ?_
  · exact b01_z _
  · exact ⟨by with_reducible rfl, by with_reducible rfl⟩
def mtX6_isPlace : Mt := (yX6_isPlace, cX6_isPlace, 1, (some .boolean), 1, 22, 0, 0)
theorem kX6_isPlace_0 : Dk mtX6_isPlace 0 (.iload_n 0) 1 1 := ⟨by decide +kernel, rfl⟩
theorem kX6_isPlace_1 : Dk mtX6_isPlace 1 (.iconst 0) 1 2 := ⟨by decide +kernel, rfl⟩
theorem kX6_isPlace_2 : Dk mtX6_isPlace 2 (.sipush 199) 3 5 := ⟨by decide +kernel, rfl⟩
theorem kX6_isPlace_5 : Dk mtX6_isPlace 5 (.invokestatic 39) 3 8 := ⟨by decide +kernel, rfl⟩
theorem kX6_isPlace_8 : Dk mtX6_isPlace 8 (.ireturn) 1 9 := ⟨by decide +kernel, rfl⟩
set_option maxHeartbeats 4000000 in
set_option maxRecDepth 100000 in
theorem ct_isPlace {l : Launch} {w : Wd} {sg : Sg} (hWr : Wr w) (a : Int32) : M l mtX6_isPlace w [vI a] sg (fI (b01 (inn a 0 199)) sg) := by
  refine M_of [some (vI a)] rfl (Nat.le_of_ble_eq_true rfl) (by decide +kernel) ?_
  intro p_ e_ s_ m_ args_ below_ meth_ c_ hC hO
  refine V_iload_n hC kX6_isPlace_0 rfl ?_
  refine V_iconst hC (0) kX6_isPlace_1 (by decide) ?_
  refine V_sipush hC (199) kX6_isPlace_2 (by decide) ?_
  refine V_cS_fI hC (ct_in hWr _ _ _) mkX6_in lmX6_39 kX6_isPlace_5 rfl rfl (Nat.le_of_ble_eq_true rfl) ⟨(Nat.le_of_ble_eq_true rfl), (Nat.le_of_ble_eq_true rfl)⟩ ⟨rfl, rfl⟩ ⟨(Nat.le_of_ble_eq_true rfl), (Nat.le_of_ble_eq_true rfl)⟩ ?_
  refine V_iretz hC rfl kX6_isPlace_8 ?_ ?_
  · exact b01_z _
  · exact ⟨by with_reducible rfl, by with_reducible rfl⟩
def mtX6_bright : Mt := (yX6_bright, cX6_bright, 7, (some .int), 1, 22, 0, 0)
theorem kX6_bright_0 : Dk mtX6_bright 0 (.iload_n 2) 1 1 := ⟨by decide +kernel, rfl⟩
theorem kX6_bright_1 : Dk mtX6_bright 1 (.aload_n 0) 1 2 := ⟨by decide +kernel, rfl⟩
theorem kX6_bright_2 : Dk mtX6_bright 2 (.iload_n 1) 1 3 := ⟨by decide +kernel, rfl⟩
theorem kX6_bright_3 : Dk mtX6_bright 3 (.iconst 0) 1 4 := ⟨by decide +kernel, rfl⟩
theorem kX6_bright_4 : Dk mtX6_bright 4 (.invokevirtual 46) 3 7 := ⟨by decide +kernel, rfl⟩
theorem kX6_bright_7 : Dk mtX6_bright 7 (.isub) 1 8 := ⟨by decide +kernel, rfl⟩
theorem kX6_bright_8 : Dk mtX6_bright 8 (.istore_n 3) 1 9 := ⟨by decide +kernel, rfl⟩
theorem kX6_bright_9 : Dk mtX6_bright 9 (.aload_n 0) 1 10 := ⟨by decide +kernel, rfl⟩
theorem kX6_bright_10 : Dk mtX6_bright 10 (.iload_n 1) 1 11 := ⟨by decide +kernel, rfl⟩
theorem kX6_bright_11 : Dk mtX6_bright 11 (.iconst 1) 1 12 := ⟨by decide +kernel, rfl⟩
theorem kX6_bright_12 : Dk mtX6_bright 12 (.invokevirtual 46) 3 15 := ⟨by decide +kernel, rfl⟩
theorem kX6_bright_15 : Dk mtX6_bright 15 (.bipush 100) 2 17 := ⟨by decide +kernel, rfl⟩
theorem kX6_bright_17 : Dk mtX6_bright 17 (.imul) 1 18 := ⟨by decide +kernel, rfl⟩
theorem kX6_bright_18 : Dk mtX6_bright 18 (.bipush 10) 2 20 := ⟨by decide +kernel, rfl⟩
theorem kX6_bright_20 : Dk mtX6_bright 20 (.iload_n 3) 1 21 := ⟨by decide +kernel, rfl⟩
theorem kX6_bright_21 : Dk mtX6_bright 21 (.ifCond .ge 8) 3 24 := ⟨by decide +kernel, rfl⟩
theorem kX6_bright_24 : Dk mtX6_bright 24 (.iload_n 3) 1 25 := ⟨by decide +kernel, rfl⟩
theorem kX6_bright_25 : Dk mtX6_bright 25 (.ineg) 1 26 := ⟨by decide +kernel, rfl⟩
theorem kX6_bright_26 : Dk mtX6_bright 26 (.goto 4) 3 29 := ⟨by decide +kernel, rfl⟩
theorem kX6_bright_29 : Dk mtX6_bright 29 (.iload_n 3) 1 30 := ⟨by decide +kernel, rfl⟩
theorem kX6_bright_30 : Dk mtX6_bright 30 (.iadd) 1 31 := ⟨by decide +kernel, rfl⟩
theorem kX6_bright_31 : Dk mtX6_bright 31 (.idiv) 1 32 := ⟨by decide +kernel, rfl⟩
theorem kX6_bright_32 : Dk mtX6_bright 32 (.istore 4) 2 34 := ⟨by decide +kernel, rfl⟩
theorem kX6_bright_34 : Dk mtX6_bright 34 (.aload_n 0) 1 35 := ⟨by decide +kernel, rfl⟩
theorem kX6_bright_35 : Dk mtX6_bright 35 (.iload_n 1) 1 36 := ⟨by decide +kernel, rfl⟩
theorem kX6_bright_36 : Dk mtX6_bright 36 (.iconst 2) 1 37 := ⟨by decide +kernel, rfl⟩
theorem kX6_bright_37 : Dk mtX6_bright 37 (.invokevirtual 46) 3 40 := ⟨by decide +kernel, rfl⟩
theorem kX6_bright_40 : Dk mtX6_bright 40 (.iconst 1) 1 41 := ⟨by decide +kernel, rfl⟩
theorem kX6_bright_41 : Dk mtX6_bright 41 (.if_icmp .ne 33) 3 44 := ⟨by decide +kernel, rfl⟩
theorem kX6_bright_44 : Dk mtX6_bright 44 (.aload_n 0) 1 45 := ⟨by decide +kernel, rfl⟩
theorem kX6_bright_45 : Dk mtX6_bright 45 (.getfield 7) 3 48 := ⟨by decide +kernel, rfl⟩
theorem kX6_bright_48 : Dk mtX6_bright 48 (.bipush 6) 2 50 := ⟨by decide +kernel, rfl⟩
theorem kX6_bright_50 : Dk mtX6_bright 50 (.iaload) 1 51 := ⟨by decide +kernel, rfl⟩
theorem kX6_bright_51 : Dk mtX6_bright 51 (.aload_n 0) 1 52 := ⟨by decide +kernel, rfl⟩
theorem kX6_bright_52 : Dk mtX6_bright 52 (.iload_n 1) 1 53 := ⟨by decide +kernel, rfl⟩
theorem kX6_bright_53 : Dk mtX6_bright 53 (.iconst 3) 1 54 := ⟨by decide +kernel, rfl⟩
theorem kX6_bright_54 : Dk mtX6_bright 54 (.invokevirtual 46) 3 57 := ⟨by decide +kernel, rfl⟩
theorem kX6_bright_57 : Dk mtX6_bright 57 (.idiv) 1 58 := ⟨by decide +kernel, rfl⟩
theorem kX6_bright_58 : Dk mtX6_bright 58 (.iconst 2) 1 59 := ⟨by decide +kernel, rfl⟩
theorem kX6_bright_59 : Dk mtX6_bright 59 (.irem) 1 60 := ⟨by decide +kernel, rfl⟩
theorem kX6_bright_60 : Dk mtX6_bright 60 (.iconst 1) 1 61 := ⟨by decide +kernel, rfl⟩
theorem kX6_bright_61 : Dk mtX6_bright 61 (.if_icmp .ne 10) 3 64 := ⟨by decide +kernel, rfl⟩
theorem kX6_bright_64 : Dk mtX6_bright 64 (.iload 4) 2 66 := ⟨by decide +kernel, rfl⟩
theorem kX6_bright_66 : Dk mtX6_bright 66 (.iconst 2) 1 67 := ⟨by decide +kernel, rfl⟩
theorem kX6_bright_67 : Dk mtX6_bright 67 (.idiv) 1 68 := ⟨by decide +kernel, rfl⟩
theorem kX6_bright_68 : Dk mtX6_bright 68 (.goto 5) 3 71 := ⟨by decide +kernel, rfl⟩
theorem kX6_bright_71 : Dk mtX6_bright 71 (.iload 4) 2 73 := ⟨by decide +kernel, rfl⟩
theorem kX6_bright_73 : Dk mtX6_bright 73 (.ireturn) 1 74 := ⟨by decide +kernel, rfl⟩
theorem kX6_bright_74 : Dk mtX6_bright 74 (.aload_n 0) 1 75 := ⟨by decide +kernel, rfl⟩
theorem kX6_bright_75 : Dk mtX6_bright 75 (.iload_n 1) 1 76 := ⟨by decide +kernel, rfl⟩
theorem kX6_bright_76 : Dk mtX6_bright 76 (.iconst 3) 1 77 := ⟨by decide +kernel, rfl⟩
theorem kX6_bright_77 : Dk mtX6_bright 77 (.invokevirtual 46) 3 80 := ⟨by decide +kernel, rfl⟩
theorem kX6_bright_80 : Dk mtX6_bright 80 (.iconst 2) 1 81 := ⟨by decide +kernel, rfl⟩
theorem kX6_bright_81 : Dk mtX6_bright 81 (.irem) 1 82 := ⟨by decide +kernel, rfl⟩
theorem kX6_bright_82 : Dk mtX6_bright 82 (.iconst 1) 1 83 := ⟨by decide +kernel, rfl⟩
theorem kX6_bright_83 : Dk mtX6_bright 83 (.if_icmp .ne 7) 3 86 := ⟨by decide +kernel, rfl⟩
theorem kX6_bright_86 : Dk mtX6_bright 86 (.iconst 1) 1 87 := ⟨by decide +kernel, rfl⟩
theorem kX6_bright_87 : Dk mtX6_bright 87 (.goto 4) 3 90 := ⟨by decide +kernel, rfl⟩
theorem kX6_bright_90 : Dk mtX6_bright 90 (.iconst 0) 1 91 := ⟨by decide +kernel, rfl⟩
theorem kX6_bright_91 : Dk mtX6_bright 91 (.istore 5) 2 93 := ⟨by decide +kernel, rfl⟩
theorem kX6_bright_93 : Dk mtX6_bright 93 (.aload_n 0) 1 94 := ⟨by decide +kernel, rfl⟩
theorem kX6_bright_94 : Dk mtX6_bright 94 (.iload_n 1) 1 95 := ⟨by decide +kernel, rfl⟩
theorem kX6_bright_95 : Dk mtX6_bright 95 (.iconst 2) 1 96 := ⟨by decide +kernel, rfl⟩
theorem kX6_bright_96 : Dk mtX6_bright 96 (.invokevirtual 46) 3 99 := ⟨by decide +kernel, rfl⟩
theorem kX6_bright_99 : Dk mtX6_bright 99 (.iconst 2) 1 100 := ⟨by decide +kernel, rfl⟩
theorem kX6_bright_100 : Dk mtX6_bright 100 (.if_icmp .ne 23) 3 103 := ⟨by decide +kernel, rfl⟩
theorem kX6_bright_103 : Dk mtX6_bright 103 (.iload 5) 2 105 := ⟨by decide +kernel, rfl⟩
theorem kX6_bright_105 : Dk mtX6_bright 105 (.ifCond .eq 10) 3 108 := ⟨by decide +kernel, rfl⟩
theorem kX6_bright_108 : Dk mtX6_bright 108 (.iload_n 3) 1 109 := ⟨by decide +kernel, rfl⟩
theorem kX6_bright_109 : Dk mtX6_bright 109 (.ifCond .ge 14) 3 112 := ⟨by decide +kernel, rfl⟩
theorem kX6_bright_112 : Dk mtX6_bright 112 (.goto 7) 3 115 := ⟨by decide +kernel, rfl⟩
theorem kX6_bright_115 : Dk mtX6_bright 115 (.iload_n 3) 1 116 := ⟨by decide +kernel, rfl⟩
theorem kX6_bright_116 : Dk mtX6_bright 116 (.ifCond .le 7) 3 119 := ⟨by decide +kernel, rfl⟩
theorem kX6_bright_119 : Dk mtX6_bright 119 (.iconst 1) 1 120 := ⟨by decide +kernel, rfl⟩
theorem kX6_bright_120 : Dk mtX6_bright 120 (.goto 4) 3 123 := ⟨by decide +kernel, rfl⟩
theorem kX6_bright_123 : Dk mtX6_bright 123 (.iconst 0) 1 124 := ⟨by decide +kernel, rfl⟩
theorem kX6_bright_124 : Dk mtX6_bright 124 (.istore 6) 2 126 := ⟨by decide +kernel, rfl⟩
theorem kX6_bright_126 : Dk mtX6_bright 126 (.iload 6) 2 128 := ⟨by decide +kernel, rfl⟩
theorem kX6_bright_128 : Dk mtX6_bright 128 (.ifCond .eq 7) 3 131 := ⟨by decide +kernel, rfl⟩
theorem kX6_bright_131 : Dk mtX6_bright 131 (.iconst 0) 1 132 := ⟨by decide +kernel, rfl⟩
theorem kX6_bright_132 : Dk mtX6_bright 132 (.goto 5) 3 135 := ⟨by decide +kernel, rfl⟩
theorem kX6_bright_135 : Dk mtX6_bright 135 (.iload 4) 2 137 := ⟨by decide +kernel, rfl⟩
theorem kX6_bright_137 : Dk mtX6_bright 137 (.ireturn) 1 138 := ⟨by decide +kernel, rfl⟩
theorem lmX6_46 : LkM RX6 46 mtX6_of := Or.inl (by decide +kernel)
theorem mkX6_of : MkV mtX6_of 2 := ⟨List.mem_of_getElem? (i := 1197) (by decide +kernel), by decide +kernel, by decide +kernel, by decide +kernel, ⟨by decide +kernel, by decide +kernel, by decide +kernel⟩⟩
set_option maxHeartbeats 4000000 in
set_option maxRecDepth 100000 in
theorem ct_bright {l : Launch} {w : Wd} {sg : Sg} (hWr : Wr w) {mo : Nat} (a q : Int32) (ha : vp_in a 6) (hn : gL (sg (mo + 1)) a 2 = 1 → ¬ gL (sg (mo + 1)) a 3 = 0) : M l mtX6_bright w [vR (some (6, 0, mo)), vI a, vI q] sg (fI (F_bright (sg (mo + 1)) a q) sg) := by
  refine M_of [some (vR (some (6, 0, mo))), some (vI a), some (vI q), none, none, none, none] rfl (Nat.le_of_ble_eq_true rfl) (by decide +kernel) ?_
  intro p_ e_ s_ m_ args_ below_ meth_ c_ hC hO
  refine V_iload_n hC kX6_bright_0 rfl ?_
  refine V_aload_n hC kX6_bright_1 rfl ?_
  refine V_iload_n hC kX6_bright_2 rfl ?_
  refine V_iconst hC (0) kX6_bright_3 (by decide) ?_
  refine V_cV_fI hC (ct_of hWr a 0 ha (vp_lit rfl)) mkX6_of lmX6_46 kX6_bright_4 (Nat.le_of_ble_eq_true rfl) rfl rfl rfl (Nat.le_of_ble_eq_true rfl) ⟨(Nat.le_of_ble_eq_true rfl), (Nat.le_of_ble_eq_true rfl)⟩ ⟨rfl, rfl⟩ ⟨(Nat.le_of_ble_eq_true rfl), (Nat.le_of_ble_eq_true rfl)⟩ ?_
  refine V_isub hC kX6_bright_7 ?_
  refine V_nameI (fun d e_d => ?_)
  refine V_istore_n hC [some _, some _, some _, some _, none, none, none] kX6_bright_8 rfl (Nat.le_of_ble_eq_true rfl) ?_
  refine V_aload_n hC kX6_bright_9 rfl ?_
  refine V_iload_n hC kX6_bright_10 rfl ?_
  refine V_iconst hC (1) kX6_bright_11 (by decide) ?_
  refine V_cV_fI hC (ct_of hWr a 1 ha (vp_lit rfl)) mkX6_of lmX6_46 kX6_bright_12 (Nat.le_of_ble_eq_true rfl) rfl rfl rfl (Nat.le_of_ble_eq_true rfl) ⟨(Nat.le_of_ble_eq_true rfl), (Nat.le_of_ble_eq_true rfl)⟩ ⟨rfl, rfl⟩ ⟨(Nat.le_of_ble_eq_true rfl), (Nat.le_of_ble_eq_true rfl)⟩ ?_
  refine V_bipush hC (100) kX6_bright_15 (by decide) ?_
  refine V_imul hC kX6_bright_17 ?_
  refine V_bipush hC (10) kX6_bright_18 (by decide) ?_
  refine V_join 30 (if d < 0 then -d else d) ?_ (fun j30 => ?_)
  · refine V_iadd hC kX6_bright_30 ?_
    refine V_idiv hC kX6_bright_31 (ne_span d) ?_
    refine V_nameI (fun its e_its => ?_)
    refine V_istore hC [some _, some _, some _, some _, some _, none, none] kX6_bright_32 rfl (Nat.le_of_ble_eq_true rfl) ?_
    refine V_aload_n hC kX6_bright_34 rfl ?_
    refine V_iload_n hC kX6_bright_35 rfl ?_
    refine V_iconst hC (2) kX6_bright_36 (by decide) ?_
    refine V_cV_fI hC (ct_of hWr a 2 ha (vp_lit rfl)) mkX6_of lmX6_46 kX6_bright_37 (Nat.le_of_ble_eq_true rfl) rfl rfl rfl (Nat.le_of_ble_eq_true rfl) ⟨(Nat.le_of_ble_eq_true rfl), (Nat.le_of_ble_eq_true rfl)⟩ ⟨rfl, rfl⟩ ⟨(Nat.le_of_ble_eq_true rfl), (Nat.le_of_ble_eq_true rfl)⟩ ?_
    refine V_iconst hC (1) kX6_bright_40 (by decide) ?_
    refine V_icmp_ne hC 74 kX6_bright_41 (by decide) (fun h41 => ?_) (fun h41 => ?_)
    · refine V_join 91 (b01 (rm (gL (sg (mo + 1)) a 3) 2 = 1)) ?_ (fun j91 => ?_)
      · refine V_nameI (fun odd e_odd => ?_)
        refine V_istore hC [some _, some _, some _, some _, some _, some _, none] kX6_bright_91 rfl (Nat.le_of_ble_eq_true rfl) ?_
        refine V_join 124 (b01 (gL (sg (mo + 1)) a 2 = 2 ∧ (if rm (gL (sg (mo + 1)) a 3) 2 = 1 then d < 0 else 0 < d))) ?_ (fun j124 => ?_)
        · refine V_nameI (fun bh e_bh => ?_)
          refine V_istore hC [some _, some _, some _, some _, some _, some _, some _] kX6_bright_124 rfl (Nat.le_of_ble_eq_true rfl) ?_
          refine V_iload hC kX6_bright_126 rfl ?_
          refine V_if_eq hC 135 kX6_bright_128 (by decide) (fun h128 => ?_) (fun h128 => ?_)
          · refine V_iload hC kX6_bright_135 rfl ?_
            refine V_ireti hC rfl kX6_bright_137 ?_
            refine ⟨cI ?_, by with_reducible rfl⟩
            subst e_its e_d
            unfold F_bright
            first
              | rw [if_pos h41, if_neg h61]
              | rw [if_pos h41, if_pos h61]
              | rw [if_neg h41, if_neg (b0_of e_bh h128)]
              | rw [if_neg h41, if_pos (b1_of e_bh h128)]
          · refine V_iconst hC (0) kX6_bright_131 (by decide) ?_
            refine V_goto hC 137 kX6_bright_132 (by decide) ?_
            refine V_ireti hC rfl kX6_bright_137 ?_
            refine ⟨cI ?_, by with_reducible rfl⟩
            subst e_its e_d
            unfold F_bright
            first
              | rw [if_pos h41, if_neg h61]
              | rw [if_pos h41, if_pos h61]
              | rw [if_neg h41, if_neg (b0_of e_bh h128)]
              | rw [if_neg h41, if_pos (b1_of e_bh h128)]
        · refine V_aload_n hC kX6_bright_93 rfl ?_
          refine V_iload_n hC kX6_bright_94 rfl ?_
          refine V_iconst hC (2) kX6_bright_95 (by decide) ?_
          refine V_cV_fI hC (ct_of hWr a 2 ha (vp_lit rfl)) mkX6_of lmX6_46 kX6_bright_96 (Nat.le_of_ble_eq_true rfl) rfl rfl rfl (Nat.le_of_ble_eq_true rfl) ⟨(Nat.le_of_ble_eq_true rfl), (Nat.le_of_ble_eq_true rfl)⟩ ⟨rfl, rfl⟩ ⟨(Nat.le_of_ble_eq_true rfl), (Nat.le_of_ble_eq_true rfl)⟩ ?_
          refine V_iconst hC (2) kX6_bright_99 (by decide) ?_
          refine V_icmp_ne hC 123 kX6_bright_100 (by decide) (fun h100 => ?_) (fun h100 => ?_)
          · refine V_iconst hC (0) kX6_bright_123 (by decide) ?_
            exact j124 _ ((b01_f (fun q => h100 q.1)).symm)
          · refine V_iload hC kX6_bright_103 rfl ?_
            refine V_if_eq hC 115 kX6_bright_105 (by decide) (fun h105 => ?_) (fun h105 => ?_)
            · refine V_iload_n hC kX6_bright_115 rfl ?_
              refine V_if_le hC 123 kX6_bright_116 (by decide) (fun h116 => ?_) (fun h116 => ?_)
              · refine V_iconst hC (0) kX6_bright_123 (by decide) ?_
                exact j124 _ ((b01_f (fun q => by have q := q.2; rw [if_neg (b0_of e_odd h105)] at q; exact absurd q (Int32.not_lt.mpr h116))).symm)
              · refine V_iconst hC (1) kX6_bright_119 (by decide) ?_
                refine V_goto hC 124 kX6_bright_120 (by decide) ?_
                exact j124 _ ((b01_t ⟨h100, by rw [if_neg (b0_of e_odd h105)]; exact Int32.not_le.mp h116⟩).symm)
            · refine V_iload_n hC kX6_bright_108 rfl ?_
              refine V_if_ge hC 123 kX6_bright_109 (by decide) (fun h109 => ?_) (fun h109 => ?_)
              · refine V_iconst hC (0) kX6_bright_123 (by decide) ?_
                exact j124 _ ((b01_f (fun q => by have q := q.2; rw [if_pos (b1_of e_odd h105)] at q; exact absurd q (Int32.not_lt.mpr h109))).symm)
              · refine V_goto hC 119 kX6_bright_112 (by decide) ?_
                refine V_iconst hC (1) kX6_bright_119 (by decide) ?_
                refine V_goto hC 124 kX6_bright_120 (by decide) ?_
                exact j124 _ ((b01_t ⟨h100, by rw [if_pos (b1_of e_odd h105)]; exact Int32.not_le.mp h109⟩).symm)
      · refine V_aload_n hC kX6_bright_74 rfl ?_
        refine V_iload_n hC kX6_bright_75 rfl ?_
        refine V_iconst hC (3) kX6_bright_76 (by decide) ?_
        refine V_cV_fI hC (ct_of hWr a 3 ha (vp_lit rfl)) mkX6_of lmX6_46 kX6_bright_77 (Nat.le_of_ble_eq_true rfl) rfl rfl rfl (Nat.le_of_ble_eq_true rfl) ⟨(Nat.le_of_ble_eq_true rfl), (Nat.le_of_ble_eq_true rfl)⟩ ⟨rfl, rfl⟩ ⟨(Nat.le_of_ble_eq_true rfl), (Nat.le_of_ble_eq_true rfl)⟩ ?_
        refine V_iconst hC (2) kX6_bright_80 (by decide) ?_
        refine V_irem hC kX6_bright_81 (by decide) ?_
        refine V_iconst hC (1) kX6_bright_82 (by decide) ?_
        refine V_icmp_ne hC 90 kX6_bright_83 (by decide) (fun h83 => ?_) (fun h83 => ?_)
        · refine V_iconst hC (0) kX6_bright_90 (by decide) ?_
          exact j91 _ ((b01_f h83).symm)
        · refine V_iconst hC (1) kX6_bright_86 (by decide) ?_
          refine V_goto hC 91 kX6_bright_87 (by decide) ?_
          exact j91 _ ((b01_t h83).symm)
    · refine V_aload_n hC kX6_bright_44 rfl ?_
      refine V_getR hC hWr 6 1 lfX6_7 kX6_bright_45 (Nat.le_of_ble_eq_true rfl) (Nat.le_of_ble_eq_true rfl) rfl ?_
      refine V_bipush hC (6) kX6_bright_48 (by decide) ?_
      refine V_iald hC 6 rfl kX6_bright_50 (vp_lit rfl) ?_
      refine V_aload_n hC kX6_bright_51 rfl ?_
      refine V_iload_n hC kX6_bright_52 rfl ?_
      refine V_iconst hC (3) kX6_bright_53 (by decide) ?_
      refine V_cV_fI hC (ct_of hWr a 3 ha (vp_lit rfl)) mkX6_of lmX6_46 kX6_bright_54 (Nat.le_of_ble_eq_true rfl) rfl rfl rfl (Nat.le_of_ble_eq_true rfl) ⟨(Nat.le_of_ble_eq_true rfl), (Nat.le_of_ble_eq_true rfl)⟩ ⟨rfl, rfl⟩ ⟨(Nat.le_of_ble_eq_true rfl), (Nat.le_of_ble_eq_true rfl)⟩ ?_
      refine V_idiv hC kX6_bright_57 (hn h41) ?_
      refine V_iconst hC (2) kX6_bright_58 (by decide) ?_
      refine V_irem hC kX6_bright_59 (by decide) ?_
      refine V_iconst hC (1) kX6_bright_60 (by decide) ?_
      refine V_icmp_ne hC 71 kX6_bright_61 (by decide) (fun h61 => ?_) (fun h61 => ?_)
      · refine V_iload hC kX6_bright_71 rfl ?_
        refine V_ireti hC rfl kX6_bright_73 ?_
        refine ⟨cI ?_, by with_reducible rfl⟩
        subst e_its e_d
        unfold F_bright
        first
          | rw [if_pos h41, if_neg h61]
          | rw [if_pos h41, if_pos h61]
          | rw [if_neg h41, if_neg (b0_of e_bh h128)]
          | rw [if_neg h41, if_pos (b1_of e_bh h128)]
      · refine V_iload hC kX6_bright_64 rfl ?_
        refine V_iconst hC (2) kX6_bright_66 (by decide) ?_
        refine V_idiv hC kX6_bright_67 (by decide) ?_
        refine V_goto hC 73 kX6_bright_68 (by decide) ?_
        refine V_ireti hC rfl kX6_bright_73 ?_
        refine ⟨cI ?_, by with_reducible rfl⟩
        subst e_its e_d
        unfold F_bright
        first
          | rw [if_pos h41, if_neg h61]
          | rw [if_pos h41, if_pos h61]
          | rw [if_neg h41, if_neg (b0_of e_bh h128)]
          | rw [if_neg h41, if_pos (b1_of e_bh h128)]
  · refine V_iload_n hC kX6_bright_20 rfl ?_
    refine V_if_ge hC 29 kX6_bright_21 (by decide) (fun h21 => ?_) (fun h21 => ?_)
    · refine V_iload_n hC kX6_bright_29 rfl ?_
      exact j30 _ ((if_neg (Int32.not_lt.mpr h21)).symm)
    · refine V_iload_n hC kX6_bright_24 rfl ?_
      refine V_ineg hC kX6_bright_25 ?_
      refine V_goto hC 30 kX6_bright_26 (by decide) ?_
      exact j30 _ ((if_pos (Int32.not_le.mp h21)).symm)
def mtX6_worth : Mt := (yX6_worth, cX6_worth, 3, (some .int), 2, 48, 0, 0)
theorem kX6_worth_0 : Dk mtX6_worth 0 (.aload_n 0) 1 1 := ⟨by decide +kernel, rfl⟩
theorem kX6_worth_1 : Dk mtX6_worth 1 (.iload_n 1) 1 2 := ⟨by decide +kernel, rfl⟩
theorem kX6_worth_2 : Dk mtX6_worth 2 (.iload_n 2) 1 3 := ⟨by decide +kernel, rfl⟩
theorem kX6_worth_3 : Dk mtX6_worth 3 (.invokevirtual 50) 3 6 := ⟨by decide +kernel, rfl⟩
theorem kX6_worth_6 : Dk mtX6_worth 6 (.aload_n 0) 1 7 := ⟨by decide +kernel, rfl⟩
theorem kX6_worth_7 : Dk mtX6_worth 7 (.iload_n 1) 1 8 := ⟨by decide +kernel, rfl⟩
theorem kX6_worth_8 : Dk mtX6_worth 8 (.bipush 6) 2 10 := ⟨by decide +kernel, rfl⟩
theorem kX6_worth_10 : Dk mtX6_worth 10 (.invokevirtual 46) 3 13 := ⟨by decide +kernel, rfl⟩
theorem kX6_worth_13 : Dk mtX6_worth 13 (.iadd) 1 14 := ⟨by decide +kernel, rfl⟩
theorem kX6_worth_14 : Dk mtX6_worth 14 (.ireturn) 1 15 := ⟨by decide +kernel, rfl⟩
theorem lmX6_50 : LkM RX6 50 mtX6_bright := Or.inl (by decide +kernel)
theorem mkX6_bright : MkV mtX6_bright 2 := ⟨List.mem_of_getElem? (i := 1193) (by decide +kernel), by decide +kernel, by decide +kernel, by decide +kernel, ⟨by decide +kernel, by decide +kernel, by decide +kernel⟩⟩
set_option maxHeartbeats 4000000 in
set_option maxRecDepth 100000 in
theorem ct_worth {l : Launch} {w : Wd} {sg : Sg} (hWr : Wr w) {mo : Nat} (a q : Int32) (ha : vp_in a 6) (hn : gL (sg (mo + 1)) a 2 = 1 → ¬ gL (sg (mo + 1)) a 3 = 0) : M l mtX6_worth w [vR (some (6, 0, mo)), vI a, vI q] sg (fI (F_worth (sg (mo + 1)) a q) sg) := by
  refine M_of [some (vR (some (6, 0, mo))), some (vI a), some (vI q)] rfl (Nat.le_of_ble_eq_true rfl) (by decide +kernel) ?_
  intro p_ e_ s_ m_ args_ below_ meth_ c_ hC hO
  refine V_aload_n hC kX6_worth_0 rfl ?_
  refine V_iload_n hC kX6_worth_1 rfl ?_
  refine V_iload_n hC kX6_worth_2 rfl ?_
  refine V_cV_fI hC (ct_bright hWr _ _ ha hn) mkX6_bright lmX6_50 kX6_worth_3 (Nat.le_of_ble_eq_true rfl) rfl rfl rfl (Nat.le_of_ble_eq_true rfl) ⟨(Nat.le_of_ble_eq_true rfl), (Nat.le_of_ble_eq_true rfl)⟩ ⟨rfl, rfl⟩ ⟨(Nat.le_of_ble_eq_true rfl), (Nat.le_of_ble_eq_true rfl)⟩ ?_
  refine V_aload_n hC kX6_worth_6 rfl ?_
  refine V_iload_n hC kX6_worth_7 rfl ?_
  refine V_bipush hC (6) kX6_worth_8 (by decide) ?_
  refine V_cV_fI hC (ct_of hWr a 6 ha (vp_lit rfl)) mkX6_of lmX6_46 kX6_worth_10 (Nat.le_of_ble_eq_true rfl) rfl rfl rfl (Nat.le_of_ble_eq_true rfl) ⟨(Nat.le_of_ble_eq_true rfl), (Nat.le_of_ble_eq_true rfl)⟩ ⟨rfl, rfl⟩ ⟨(Nat.le_of_ble_eq_true rfl), (Nat.le_of_ble_eq_true rfl)⟩ ?_
  refine V_iadd hC kX6_worth_13 ?_
  refine V_ireti hC rfl kX6_worth_14 ?_
  refine ⟨cI ?_, by with_reducible rfl⟩
  unfold F_worth
  with_reducible rfl
def mtX6_serves : Mt := (yX6_serves, cX6_serves, 4, (some .int), 1, 22, 0, 0)
theorem kX6_serves_0 : Dk mtX6_serves 0 (.iconst 0) 1 1 := ⟨by decide +kernel, rfl⟩
theorem kX6_serves_1 : Dk mtX6_serves 1 (.istore_n 2) 1 2 := ⟨by decide +kernel, rfl⟩
theorem kX6_serves_2 : Dk mtX6_serves 2 (.iconst 0) 1 3 := ⟨by decide +kernel, rfl⟩
theorem kX6_serves_3 : Dk mtX6_serves 3 (.istore_n 3) 1 4 := ⟨by decide +kernel, rfl⟩
theorem kX6_serves_4 : Dk mtX6_serves 4 (.iload_n 3) 1 5 := ⟨by decide +kernel, rfl⟩
theorem kX6_serves_5 : Dk mtX6_serves 5 (.aload_n 0) 1 6 := ⟨by decide +kernel, rfl⟩
theorem kX6_serves_6 : Dk mtX6_serves 6 (.getfield 7) 3 9 := ⟨by decide +kernel, rfl⟩
theorem kX6_serves_9 : Dk mtX6_serves 9 (.iconst 5) 1 10 := ⟨by decide +kernel, rfl⟩
theorem kX6_serves_10 : Dk mtX6_serves 10 (.iaload) 1 11 := ⟨by decide +kernel, rfl⟩
theorem kX6_serves_11 : Dk mtX6_serves 11 (.if_icmp .ge 29) 3 14 := ⟨by decide +kernel, rfl⟩
theorem kX6_serves_14 : Dk mtX6_serves 14 (.iload_n 2) 1 15 := ⟨by decide +kernel, rfl⟩
theorem kX6_serves_15 : Dk mtX6_serves 15 (.aload_n 0) 1 16 := ⟨by decide +kernel, rfl⟩
theorem kX6_serves_16 : Dk mtX6_serves 16 (.iload_n 3) 1 17 := ⟨by decide +kernel, rfl⟩
theorem kX6_serves_17 : Dk mtX6_serves 17 (.iconst 2) 1 18 := ⟨by decide +kernel, rfl⟩
theorem kX6_serves_18 : Dk mtX6_serves 18 (.invokevirtual 53) 3 21 := ⟨by decide +kernel, rfl⟩
theorem kX6_serves_21 : Dk mtX6_serves 21 (.iload_n 1) 1 22 := ⟨by decide +kernel, rfl⟩
theorem kX6_serves_22 : Dk mtX6_serves 22 (.iconst 1) 1 23 := ⟨by decide +kernel, rfl⟩
theorem kX6_serves_23 : Dk mtX6_serves 23 (.iadd) 1 24 := ⟨by decide +kernel, rfl⟩
theorem kX6_serves_24 : Dk mtX6_serves 24 (.if_icmp .ne 7) 3 27 := ⟨by decide +kernel, rfl⟩
theorem kX6_serves_27 : Dk mtX6_serves 27 (.iconst 1) 1 28 := ⟨by decide +kernel, rfl⟩
theorem kX6_serves_28 : Dk mtX6_serves 28 (.goto 4) 3 31 := ⟨by decide +kernel, rfl⟩
theorem kX6_serves_31 : Dk mtX6_serves 31 (.iconst 0) 1 32 := ⟨by decide +kernel, rfl⟩
theorem kX6_serves_32 : Dk mtX6_serves 32 (.iadd) 1 33 := ⟨by decide +kernel, rfl⟩
theorem kX6_serves_33 : Dk mtX6_serves 33 (.istore_n 2) 1 34 := ⟨by decide +kernel, rfl⟩
theorem kX6_serves_34 : Dk mtX6_serves 34 (.iinc 3 1) 3 37 := ⟨by decide +kernel, rfl⟩
theorem kX6_serves_37 : Dk mtX6_serves 37 (.goto (-33)) 3 40 := ⟨by decide +kernel, rfl⟩
theorem kX6_serves_40 : Dk mtX6_serves 40 (.iload_n 2) 1 41 := ⟨by decide +kernel, rfl⟩
theorem kX6_serves_41 : Dk mtX6_serves 41 (.ireturn) 1 42 := ⟨by decide +kernel, rfl⟩
theorem lmX6_53 : LkM RX6 53 mtX6_ofBoat := Or.inl (by decide +kernel)
theorem mkX6_ofBoat : MkV mtX6_ofBoat 2 := ⟨List.mem_of_getElem? (i := 1159) (by decide +kernel), by decide +kernel, by decide +kernel, by decide +kernel, ⟨by decide +kernel, by decide +kernel, by decide +kernel⟩⟩
set_option maxHeartbeats 4000000 in
set_option maxRecDepth 100000 in
theorem ct_serves {l : Launch} {w : Wd} {sg : Sg} (hWr : Wr w) {mo : Nat} (a : Int32) (hc : 0 ≤ (sg (mo + 1) 5).toInt ∧ (sg (mo + 1) 5).toInt ≤ 8) : M l mtX6_serves w [vR (some (6, 0, mo)), vI a] sg (fI (F_serves (sg (mo + 1)) a) sg) := by
  refine M_of [some (vR (some (6, 0, mo))), some (vI a), none, none] rfl (Nat.le_of_ble_eq_true rfl) (by decide +kernel) ?_
  intro p_ e_ s_ m_ args_ below_ meth_ c_ hC hO
  refine V_iconst hC (0) kX6_serves_0 (by decide) ?_
  refine V_istore_n hC [some _, some _, some _, none] kX6_serves_1 rfl (Nat.le_of_ble_eq_true rfl) ?_
  refine V_iconst hC (0) kX6_serves_2 (by decide) ?_
  refine V_istore_n hC [some _, some _, some _, some _] kX6_serves_3 rfl (Nat.le_of_ble_eq_true rfl) ?_
  refine V_loop (tn ((sg (mo + 1)) 5)) (fun i => [some (vR (some (6, 0, mo))), some (vI a), some (vI (F_servesN (sg (mo + 1)) a i)), some (vI (nI i))]) (fun i => sg) rfl rfl ?_ (fun i hi ihi => ?_)
  · refine V_iload_n hC kX6_serves_4 rfl ?_
    refine V_aload_n hC kX6_serves_5 rfl ?_
    refine V_getR hC hWr 6 1 lfX6_7 kX6_serves_6 (Nat.le_of_ble_eq_true rfl) (Nat.le_of_ble_eq_true rfl) rfl ?_
    refine V_iconst hC (5) kX6_serves_9 (by decide) ?_
    refine V_iald hC 5 rfl kX6_serves_10 (vp_lit rfl) ?_
    refine V_icmp_ge hC 40 kX6_serves_11 (by decide) (fun h11 => ?_) (fun h11 => absurd h11 (not_not_intro (cnt_le hc.1)))
    refine V_iload_n hC kX6_serves_40 rfl ?_
    refine V_ireti hC rfl kX6_serves_41 ?_
    refine ⟨cI ?_, by with_reducible rfl⟩
    unfold F_serves
    with_reducible rfl
  · have hi8 : i < 8 := by have := (cnt_in (n := 8) hc.1 hc.2).1; omega
    refine V_iload_n hC kX6_serves_4 rfl ?_
    refine V_aload_n hC kX6_serves_5 rfl ?_
    refine V_getR hC hWr 6 1 lfX6_7 kX6_serves_6 (Nat.le_of_ble_eq_true rfl) (Nat.le_of_ble_eq_true rfl) rfl ?_
    refine V_iconst hC (5) kX6_serves_9 (by decide) ?_
    refine V_iald hC 5 rfl kX6_serves_10 (vp_lit rfl) ?_
    refine V_icmp_ge hC 40 kX6_serves_11 (by decide) (fun h11 => absurd h11 (cnt_lt hc.1 hi)) (fun h11 => ?_)
    refine V_iload_n hC kX6_serves_14 rfl ?_
    refine V_join 32 (b01 (gB (sg (mo + 1)) (nI i) 2 = a + 1)) ?_ (fun j32 => ?_)
    · refine V_iadd hC kX6_serves_32 ?_
      refine V_istore_n hC [some _, some _, some _, some _] kX6_serves_33 rfl (Nat.le_of_ble_eq_true rfl) ?_
      refine V_iinc hC (_ + 1) [some _, some _, some _, some _] kX6_serves_34 rfl rfl rfl (Nat.le_of_ble_eq_true rfl) ?_
      refine V_goto hC 4 kX6_serves_37 (by decide) ?_
      refine V_eq ?_ rfl ihi
      simp only [F_servesN, nI_succ]
    · refine V_aload_n hC kX6_serves_15 rfl ?_
      refine V_iload_n hC kX6_serves_16 rfl ?_
      refine V_iconst hC (2) kX6_serves_17 (by decide) ?_
      refine V_cV_fI hC (ct_ofBoat hWr (nI i) 2 (vp_in_nI hi8 (by decide)) (vp_lit rfl)) mkX6_ofBoat lmX6_53 kX6_serves_18 (Nat.le_of_ble_eq_true rfl) rfl rfl rfl (Nat.le_of_ble_eq_true rfl) ⟨(Nat.le_of_ble_eq_true rfl), (Nat.le_of_ble_eq_true rfl)⟩ ⟨rfl, rfl⟩ ⟨(Nat.le_of_ble_eq_true rfl), (Nat.le_of_ble_eq_true rfl)⟩ ?_
      refine V_iload_n hC kX6_serves_21 rfl ?_
      refine V_iconst hC (1) kX6_serves_22 (by decide) ?_
      refine V_iadd hC kX6_serves_23 ?_
      refine V_icmp_ne hC 31 kX6_serves_24 (by decide) (fun h24 => ?_) (fun h24 => ?_)
      · refine V_iconst hC (0) kX6_serves_31 (by decide) ?_
        exact j32 _ ((b01_f h24).symm)
      · refine V_iconst hC (1) kX6_serves_27 (by decide) ?_
        refine V_goto hC 32 kX6_serves_28 (by decide) ?_
        exact j32 _ ((b01_t h24).symm)
def mtX6_best : Mt := (yX6_best, cX6_best, 4, (some .int), 3, 70, 0, 0)
theorem kX6_best_0 : Dk mtX6_best 0 (.iconst (-1)) 1 1 := ⟨by decide +kernel, rfl⟩
theorem kX6_best_1 : Dk mtX6_best 1 (.istore_n 2) 1 2 := ⟨by decide +kernel, rfl⟩
theorem kX6_best_2 : Dk mtX6_best 2 (.iconst 0) 1 3 := ⟨by decide +kernel, rfl⟩
theorem kX6_best_3 : Dk mtX6_best 3 (.istore_n 3) 1 4 := ⟨by decide +kernel, rfl⟩
theorem kX6_best_4 : Dk mtX6_best 4 (.iload_n 3) 1 5 := ⟨by decide +kernel, rfl⟩
theorem kX6_best_5 : Dk mtX6_best 5 (.aload_n 0) 1 6 := ⟨by decide +kernel, rfl⟩
theorem kX6_best_6 : Dk mtX6_best 6 (.getfield 7) 3 9 := ⟨by decide +kernel, rfl⟩
theorem kX6_best_9 : Dk mtX6_best 9 (.iconst 4) 1 10 := ⟨by decide +kernel, rfl⟩
theorem kX6_best_10 : Dk mtX6_best 10 (.iaload) 1 11 := ⟨by decide +kernel, rfl⟩
theorem kX6_best_11 : Dk mtX6_best 11 (.if_icmp .ge 35) 3 14 := ⟨by decide +kernel, rfl⟩
theorem kX6_best_14 : Dk mtX6_best 14 (.iload_n 2) 1 15 := ⟨by decide +kernel, rfl⟩
theorem kX6_best_15 : Dk mtX6_best 15 (.iconst (-1)) 1 16 := ⟨by decide +kernel, rfl⟩
theorem kX6_best_16 : Dk mtX6_best 16 (.if_icmp .eq 18) 3 19 := ⟨by decide +kernel, rfl⟩
theorem kX6_best_19 : Dk mtX6_best 19 (.aload_n 0) 1 20 := ⟨by decide +kernel, rfl⟩
theorem kX6_best_20 : Dk mtX6_best 20 (.iload_n 3) 1 21 := ⟨by decide +kernel, rfl⟩
theorem kX6_best_21 : Dk mtX6_best 21 (.iload_n 1) 1 22 := ⟨by decide +kernel, rfl⟩
theorem kX6_best_22 : Dk mtX6_best 22 (.invokevirtual 56) 3 25 := ⟨by decide +kernel, rfl⟩
theorem kX6_best_25 : Dk mtX6_best 25 (.aload_n 0) 1 26 := ⟨by decide +kernel, rfl⟩
theorem kX6_best_26 : Dk mtX6_best 26 (.iload_n 2) 1 27 := ⟨by decide +kernel, rfl⟩
theorem kX6_best_27 : Dk mtX6_best 27 (.iload_n 1) 1 28 := ⟨by decide +kernel, rfl⟩
theorem kX6_best_28 : Dk mtX6_best 28 (.invokevirtual 56) 3 31 := ⟨by decide +kernel, rfl⟩
theorem kX6_best_31 : Dk mtX6_best 31 (.if_icmp .le 7) 3 34 := ⟨by decide +kernel, rfl⟩
theorem kX6_best_34 : Dk mtX6_best 34 (.iload_n 3) 1 35 := ⟨by decide +kernel, rfl⟩
theorem kX6_best_35 : Dk mtX6_best 35 (.goto 4) 3 38 := ⟨by decide +kernel, rfl⟩
theorem kX6_best_38 : Dk mtX6_best 38 (.iload_n 2) 1 39 := ⟨by decide +kernel, rfl⟩
theorem kX6_best_39 : Dk mtX6_best 39 (.istore_n 2) 1 40 := ⟨by decide +kernel, rfl⟩
theorem kX6_best_40 : Dk mtX6_best 40 (.iinc 3 1) 3 43 := ⟨by decide +kernel, rfl⟩
theorem kX6_best_43 : Dk mtX6_best 43 (.goto (-39)) 3 46 := ⟨by decide +kernel, rfl⟩
theorem kX6_best_46 : Dk mtX6_best 46 (.iload_n 2) 1 47 := ⟨by decide +kernel, rfl⟩
theorem kX6_best_47 : Dk mtX6_best 47 (.ireturn) 1 48 := ⟨by decide +kernel, rfl⟩
theorem lmX6_56 : LkM RX6 56 mtX6_worth := Or.inl (by decide +kernel)
theorem mkX6_worth : MkV mtX6_worth 2 := ⟨List.mem_of_getElem? (i := 1213) (by decide +kernel), by decide +kernel, by decide +kernel, by decide +kernel, ⟨by decide +kernel, by decide +kernel, by decide +kernel⟩⟩
set_option maxHeartbeats 4000000 in
set_option maxRecDepth 100000 in
theorem ct_best {l : Launch} {w : Wd} {sg : Sg} (hWr : Wr w) {mo : Nat} (q : Int32) (hc : 0 ≤ (sg (mo + 1) 4).toInt ∧ (sg (mo + 1) 4).toInt ≤ 6) (hl : ∀ n, n < tn (sg (mo + 1) 4) → ¬ gL (sg (mo + 1)) (nI n) 3 = 0) : M l mtX6_best w [vR (some (6, 0, mo)), vI q] sg (fI (F_best (sg (mo + 1)) q) sg) := by
  refine M_of [some (vR (some (6, 0, mo))), some (vI q), none, none] rfl (Nat.le_of_ble_eq_true rfl) (by decide +kernel) ?_
  intro p_ e_ s_ m_ args_ below_ meth_ c_ hC hO
  refine V_iconst hC (-1) kX6_best_0 (by decide) ?_
  refine V_istore_n hC [some _, some _, some _, none] kX6_best_1 rfl (Nat.le_of_ble_eq_true rfl) ?_
  refine V_iconst hC (0) kX6_best_2 (by decide) ?_
  refine V_istore_n hC [some _, some _, some _, some _] kX6_best_3 rfl (Nat.le_of_ble_eq_true rfl) ?_
  refine V_loop (tn ((sg (mo + 1)) 4)) (fun i => [some (vR (some (6, 0, mo))), some (vI q), some (vI (F_bestN (sg (mo + 1)) q i)), some (vI (nI i))]) (fun i => sg) rfl rfl ?_ (fun i hi ihi => ?_)
  · refine V_iload_n hC kX6_best_4 rfl ?_
    refine V_aload_n hC kX6_best_5 rfl ?_
    refine V_getR hC hWr 6 1 lfX6_7 kX6_best_6 (Nat.le_of_ble_eq_true rfl) (Nat.le_of_ble_eq_true rfl) rfl ?_
    refine V_iconst hC (4) kX6_best_9 (by decide) ?_
    refine V_iald hC 4 rfl kX6_best_10 (vp_lit rfl) ?_
    refine V_icmp_ge hC 46 kX6_best_11 (by decide) (fun h11 => ?_) (fun h11 => absurd h11 (not_not_intro (cnt_le hc.1)))
    refine V_iload_n hC kX6_best_46 rfl ?_
    refine V_ireti hC rfl kX6_best_47 ?_
    refine ⟨cI ?_, by with_reducible rfl⟩
    unfold F_best
    with_reducible rfl
  · have hi6 := (cnt_in (n := 6) hc.1 hc.2).1
    have hbi : ¬ F_bestN (sg (mo + 1)) q i = -1 → ∃ j, j < tn (sg (mo + 1) 4) ∧ F_bestN (sg (mo + 1)) q i = nI j := fun z => by
      rcases F_bestN_in (sg (mo + 1)) q i with h | ⟨j, h1, h2⟩
      · exact absurd h z
      · exact ⟨j, by omega, h2⟩
    refine V_iload_n hC kX6_best_4 rfl ?_
    refine V_aload_n hC kX6_best_5 rfl ?_
    refine V_getR hC hWr 6 1 lfX6_7 kX6_best_6 (Nat.le_of_ble_eq_true rfl) (Nat.le_of_ble_eq_true rfl) rfl ?_
    refine V_iconst hC (4) kX6_best_9 (by decide) ?_
    refine V_iald hC 4 rfl kX6_best_10 (vp_lit rfl) ?_
    refine V_icmp_ge hC 46 kX6_best_11 (by decide) (fun h11 => absurd h11 (cnt_lt hc.1 hi)) (fun h11 => ?_)
    refine V_join 39 (F_bestN (sg (mo + 1)) q (i + 1)) ?_ (fun j39 => ?_)
    · refine V_istore_n hC [some _, some _, some _, some _] kX6_best_39 rfl (Nat.le_of_ble_eq_true rfl) ?_
      refine V_iinc hC (_ + 1) [some _, some _, some _, some _] kX6_best_40 rfl rfl rfl (Nat.le_of_ble_eq_true rfl) ?_
      refine V_goto hC 4 kX6_best_43 (by decide) ?_
      refine V_eq ?_ rfl ihi
      simp only [nI_succ]
    · refine V_iload_n hC kX6_best_14 rfl ?_
      refine V_iconst hC (-1) kX6_best_15 (by decide) ?_
      refine V_icmp_eq hC 34 kX6_best_16 (by decide) (fun h16 => ?_) (fun h16 => ?_)
      · refine V_iload_n hC kX6_best_34 rfl ?_
        refine V_goto hC 39 kX6_best_35 (by decide) ?_
        exact j39 _ ((by rw [F_bestN, if_pos (Or.inl h16)]))
      · obtain ⟨jb, hjb, ejb⟩ := hbi h16
        refine V_aload_n hC kX6_best_19 rfl ?_
        refine V_iload_n hC kX6_best_20 rfl ?_
        refine V_iload_n hC kX6_best_21 rfl ?_
        refine V_cV_fI hC (ct_worth hWr (nI i) q (vp_in_nI (by omega) (by decide)) (fun _ => hl i hi)) mkX6_worth lmX6_56 kX6_best_22 (Nat.le_of_ble_eq_true rfl) rfl rfl rfl (Nat.le_of_ble_eq_true rfl) ⟨(Nat.le_of_ble_eq_true rfl), (Nat.le_of_ble_eq_true rfl)⟩ ⟨rfl, rfl⟩ ⟨(Nat.le_of_ble_eq_true rfl), (Nat.le_of_ble_eq_true rfl)⟩ ?_
        refine V_aload_n hC kX6_best_25 rfl ?_
        refine V_iload_n hC kX6_best_26 rfl ?_
        refine V_iload_n hC kX6_best_27 rfl ?_
        refine V_cV_fI hC (ct_worth hWr _ q (by rw [ejb]; exact vp_in_nI (by omega) (by decide)) (fun _ => by rw [ejb]; exact hl jb hjb)) mkX6_worth lmX6_56 kX6_best_28 (Nat.le_of_ble_eq_true rfl) rfl rfl rfl (Nat.le_of_ble_eq_true rfl) ⟨(Nat.le_of_ble_eq_true rfl), (Nat.le_of_ble_eq_true rfl)⟩ ⟨rfl, rfl⟩ ⟨(Nat.le_of_ble_eq_true rfl), (Nat.le_of_ble_eq_true rfl)⟩ ?_
        refine V_icmp_le hC 38 kX6_best_31 (by decide) (fun h31 => ?_) (fun h31 => ?_)
        · refine V_iload_n hC kX6_best_38 rfl ?_
          exact j39 _ ((by rw [F_bestN, if_neg (fun z => z.elim h16 (fun z => absurd z (Int32.not_lt.mpr h31)))]))
        · refine V_iload_n hC kX6_best_34 rfl ?_
          refine V_goto hC 39 kX6_best_35 (by decide) ?_
          exact j39 _ ((by rw [F_bestN, if_pos (Or.inr (Int32.not_le.mp h31))]))
def mtX6_sails : Mt := (yX6_sails, cX6_sails, 3, none, 2, 42, 0, 0)
theorem kX6_sails_0 : Dk mtX6_sails 0 (.aload_n 0) 1 1 := ⟨by decide +kernel, rfl⟩
theorem kX6_sails_1 : Dk mtX6_sails 1 (.iload_n 1) 1 2 := ⟨by decide +kernel, rfl⟩
theorem kX6_sails_2 : Dk mtX6_sails 2 (.iconst 0) 1 3 := ⟨by decide +kernel, rfl⟩
theorem kX6_sails_3 : Dk mtX6_sails 3 (.invokevirtual 53) 3 6 := ⟨by decide +kernel, rfl⟩
theorem kX6_sails_6 : Dk mtX6_sails 6 (.aload_n 0) 1 7 := ⟨by decide +kernel, rfl⟩
theorem kX6_sails_7 : Dk mtX6_sails 7 (.iload_n 1) 1 8 := ⟨by decide +kernel, rfl⟩
theorem kX6_sails_8 : Dk mtX6_sails 8 (.iconst 1) 1 9 := ⟨by decide +kernel, rfl⟩
theorem kX6_sails_9 : Dk mtX6_sails 9 (.invokevirtual 53) 3 12 := ⟨by decide +kernel, rfl⟩
theorem kX6_sails_12 : Dk mtX6_sails 12 (.iadd) 1 13 := ⟨by decide +kernel, rfl⟩
theorem kX6_sails_13 : Dk mtX6_sails 13 (.istore_n 2) 1 14 := ⟨by decide +kernel, rfl⟩
theorem kX6_sails_14 : Dk mtX6_sails 14 (.iload_n 2) 1 15 := ⟨by decide +kernel, rfl⟩
theorem kX6_sails_15 : Dk mtX6_sails 15 (.invokestatic 59) 3 18 := ⟨by decide +kernel, rfl⟩
theorem kX6_sails_18 : Dk mtX6_sails 18 (.ifCond .eq 13) 3 21 := ⟨by decide +kernel, rfl⟩
theorem kX6_sails_21 : Dk mtX6_sails 21 (.aload_n 0) 1 22 := ⟨by decide +kernel, rfl⟩
theorem kX6_sails_22 : Dk mtX6_sails 22 (.iload_n 1) 1 23 := ⟨by decide +kernel, rfl⟩
theorem kX6_sails_23 : Dk mtX6_sails 23 (.iconst 0) 1 24 := ⟨by decide +kernel, rfl⟩
theorem kX6_sails_24 : Dk mtX6_sails 24 (.iload_n 2) 1 25 := ⟨by decide +kernel, rfl⟩
theorem kX6_sails_25 : Dk mtX6_sails 25 (.invokevirtual 63) 3 28 := ⟨by decide +kernel, rfl⟩
theorem kX6_sails_28 : Dk mtX6_sails 28 (.goto 16) 3 31 := ⟨by decide +kernel, rfl⟩
theorem kX6_sails_31 : Dk mtX6_sails 31 (.aload_n 0) 1 32 := ⟨by decide +kernel, rfl⟩
theorem kX6_sails_32 : Dk mtX6_sails 32 (.iload_n 1) 1 33 := ⟨by decide +kernel, rfl⟩
theorem kX6_sails_33 : Dk mtX6_sails 33 (.iconst 1) 1 34 := ⟨by decide +kernel, rfl⟩
theorem kX6_sails_34 : Dk mtX6_sails 34 (.aload_n 0) 1 35 := ⟨by decide +kernel, rfl⟩
theorem kX6_sails_35 : Dk mtX6_sails 35 (.iload_n 1) 1 36 := ⟨by decide +kernel, rfl⟩
theorem kX6_sails_36 : Dk mtX6_sails 36 (.iconst 1) 1 37 := ⟨by decide +kernel, rfl⟩
theorem kX6_sails_37 : Dk mtX6_sails 37 (.invokevirtual 53) 3 40 := ⟨by decide +kernel, rfl⟩
theorem kX6_sails_40 : Dk mtX6_sails 40 (.ineg) 1 41 := ⟨by decide +kernel, rfl⟩
theorem kX6_sails_41 : Dk mtX6_sails 41 (.invokevirtual 63) 3 44 := ⟨by decide +kernel, rfl⟩
theorem kX6_sails_44 : Dk mtX6_sails 44 (.return_) 1 45 := ⟨by decide +kernel, rfl⟩
theorem lmX6_59 : LkM RX6 59 mtX6_isPlace := Or.inl (by decide +kernel)
theorem mkX6_isPlace : MkS mtX6_isPlace 1 := ⟨List.mem_of_getElem? (i := 1116) (by decide +kernel), by decide +kernel, by decide +kernel, ⟨by decide +kernel, by decide +kernel, by decide +kernel⟩⟩
theorem lmX6_63 : LkM RX6 63 mtX6_layBoat := Or.inl (by decide +kernel)
theorem mkX6_layBoat : MkV mtX6_layBoat 3 := ⟨List.mem_of_getElem? (i := 1139) (by decide +kernel), by decide +kernel, by decide +kernel, by decide +kernel, ⟨by decide +kernel, by decide +kernel, by decide +kernel⟩⟩
set_option maxHeartbeats 4000000 in
set_option maxRecDepth 100000 in
theorem ct_sails {l : Launch} {w : Wd} {sg : Sg} (hWr : Wr w) {mo : Nat} (a : Int32) (ha : vp_in a 8) : M l mtX6_sails w [vR (some (6, 0, mo)), vI a] sg (fV0 (upr sg (mo + 1) (F_sails (sg (mo + 1)) a))) := by
  refine M_of [some (vR (some (6, 0, mo))), some (vI a), none] rfl (Nat.le_of_ble_eq_true rfl) (by decide +kernel) ?_
  intro p_ e_ s_ m_ args_ below_ meth_ c_ hC hO
  refine V_aload_n hC kX6_sails_0 rfl ?_
  refine V_iload_n hC kX6_sails_1 rfl ?_
  refine V_iconst hC (0) kX6_sails_2 (by decide) ?_
  refine V_cV_fI hC (ct_ofBoat hWr a 0 ha (vp_lit rfl)) mkX6_ofBoat lmX6_53 kX6_sails_3 (Nat.le_of_ble_eq_true rfl) rfl rfl rfl (Nat.le_of_ble_eq_true rfl) ⟨(Nat.le_of_ble_eq_true rfl), (Nat.le_of_ble_eq_true rfl)⟩ ⟨rfl, rfl⟩ ⟨(Nat.le_of_ble_eq_true rfl), (Nat.le_of_ble_eq_true rfl)⟩ ?_
  refine V_aload_n hC kX6_sails_6 rfl ?_
  refine V_iload_n hC kX6_sails_7 rfl ?_
  refine V_iconst hC (1) kX6_sails_8 (by decide) ?_
  refine V_cV_fI hC (ct_ofBoat hWr a 1 ha (vp_lit rfl)) mkX6_ofBoat lmX6_53 kX6_sails_9 (Nat.le_of_ble_eq_true rfl) rfl rfl rfl (Nat.le_of_ble_eq_true rfl) ⟨(Nat.le_of_ble_eq_true rfl), (Nat.le_of_ble_eq_true rfl)⟩ ⟨rfl, rfl⟩ ⟨(Nat.le_of_ble_eq_true rfl), (Nat.le_of_ble_eq_true rfl)⟩ ?_
  refine V_iadd hC kX6_sails_12 ?_
  refine V_nameI (fun to e_to => ?_)
  refine V_istore_n hC [some _, some _, some _] kX6_sails_13 rfl (Nat.le_of_ble_eq_true rfl) ?_
  refine V_iload_n hC kX6_sails_14 rfl ?_
  refine V_cS_fI hC (ct_isPlace hWr _) mkX6_isPlace lmX6_59 kX6_sails_15 rfl rfl (Nat.le_of_ble_eq_true rfl) ⟨(Nat.le_of_ble_eq_true rfl), (Nat.le_of_ble_eq_true rfl)⟩ ⟨rfl, rfl⟩ ⟨(Nat.le_of_ble_eq_true rfl), (Nat.le_of_ble_eq_true rfl)⟩ ?_
  refine V_if_eq hC 31 kX6_sails_18 (by decide) (fun h18 => ?_) (fun h18 => ?_)
  · refine V_aload_n hC kX6_sails_31 rfl ?_
    refine V_iload_n hC kX6_sails_32 rfl ?_
    refine V_iconst hC (1) kX6_sails_33 (by decide) ?_
    refine V_aload_n hC kX6_sails_34 rfl ?_
    refine V_iload_n hC kX6_sails_35 rfl ?_
    refine V_iconst hC (1) kX6_sails_36 (by decide) ?_
    refine V_cV_fI hC (ct_ofBoat hWr a 1 ha (vp_lit rfl)) mkX6_ofBoat lmX6_53 kX6_sails_37 (Nat.le_of_ble_eq_true rfl) rfl rfl rfl (Nat.le_of_ble_eq_true rfl) ⟨(Nat.le_of_ble_eq_true rfl), (Nat.le_of_ble_eq_true rfl)⟩ ⟨rfl, rfl⟩ ⟨(Nat.le_of_ble_eq_true rfl), (Nat.le_of_ble_eq_true rfl)⟩ ?_
    refine V_ineg hC kX6_sails_40 ?_
    refine V_cV_fV hC (ct_layBoat hWr a 1 _ ha (vp_lit rfl)) mkX6_layBoat lmX6_63 kX6_sails_41 (Nat.le_of_ble_eq_true rfl) rfl rfl rfl (Nat.le_of_ble_eq_true rfl) ⟨(Nat.le_of_ble_eq_true rfl), (Nat.le_of_ble_eq_true rfl)⟩ ⟨rfl, rfl⟩ ⟨(Nat.le_of_ble_eq_true rfl), (Nat.le_of_ble_eq_true rfl)⟩ ?_
    refine V_vret hC rfl kX6_sails_44 ?_
    refine ⟨by with_reducible rfl, ?_⟩
    subst e_to
    unfold F_sails
    first | rw [if_neg (b01e.mp h18)] | rw [if_pos (b01n.mp h18)]
  · refine V_aload_n hC kX6_sails_21 rfl ?_
    refine V_iload_n hC kX6_sails_22 rfl ?_
    refine V_iconst hC (0) kX6_sails_23 (by decide) ?_
    refine V_iload_n hC kX6_sails_24 rfl ?_
    refine V_cV_fV hC (ct_layBoat hWr a 0 _ ha (vp_lit rfl)) mkX6_layBoat lmX6_63 kX6_sails_25 (Nat.le_of_ble_eq_true rfl) rfl rfl rfl (Nat.le_of_ble_eq_true rfl) ⟨(Nat.le_of_ble_eq_true rfl), (Nat.le_of_ble_eq_true rfl)⟩ ⟨rfl, rfl⟩ ⟨(Nat.le_of_ble_eq_true rfl), (Nat.le_of_ble_eq_true rfl)⟩ ?_
    refine V_goto hC 44 kX6_sails_28 (by decide) ?_
    refine V_vret hC rfl kX6_sails_44 ?_
    refine ⟨by with_reducible rfl, ?_⟩
    subst e_to
    unfold F_sails
    first | rw [if_neg (b01e.mp h18)] | rw [if_pos (b01n.mp h18)]
def mtX6_drops : Mt := (yX6_drops, cX6_drops, 2, none, 1, 23, 0, 0)
theorem kX6_drops_0 : Dk mtX6_drops 0 (.aload_n 0) 1 1 := ⟨by decide +kernel, rfl⟩
theorem kX6_drops_1 : Dk mtX6_drops 1 (.iload_n 1) 1 2 := ⟨by decide +kernel, rfl⟩
theorem kX6_drops_2 : Dk mtX6_drops 2 (.iconst 2) 1 3 := ⟨by decide +kernel, rfl⟩
theorem kX6_drops_3 : Dk mtX6_drops 3 (.iconst 0) 1 4 := ⟨by decide +kernel, rfl⟩
theorem kX6_drops_4 : Dk mtX6_drops 4 (.invokevirtual 63) 3 7 := ⟨by decide +kernel, rfl⟩
theorem kX6_drops_7 : Dk mtX6_drops 7 (.aload_n 0) 1 8 := ⟨by decide +kernel, rfl⟩
theorem kX6_drops_8 : Dk mtX6_drops 8 (.iload_n 1) 1 9 := ⟨by decide +kernel, rfl⟩
theorem kX6_drops_9 : Dk mtX6_drops 9 (.iconst 4) 1 10 := ⟨by decide +kernel, rfl⟩
theorem kX6_drops_10 : Dk mtX6_drops 10 (.iconst 0) 1 11 := ⟨by decide +kernel, rfl⟩
theorem kX6_drops_11 : Dk mtX6_drops 11 (.invokevirtual 63) 3 14 := ⟨by decide +kernel, rfl⟩
theorem kX6_drops_14 : Dk mtX6_drops 14 (.aload_n 0) 1 15 := ⟨by decide +kernel, rfl⟩
theorem kX6_drops_15 : Dk mtX6_drops 15 (.iload_n 1) 1 16 := ⟨by decide +kernel, rfl⟩
theorem kX6_drops_16 : Dk mtX6_drops 16 (.iconst 5) 1 17 := ⟨by decide +kernel, rfl⟩
theorem kX6_drops_17 : Dk mtX6_drops 17 (.iconst 0) 1 18 := ⟨by decide +kernel, rfl⟩
theorem kX6_drops_18 : Dk mtX6_drops 18 (.invokevirtual 63) 3 21 := ⟨by decide +kernel, rfl⟩
theorem kX6_drops_21 : Dk mtX6_drops 21 (.aload_n 0) 1 22 := ⟨by decide +kernel, rfl⟩
theorem kX6_drops_22 : Dk mtX6_drops 22 (.getfield 7) 3 25 := ⟨by decide +kernel, rfl⟩
theorem kX6_drops_25 : Dk mtX6_drops 25 (.bipush 10) 2 27 := ⟨by decide +kernel, rfl⟩
theorem kX6_drops_27 : Dk mtX6_drops 27 (.dup2) 1 28 := ⟨by decide +kernel, rfl⟩
theorem kX6_drops_28 : Dk mtX6_drops 28 (.iaload) 1 29 := ⟨by decide +kernel, rfl⟩
theorem kX6_drops_29 : Dk mtX6_drops 29 (.aload_n 0) 1 30 := ⟨by decide +kernel, rfl⟩
theorem kX6_drops_30 : Dk mtX6_drops 30 (.iload_n 1) 1 31 := ⟨by decide +kernel, rfl⟩
theorem kX6_drops_31 : Dk mtX6_drops 31 (.iconst 3) 1 32 := ⟨by decide +kernel, rfl⟩
theorem kX6_drops_32 : Dk mtX6_drops 32 (.invokevirtual 53) 3 35 := ⟨by decide +kernel, rfl⟩
theorem kX6_drops_35 : Dk mtX6_drops 35 (.ifCond .le 7) 3 38 := ⟨by decide +kernel, rfl⟩
theorem kX6_drops_38 : Dk mtX6_drops 38 (.iconst 1) 1 39 := ⟨by decide +kernel, rfl⟩
theorem kX6_drops_39 : Dk mtX6_drops 39 (.goto 4) 3 42 := ⟨by decide +kernel, rfl⟩
theorem kX6_drops_42 : Dk mtX6_drops 42 (.iconst 0) 1 43 := ⟨by decide +kernel, rfl⟩
theorem kX6_drops_43 : Dk mtX6_drops 43 (.iadd) 1 44 := ⟨by decide +kernel, rfl⟩
theorem kX6_drops_44 : Dk mtX6_drops 44 (.iastore) 1 45 := ⟨by decide +kernel, rfl⟩
theorem kX6_drops_45 : Dk mtX6_drops 45 (.aload_n 0) 1 46 := ⟨by decide +kernel, rfl⟩
theorem kX6_drops_46 : Dk mtX6_drops 46 (.iload_n 1) 1 47 := ⟨by decide +kernel, rfl⟩
theorem kX6_drops_47 : Dk mtX6_drops 47 (.iconst 3) 1 48 := ⟨by decide +kernel, rfl⟩
theorem kX6_drops_48 : Dk mtX6_drops 48 (.iconst 0) 1 49 := ⟨by decide +kernel, rfl⟩
theorem kX6_drops_49 : Dk mtX6_drops 49 (.invokevirtual 63) 3 52 := ⟨by decide +kernel, rfl⟩
theorem kX6_drops_52 : Dk mtX6_drops 52 (.return_) 1 53 := ⟨by decide +kernel, rfl⟩
set_option maxHeartbeats 4000000 in
set_option maxRecDepth 100000 in
theorem ct_drops {l : Launch} {w : Wd} {sg : Sg} (hWr : Wr w) {mo : Nat} (a : Int32) (ha : vp_in a 8) : M l mtX6_drops w [vR (some (6, 0, mo)), vI a] sg (fV0 (upr sg (mo + 1) (F_drops (sg (mo + 1)) a))) := by
  refine M_of [some (vR (some (6, 0, mo))), some (vI a)] rfl (Nat.le_of_ble_eq_true rfl) (by decide +kernel) ?_
  intro p_ e_ s_ m_ args_ below_ meth_ c_ hC hO
  refine V_aload_n hC kX6_drops_0 rfl ?_
  refine V_iload_n hC kX6_drops_1 rfl ?_
  refine V_iconst hC (2) kX6_drops_2 (by decide) ?_
  refine V_iconst hC (0) kX6_drops_3 (by decide) ?_
  refine V_cV_fV hC (ct_layBoat hWr a 2 _ ha (vp_lit rfl)) mkX6_layBoat lmX6_63 kX6_drops_4 (Nat.le_of_ble_eq_true rfl) rfl rfl rfl (Nat.le_of_ble_eq_true rfl) ⟨(Nat.le_of_ble_eq_true rfl), (Nat.le_of_ble_eq_true rfl)⟩ ⟨rfl, rfl⟩ ⟨(Nat.le_of_ble_eq_true rfl), (Nat.le_of_ble_eq_true rfl)⟩ ?_
  refine V_aload_n hC kX6_drops_7 rfl ?_
  refine V_iload_n hC kX6_drops_8 rfl ?_
  refine V_iconst hC (4) kX6_drops_9 (by decide) ?_
  refine V_iconst hC (0) kX6_drops_10 (by decide) ?_
  refine V_cV_fV hC (ct_layBoat hWr a 4 _ ha (vp_lit rfl)) mkX6_layBoat lmX6_63 kX6_drops_11 (Nat.le_of_ble_eq_true rfl) rfl rfl rfl (Nat.le_of_ble_eq_true rfl) ⟨(Nat.le_of_ble_eq_true rfl), (Nat.le_of_ble_eq_true rfl)⟩ ⟨rfl, rfl⟩ ⟨(Nat.le_of_ble_eq_true rfl), (Nat.le_of_ble_eq_true rfl)⟩ ?_
  refine V_aload_n hC kX6_drops_14 rfl ?_
  refine V_iload_n hC kX6_drops_15 rfl ?_
  refine V_iconst hC (5) kX6_drops_16 (by decide) ?_
  refine V_iconst hC (0) kX6_drops_17 (by decide) ?_
  refine V_cV_fV hC (ct_layBoat hWr a 5 _ ha (vp_lit rfl)) mkX6_layBoat lmX6_63 kX6_drops_18 (Nat.le_of_ble_eq_true rfl) rfl rfl rfl (Nat.le_of_ble_eq_true rfl) ⟨(Nat.le_of_ble_eq_true rfl), (Nat.le_of_ble_eq_true rfl)⟩ ⟨rfl, rfl⟩ ⟨(Nat.le_of_ble_eq_true rfl), (Nat.le_of_ble_eq_true rfl)⟩ ?_
  refine V_canon (upr sg (mo + 1) (F_dropsA (sg (mo + 1)) a)) (by simp only [upr_upr, upr_at, F_dropsA]) ?_
  refine V_aload_n hC kX6_drops_21 rfl ?_
  refine V_getR hC hWr 6 1 lfX6_7 kX6_drops_22 (Nat.le_of_ble_eq_true rfl) (Nat.le_of_ble_eq_true rfl) rfl ?_
  refine V_bipush hC (10) kX6_drops_25 (by decide) ?_
  refine V_dup2 hC kX6_drops_27 rfl rfl ?_
  refine V_iald hC 10 rfl kX6_drops_28 (vp_lit rfl) ?_
  refine V_join 43 (b01 (0 < gB ((upr sg (mo + 1) (F_dropsA (sg (mo + 1)) a)) (mo + 1)) a 3)) ?_ (fun j43 => ?_)
  · refine V_iadd hC kX6_drops_43 ?_
    refine V_iast hC 10 rfl kX6_drops_44 (vp_lit rfl) ?_
    refine V_aload_n hC kX6_drops_45 rfl ?_
    refine V_iload_n hC kX6_drops_46 rfl ?_
    refine V_iconst hC (3) kX6_drops_47 (by decide) ?_
    refine V_iconst hC (0) kX6_drops_48 (by decide) ?_
    refine V_cV_fV hC (ct_layBoat hWr a 3 _ ha (vp_lit rfl)) mkX6_layBoat lmX6_63 kX6_drops_49 (Nat.le_of_ble_eq_true rfl) rfl rfl rfl (Nat.le_of_ble_eq_true rfl) ⟨(Nat.le_of_ble_eq_true rfl), (Nat.le_of_ble_eq_true rfl)⟩ ⟨rfl, rfl⟩ ⟨(Nat.le_of_ble_eq_true rfl), (Nat.le_of_ble_eq_true rfl)⟩ ?_
    refine V_vret hC rfl kX6_drops_52 ?_
    refine ⟨by with_reducible rfl, ?_⟩
    unfold F_drops
    simp only [upr_upr, upr_at, ups, upr_self]
  · refine V_aload_n hC kX6_drops_29 rfl ?_
    refine V_iload_n hC kX6_drops_30 rfl ?_
    refine V_iconst hC (3) kX6_drops_31 (by decide) ?_
    refine V_cV_fI hC (ct_ofBoat hWr a 3 ha (vp_lit rfl)) mkX6_ofBoat lmX6_53 kX6_drops_32 (Nat.le_of_ble_eq_true rfl) rfl rfl rfl (Nat.le_of_ble_eq_true rfl) ⟨(Nat.le_of_ble_eq_true rfl), (Nat.le_of_ble_eq_true rfl)⟩ ⟨rfl, rfl⟩ ⟨(Nat.le_of_ble_eq_true rfl), (Nat.le_of_ble_eq_true rfl)⟩ ?_
    refine V_if_le hC 42 kX6_drops_35 (by decide) (fun h35 => ?_) (fun h35 => ?_)
    · refine V_iconst hC (0) kX6_drops_42 (by decide) ?_
      exact j43 _ ((b01_f (Int32.not_lt.mpr h35)).symm)
    · refine V_iconst hC (1) kX6_drops_38 (by decide) ?_
      refine V_goto hC 43 kX6_drops_39 (by decide) ?_
      exact j43 _ ((b01_t (Int32.not_le.mp h35)).symm)
def mtX6_wished : Mt := (yX6_wished, cX6_wished, 7, (some .int), 3, 70, 0, 0)
theorem kX6_wished_0 : Dk mtX6_wished 0 (.aload_n 0) 1 1 := ⟨by decide +kernel, rfl⟩
theorem kX6_wished_1 : Dk mtX6_wished 1 (.iload_n 1) 1 2 := ⟨by decide +kernel, rfl⟩
theorem kX6_wished_2 : Dk mtX6_wished 2 (.iconst 2) 1 3 := ⟨by decide +kernel, rfl⟩
theorem kX6_wished_3 : Dk mtX6_wished 3 (.invokevirtual 53) 3 6 := ⟨by decide +kernel, rfl⟩
theorem kX6_wished_6 : Dk mtX6_wished 6 (.iconst 1) 1 7 := ⟨by decide +kernel, rfl⟩
theorem kX6_wished_7 : Dk mtX6_wished 7 (.isub) 1 8 := ⟨by decide +kernel, rfl⟩
theorem kX6_wished_8 : Dk mtX6_wished 8 (.istore_n 2) 1 9 := ⟨by decide +kernel, rfl⟩
theorem kX6_wished_9 : Dk mtX6_wished 9 (.aload_n 0) 1 10 := ⟨by decide +kernel, rfl⟩
theorem kX6_wished_10 : Dk mtX6_wished 10 (.iload_n 1) 1 11 := ⟨by decide +kernel, rfl⟩
theorem kX6_wished_11 : Dk mtX6_wished 11 (.iconst 0) 1 12 := ⟨by decide +kernel, rfl⟩
theorem kX6_wished_12 : Dk mtX6_wished 12 (.invokevirtual 53) 3 15 := ⟨by decide +kernel, rfl⟩
theorem kX6_wished_15 : Dk mtX6_wished 15 (.istore_n 3) 1 16 := ⟨by decide +kernel, rfl⟩
theorem kX6_wished_16 : Dk mtX6_wished 16 (.iconst (-1)) 1 17 := ⟨by decide +kernel, rfl⟩
theorem kX6_wished_17 : Dk mtX6_wished 17 (.istore 4) 2 19 := ⟨by decide +kernel, rfl⟩
theorem kX6_wished_19 : Dk mtX6_wished 19 (.iconst 0) 1 20 := ⟨by decide +kernel, rfl⟩
theorem kX6_wished_20 : Dk mtX6_wished 20 (.istore 5) 2 22 := ⟨by decide +kernel, rfl⟩
theorem kX6_wished_22 : Dk mtX6_wished 22 (.iload 5) 2 24 := ⟨by decide +kernel, rfl⟩
theorem kX6_wished_24 : Dk mtX6_wished 24 (.aload_n 0) 1 25 := ⟨by decide +kernel, rfl⟩
theorem kX6_wished_25 : Dk mtX6_wished 25 (.getfield 7) 3 28 := ⟨by decide +kernel, rfl⟩
theorem kX6_wished_28 : Dk mtX6_wished 28 (.iconst 4) 1 29 := ⟨by decide +kernel, rfl⟩
theorem kX6_wished_29 : Dk mtX6_wished 29 (.iaload) 1 30 := ⟨by decide +kernel, rfl⟩
theorem kX6_wished_30 : Dk mtX6_wished 30 (.if_icmp .ge 82) 3 33 := ⟨by decide +kernel, rfl⟩
theorem kX6_wished_33 : Dk mtX6_wished 33 (.iload 5) 2 35 := ⟨by decide +kernel, rfl⟩
theorem kX6_wished_35 : Dk mtX6_wished 35 (.iload_n 2) 1 36 := ⟨by decide +kernel, rfl⟩
theorem kX6_wished_36 : Dk mtX6_wished 36 (.if_icmp .eq 30) 3 39 := ⟨by decide +kernel, rfl⟩
theorem kX6_wished_39 : Dk mtX6_wished 39 (.aload_n 0) 1 40 := ⟨by decide +kernel, rfl⟩
theorem kX6_wished_40 : Dk mtX6_wished 40 (.iload 5) 2 42 := ⟨by decide +kernel, rfl⟩
theorem kX6_wished_42 : Dk mtX6_wished 42 (.iload_n 3) 1 43 := ⟨by decide +kernel, rfl⟩
theorem kX6_wished_43 : Dk mtX6_wished 43 (.invokevirtual 56) 3 46 := ⟨by decide +kernel, rfl⟩
theorem kX6_wished_46 : Dk mtX6_wished 46 (.aload_n 0) 1 47 := ⟨by decide +kernel, rfl⟩
theorem kX6_wished_47 : Dk mtX6_wished 47 (.iload_n 2) 1 48 := ⟨by decide +kernel, rfl⟩
theorem kX6_wished_48 : Dk mtX6_wished 48 (.iload_n 3) 1 49 := ⟨by decide +kernel, rfl⟩
theorem kX6_wished_49 : Dk mtX6_wished 49 (.invokevirtual 56) 3 52 := ⟨by decide +kernel, rfl⟩
theorem kX6_wished_52 : Dk mtX6_wished 52 (.aload_n 0) 1 53 := ⟨by decide +kernel, rfl⟩
theorem kX6_wished_53 : Dk mtX6_wished 53 (.getfield 7) 3 56 := ⟨by decide +kernel, rfl⟩
theorem kX6_wished_56 : Dk mtX6_wished 56 (.iconst 0) 1 57 := ⟨by decide +kernel, rfl⟩
theorem kX6_wished_57 : Dk mtX6_wished 57 (.iaload) 1 58 := ⟨by decide +kernel, rfl⟩
theorem kX6_wished_58 : Dk mtX6_wished 58 (.iadd) 1 59 := ⟨by decide +kernel, rfl⟩
theorem kX6_wished_59 : Dk mtX6_wished 59 (.if_icmp .lt 7) 3 62 := ⟨by decide +kernel, rfl⟩
theorem kX6_wished_62 : Dk mtX6_wished 62 (.iconst 1) 1 63 := ⟨by decide +kernel, rfl⟩
theorem kX6_wished_63 : Dk mtX6_wished 63 (.goto 4) 3 66 := ⟨by decide +kernel, rfl⟩
theorem kX6_wished_66 : Dk mtX6_wished 66 (.iconst 0) 1 67 := ⟨by decide +kernel, rfl⟩
theorem kX6_wished_67 : Dk mtX6_wished 67 (.istore 6) 2 69 := ⟨by decide +kernel, rfl⟩
theorem kX6_wished_69 : Dk mtX6_wished 69 (.iload 6) 2 71 := ⟨by decide +kernel, rfl⟩
theorem kX6_wished_71 : Dk mtX6_wished 71 (.ifCond .eq 31) 3 74 := ⟨by decide +kernel, rfl⟩
theorem kX6_wished_74 : Dk mtX6_wished 74 (.iload 4) 2 76 := ⟨by decide +kernel, rfl⟩
theorem kX6_wished_76 : Dk mtX6_wished 76 (.iconst (-1)) 1 77 := ⟨by decide +kernel, rfl⟩
theorem kX6_wished_77 : Dk mtX6_wished 77 (.if_icmp .eq 20) 3 80 := ⟨by decide +kernel, rfl⟩
theorem kX6_wished_80 : Dk mtX6_wished 80 (.aload_n 0) 1 81 := ⟨by decide +kernel, rfl⟩
theorem kX6_wished_81 : Dk mtX6_wished 81 (.iload 5) 2 83 := ⟨by decide +kernel, rfl⟩
theorem kX6_wished_83 : Dk mtX6_wished 83 (.iload_n 3) 1 84 := ⟨by decide +kernel, rfl⟩
theorem kX6_wished_84 : Dk mtX6_wished 84 (.invokevirtual 56) 3 87 := ⟨by decide +kernel, rfl⟩
theorem kX6_wished_87 : Dk mtX6_wished 87 (.aload_n 0) 1 88 := ⟨by decide +kernel, rfl⟩
theorem kX6_wished_88 : Dk mtX6_wished 88 (.iload 4) 2 90 := ⟨by decide +kernel, rfl⟩
theorem kX6_wished_90 : Dk mtX6_wished 90 (.iload_n 3) 1 91 := ⟨by decide +kernel, rfl⟩
theorem kX6_wished_91 : Dk mtX6_wished 91 (.invokevirtual 56) 3 94 := ⟨by decide +kernel, rfl⟩
theorem kX6_wished_94 : Dk mtX6_wished 94 (.if_icmp .le 8) 3 97 := ⟨by decide +kernel, rfl⟩
theorem kX6_wished_97 : Dk mtX6_wished 97 (.iload 5) 2 99 := ⟨by decide +kernel, rfl⟩
theorem kX6_wished_99 : Dk mtX6_wished 99 (.goto 5) 3 102 := ⟨by decide +kernel, rfl⟩
theorem kX6_wished_102 : Dk mtX6_wished 102 (.iload 4) 2 104 := ⟨by decide +kernel, rfl⟩
theorem kX6_wished_104 : Dk mtX6_wished 104 (.istore 4) 2 106 := ⟨by decide +kernel, rfl⟩
theorem kX6_wished_106 : Dk mtX6_wished 106 (.iinc 5 1) 3 109 := ⟨by decide +kernel, rfl⟩
theorem kX6_wished_109 : Dk mtX6_wished 109 (.goto (-87)) 3 112 := ⟨by decide +kernel, rfl⟩
theorem kX6_wished_112 : Dk mtX6_wished 112 (.iload 4) 2 114 := ⟨by decide +kernel, rfl⟩
theorem kX6_wished_114 : Dk mtX6_wished 114 (.ireturn) 1 115 := ⟨by decide +kernel, rfl⟩
set_option maxHeartbeats 4000000 in
set_option maxRecDepth 100000 in
theorem ct_wished {l : Launch} {w : Wd} {sg : Sg} (hWr : Wr w) {mo : Nat} (a : Int32) (ha : vp_in a 8) (hc : 0 ≤ (sg (mo + 1) 4).toInt ∧ (sg (mo + 1) 4).toInt ≤ 6) (hl : ∀ n, n < tn (sg (mo + 1) 4) → ¬ gL (sg (mo + 1)) (nI n) 3 = 0) (hby : ∃ j, j < tn (sg (mo + 1) 4) ∧ gB (sg (mo + 1)) a 2 - 1 = nI j) : M l mtX6_wished w [vR (some (6, 0, mo)), vI a] sg (fI (F_wished (sg (mo + 1)) a) sg) := by
  refine M_of [some (vR (some (6, 0, mo))), some (vI a), none, none, none, none, none] rfl (Nat.le_of_ble_eq_true rfl) (by decide +kernel) ?_
  intro p_ e_ s_ m_ args_ below_ meth_ c_ hC hO
  refine V_aload_n hC kX6_wished_0 rfl ?_
  refine V_iload_n hC kX6_wished_1 rfl ?_
  refine V_iconst hC (2) kX6_wished_2 (by decide) ?_
  refine V_cV_fI hC (ct_ofBoat hWr a 2 ha (vp_lit rfl)) mkX6_ofBoat lmX6_53 kX6_wished_3 (Nat.le_of_ble_eq_true rfl) rfl rfl rfl (Nat.le_of_ble_eq_true rfl) ⟨(Nat.le_of_ble_eq_true rfl), (Nat.le_of_ble_eq_true rfl)⟩ ⟨rfl, rfl⟩ ⟨(Nat.le_of_ble_eq_true rfl), (Nat.le_of_ble_eq_true rfl)⟩ ?_
  refine V_iconst hC (1) kX6_wished_6 (by decide) ?_
  refine V_isub hC kX6_wished_7 ?_
  refine V_nameI (fun by1 e_by1 => ?_)
  refine V_istore_n hC [some _, some _, some _, none, none, none, none] kX6_wished_8 rfl (Nat.le_of_ble_eq_true rfl) ?_
  refine V_aload_n hC kX6_wished_9 rfl ?_
  refine V_iload_n hC kX6_wished_10 rfl ?_
  refine V_iconst hC (0) kX6_wished_11 (by decide) ?_
  refine V_cV_fI hC (ct_ofBoat hWr a 0 ha (vp_lit rfl)) mkX6_ofBoat lmX6_53 kX6_wished_12 (Nat.le_of_ble_eq_true rfl) rfl rfl rfl (Nat.le_of_ble_eq_true rfl) ⟨(Nat.le_of_ble_eq_true rfl), (Nat.le_of_ble_eq_true rfl)⟩ ⟨rfl, rfl⟩ ⟨(Nat.le_of_ble_eq_true rfl), (Nat.le_of_ble_eq_true rfl)⟩ ?_
  refine V_nameI (fun pl e_pl => ?_)
  refine V_istore_n hC [some _, some _, some _, some _, none, none, none] kX6_wished_15 rfl (Nat.le_of_ble_eq_true rfl) ?_
  refine V_iconst hC (-1) kX6_wished_16 (by decide) ?_
  refine V_istore hC [some _, some _, some _, some _, some _, none, none] kX6_wished_17 rfl (Nat.le_of_ble_eq_true rfl) ?_
  refine V_iconst hC (0) kX6_wished_19 (by decide) ?_
  refine V_istore hC [some _, some _, some _, some _, some _, some _, none] kX6_wished_20 rfl (Nat.le_of_ble_eq_true rfl) ?_
  refine V_loop (tn ((sg (mo + 1)) 4)) (fun i => [some (vR (some (6, 0, mo))), some (vI a), some (vI by1), some (vI pl), some (vI (F_wishedN (sg (mo + 1)) a i)), some (vI (nI i)), none]) (fun i => sg) rfl rfl ?_ (fun i hi ihi => ?_)
  · refine V_iload hC kX6_wished_22 rfl ?_
    refine V_aload_n hC kX6_wished_24 rfl ?_
    refine V_getR hC hWr 6 1 lfX6_7 kX6_wished_25 (Nat.le_of_ble_eq_true rfl) (Nat.le_of_ble_eq_true rfl) rfl ?_
    refine V_iconst hC (4) kX6_wished_28 (by decide) ?_
    refine V_iald hC 4 rfl kX6_wished_29 (vp_lit rfl) ?_
    refine V_icmp_ge hC 112 kX6_wished_30 (by decide) (fun h30 => ?_) (fun h30 => absurd h30 (not_not_intro (cnt_le hc.1)))
    refine V_iload hC kX6_wished_112 rfl ?_
    refine V_ireti hC rfl kX6_wished_114 ?_
    refine ⟨cI ?_, by with_reducible rfl⟩
    unfold F_wished
    with_reducible rfl
  · have hi6 := (cnt_in (n := 6) hc.1 hc.2).1
    have hbi : ¬ F_wishedN (sg (mo + 1)) a i = -1 → ∃ j, j < tn (sg (mo + 1) 4) ∧ F_wishedN (sg (mo + 1)) a i = nI j := fun z => by
      rcases F_wishedN_in (sg (mo + 1)) a i with h | ⟨j, h1, h2⟩
      · exact absurd h z
      · exact ⟨j, by omega, h2⟩
    obtain ⟨jy, hjy, ejy⟩ := hby
    refine V_iload hC kX6_wished_22 rfl ?_
    refine V_aload_n hC kX6_wished_24 rfl ?_
    refine V_getR hC hWr 6 1 lfX6_7 kX6_wished_25 (Nat.le_of_ble_eq_true rfl) (Nat.le_of_ble_eq_true rfl) rfl ?_
    refine V_iconst hC (4) kX6_wished_28 (by decide) ?_
    refine V_iald hC 4 rfl kX6_wished_29 (vp_lit rfl) ?_
    refine V_icmp_ge hC 112 kX6_wished_30 (by decide) (fun h30 => absurd h30 (cnt_lt hc.1 hi)) (fun h30 => ?_)
    refine V_join 67 (b01 (¬ nI i = by1 ∧ F_worth (sg (mo + 1)) by1 pl + (sg (mo + 1)) 0 ≤ F_worth (sg (mo + 1)) (nI i) pl)) ?_ (fun j67 => ?_)
    · refine V_nameI (fun can e_can => ?_)
      refine V_istore hC [some _, some _, some _, some _, some _, some _, some _] kX6_wished_67 rfl (Nat.le_of_ble_eq_true rfl) ?_
      refine V_join 104 (F_wishedN (sg (mo + 1)) a (i + 1)) ?_ (fun j104 => ?_)
      · refine V_istore hC [some _, some _, some _, some _, some _, some _, some _] kX6_wished_104 rfl (Nat.le_of_ble_eq_true rfl) ?_
        refine V_iinc hC (_ + 1) [some _, some _, some _, some _, some _, some _, some _] kX6_wished_106 rfl rfl rfl (Nat.le_of_ble_eq_true rfl) ?_
        refine V_goto hC 22 kX6_wished_109 (by decide) ?_
        refine V_drop 6 [_, _, _, _, _, _, none] rfl ?_
        refine V_eq ?_ rfl ihi
        simp only [nI_succ]
      · refine V_iload hC kX6_wished_69 rfl ?_
        refine V_if_eq hC 102 kX6_wished_71 (by decide) (fun h71 => ?_) (fun h71 => ?_)
        · refine V_iload hC kX6_wished_102 rfl ?_
          exact j104 _ ((by subst e_by1 e_pl; rw [F_wishedN, if_neg (fun z => (b0_of e_can h71) z.1)]))
        · refine V_iload hC kX6_wished_74 rfl ?_
          refine V_iconst hC (-1) kX6_wished_76 (by decide) ?_
          refine V_icmp_eq hC 97 kX6_wished_77 (by decide) (fun h77 => ?_) (fun h77 => ?_)
          · refine V_iload hC kX6_wished_97 rfl ?_
            refine V_goto hC 104 kX6_wished_99 (by decide) ?_
            exact j104 _ ((by subst e_by1 e_pl; rw [F_wishedN, if_pos ⟨b1_of e_can h71, Or.inl h77⟩]))
          · obtain ⟨jb, hjb, ejb⟩ := hbi h77
            refine V_aload_n hC kX6_wished_80 rfl ?_
            refine V_iload hC kX6_wished_81 rfl ?_
            refine V_iload_n hC kX6_wished_83 rfl ?_
            refine V_cV_fI hC (ct_worth hWr (nI i) pl (vp_in_nI (by omega) (by decide)) (fun _ => hl i hi)) mkX6_worth lmX6_56 kX6_wished_84 (Nat.le_of_ble_eq_true rfl) rfl rfl rfl (Nat.le_of_ble_eq_true rfl) ⟨(Nat.le_of_ble_eq_true rfl), (Nat.le_of_ble_eq_true rfl)⟩ ⟨rfl, rfl⟩ ⟨(Nat.le_of_ble_eq_true rfl), (Nat.le_of_ble_eq_true rfl)⟩ ?_
            refine V_aload_n hC kX6_wished_87 rfl ?_
            refine V_iload hC kX6_wished_88 rfl ?_
            refine V_iload_n hC kX6_wished_90 rfl ?_
            refine V_cV_fI hC (ct_worth hWr _ pl (by rw [ejb]; exact vp_in_nI (by omega) (by decide)) (fun _ => by rw [ejb]; exact hl jb hjb)) mkX6_worth lmX6_56 kX6_wished_91 (Nat.le_of_ble_eq_true rfl) rfl rfl rfl (Nat.le_of_ble_eq_true rfl) ⟨(Nat.le_of_ble_eq_true rfl), (Nat.le_of_ble_eq_true rfl)⟩ ⟨rfl, rfl⟩ ⟨(Nat.le_of_ble_eq_true rfl), (Nat.le_of_ble_eq_true rfl)⟩ ?_
            refine V_icmp_le hC 102 kX6_wished_94 (by decide) (fun h94 => ?_) (fun h94 => ?_)
            · refine V_iload hC kX6_wished_102 rfl ?_
              exact j104 _ ((by subst e_by1 e_pl; rw [F_wishedN, if_neg (fun z => z.2.elim h77 (fun z => absurd z (Int32.not_lt.mpr h94)))]))
            · refine V_iload hC kX6_wished_97 rfl ?_
              refine V_goto hC 104 kX6_wished_99 (by decide) ?_
              exact j104 _ ((by subst e_by1 e_pl; rw [F_wishedN, if_pos ⟨b1_of e_can h71, Or.inr (Int32.not_le.mp h94)⟩]))
    · refine V_iload hC kX6_wished_33 rfl ?_
      refine V_iload_n hC kX6_wished_35 rfl ?_
      refine V_icmp_eq hC 66 kX6_wished_36 (by decide) (fun h36 => ?_) (fun h36 => ?_)
      · refine V_iconst hC (0) kX6_wished_66 (by decide) ?_
        exact j67 _ ((b01_f (fun z => z.1 h36)).symm)
      · refine V_aload_n hC kX6_wished_39 rfl ?_
        refine V_iload hC kX6_wished_40 rfl ?_
        refine V_iload_n hC kX6_wished_42 rfl ?_
        refine V_cV_fI hC (ct_worth hWr (nI i) pl (vp_in_nI (by omega) (by decide)) (fun _ => hl i hi)) mkX6_worth lmX6_56 kX6_wished_43 (Nat.le_of_ble_eq_true rfl) rfl rfl rfl (Nat.le_of_ble_eq_true rfl) ⟨(Nat.le_of_ble_eq_true rfl), (Nat.le_of_ble_eq_true rfl)⟩ ⟨rfl, rfl⟩ ⟨(Nat.le_of_ble_eq_true rfl), (Nat.le_of_ble_eq_true rfl)⟩ ?_
        refine V_aload_n hC kX6_wished_46 rfl ?_
        refine V_iload_n hC kX6_wished_47 rfl ?_
        refine V_iload_n hC kX6_wished_48 rfl ?_
        refine V_cV_fI hC (ct_worth hWr by1 pl (by rw [e_by1, ejy]; exact vp_in_nI (by omega) (by decide)) (fun _ => by rw [e_by1, ejy]; exact hl jy hjy)) mkX6_worth lmX6_56 kX6_wished_49 (Nat.le_of_ble_eq_true rfl) rfl rfl rfl (Nat.le_of_ble_eq_true rfl) ⟨(Nat.le_of_ble_eq_true rfl), (Nat.le_of_ble_eq_true rfl)⟩ ⟨rfl, rfl⟩ ⟨(Nat.le_of_ble_eq_true rfl), (Nat.le_of_ble_eq_true rfl)⟩ ?_
        refine V_aload_n hC kX6_wished_52 rfl ?_
        refine V_getR hC hWr 6 1 lfX6_7 kX6_wished_53 (Nat.le_of_ble_eq_true rfl) (Nat.le_of_ble_eq_true rfl) rfl ?_
        refine V_iconst hC (0) kX6_wished_56 (by decide) ?_
        refine V_iald hC 0 rfl kX6_wished_57 (vp_lit rfl) ?_
        refine V_iadd hC kX6_wished_58 ?_
        refine V_icmp_lt hC 66 kX6_wished_59 (by decide) (fun h59 => ?_) (fun h59 => ?_)
        · refine V_iconst hC (0) kX6_wished_66 (by decide) ?_
          exact j67 _ ((b01_f (fun z => absurd z.2 (Int32.not_le.mpr h59))).symm)
        · refine V_iconst hC (1) kX6_wished_62 (by decide) ?_
          refine V_goto hC 67 kX6_wished_63 (by decide) ?_
          exact j67 _ ((b01_t ⟨h36, Int32.not_lt.mp h59⟩).symm)
def mtX6_hands : Mt := (yX6_hands, cX6_hands, 5, none, 1, 23, 0, 0)
theorem kX6_hands_0 : Dk mtX6_hands 0 (.aload_n 0) 1 1 := ⟨by decide +kernel, rfl⟩
theorem kX6_hands_1 : Dk mtX6_hands 1 (.iload_n 1) 1 2 := ⟨by decide +kernel, rfl⟩
theorem kX6_hands_2 : Dk mtX6_hands 2 (.iconst 2) 1 3 := ⟨by decide +kernel, rfl⟩
theorem kX6_hands_3 : Dk mtX6_hands 3 (.invokevirtual 53) 3 6 := ⟨by decide +kernel, rfl⟩
theorem kX6_hands_6 : Dk mtX6_hands 6 (.istore_n 3) 1 7 := ⟨by decide +kernel, rfl⟩
theorem kX6_hands_7 : Dk mtX6_hands 7 (.aload_n 0) 1 8 := ⟨by decide +kernel, rfl⟩
theorem kX6_hands_8 : Dk mtX6_hands 8 (.iload_n 1) 1 9 := ⟨by decide +kernel, rfl⟩
theorem kX6_hands_9 : Dk mtX6_hands 9 (.bipush 6) 2 11 := ⟨by decide +kernel, rfl⟩
theorem kX6_hands_11 : Dk mtX6_hands 11 (.invokevirtual 53) 3 14 := ⟨by decide +kernel, rfl⟩
theorem kX6_hands_14 : Dk mtX6_hands 14 (.iload_n 2) 1 15 := ⟨by decide +kernel, rfl⟩
theorem kX6_hands_15 : Dk mtX6_hands 15 (.iconst 1) 1 16 := ⟨by decide +kernel, rfl⟩
theorem kX6_hands_16 : Dk mtX6_hands 16 (.iadd) 1 17 := ⟨by decide +kernel, rfl⟩
theorem kX6_hands_17 : Dk mtX6_hands 17 (.if_icmp .ne 31) 3 20 := ⟨by decide +kernel, rfl⟩
theorem kX6_hands_20 : Dk mtX6_hands 20 (.aload_n 0) 1 21 := ⟨by decide +kernel, rfl⟩
theorem kX6_hands_21 : Dk mtX6_hands 21 (.getfield 7) 3 24 := ⟨by decide +kernel, rfl⟩
theorem kX6_hands_24 : Dk mtX6_hands 24 (.bipush 6) 2 26 := ⟨by decide +kernel, rfl⟩
theorem kX6_hands_26 : Dk mtX6_hands 26 (.iaload) 1 27 := ⟨by decide +kernel, rfl⟩
theorem kX6_hands_27 : Dk mtX6_hands 27 (.aload_n 0) 1 28 := ⟨by decide +kernel, rfl⟩
theorem kX6_hands_28 : Dk mtX6_hands 28 (.iload_n 1) 1 29 := ⟨by decide +kernel, rfl⟩
theorem kX6_hands_29 : Dk mtX6_hands 29 (.bipush 9) 2 31 := ⟨by decide +kernel, rfl⟩
theorem kX6_hands_31 : Dk mtX6_hands 31 (.invokevirtual 53) 3 34 := ⟨by decide +kernel, rfl⟩
theorem kX6_hands_34 : Dk mtX6_hands 34 (.isub) 1 35 := ⟨by decide +kernel, rfl⟩
theorem kX6_hands_35 : Dk mtX6_hands 35 (.aload_n 0) 1 36 := ⟨by decide +kernel, rfl⟩
theorem kX6_hands_36 : Dk mtX6_hands 36 (.getfield 7) 3 39 := ⟨by decide +kernel, rfl⟩
theorem kX6_hands_39 : Dk mtX6_hands 39 (.iconst 3) 1 40 := ⟨by decide +kernel, rfl⟩
theorem kX6_hands_40 : Dk mtX6_hands 40 (.iaload) 1 41 := ⟨by decide +kernel, rfl⟩
theorem kX6_hands_41 : Dk mtX6_hands 41 (.if_icmp .gt 7) 3 44 := ⟨by decide +kernel, rfl⟩
theorem kX6_hands_44 : Dk mtX6_hands 44 (.iconst 1) 1 45 := ⟨by decide +kernel, rfl⟩
theorem kX6_hands_45 : Dk mtX6_hands 45 (.goto 4) 3 48 := ⟨by decide +kernel, rfl⟩
theorem kX6_hands_48 : Dk mtX6_hands 48 (.iconst 0) 1 49 := ⟨by decide +kernel, rfl⟩
theorem kX6_hands_49 : Dk mtX6_hands 49 (.istore 4) 2 51 := ⟨by decide +kernel, rfl⟩
theorem kX6_hands_51 : Dk mtX6_hands 51 (.aload_n 0) 1 52 := ⟨by decide +kernel, rfl⟩
theorem kX6_hands_52 : Dk mtX6_hands 52 (.iload_n 1) 1 53 := ⟨by decide +kernel, rfl⟩
theorem kX6_hands_53 : Dk mtX6_hands 53 (.iconst 2) 1 54 := ⟨by decide +kernel, rfl⟩
theorem kX6_hands_54 : Dk mtX6_hands 54 (.iload_n 2) 1 55 := ⟨by decide +kernel, rfl⟩
theorem kX6_hands_55 : Dk mtX6_hands 55 (.iconst 1) 1 56 := ⟨by decide +kernel, rfl⟩
theorem kX6_hands_56 : Dk mtX6_hands 56 (.iadd) 1 57 := ⟨by decide +kernel, rfl⟩
theorem kX6_hands_57 : Dk mtX6_hands 57 (.invokevirtual 63) 3 60 := ⟨by decide +kernel, rfl⟩
theorem kX6_hands_60 : Dk mtX6_hands 60 (.aload_n 0) 1 61 := ⟨by decide +kernel, rfl⟩
theorem kX6_hands_61 : Dk mtX6_hands 61 (.iload_n 1) 1 62 := ⟨by decide +kernel, rfl⟩
theorem kX6_hands_62 : Dk mtX6_hands 62 (.iconst 4) 1 63 := ⟨by decide +kernel, rfl⟩
theorem kX6_hands_63 : Dk mtX6_hands 63 (.iconst 0) 1 64 := ⟨by decide +kernel, rfl⟩
theorem kX6_hands_64 : Dk mtX6_hands 64 (.invokevirtual 63) 3 67 := ⟨by decide +kernel, rfl⟩
theorem kX6_hands_67 : Dk mtX6_hands 67 (.aload_n 0) 1 68 := ⟨by decide +kernel, rfl⟩
theorem kX6_hands_68 : Dk mtX6_hands 68 (.iload_n 1) 1 69 := ⟨by decide +kernel, rfl⟩
theorem kX6_hands_69 : Dk mtX6_hands 69 (.iconst 5) 1 70 := ⟨by decide +kernel, rfl⟩
theorem kX6_hands_70 : Dk mtX6_hands 70 (.iconst 0) 1 71 := ⟨by decide +kernel, rfl⟩
theorem kX6_hands_71 : Dk mtX6_hands 71 (.invokevirtual 63) 3 74 := ⟨by decide +kernel, rfl⟩
theorem kX6_hands_74 : Dk mtX6_hands 74 (.aload_n 0) 1 75 := ⟨by decide +kernel, rfl⟩
theorem kX6_hands_75 : Dk mtX6_hands 75 (.iload_n 1) 1 76 := ⟨by decide +kernel, rfl⟩
theorem kX6_hands_76 : Dk mtX6_hands 76 (.bipush 6) 2 78 := ⟨by decide +kernel, rfl⟩
theorem kX6_hands_78 : Dk mtX6_hands 78 (.iload_n 3) 1 79 := ⟨by decide +kernel, rfl⟩
theorem kX6_hands_79 : Dk mtX6_hands 79 (.invokevirtual 63) 3 82 := ⟨by decide +kernel, rfl⟩
theorem kX6_hands_82 : Dk mtX6_hands 82 (.aload_n 0) 1 83 := ⟨by decide +kernel, rfl⟩
theorem kX6_hands_83 : Dk mtX6_hands 83 (.iload_n 1) 1 84 := ⟨by decide +kernel, rfl⟩
theorem kX6_hands_84 : Dk mtX6_hands 84 (.bipush 9) 2 86 := ⟨by decide +kernel, rfl⟩
theorem kX6_hands_86 : Dk mtX6_hands 86 (.aload_n 0) 1 87 := ⟨by decide +kernel, rfl⟩
theorem kX6_hands_87 : Dk mtX6_hands 87 (.getfield 7) 3 90 := ⟨by decide +kernel, rfl⟩
theorem kX6_hands_90 : Dk mtX6_hands 90 (.bipush 6) 2 92 := ⟨by decide +kernel, rfl⟩
theorem kX6_hands_92 : Dk mtX6_hands 92 (.iaload) 1 93 := ⟨by decide +kernel, rfl⟩
theorem kX6_hands_93 : Dk mtX6_hands 93 (.invokevirtual 63) 3 96 := ⟨by decide +kernel, rfl⟩
theorem kX6_hands_96 : Dk mtX6_hands 96 (.aload_n 0) 1 97 := ⟨by decide +kernel, rfl⟩
theorem kX6_hands_97 : Dk mtX6_hands 97 (.iload_n 1) 1 98 := ⟨by decide +kernel, rfl⟩
theorem kX6_hands_98 : Dk mtX6_hands 98 (.bipush 7) 2 100 := ⟨by decide +kernel, rfl⟩
theorem kX6_hands_100 : Dk mtX6_hands 100 (.aload_n 0) 1 101 := ⟨by decide +kernel, rfl⟩
theorem kX6_hands_101 : Dk mtX6_hands 101 (.iload_n 1) 1 102 := ⟨by decide +kernel, rfl⟩
theorem kX6_hands_102 : Dk mtX6_hands 102 (.bipush 7) 2 104 := ⟨by decide +kernel, rfl⟩
theorem kX6_hands_104 : Dk mtX6_hands 104 (.invokevirtual 53) 3 107 := ⟨by decide +kernel, rfl⟩
theorem kX6_hands_107 : Dk mtX6_hands 107 (.iconst 1) 1 108 := ⟨by decide +kernel, rfl⟩
theorem kX6_hands_108 : Dk mtX6_hands 108 (.iadd) 1 109 := ⟨by decide +kernel, rfl⟩
theorem kX6_hands_109 : Dk mtX6_hands 109 (.invokevirtual 63) 3 112 := ⟨by decide +kernel, rfl⟩
theorem kX6_hands_112 : Dk mtX6_hands 112 (.aload_n 0) 1 113 := ⟨by decide +kernel, rfl⟩
theorem kX6_hands_113 : Dk mtX6_hands 113 (.iload_n 1) 1 114 := ⟨by decide +kernel, rfl⟩
theorem kX6_hands_114 : Dk mtX6_hands 114 (.bipush 8) 2 116 := ⟨by decide +kernel, rfl⟩
theorem kX6_hands_116 : Dk mtX6_hands 116 (.aload_n 0) 1 117 := ⟨by decide +kernel, rfl⟩
theorem kX6_hands_117 : Dk mtX6_hands 117 (.iload_n 1) 1 118 := ⟨by decide +kernel, rfl⟩
theorem kX6_hands_118 : Dk mtX6_hands 118 (.bipush 8) 2 120 := ⟨by decide +kernel, rfl⟩
theorem kX6_hands_120 : Dk mtX6_hands 120 (.invokevirtual 53) 3 123 := ⟨by decide +kernel, rfl⟩
theorem kX6_hands_123 : Dk mtX6_hands 123 (.iload 4) 2 125 := ⟨by decide +kernel, rfl⟩
theorem kX6_hands_125 : Dk mtX6_hands 125 (.ifCond .eq 7) 3 128 := ⟨by decide +kernel, rfl⟩
theorem kX6_hands_128 : Dk mtX6_hands 128 (.iconst 1) 1 129 := ⟨by decide +kernel, rfl⟩
theorem kX6_hands_129 : Dk mtX6_hands 129 (.goto 4) 3 132 := ⟨by decide +kernel, rfl⟩
theorem kX6_hands_132 : Dk mtX6_hands 132 (.iconst 0) 1 133 := ⟨by decide +kernel, rfl⟩
theorem kX6_hands_133 : Dk mtX6_hands 133 (.iadd) 1 134 := ⟨by decide +kernel, rfl⟩
theorem kX6_hands_134 : Dk mtX6_hands 134 (.invokevirtual 63) 3 137 := ⟨by decide +kernel, rfl⟩
theorem kX6_hands_137 : Dk mtX6_hands 137 (.aload_n 0) 1 138 := ⟨by decide +kernel, rfl⟩
theorem kX6_hands_138 : Dk mtX6_hands 138 (.getfield 7) 3 141 := ⟨by decide +kernel, rfl⟩
theorem kX6_hands_141 : Dk mtX6_hands 141 (.bipush 12) 2 143 := ⟨by decide +kernel, rfl⟩
theorem kX6_hands_143 : Dk mtX6_hands 143 (.bipush 8) 2 145 := ⟨by decide +kernel, rfl⟩
theorem kX6_hands_145 : Dk mtX6_hands 145 (.iload_n 2) 1 146 := ⟨by decide +kernel, rfl⟩
theorem kX6_hands_146 : Dk mtX6_hands 146 (.imul) 1 147 := ⟨by decide +kernel, rfl⟩
theorem kX6_hands_147 : Dk mtX6_hands 147 (.iadd) 1 148 := ⟨by decide +kernel, rfl⟩
theorem kX6_hands_148 : Dk mtX6_hands 148 (.bipush 7) 2 150 := ⟨by decide +kernel, rfl⟩
theorem kX6_hands_150 : Dk mtX6_hands 150 (.iadd) 1 151 := ⟨by decide +kernel, rfl⟩
theorem kX6_hands_151 : Dk mtX6_hands 151 (.dup2) 1 152 := ⟨by decide +kernel, rfl⟩
theorem kX6_hands_152 : Dk mtX6_hands 152 (.iaload) 1 153 := ⟨by decide +kernel, rfl⟩
theorem kX6_hands_153 : Dk mtX6_hands 153 (.iconst 1) 1 154 := ⟨by decide +kernel, rfl⟩
theorem kX6_hands_154 : Dk mtX6_hands 154 (.iadd) 1 155 := ⟨by decide +kernel, rfl⟩
theorem kX6_hands_155 : Dk mtX6_hands 155 (.iastore) 1 156 := ⟨by decide +kernel, rfl⟩
theorem kX6_hands_156 : Dk mtX6_hands 156 (.aload_n 0) 1 157 := ⟨by decide +kernel, rfl⟩
theorem kX6_hands_157 : Dk mtX6_hands 157 (.getfield 7) 3 160 := ⟨by decide +kernel, rfl⟩
theorem kX6_hands_160 : Dk mtX6_hands 160 (.bipush 7) 2 162 := ⟨by decide +kernel, rfl⟩
theorem kX6_hands_162 : Dk mtX6_hands 162 (.dup2) 1 163 := ⟨by decide +kernel, rfl⟩
theorem kX6_hands_163 : Dk mtX6_hands 163 (.iaload) 1 164 := ⟨by decide +kernel, rfl⟩
theorem kX6_hands_164 : Dk mtX6_hands 164 (.iconst 1) 1 165 := ⟨by decide +kernel, rfl⟩
theorem kX6_hands_165 : Dk mtX6_hands 165 (.iadd) 1 166 := ⟨by decide +kernel, rfl⟩
theorem kX6_hands_166 : Dk mtX6_hands 166 (.iastore) 1 167 := ⟨by decide +kernel, rfl⟩
theorem kX6_hands_167 : Dk mtX6_hands 167 (.aload_n 0) 1 168 := ⟨by decide +kernel, rfl⟩
theorem kX6_hands_168 : Dk mtX6_hands 168 (.getfield 7) 3 171 := ⟨by decide +kernel, rfl⟩
theorem kX6_hands_171 : Dk mtX6_hands 171 (.bipush 8) 2 173 := ⟨by decide +kernel, rfl⟩
theorem kX6_hands_173 : Dk mtX6_hands 173 (.dup2) 1 174 := ⟨by decide +kernel, rfl⟩
theorem kX6_hands_174 : Dk mtX6_hands 174 (.iaload) 1 175 := ⟨by decide +kernel, rfl⟩
theorem kX6_hands_175 : Dk mtX6_hands 175 (.iload 4) 2 177 := ⟨by decide +kernel, rfl⟩
theorem kX6_hands_177 : Dk mtX6_hands 177 (.ifCond .eq 7) 3 180 := ⟨by decide +kernel, rfl⟩
theorem kX6_hands_180 : Dk mtX6_hands 180 (.iconst 1) 1 181 := ⟨by decide +kernel, rfl⟩
theorem kX6_hands_181 : Dk mtX6_hands 181 (.goto 4) 3 184 := ⟨by decide +kernel, rfl⟩
theorem kX6_hands_184 : Dk mtX6_hands 184 (.iconst 0) 1 185 := ⟨by decide +kernel, rfl⟩
theorem kX6_hands_185 : Dk mtX6_hands 185 (.iadd) 1 186 := ⟨by decide +kernel, rfl⟩
theorem kX6_hands_186 : Dk mtX6_hands 186 (.iastore) 1 187 := ⟨by decide +kernel, rfl⟩
theorem kX6_hands_187 : Dk mtX6_hands 187 (.return_) 1 188 := ⟨by decide +kernel, rfl⟩
set_option maxHeartbeats 4000000 in
set_option maxRecDepth 100000 in
theorem ct_hands {l : Launch} {w : Wd} {sg : Sg} (hWr : Wr w) {mo : Nat} (a to : Int32) (ha : vp_in a 8) (ht : vp_in to 6) : M l mtX6_hands w [vR (some (6, 0, mo)), vI a, vI to] sg (fV0 (upr sg (mo + 1) (F_hands (sg (mo + 1)) a to))) := by
  refine M_of [some (vR (some (6, 0, mo))), some (vI a), some (vI to), none, none] rfl (Nat.le_of_ble_eq_true rfl) (by decide +kernel) ?_
  intro p_ e_ s_ m_ args_ below_ meth_ c_ hC hO
  refine V_aload_n hC kX6_hands_0 rfl ?_
  refine V_iload_n hC kX6_hands_1 rfl ?_
  refine V_iconst hC (2) kX6_hands_2 (by decide) ?_
  refine V_cV_fI hC (ct_ofBoat hWr a 2 ha (vp_lit rfl)) mkX6_ofBoat lmX6_53 kX6_hands_3 (Nat.le_of_ble_eq_true rfl) rfl rfl rfl (Nat.le_of_ble_eq_true rfl) ⟨(Nat.le_of_ble_eq_true rfl), (Nat.le_of_ble_eq_true rfl)⟩ ⟨rfl, rfl⟩ ⟨(Nat.le_of_ble_eq_true rfl), (Nat.le_of_ble_eq_true rfl)⟩ ?_
  refine V_nameI (fun by1 e_by1 => ?_)
  refine V_istore_n hC [some _, some _, some _, some _, none] kX6_hands_6 rfl (Nat.le_of_ble_eq_true rfl) ?_
  refine V_join 49 (F_isBack (sg (mo + 1)) a to) ?_ (fun j49 => ?_)
  · refine V_nameI (fun bk e_bk => ?_)
    refine V_istore hC [some _, some _, some _, some _, some _] kX6_hands_49 rfl (Nat.le_of_ble_eq_true rfl) ?_
    refine V_aload_n hC kX6_hands_51 rfl ?_
    refine V_iload_n hC kX6_hands_52 rfl ?_
    refine V_iconst hC (2) kX6_hands_53 (by decide) ?_
    refine V_iload_n hC kX6_hands_54 rfl ?_
    refine V_iconst hC (1) kX6_hands_55 (by decide) ?_
    refine V_iadd hC kX6_hands_56 ?_
    refine V_cV_fV hC (ct_layBoat hWr a 2 _ ha (vp_lit rfl)) mkX6_layBoat lmX6_63 kX6_hands_57 (Nat.le_of_ble_eq_true rfl) rfl rfl rfl (Nat.le_of_ble_eq_true rfl) ⟨(Nat.le_of_ble_eq_true rfl), (Nat.le_of_ble_eq_true rfl)⟩ ⟨rfl, rfl⟩ ⟨(Nat.le_of_ble_eq_true rfl), (Nat.le_of_ble_eq_true rfl)⟩ ?_
    refine V_aload_n hC kX6_hands_60 rfl ?_
    refine V_iload_n hC kX6_hands_61 rfl ?_
    refine V_iconst hC (4) kX6_hands_62 (by decide) ?_
    refine V_iconst hC (0) kX6_hands_63 (by decide) ?_
    refine V_cV_fV hC (ct_layBoat hWr a 4 _ ha (vp_lit rfl)) mkX6_layBoat lmX6_63 kX6_hands_64 (Nat.le_of_ble_eq_true rfl) rfl rfl rfl (Nat.le_of_ble_eq_true rfl) ⟨(Nat.le_of_ble_eq_true rfl), (Nat.le_of_ble_eq_true rfl)⟩ ⟨rfl, rfl⟩ ⟨(Nat.le_of_ble_eq_true rfl), (Nat.le_of_ble_eq_true rfl)⟩ ?_
    refine V_aload_n hC kX6_hands_67 rfl ?_
    refine V_iload_n hC kX6_hands_68 rfl ?_
    refine V_iconst hC (5) kX6_hands_69 (by decide) ?_
    refine V_iconst hC (0) kX6_hands_70 (by decide) ?_
    refine V_cV_fV hC (ct_layBoat hWr a 5 _ ha (vp_lit rfl)) mkX6_layBoat lmX6_63 kX6_hands_71 (Nat.le_of_ble_eq_true rfl) rfl rfl rfl (Nat.le_of_ble_eq_true rfl) ⟨(Nat.le_of_ble_eq_true rfl), (Nat.le_of_ble_eq_true rfl)⟩ ⟨rfl, rfl⟩ ⟨(Nat.le_of_ble_eq_true rfl), (Nat.le_of_ble_eq_true rfl)⟩ ?_
    refine V_aload_n hC kX6_hands_74 rfl ?_
    refine V_iload_n hC kX6_hands_75 rfl ?_
    refine V_bipush hC (6) kX6_hands_76 (by decide) ?_
    refine V_iload_n hC kX6_hands_78 rfl ?_
    refine V_cV_fV hC (ct_layBoat hWr a 6 _ ha (vp_lit rfl)) mkX6_layBoat lmX6_63 kX6_hands_79 (Nat.le_of_ble_eq_true rfl) rfl rfl rfl (Nat.le_of_ble_eq_true rfl) ⟨(Nat.le_of_ble_eq_true rfl), (Nat.le_of_ble_eq_true rfl)⟩ ⟨rfl, rfl⟩ ⟨(Nat.le_of_ble_eq_true rfl), (Nat.le_of_ble_eq_true rfl)⟩ ?_
    refine V_aload_n hC kX6_hands_82 rfl ?_
    refine V_iload_n hC kX6_hands_83 rfl ?_
    refine V_bipush hC (9) kX6_hands_84 (by decide) ?_
    refine V_aload_n hC kX6_hands_86 rfl ?_
    refine V_getR hC hWr 6 1 lfX6_7 kX6_hands_87 (Nat.le_of_ble_eq_true rfl) (Nat.le_of_ble_eq_true rfl) rfl ?_
    refine V_bipush hC (6) kX6_hands_90 (by decide) ?_
    refine V_iald hC 6 rfl kX6_hands_92 (vp_lit rfl) ?_
    refine V_cV_fV hC (ct_layBoat hWr a 9 _ ha (vp_lit rfl)) mkX6_layBoat lmX6_63 kX6_hands_93 (Nat.le_of_ble_eq_true rfl) rfl rfl rfl (Nat.le_of_ble_eq_true rfl) ⟨(Nat.le_of_ble_eq_true rfl), (Nat.le_of_ble_eq_true rfl)⟩ ⟨rfl, rfl⟩ ⟨(Nat.le_of_ble_eq_true rfl), (Nat.le_of_ble_eq_true rfl)⟩ ?_
    refine V_aload_n hC kX6_hands_96 rfl ?_
    refine V_iload_n hC kX6_hands_97 rfl ?_
    refine V_bipush hC (7) kX6_hands_98 (by decide) ?_
    refine V_aload_n hC kX6_hands_100 rfl ?_
    refine V_iload_n hC kX6_hands_101 rfl ?_
    refine V_bipush hC (7) kX6_hands_102 (by decide) ?_
    refine V_cV_fI hC (ct_ofBoat hWr a 7 ha (vp_lit rfl)) mkX6_ofBoat lmX6_53 kX6_hands_104 (Nat.le_of_ble_eq_true rfl) rfl rfl rfl (Nat.le_of_ble_eq_true rfl) ⟨(Nat.le_of_ble_eq_true rfl), (Nat.le_of_ble_eq_true rfl)⟩ ⟨rfl, rfl⟩ ⟨(Nat.le_of_ble_eq_true rfl), (Nat.le_of_ble_eq_true rfl)⟩ ?_
    refine V_iconst hC (1) kX6_hands_107 (by decide) ?_
    refine V_iadd hC kX6_hands_108 ?_
    refine V_cV_fV hC (ct_layBoat hWr a 7 _ ha (vp_lit rfl)) mkX6_layBoat lmX6_63 kX6_hands_109 (Nat.le_of_ble_eq_true rfl) rfl rfl rfl (Nat.le_of_ble_eq_true rfl) ⟨(Nat.le_of_ble_eq_true rfl), (Nat.le_of_ble_eq_true rfl)⟩ ⟨rfl, rfl⟩ ⟨(Nat.le_of_ble_eq_true rfl), (Nat.le_of_ble_eq_true rfl)⟩ ?_
    refine V_aload_n hC kX6_hands_112 rfl ?_
    refine V_iload_n hC kX6_hands_113 rfl ?_
    refine V_bipush hC (8) kX6_hands_114 (by decide) ?_
    refine V_aload_n hC kX6_hands_116 rfl ?_
    refine V_iload_n hC kX6_hands_117 rfl ?_
    refine V_bipush hC (8) kX6_hands_118 (by decide) ?_
    refine V_cV_fI hC (ct_ofBoat hWr a 8 ha (vp_lit rfl)) mkX6_ofBoat lmX6_53 kX6_hands_120 (Nat.le_of_ble_eq_true rfl) rfl rfl rfl (Nat.le_of_ble_eq_true rfl) ⟨(Nat.le_of_ble_eq_true rfl), (Nat.le_of_ble_eq_true rfl)⟩ ⟨rfl, rfl⟩ ⟨(Nat.le_of_ble_eq_true rfl), (Nat.le_of_ble_eq_true rfl)⟩ ?_
    refine V_join 133 (bk) ?_ (fun j133 => ?_)
    · refine V_iadd hC kX6_hands_133 ?_
      refine V_cV_fV hC (ct_layBoat hWr a 8 _ ha (vp_lit rfl)) mkX6_layBoat lmX6_63 kX6_hands_134 (Nat.le_of_ble_eq_true rfl) rfl rfl rfl (Nat.le_of_ble_eq_true rfl) ⟨(Nat.le_of_ble_eq_true rfl), (Nat.le_of_ble_eq_true rfl)⟩ ⟨rfl, rfl⟩ ⟨(Nat.le_of_ble_eq_true rfl), (Nat.le_of_ble_eq_true rfl)⟩ ?_
      refine V_aload_n hC kX6_hands_137 rfl ?_
      refine V_getR hC hWr 6 1 lfX6_7 kX6_hands_138 (Nat.le_of_ble_eq_true rfl) (Nat.le_of_ble_eq_true rfl) rfl ?_
      refine V_bipush hC (12) kX6_hands_141 (by decide) ?_
      refine V_bipush hC (8) kX6_hands_143 (by decide) ?_
      refine V_iload_n hC kX6_hands_145 rfl ?_
      refine V_imul hC kX6_hands_146 ?_
      refine V_iadd hC kX6_hands_147 ?_
      refine V_bipush hC (7) kX6_hands_148 (by decide) ?_
      refine V_iadd hC kX6_hands_150 ?_
      refine V_dup2 hC kX6_hands_151 rfl rfl ?_
      refine V_iald hC _ rfl kX6_hands_152 (inL ht (vp_lit rfl)) ?_
      refine V_iconst hC (1) kX6_hands_153 (by decide) ?_
      refine V_iadd hC kX6_hands_154 ?_
      refine V_iast hC _ rfl kX6_hands_155 (inL ht (vp_lit rfl)) ?_
      refine V_aload_n hC kX6_hands_156 rfl ?_
      refine V_getR hC hWr 6 1 lfX6_7 kX6_hands_157 (Nat.le_of_ble_eq_true rfl) (Nat.le_of_ble_eq_true rfl) rfl ?_
      refine V_bipush hC (7) kX6_hands_160 (by decide) ?_
      refine V_dup2 hC kX6_hands_162 rfl rfl ?_
      refine V_iald hC 7 rfl kX6_hands_163 (vp_lit rfl) ?_
      refine V_iconst hC (1) kX6_hands_164 (by decide) ?_
      refine V_iadd hC kX6_hands_165 ?_
      refine V_iast hC 7 rfl kX6_hands_166 (vp_lit rfl) ?_
      refine V_aload_n hC kX6_hands_167 rfl ?_
      refine V_getR hC hWr 6 1 lfX6_7 kX6_hands_168 (Nat.le_of_ble_eq_true rfl) (Nat.le_of_ble_eq_true rfl) rfl ?_
      refine V_bipush hC (8) kX6_hands_171 (by decide) ?_
      refine V_dup2 hC kX6_hands_173 rfl rfl ?_
      refine V_iald hC 8 rfl kX6_hands_174 (vp_lit rfl) ?_
      refine V_join 185 (bk) ?_ (fun j185 => ?_)
      · refine V_iadd hC kX6_hands_185 ?_
        refine V_iast hC 8 rfl kX6_hands_186 (vp_lit rfl) ?_
        refine V_vret hC rfl kX6_hands_187 ?_
        refine ⟨by with_reducible rfl, ?_⟩
        subst e_bk e_by1
        unfold F_hands F_handsB F_handsA F_inc
        simp only [upr_upr, upr_at, ups]
        unfold pB gB tn
        with_reducible rfl
      · refine V_iload hC kX6_hands_175 rfl ?_
        refine V_if_eq hC 184 kX6_hands_177 (by decide) (fun h177 => ?_) (fun h177 => ?_)
        · refine V_iconst hC (0) kX6_hands_184 (by decide) ?_
          exact j185 _ (h177.symm)
        · refine V_iconst hC (1) kX6_hands_180 (by decide) ?_
          refine V_goto hC 185 kX6_hands_181 (by decide) ?_
          exact j185 _ (b01_1 e_bk h177)
    · refine V_iload hC kX6_hands_123 rfl ?_
      refine V_if_eq hC 132 kX6_hands_125 (by decide) (fun h125 => ?_) (fun h125 => ?_)
      · refine V_iconst hC (0) kX6_hands_132 (by decide) ?_
        exact j133 _ (h125.symm)
      · refine V_iconst hC (1) kX6_hands_128 (by decide) ?_
        refine V_goto hC 133 kX6_hands_129 (by decide) ?_
        exact j133 _ (b01_1 e_bk h125)
  · refine V_aload_n hC kX6_hands_7 rfl ?_
    refine V_iload_n hC kX6_hands_8 rfl ?_
    refine V_bipush hC (6) kX6_hands_9 (by decide) ?_
    refine V_cV_fI hC (ct_ofBoat hWr a 6 ha (vp_lit rfl)) mkX6_ofBoat lmX6_53 kX6_hands_11 (Nat.le_of_ble_eq_true rfl) rfl rfl rfl (Nat.le_of_ble_eq_true rfl) ⟨(Nat.le_of_ble_eq_true rfl), (Nat.le_of_ble_eq_true rfl)⟩ ⟨rfl, rfl⟩ ⟨(Nat.le_of_ble_eq_true rfl), (Nat.le_of_ble_eq_true rfl)⟩ ?_
    refine V_iload_n hC kX6_hands_14 rfl ?_
    refine V_iconst hC (1) kX6_hands_15 (by decide) ?_
    refine V_iadd hC kX6_hands_16 ?_
    refine V_icmp_ne hC 48 kX6_hands_17 (by decide) (fun h17 => ?_) (fun h17 => ?_)
    · refine V_iconst hC (0) kX6_hands_48 (by decide) ?_
      exact j49 _ ((b01_f (fun z => h17 z.1)).symm)
    · refine V_aload_n hC kX6_hands_20 rfl ?_
      refine V_getR hC hWr 6 1 lfX6_7 kX6_hands_21 (Nat.le_of_ble_eq_true rfl) (Nat.le_of_ble_eq_true rfl) rfl ?_
      refine V_bipush hC (6) kX6_hands_24 (by decide) ?_
      refine V_iald hC 6 rfl kX6_hands_26 (vp_lit rfl) ?_
      refine V_aload_n hC kX6_hands_27 rfl ?_
      refine V_iload_n hC kX6_hands_28 rfl ?_
      refine V_bipush hC (9) kX6_hands_29 (by decide) ?_
      refine V_cV_fI hC (ct_ofBoat hWr a 9 ha (vp_lit rfl)) mkX6_ofBoat lmX6_53 kX6_hands_31 (Nat.le_of_ble_eq_true rfl) rfl rfl rfl (Nat.le_of_ble_eq_true rfl) ⟨(Nat.le_of_ble_eq_true rfl), (Nat.le_of_ble_eq_true rfl)⟩ ⟨rfl, rfl⟩ ⟨(Nat.le_of_ble_eq_true rfl), (Nat.le_of_ble_eq_true rfl)⟩ ?_
      refine V_isub hC kX6_hands_34 ?_
      refine V_aload_n hC kX6_hands_35 rfl ?_
      refine V_getR hC hWr 6 1 lfX6_7 kX6_hands_36 (Nat.le_of_ble_eq_true rfl) (Nat.le_of_ble_eq_true rfl) rfl ?_
      refine V_iconst hC (3) kX6_hands_39 (by decide) ?_
      refine V_iald hC 3 rfl kX6_hands_40 (vp_lit rfl) ?_
      refine V_icmp_gt hC 48 kX6_hands_41 (by decide) (fun h41 => ?_) (fun h41 => ?_)
      · refine V_iconst hC (0) kX6_hands_48 (by decide) ?_
        exact j49 _ ((b01_f (fun z => absurd z.2 (Int32.not_le.mpr h41))).symm)
      · refine V_iconst hC (1) kX6_hands_44 (by decide) ?_
        refine V_goto hC 49 kX6_hands_45 (by decide) ?_
        exact j49 _ ((b01_t ⟨h17, Int32.not_lt.mp h41⟩).symm)
end
section
/-! what the tick keeps -/
theorem gB_0 (g : Gs) {n : Nat} (hn : n < 8) : gB g (nI n) 0 = g (60 + 10 * n) := gB_at g (j := 0) hn (by decide)
theorem pB_0 (g : Gs) (v : Int32) {n : Nat} (hn : n < 8) : pB g (nI n) 0 v = upd g (60 + 10 * n) v := pB_at g (j := 0) v hn (by decide)
theorem tnB_0 {n : Nat} (hn : n < 8) : tn (60 + 10 * nI n + 0) = 60 + 10 * n := tnB (j := 0) hn (by decide)
theorem gB_1 (g : Gs) {n : Nat} (hn : n < 8) : gB g (nI n) 1 = g (60 + 10 * n + 1) := gB_at g (j := 1) hn (by decide)
theorem pB_1 (g : Gs) (v : Int32) {n : Nat} (hn : n < 8) : pB g (nI n) 1 v = upd g (60 + 10 * n + 1) v := pB_at g (j := 1) v hn (by decide)
theorem tnB_1 {n : Nat} (hn : n < 8) : tn (60 + 10 * nI n + 1) = 60 + 10 * n + 1 := tnB (j := 1) hn (by decide)
theorem gB_2 (g : Gs) {n : Nat} (hn : n < 8) : gB g (nI n) 2 = g (60 + 10 * n + 2) := gB_at g (j := 2) hn (by decide)
theorem pB_2 (g : Gs) (v : Int32) {n : Nat} (hn : n < 8) : pB g (nI n) 2 v = upd g (60 + 10 * n + 2) v := pB_at g (j := 2) v hn (by decide)
theorem tnB_2 {n : Nat} (hn : n < 8) : tn (60 + 10 * nI n + 2) = 60 + 10 * n + 2 := tnB (j := 2) hn (by decide)
theorem gB_3 (g : Gs) {n : Nat} (hn : n < 8) : gB g (nI n) 3 = g (60 + 10 * n + 3) := gB_at g (j := 3) hn (by decide)
theorem pB_3 (g : Gs) (v : Int32) {n : Nat} (hn : n < 8) : pB g (nI n) 3 v = upd g (60 + 10 * n + 3) v := pB_at g (j := 3) v hn (by decide)
theorem tnB_3 {n : Nat} (hn : n < 8) : tn (60 + 10 * nI n + 3) = 60 + 10 * n + 3 := tnB (j := 3) hn (by decide)
theorem gB_4 (g : Gs) {n : Nat} (hn : n < 8) : gB g (nI n) 4 = g (60 + 10 * n + 4) := gB_at g (j := 4) hn (by decide)
theorem pB_4 (g : Gs) (v : Int32) {n : Nat} (hn : n < 8) : pB g (nI n) 4 v = upd g (60 + 10 * n + 4) v := pB_at g (j := 4) v hn (by decide)
theorem tnB_4 {n : Nat} (hn : n < 8) : tn (60 + 10 * nI n + 4) = 60 + 10 * n + 4 := tnB (j := 4) hn (by decide)
theorem gB_5 (g : Gs) {n : Nat} (hn : n < 8) : gB g (nI n) 5 = g (60 + 10 * n + 5) := gB_at g (j := 5) hn (by decide)
theorem pB_5 (g : Gs) (v : Int32) {n : Nat} (hn : n < 8) : pB g (nI n) 5 v = upd g (60 + 10 * n + 5) v := pB_at g (j := 5) v hn (by decide)
theorem tnB_5 {n : Nat} (hn : n < 8) : tn (60 + 10 * nI n + 5) = 60 + 10 * n + 5 := tnB (j := 5) hn (by decide)
theorem gB_6 (g : Gs) {n : Nat} (hn : n < 8) : gB g (nI n) 6 = g (60 + 10 * n + 6) := gB_at g (j := 6) hn (by decide)
theorem pB_6 (g : Gs) (v : Int32) {n : Nat} (hn : n < 8) : pB g (nI n) 6 v = upd g (60 + 10 * n + 6) v := pB_at g (j := 6) v hn (by decide)
theorem tnB_6 {n : Nat} (hn : n < 8) : tn (60 + 10 * nI n + 6) = 60 + 10 * n + 6 := tnB (j := 6) hn (by decide)
theorem gB_7 (g : Gs) {n : Nat} (hn : n < 8) : gB g (nI n) 7 = g (60 + 10 * n + 7) := gB_at g (j := 7) hn (by decide)
theorem pB_7 (g : Gs) (v : Int32) {n : Nat} (hn : n < 8) : pB g (nI n) 7 v = upd g (60 + 10 * n + 7) v := pB_at g (j := 7) v hn (by decide)
theorem tnB_7 {n : Nat} (hn : n < 8) : tn (60 + 10 * nI n + 7) = 60 + 10 * n + 7 := tnB (j := 7) hn (by decide)
theorem gB_8 (g : Gs) {n : Nat} (hn : n < 8) : gB g (nI n) 8 = g (60 + 10 * n + 8) := gB_at g (j := 8) hn (by decide)
theorem pB_8 (g : Gs) (v : Int32) {n : Nat} (hn : n < 8) : pB g (nI n) 8 v = upd g (60 + 10 * n + 8) v := pB_at g (j := 8) v hn (by decide)
theorem tnB_8 {n : Nat} (hn : n < 8) : tn (60 + 10 * nI n + 8) = 60 + 10 * n + 8 := tnB (j := 8) hn (by decide)
theorem gB_9 (g : Gs) {n : Nat} (hn : n < 8) : gB g (nI n) 9 = g (60 + 10 * n + 9) := gB_at g (j := 9) hn (by decide)
theorem pB_9 (g : Gs) (v : Int32) {n : Nat} (hn : n < 8) : pB g (nI n) 9 v = upd g (60 + 10 * n + 9) v := pB_at g (j := 9) v hn (by decide)
theorem tnB_9 {n : Nat} (hn : n < 8) : tn (60 + 10 * nI n + 9) = 60 + 10 * n + 9 := tnB (j := 9) hn (by decide)
theorem gL_0 (g : Gs) {n : Nat} (hn : n < 6) : gL g (nI n) 0 = g (12 + 8 * n) := gL_at g (j := 0) hn (by decide)
theorem tnL_0 {n : Nat} (hn : n < 6) : tn (12 + 8 * nI n + 0) = 12 + 8 * n := tnL (j := 0) hn (by decide)
theorem gL_1 (g : Gs) {n : Nat} (hn : n < 6) : gL g (nI n) 1 = g (12 + 8 * n + 1) := gL_at g (j := 1) hn (by decide)
theorem tnL_1 {n : Nat} (hn : n < 6) : tn (12 + 8 * nI n + 1) = 12 + 8 * n + 1 := tnL (j := 1) hn (by decide)
theorem gL_2 (g : Gs) {n : Nat} (hn : n < 6) : gL g (nI n) 2 = g (12 + 8 * n + 2) := gL_at g (j := 2) hn (by decide)
theorem tnL_2 {n : Nat} (hn : n < 6) : tn (12 + 8 * nI n + 2) = 12 + 8 * n + 2 := tnL (j := 2) hn (by decide)
theorem gL_3 (g : Gs) {n : Nat} (hn : n < 6) : gL g (nI n) 3 = g (12 + 8 * n + 3) := gL_at g (j := 3) hn (by decide)
theorem tnL_3 {n : Nat} (hn : n < 6) : tn (12 + 8 * nI n + 3) = 12 + 8 * n + 3 := tnL (j := 3) hn (by decide)
theorem gL_4 (g : Gs) {n : Nat} (hn : n < 6) : gL g (nI n) 4 = g (12 + 8 * n + 4) := gL_at g (j := 4) hn (by decide)
theorem tnL_4 {n : Nat} (hn : n < 6) : tn (12 + 8 * nI n + 4) = 12 + 8 * n + 4 := tnL (j := 4) hn (by decide)
theorem gL_5 (g : Gs) {n : Nat} (hn : n < 6) : gL g (nI n) 5 = g (12 + 8 * n + 5) := gL_at g (j := 5) hn (by decide)
theorem tnL_5 {n : Nat} (hn : n < 6) : tn (12 + 8 * nI n + 5) = 12 + 8 * n + 5 := tnL (j := 5) hn (by decide)
theorem gL_6 (g : Gs) {n : Nat} (hn : n < 6) : gL g (nI n) 6 = g (12 + 8 * n + 6) := gL_at g (j := 6) hn (by decide)
theorem tnL_6 {n : Nat} (hn : n < 6) : tn (12 + 8 * nI n + 6) = 12 + 8 * n + 6 := tnL (j := 6) hn (by decide)
theorem gL_7 (g : Gs) {n : Nat} (hn : n < 6) : gL g (nI n) 7 = g (12 + 8 * n + 7) := gL_at g (j := 7) hn (by decide)
theorem tnL_7 {n : Nat} (hn : n < 6) : tn (12 + 8 * nI n + 7) = 12 + 8 * n + 7 := tnL (j := 7) hn (by decide)
/-- whether the boat b is served by the lighthouse l -/
def isBy (g : Gs) (l : Nat) (b : Nat) : Bool := decide (g (60 + 10 * b + 2) = nI l + 1)
theorem servesN_ct (g : Gs) (l : Nat) : ∀ n, n ≤ 8 → F_servesN g (nI l) n = nI (fb_ct (isBy g l) n)
  | 0, _ => rfl
  | n + 1, h => by
    rw [F_servesN, servesN_ct g l n (by omega), fb_ct_succ, gB_2 g (by omega), ← nI_add]
    congr 1
    unfold isBy
    by_cases q : g (60 + 10 * n + 2) = nI l + 1
    · rw [b01_t q, if_pos (by simpa using q)]; rfl
    · rw [b01_f q, if_neg (by simpa using q)]; rfl
theorem servesN_int (g : Gs) (l : Nat) {n : Nat} (h : n ≤ 8) : (F_servesN g (nI l) n).toInt = (fb_ct (isBy g l) n : Nat) := by
  rw [servesN_ct g l n h]
  exact nI_toInt (Nat.lt_of_le_of_lt (fb_ct_le _ n) (by omega))
theorem inI_of {x y : Int32} {a b : Int} (e : x = y) (h : inI y a b) : inI x a b := e ▸ h
/-- one boat changes: what must hold of it -/
theorem Inv.step {g g' : Gs} (h : Inv g) {n : Nat} (hn : n < tn (g 5)) (he : ∀ i, i < 6 → g' i = g i) (hL : ∀ l j, l < 6 → j < 7 → g' (12 + 8 * l + j) = g (12 + 8 * l + j)) (hZ : ∀ l, tn (g 4) ≤ l → l < 6 → g' (12 + 8 * l + 7) = g (12 + 8 * l + 7)) (hB : ∀ b j, b < 8 → b ≠ n → j < 10 → g' (60 + 10 * b + j) = g (60 + 10 * b + j)) (hb : BInv g' n)
    (hcap : ∀ l, l < tn (g 4) → g' (60 + 10 * n + 2) = nI l + 1 → g (60 + 10 * n + 2) = nI l + 1 ∨ (F_servesN g (nI l) (tn (g 5))).toInt < (g (12 + 8 * l + 4)).toInt) : Inv g' := by
  have h4 := h.c4.1
  have h5 := h.c5.1
  obtain ⟨i1, i2, i3, i4, i5, i6, i7⟩ := h
  have e4 : g' 4 = g 4 := he 4 (by omega)
  have e5 : g' 5 = g 5 := he 5 (by omega)
  refine ⟨?_, ?_, ?_, ?_, ?_, ?_, ?_⟩
  · rw [he 0 (by omega), he 1 (by omega), he 2 (by omega), he 3 (by omega)]; exact i1
  · rw [e4, e5]; exact i2
  · intro l hl
    rw [e4] at hl
    have q := i3 l hl
    unfold LInv at q ⊢
    rw [hL l 1 (by omega) (by omega), hL l 2 (by omega) (by omega), hL l 3 (by omega) (by omega), hL l 4 (by omega) (by omega), hL l 5 (by omega) (by omega), hL l 6 (by omega) (by omega), show g' (12 + 8 * l) = g (12 + 8 * l) from hL l 0 (by omega) (by omega)]
    exact q
  · intro b hb'
    rw [e5] at hb'
    by_cases hbn : b = n
    · subst hbn; exact hb
    · have q := i4 b hb'
      unfold BInv at q ⊢
      rw [e4, hB b 1 (by omega) hbn (by omega), hB b 2 (by omega) hbn (by omega), hB b 3 (by omega) hbn (by omega), hB b 4 (by omega) hbn (by omega), hB b 6 (by omega) hbn (by omega), show g' (60 + 10 * b) = g (60 + 10 * b) from hB b 0 (by omega) hbn (by omega)]
      exact q
  · intro l hl
    rw [e4] at hl
    have q := i5 l hl
    rw [e5, hL l 4 (by omega) (by omega)]
    rw [servesN_int g' l h5]
    rw [servesN_int g l h5] at q
    have hc : fb_ct (isBy g' l) (tn (g 5)) = fb_ct (fun k => if k = n then isBy g' l n else isBy g l k) (tn (g 5)) := by
      refine fb_ct_cong (fun k hk => ?_)
      by_cases hkn : k = n
      · subst hkn; rw [if_pos rfl]
      · rw [if_neg hkn]
        unfold isBy
        rw [hB k 2 (by omega) hkn (by omega)]
    have hu := fb_ct_upd (isBy g l) (isBy g' l n) hn
    rw [← hc] at hu
    by_cases hq : g' (60 + 10 * n + 2) = nI l + 1
    · have t1 : isBy g' l n = true := by simp [isBy, hq]
      rcases hcap l hl hq with hp | hp
      · have t2 : isBy g l n = true := by simp [isBy, hp]
        rw [t1, t2] at hu
        simp only [if_true] at hu
        omega
      · rw [servesN_int g l h5] at hp
        rw [t1] at hu
        simp only [if_true] at hu
        split at hu <;> omega
    · have t1 : isBy g' l n = false := by simp [isBy, hq]
      rw [t1] at hu
      simp only [Bool.false_eq_true, if_false] at hu
      split at hu <;> omega
  · intro l h1 h2
    rw [e4] at h1
    rw [hL l 6 h2 (by omega), hZ l h1 h2]
    exact i6 l h1 h2
  · intro b h1 h2 j h3 h6
    rw [e5] at h1
    rw [hB b j h2 (by omega) h6]
    exact i7 b h1 h2 j h3 h6
theorem nI_ne_1 {l : Nat} (h : l < 6) : ¬ (0 : Int32) = nI l + 1 := by
  intro q
  rw [nI_1, show (0 : Int32) = nI 0 from rfl, nI_eq (by omega) (by omega)] at q
  omega
theorem Inv_sails {g : Gs} (h : Inv g) {n : Nat} (hn : n < tn (g 5)) : Inv (F_sails g (nI n)) := by
  have h5 := h.c5.1
  have h8 : n < 8 := by omega
  have hb := h.2.2.2.1 n hn
  unfold F_sails
  rw [gB_0 g h8, gB_1 g h8, pB_0 g _ h8, pB_1 g _ h8]
  obtain ⟨b1, b2, b3⟩ := hb
  split
  · rename_i q
    refine h.step hn (fun i hi => pk_un (by omega)) (fun l j _ _ => pk_un (by omega)) (fun l _ _ => pk_un (by omega)) (fun b j _ _ _ => pk_un (by omega)) ?_ (fun l hl e => Or.inl (by rw [pk_un (by omega)] at e; exact e))
    unfold BInv
    rw [pk_us, pk_un (by omega), pk_un (by omega), pk_un (by omega), pk_un (by omega), pk_un (by omega), pk_un (by omega)]
    refine ⟨⟨?_, ?_⟩, b2, b3⟩
    · exact Int32.le_iff_toInt_le.mp q.1
    · exact Int32.le_iff_toInt_le.mp q.2
  · refine h.step hn (fun i hi => pk_un (by omega)) (fun l j _ _ => pk_un (by omega)) (fun l _ _ => pk_un (by omega)) (fun b j _ _ _ => pk_un (by omega)) ?_ (fun l hl e => Or.inl (by rw [pk_un (by omega)] at e; exact e))
    unfold BInv
    rw [pk_us, pk_un (by omega), pk_un (by omega), pk_un (by omega), pk_un (by omega), pk_un (by omega), pk_un (by omega)]
    refine ⟨b1, ?_, b3⟩
    obtain ⟨q1, q2⟩ := b2
    have e := fb_negI (x := g (60 + 10 * n + 1)) (by omega)
    unfold inI
    rw [e]
    omega
theorem Inv_drops {g : Gs} (h : Inv g) {n : Nat} (hn : n < tn (g 5)) : Inv (F_drops g (nI n)) := by
  have h5 := h.c5.1
  have h8 : n < 8 := by omega
  have h4 := h.2.1.1
  obtain ⟨b1, b2, b3, b4, b5, b6⟩ := h.2.2.2.1 n hn
  unfold F_drops F_dropsA
  simp only [gB_3 _ h8, pB_2 _ _ h8, pB_4 _ _ h8, pB_5 _ _ h8, pB_3 _ _ h8]
  refine h.step hn (fun i hi => ?_) (fun l j _ _ => ?_) (fun l _ _ => ?_) (fun b j _ _ _ => ?_) ?_ (fun l hl e => absurd e ?_)
  · rw [pk_un (by omega), pk_un (by omega), pk_un (by omega), pk_un (by omega), pk_un (by omega)]
  · rw [pk_un (by omega), pk_un (by omega), pk_un (by omega), pk_un (by omega), pk_un (by omega)]
  · rw [pk_un (by omega), pk_un (by omega), pk_un (by omega), pk_un (by omega), pk_un (by omega)]
  · rw [pk_un (by omega), pk_un (by omega), pk_un (by omega), pk_un (by omega), pk_un (by omega)]
  · unfold BInv
    have z1 : (60 + 10 * n + 3 ≠ 10) := by omega
    simp only [upd]
    simp only [show ¬ 60 + 10 * n = 60 + 10 * n + 3 by omega, show ¬ 60 + 10 * n = 10 by omega, show ¬ 60 + 10 * n = 60 + 10 * n + 5 by omega, show ¬ 60 + 10 * n = 60 + 10 * n + 4 by omega, show ¬ 60 + 10 * n = 60 + 10 * n + 2 by omega, show ∀ i, ¬ 60 + 10 * n + i = 10 by omega, show ∀ i, ¬ 4 = 60 + 10 * n + i by omega, show ∀ i j, (60 + 10 * n + i = 60 + 10 * n + j) = (i = j) by intro i j; apply propext; omega, if_false]
    simp only [show (4 : Nat) ≠ 10 by decide, if_false, if_true, show (1 : Nat) ≠ 3 by decide, show (1 : Nat) ≠ 5 by decide, show (1 : Nat) ≠ 4 by decide, show (1 : Nat) ≠ 2 by decide, show (2 : Nat) ≠ 3 by decide, show (2 : Nat) ≠ 5 by decide, show (2 : Nat) ≠ 4 by decide, show (4 : Nat) ≠ 3 by decide, show (4 : Nat) ≠ 5 by decide, show (6 : Nat) ≠ 3 by decide, show (6 : Nat) ≠ 5 by decide, show (6 : Nat) ≠ 4 by decide, show (6 : Nat) ≠ 2 by decide]
    exact ⟨b1, b2, ⟨by decide, h4.1⟩, ⟨by decide, by decide⟩, ⟨by decide, h4.1⟩, b6⟩
  · rw [pk_un (by omega), pk_un (by omega), pk_un (by omega), pk_un (by omega), pk_us]
    have := h.c4.1
    exact nI_ne_1 (by omega)
theorem wi_rng {N : Nat} (hN : N ≤ 6) {wi : Int32} (h : wi = -1 ∨ ∃ j, j < N ∧ wi = nI j) : inI (wi + 1) 0 N := by
  rcases h with rfl | ⟨j, hj, rfl⟩
  · exact ⟨by decide, by show (-1 + 1 : Int32).toInt ≤ _; rw [show (-1 + 1 : Int32).toInt = 0 from rfl]; omega⟩
  · rw [nI_1]
    unfold inI
    rw [nI_toInt (by omega)]
    omega
theorem Inv_wishA {g : Gs} (h : Inv g) {n : Nat} (hn : n < tn (g 5)) : Inv (F_wishA g (nI n)) := by
  have h5 := h.c5.1
  have h8 : n < 8 := by omega
  have h4 := h.c4
  obtain ⟨b1, b2, b3, b4, b5, b6⟩ := h.2.2.2.1 n hn
  have hw := wi_rng h4.1 (F_wishedN_in g (nI n) (tn (g 4)))
  have e4 : (tn (g 4) : Int) = (g 4).toInt := by rw [h4.2, nI_toInt (by omega), show tn (nI (tn (g 4))) = tn (g 4) from nI_clamp (by omega)]
  unfold F_wishA
  rw [pB_4 _ _ h8, pB_5 _ _ h8]
  refine h.step hn (fun i hi => ?_) (fun l j _ _ => ?_) (fun l _ _ => ?_) (fun b j _ _ _ => ?_) ?_ (fun l hl e => Or.inl ?_)
  · rw [pk_un (by omega), pk_un (by omega)]
  · rw [pk_un (by omega), pk_un (by omega)]
  · rw [pk_un (by omega), pk_un (by omega)]
  · rw [pk_un (by omega), pk_un (by omega)]
  · unfold BInv
    repeat (first | rw [pk_us] | rw [pk_un (by omega)])
    rw [e4] at hw
    exact ⟨b1, b2, b3, b4, hw, b6⟩
  · rw [pk_un (by omega), pk_un (by omega)] at e
    exact e
theorem Inv.inc {g : Gs} (h : Inv g) {k : Nat} (x : Int32) (hk : 6 ≤ k ∧ k < 12) : Inv (F_inc g k x) := by
  have h4 := h.c4.1
  have h5 := h.c5.1
  have eq : ∀ i, i ≠ k → F_inc g k x i = g i := fun i hi => pk_un hi
  obtain ⟨i1, i2, i3, i4, i5, i6, i7⟩ := h
  have e4 : F_inc g k x 4 = g 4 := eq 4 (by omega)
  have e5 : F_inc g k x 5 = g 5 := eq 5 (by omega)
  refine ⟨?_, ?_, ?_, ?_, ?_, ?_, ?_⟩
  · rw [eq 0 (by omega), eq 1 (by omega), eq 2 (by omega), eq 3 (by omega)]; exact i1
  · rw [e4, e5]; exact i2
  · intro l hl
    rw [e4] at hl
    have q := i3 l hl
    unfold LInv at q ⊢
    rw [eq _ (by omega), eq _ (by omega), eq _ (by omega), eq _ (by omega), eq _ (by omega), eq _ (by omega), eq _ (by omega)]
    exact q
  · intro b hb
    rw [e5] at hb
    have q := i4 b hb
    unfold BInv at q ⊢
    rw [e4, eq _ (by omega), eq _ (by omega), eq _ (by omega), eq _ (by omega), eq _ (by omega), eq _ (by omega)]
    exact q
  · intro l hl
    rw [e4] at hl
    have q := i5 l hl
    rw [e5, eq _ (by omega), servesN_int _ l h5]
    rw [servesN_int g l h5] at q
    have hc : fb_ct (isBy (F_inc g k x) l) (tn (g 5)) = fb_ct (isBy g l) (tn (g 5)) := fb_ct_cong (fun b hb => by unfold isBy; rw [eq _ (by omega)])
    rw [hc]
    exact q
  · intro l h1 h2
    rw [e4] at h1
    rw [eq _ (by omega), eq _ (by omega)]
    exact i6 l h1 h2
  · intro b h1 h2 j h3 h6
    rw [e5] at h1
    rw [eq _ (by omega)]
    exact i7 b h1 h2 j h3 h6
theorem Inv.incH {g : Gs} (h : Inv g) {l : Nat} (x : Int32) (hl : l < tn (g 4)) : Inv (F_inc g (12 + 8 * l + 7) x) := by
  have h4 := h.c4.1
  have h5 := h.c5.1
  have eq : ∀ i, i ≠ 12 + 8 * l + 7 → F_inc g (12 + 8 * l + 7) x i = g i := fun i hi => pk_un hi
  obtain ⟨i1, i2, i3, i4, i5, i6, i7⟩ := h
  have e4 : F_inc g (12 + 8 * l + 7) x 4 = g 4 := eq 4 (by omega)
  have e5 : F_inc g (12 + 8 * l + 7) x 5 = g 5 := eq 5 (by omega)
  refine ⟨?_, ?_, ?_, ?_, ?_, ?_, ?_⟩
  · rw [eq 0 (by omega), eq 1 (by omega), eq 2 (by omega), eq 3 (by omega)]; exact i1
  · rw [e4, e5]; exact i2
  · intro l hl
    rw [e4] at hl
    have q := i3 l hl
    unfold LInv at q ⊢
    rw [eq _ (by omega), eq _ (by omega), eq _ (by omega), eq _ (by omega), eq _ (by omega), eq _ (by omega), eq _ (by omega)]
    exact q
  · intro b hb
    rw [e5] at hb
    have q := i4 b hb
    unfold BInv at q ⊢
    rw [e4, eq _ (by omega), eq _ (by omega), eq _ (by omega), eq _ (by omega), eq _ (by omega), eq _ (by omega)]
    exact q
  · intro l1 hl1
    rw [e4] at hl1
    have q := i5 l1 hl1
    rw [e5, eq _ (by omega), servesN_int _ l1 h5]
    rw [servesN_int g l1 h5] at q
    have hc : fb_ct (isBy (F_inc g (12 + 8 * l + 7) x) l1) (tn (g 5)) = fb_ct (isBy g l1) (tn (g 5)) := fb_ct_cong (fun b hb => by unfold isBy; rw [eq _ (by omega)])
    rw [hc]
    exact q
  · intro l1 h1 h2
    rw [e4] at h1
    rw [eq _ (by omega), eq _ (by omega)]
    exact i6 l1 h1 h2
  · intro b h1 h2 j h3 h6
    rw [e5] at h1
    rw [eq _ (by omega)]
    exact i7 b h1 h2 j h3 h6
theorem inc_at {g : Gs} {k i : Nat} {x : Int32} (h : i ≠ k) : F_inc g k x i = g i := pk_un h
theorem e4int {g : Gs} (h : Inv g) : (tn (g 4) : Int) = (g 4).toInt := by
  have h4 := h.c4
  rw [h4.2, nI_toInt (by omega), show tn (nI (tn (g 4))) = tn (g 4) from nI_clamp (by omega)]
theorem Inv_hands {g : Gs} (h : Inv g) {n to : Nat} (hn : n < tn (g 5)) (ht : to < tn (g 4)) (hc : ¬ F_serves g (nI to) = gL g (nI to) 4) : Inv (F_hands g (nI n) (nI to)) := by
  have h5 := h.c5.1
  have h8 : n < 8 := by omega
  have h4 := h.c4
  have h6 : to < 6 := by omega
  have e4 := e4int h
  obtain ⟨b1, b2, b3, b4, b5, b6⟩ := h.2.2.2.1 n hn
  have hA : Inv (F_handsB (F_handsA g (nI n) (nI to)) (nI n)) := by
    unfold F_handsB F_handsA
    rw [gB_2 _ h8, pB_2 _ _ h8, pB_4 _ _ h8, pB_5 _ _ h8, pB_6 _ _ h8, pB_9 _ _ h8]
    refine h.step hn (fun i hi => ?_) (fun l j _ _ => ?_) (fun l _ _ => ?_) (fun b j _ _ _ => ?_) ?_ (fun l hl e => Or.inr ?_)
    · rw [pk_un (by omega), pk_un (by omega), pk_un (by omega), pk_un (by omega), pk_un (by omega)]
    · rw [pk_un (by omega), pk_un (by omega), pk_un (by omega), pk_un (by omega), pk_un (by omega)]
    · rw [pk_un (by omega), pk_un (by omega), pk_un (by omega), pk_un (by omega), pk_un (by omega)]
    · rw [pk_un (by omega), pk_un (by omega), pk_un (by omega), pk_un (by omega), pk_un (by omega)]
    · have ht1 : inI (nI to + 1) 0 (g 4).toInt := by
        rw [nI_1]
        unfold inI
        rw [nI_toInt (by omega), ← e4]
        omega
      unfold BInv
      repeat (first | rw [pk_us] | rw [pk_un (by omega)])
      exact ⟨b1, b2, ht1, b4, ⟨by decide, by rw [← e4]; show (0 : Int) ≤ _; omega⟩, b3⟩
    · rw [pk_un (by omega), pk_un (by omega), pk_un (by omega), pk_un (by omega), pk_us, nI_1, nI_1, nI_eq (by omega) (by omega)] at e
      have e : l = to := by omega
      subst e
      have q := h.2.2.2.2.1 l hl
      rw [gL_4 _ h6] at hc
      rcases Int.lt_or_eq_of_le q with z | z
      · exact z
      · exact absurd (Int32.toInt_inj.mp z) hc
  unfold F_hands
  rw [tnB_7 h8, tnB_8 h8, tnL_7 h6]
  generalize hG : F_handsB (F_handsA g (nI n) (nI to)) (nI n) = G at hA ⊢
  have hG4 : G 4 = g 4 := by
    rw [← hG]
    unfold F_handsB F_handsA
    rw [gB_2 _ h8, pB_2 _ _ h8, pB_4 _ _ h8, pB_5 _ _ h8, pB_6 _ _ h8, pB_9 _ _ h8]
    rw [pk_un (by omega), pk_un (by omega), pk_un (by omega), pk_un (by omega), pk_un (by omega)]
  have hG5 : G 5 = g 5 := by
    rw [← hG]
    unfold F_handsB F_handsA
    rw [gB_2 _ h8, pB_2 _ _ h8, pB_4 _ _ h8, pB_5 _ _ h8, pB_6 _ _ h8, pB_9 _ _ h8]
    rw [pk_un (by omega), pk_un (by omega), pk_un (by omega), pk_un (by omega), pk_un (by omega)]
  have hB : ∀ (G : Gs), Inv G → n < tn (G 5) → ∀ j, (7 ≤ j ∧ j < 9) → ∀ x, Inv (F_inc G (60 + 10 * n + j) x) := by
    intro G hG hn j hj x
    obtain ⟨b1, b2, b3, b4, b5, b6⟩ := hG.2.2.2.1 n hn
    refine hG.step hn (fun i hi => inc_at (by omega)) (fun l i _ _ => inc_at (by omega)) (fun l _ _ => inc_at (by omega)) (fun b i _ _ _ => inc_at (by omega)) ?_ (fun l hl e => Or.inl (by rw [inc_at (by omega)] at e; exact e))
    unfold BInv
    rw [inc_at (by omega), inc_at (by omega), inc_at (by omega), inc_at (by omega), inc_at (by omega), inc_at (by omega), inc_at (by omega)]
    exact ⟨b1, b2, b3, b4, b5, b6⟩
  have h1 := hB G hA (by rw [hG5]; exact hn) 7 (by omega) 1
  have h2 := hB _ h1 (by rw [inc_at (by omega), hG5]; exact hn) 8 (by omega) (F_isBack g (nI n) (nI to))
  exact ((h2.incH 1 (by rw [inc_at (by omega), inc_at (by omega), hG4]; exact ht)).inc 1 (by omega)).inc _ (by omega)
theorem wishA_c {g : Gs} {n : Nat} (h8 : n < 8) {i : Nat} (hi : i < 60 ∨ 140 ≤ i) : F_wishA g (nI n) i = g i := by
  unfold F_wishA
  rw [pB_4 _ _ h8, pB_5 _ _ h8, pk_un (by omega), pk_un (by omega)]
theorem Inv_wishes {g : Gs} (h : Inv g) {n : Nat} (hn : n < tn (g 5)) : Inv (F_wishes g (nI n)) := by
  have h5 := h.c5.1
  have hA := Inv_wishA h hn
  unfold F_wishes
  split
  · exact hA
  · rename_i hz
    split
    · exact hA.inc _ (by omega)
    · rename_i hq
      rcases F_wishedN_in g (nI n) (tn (g 4)) with e | ⟨j, hj, e⟩
      · exact absurd (Or.inl e) hz
      · have e : F_wished g (nI n) = nI j := e
        rw [e] at hq ⊢
        exact Inv_hands hA (by rw [wishA_c (by omega) (by omega)]; exact hn) (by rw [wishA_c (by omega) (by omega)]; exact hj) hq
theorem Inv_finds {g : Gs} (h : Inv g) {n : Nat} (hn : n < tn (g 5)) (h0 : gB g (nI n) 2 = 0) : Inv (F_finds g (nI n)) := by
  have h5 := h.c5.1
  have h8 : n < 8 := by omega
  have h4 := h.c4
  have e4 := e4int h
  obtain ⟨b1, b2, b3, b4, b5, b6⟩ := h.2.2.2.1 n hn
  have hw := wi_rng h4.1 (F_findsN_in g (nI n) (tn (g 4)))
  have hcan : ∀ N, N ≤ tn (g 4) → ∀ j, F_findsN g (nI n) N = nI j → j < 2 ^ 31 → F_serves g (nI j) < gL g (nI j) 4 - gL g (nI j) 5 := by
    intro N
    induction N with
    | zero =>
      intro _ j hj hjl
      have : (nI j).toInt = -1 := by rw [← hj]; rfl
      rw [nI_toInt hjl] at this
      omega
    | succ N ih =>
      intro hN j hj hjl
      rw [F_findsN] at hj
      split at hj
      · rename_i q
        rw [nI_eq (by omega) hjl] at hj
        subst hj
        exact q.1.2
      · exact ih (by omega) j hj hjl
  unfold F_finds
  simp only []
  rw [pB_2 _ _ h8]
  have hs : Inv (upd g (60 + 10 * n + 2) (F_findsN g (nI n) (tn (g 4)) + 1)) := by
    refine h.step hn (fun i hi => pk_un (by omega)) (fun l j _ _ => pk_un (by omega)) (fun l _ _ => pk_un (by omega)) (fun b j _ _ _ => pk_un (by omega)) ?_ (fun l hl e => Or.inr ?_)
    · unfold BInv
      repeat (first | rw [pk_us] | rw [pk_un (by omega)])
      rw [e4] at hw
      exact ⟨b1, b2, hw, b4, b5, b6⟩
    · rw [pk_us] at e
      have ef : F_findsN g (nI n) (tn (g 4)) = nI l := by
        have := congrArg (fun x => x - 1) e
        simpa [Int32.add_sub_cancel] using this
      have q := hcan _ (Nat.le_refl _) l ef (by omega)
      obtain ⟨l1, l2, l3, l4, l5, l6, l7⟩ := h.2.2.1 l hl
      rw [gL_4 _ (by omega), gL_5 _ (by omega)] at q
      have q := Int32.lt_iff_toInt_lt.mp q
      obtain ⟨l5a, l5b⟩ := l5
      obtain ⟨l6a, l6b⟩ := l6
      rw [fb_subI (by omega) (by omega)] at q
      show (F_serves g (nI l)).toInt < _
      omega
  exact hs.inc (k := 11) _ (by omega)
theorem Inv_onC {g : Gs} (h : Inv g) {n : Nat} (hn : n < tn (g 5)) : Inv (F_onC g (nI n)) := by
  have h5 := h.c5.1
  have h8 : n < 8 := by omega
  obtain ⟨b1, b2, b3, b4, b5, b6⟩ := h.2.2.2.1 n hn
  unfold F_onC
  rw [gB_3 _ h8, pB_3 _ _ h8]
  refine h.step hn (fun i hi => pk_un (by omega)) (fun l j _ _ => pk_un (by omega)) (fun l _ _ => pk_un (by omega)) (fun b j _ _ _ => pk_un (by omega)) ?_ (fun l hl e => Or.inl (by rw [pk_un (by omega)] at e; exact e))
  unfold BInv
  repeat (first | rw [pk_us] | rw [pk_un (by omega)])
  refine ⟨b1, b2, b3, ?_, b5, b6⟩
  obtain ⟨q1, q2⟩ := b4
  split
  · rename_i q
    have q := Int32.lt_iff_toInt_lt.mp q
    have z : (0 : Int32).toInt = 0 := rfl
    have z1 : (1 : Int32).toInt = 1 := rfl
    unfold inI
    rw [fb_subI (by omega) (by omega)]
    omega
  · exact ⟨by decide, by decide⟩
/-- places of the row that a tick leaves: settings, counts, the lighthouses but handedTo -/
def lo (i : Nat) : Prop := i < 6 ∨ (12 ≤ i ∧ i < 60 ∧ (i - 12) % 8 ≠ 7) ∨ 140 ≤ i
theorem sails_lo {g : Gs} {n i : Nat} (h8 : n < 8) (hi : i < 60 ∨ 140 ≤ i) : F_sails g (nI n) i = g i := by
  unfold F_sails
  rw [pB_0 _ _ h8, pB_1 _ _ h8]
  split <;> exact pk_un (by omega)
theorem drops_lo {g : Gs} {n i : Nat} (h8 : n < 8) (hi : lo i) : F_drops g (nI n) i = g i := by
  unfold lo at hi
  unfold F_drops F_dropsA
  simp only [pB_2 _ _ h8, pB_4 _ _ h8, pB_5 _ _ h8, pB_3 _ _ h8]
  rw [pk_un (by omega), pk_un (by omega), pk_un (by omega), pk_un (by omega), pk_un (by omega)]
theorem hands_lo {g : Gs} {n to i : Nat} (h8 : n < 8) (h6 : to < 6) (hi : lo i) : F_hands g (nI n) (nI to) i = g i := by
  unfold lo at hi
  unfold F_hands F_handsB F_handsA
  rw [tnB_7 h8, tnB_8 h8, tnL_7 h6, inc_at (by omega), inc_at (by omega), inc_at (by omega), inc_at (by omega), inc_at (by omega)]
  rw [gB_2 _ h8, pB_2 _ _ h8, pB_4 _ _ h8, pB_5 _ _ h8, pB_6 _ _ h8, pB_9 _ _ h8]
  rw [pk_un (by omega), pk_un (by omega), pk_un (by omega), pk_un (by omega), pk_un (by omega)]
theorem wishes_lo {g : Gs} (h : Inv g) {n i : Nat} (h8 : n < 8) (hi : lo i) : F_wishes g (nI n) i = g i := by
  have hi2 := hi
  have h4 := h.c4.1
  unfold lo at hi2
  unfold F_wishes
  split
  · exact wishA_c h8 (by omega)
  · rename_i hz
    split
    · rw [inc_at (by omega)]; exact wishA_c h8 (by omega)
    · rcases F_wishedN_in g (nI n) (tn (g 4)) with e | ⟨j, hj, e⟩
      · exact absurd (Or.inl e) hz
      · have e : F_wished g (nI n) = nI j := e
        rw [e, hands_lo h8 (by omega) hi]; exact wishA_c h8 (by omega)
theorem finds_lo {g : Gs} {n i : Nat} (h8 : n < 8) (hi : lo i) : F_finds g (nI n) i = g i := by
  unfold lo at hi
  show upd (pB g (nI n) 2 (F_findsN g (nI n) (tn (g 4)) + 1)) 11 _ i = g i
  rw [pB_2 _ _ h8, pk_un (by omega), pk_un (by omega)]
theorem onA_lo {g : Gs} (h : Inv g) {n i : Nat} (h8 : n < 8) (hi : lo i) : F_onA g (nI n) i = g i := by
  unfold F_onA
  split
  · exact drops_lo h8 hi
  · split
    · exact wishes_lo h h8 hi
    · rfl
theorem Inv_onA {g : Gs} (h : Inv g) {n : Nat} (hn : n < tn (g 5)) : Inv (F_onA g (nI n)) := by
  unfold F_onA
  split
  · exact Inv_drops h hn
  · split
    · exact Inv_wishes h hn
    · exact h
theorem onB_lo {g : Gs} {n i : Nat} (h8 : n < 8) (hi : lo i) : F_onB g (nI n) i = g i := by
  unfold F_onB
  split
  · exact finds_lo h8 hi
  · rfl
theorem Inv_onB {g : Gs} (h : Inv g) {n : Nat} (hn : n < tn (g 5)) : Inv (F_onB g (nI n)) := by
  unfold F_onB
  split
  · exact Inv_finds h hn (by assumption)
  · exact h
theorem onC_lo {g : Gs} {n i : Nat} (h8 : n < 8) (hi : i < 60 ∨ 140 ≤ i) : F_onC g (nI n) i = g i := by
  unfold F_onC
  rw [pB_3 _ _ h8, pk_un (by omega)]
theorem lo5 : lo 5 := Or.inl (by decide)
theorem lo4 : lo 4 := Or.inl (by decide)
theorem lo60 {i : Nat} (h : lo i) : i < 60 ∨ 140 ≤ i := by unfold lo at h; omega
theorem goesOn_lo {g : Gs} (h : Inv g) {n i : Nat} (hn : n < tn (g 5)) (hi : lo i) : F_goesOn g (nI n) i = g i := by
  have h5 := h.c5.1
  have h8 : n < 8 := by omega
  have h1 := Inv_sails h hn
  unfold F_goesOn
  rw [onC_lo h8 (lo60 hi), onB_lo h8 hi, onA_lo h1 h8 hi, sails_lo h8 (lo60 hi)]
theorem Inv_goesOn {g : Gs} (h : Inv g) {n : Nat} (hn : n < tn (g 5)) : Inv (F_goesOn g (nI n)) := by
  have h5 := h.c5.1
  have h8 : n < 8 := by omega
  have h1 := Inv_sails h hn
  have e1 : F_sails g (nI n) 5 = g 5 := sails_lo h8 (by omega)
  have h2 := Inv_onA h1 (n := n) (by rw [e1]; exact hn)
  have e2 : F_onA (F_sails g (nI n)) (nI n) 5 = g 5 := (onA_lo h1 h8 lo5).trans e1
  have h3 := Inv_onB h2 (n := n) (by rw [e2]; exact hn)
  have e3 := (onB_lo (g := F_onA (F_sails g (nI n)) (nI n)) h8 lo5).trans e2
  exact Inv_onC h3 (n := n) (by rw [e3]; exact hn)
theorem Inv_tickN {g : Gs} (h : Inv g) : ∀ n, n ≤ tn (g 5) → Inv (F_tickN g n) ∧ ∀ i, lo i → F_tickN g n i = g i
  | 0, _ => ⟨h.inc 1 (by omega), fun i hi => inc_at (by unfold lo at hi; omega)⟩
  | n + 1, hn => by
    obtain ⟨h1, h2⟩ := Inv_tickN h n (by omega)
    have e5 := h2 5 lo5
    rw [F_tickN]
    exact ⟨Inv_goesOn h1 (by rw [e5]; omega), fun i hi => (goesOn_lo h1 (by rw [e5]; omega) hi).trans (h2 i hi)⟩
theorem Inv_tick {g : Gs} (h : Inv g) : Inv (F_tick g) := (Inv_tickN h _ (Nat.le_refl _)).1
theorem tick_lo {g : Gs} (h : Inv g) {i : Nat} (hi : lo i) : F_tick g i = g i := (Inv_tickN h _ (Nat.le_refl _)).2 i hi
theorem Inv_ticks {g : Gs} (h : Inv g) : ∀ n, Inv (F_ticks g n) ∧ ∀ i, lo i → F_ticks g n i = g i
  | 0 => ⟨h, fun _ _ => rfl⟩
  | n + 1 => by
    obtain ⟨h1, h2⟩ := Inv_ticks h n
    exact ⟨Inv_tick h1, fun i hi => (tick_lo h1 hi).trans (h2 i hi)⟩
theorem Inv.hc4 {g : Gs} (h : Inv g) : 0 ≤ (g 4).toInt ∧ (g 4).toInt ≤ 6 := h.2.1.1
theorem Inv.hc5 {g : Gs} (h : Inv g) : 0 ≤ (g 5).toInt ∧ (g 5).toInt ≤ 8 := h.2.1.2
end
section
-- HOW ct_in fI
-- HOW ct_fails fI
-- HOW ct_of fI
-- HOW ct_ofBoat fI
-- HOW ct_layBoat fV
-- HOW ct_isLight fI
-- HOW ct_isBoat fI
-- HOW ct_isPlace fI
-- HOW ct_bright fI
-- HOW ct_worth fI
-- HOW ct_serves fI
-- HOW ct_best fI
-- HOW ct_sails fV
-- HOW ct_drops fV
-- HOW ct_wished fI
-- HOW ct_hands fV
-- HOW ct_wishes fV
-- HOW ct_finds fV
-- HOW ct_goesOn fV
-- HOW ct_goesTick fV
-- HOW ct_goesBy fI
/-! the reference: its tick, second part -/
def mtX6_wishes : Mt := (yX6_wishes, cX6_wishes, 4, none, 4, 96, 0, 0)
theorem kX6_wishes_0 : Dk mtX6_wishes 0 (.aload_n 0) 1 1 := ⟨by decide +kernel, rfl⟩
theorem kX6_wishes_1 : Dk mtX6_wishes 1 (.iload_n 1) 1 2 := ⟨by decide +kernel, rfl⟩
theorem kX6_wishes_2 : Dk mtX6_wishes 2 (.invokevirtual 67) 3 5 := ⟨by decide +kernel, rfl⟩
theorem kX6_wishes_5 : Dk mtX6_wishes 5 (.istore_n 2) 1 6 := ⟨by decide +kernel, rfl⟩
theorem kX6_wishes_6 : Dk mtX6_wishes 6 (.iload_n 2) 1 7 := ⟨by decide +kernel, rfl⟩
theorem kX6_wishes_7 : Dk mtX6_wishes 7 (.iconst (-1)) 1 8 := ⟨by decide +kernel, rfl⟩
theorem kX6_wishes_8 : Dk mtX6_wishes 8 (.if_icmp .ne 7) 3 11 := ⟨by decide +kernel, rfl⟩
theorem kX6_wishes_11 : Dk mtX6_wishes 11 (.iconst 0) 1 12 := ⟨by decide +kernel, rfl⟩
theorem kX6_wishes_12 : Dk mtX6_wishes 12 (.goto 27) 3 15 := ⟨by decide +kernel, rfl⟩
theorem kX6_wishes_15 : Dk mtX6_wishes 15 (.iload_n 2) 1 16 := ⟨by decide +kernel, rfl⟩
theorem kX6_wishes_16 : Dk mtX6_wishes 16 (.iconst 1) 1 17 := ⟨by decide +kernel, rfl⟩
theorem kX6_wishes_17 : Dk mtX6_wishes 17 (.iadd) 1 18 := ⟨by decide +kernel, rfl⟩
theorem kX6_wishes_18 : Dk mtX6_wishes 18 (.aload_n 0) 1 19 := ⟨by decide +kernel, rfl⟩
theorem kX6_wishes_19 : Dk mtX6_wishes 19 (.iload_n 1) 1 20 := ⟨by decide +kernel, rfl⟩
theorem kX6_wishes_20 : Dk mtX6_wishes 20 (.iconst 4) 1 21 := ⟨by decide +kernel, rfl⟩
theorem kX6_wishes_21 : Dk mtX6_wishes 21 (.invokevirtual 53) 3 24 := ⟨by decide +kernel, rfl⟩
theorem kX6_wishes_24 : Dk mtX6_wishes 24 (.if_icmp .ne 14) 3 27 := ⟨by decide +kernel, rfl⟩
theorem kX6_wishes_27 : Dk mtX6_wishes 27 (.aload_n 0) 1 28 := ⟨by decide +kernel, rfl⟩
theorem kX6_wishes_28 : Dk mtX6_wishes 28 (.iload_n 1) 1 29 := ⟨by decide +kernel, rfl⟩
theorem kX6_wishes_29 : Dk mtX6_wishes 29 (.iconst 5) 1 30 := ⟨by decide +kernel, rfl⟩
theorem kX6_wishes_30 : Dk mtX6_wishes 30 (.invokevirtual 53) 3 33 := ⟨by decide +kernel, rfl⟩
theorem kX6_wishes_33 : Dk mtX6_wishes 33 (.iconst 1) 1 34 := ⟨by decide +kernel, rfl⟩
theorem kX6_wishes_34 : Dk mtX6_wishes 34 (.iadd) 1 35 := ⟨by decide +kernel, rfl⟩
theorem kX6_wishes_35 : Dk mtX6_wishes 35 (.goto 4) 3 38 := ⟨by decide +kernel, rfl⟩
theorem kX6_wishes_38 : Dk mtX6_wishes 38 (.iconst 1) 1 39 := ⟨by decide +kernel, rfl⟩
theorem kX6_wishes_39 : Dk mtX6_wishes 39 (.istore_n 3) 1 40 := ⟨by decide +kernel, rfl⟩
theorem kX6_wishes_40 : Dk mtX6_wishes 40 (.aload_n 0) 1 41 := ⟨by decide +kernel, rfl⟩
theorem kX6_wishes_41 : Dk mtX6_wishes 41 (.iload_n 1) 1 42 := ⟨by decide +kernel, rfl⟩
theorem kX6_wishes_42 : Dk mtX6_wishes 42 (.iconst 4) 1 43 := ⟨by decide +kernel, rfl⟩
theorem kX6_wishes_43 : Dk mtX6_wishes 43 (.iload_n 2) 1 44 := ⟨by decide +kernel, rfl⟩
theorem kX6_wishes_44 : Dk mtX6_wishes 44 (.iconst 1) 1 45 := ⟨by decide +kernel, rfl⟩
theorem kX6_wishes_45 : Dk mtX6_wishes 45 (.iadd) 1 46 := ⟨by decide +kernel, rfl⟩
theorem kX6_wishes_46 : Dk mtX6_wishes 46 (.invokevirtual 63) 3 49 := ⟨by decide +kernel, rfl⟩
theorem kX6_wishes_49 : Dk mtX6_wishes 49 (.aload_n 0) 1 50 := ⟨by decide +kernel, rfl⟩
theorem kX6_wishes_50 : Dk mtX6_wishes 50 (.iload_n 1) 1 51 := ⟨by decide +kernel, rfl⟩
theorem kX6_wishes_51 : Dk mtX6_wishes 51 (.iconst 5) 1 52 := ⟨by decide +kernel, rfl⟩
theorem kX6_wishes_52 : Dk mtX6_wishes 52 (.iload_n 3) 1 53 := ⟨by decide +kernel, rfl⟩
theorem kX6_wishes_53 : Dk mtX6_wishes 53 (.invokevirtual 63) 3 56 := ⟨by decide +kernel, rfl⟩
theorem kX6_wishes_56 : Dk mtX6_wishes 56 (.iload_n 2) 1 57 := ⟨by decide +kernel, rfl⟩
theorem kX6_wishes_57 : Dk mtX6_wishes 57 (.iconst (-1)) 1 58 := ⟨by decide +kernel, rfl⟩
theorem kX6_wishes_58 : Dk mtX6_wishes 58 (.if_icmp .eq 13) 3 61 := ⟨by decide +kernel, rfl⟩
theorem kX6_wishes_61 : Dk mtX6_wishes 61 (.iload_n 3) 1 62 := ⟨by decide +kernel, rfl⟩
theorem kX6_wishes_62 : Dk mtX6_wishes 62 (.aload_n 0) 1 63 := ⟨by decide +kernel, rfl⟩
theorem kX6_wishes_63 : Dk mtX6_wishes 63 (.getfield 7) 3 66 := ⟨by decide +kernel, rfl⟩
theorem kX6_wishes_66 : Dk mtX6_wishes 66 (.iconst 1) 1 67 := ⟨by decide +kernel, rfl⟩
theorem kX6_wishes_67 : Dk mtX6_wishes 67 (.iaload) 1 68 := ⟨by decide +kernel, rfl⟩
theorem kX6_wishes_68 : Dk mtX6_wishes 68 (.if_icmp .ge 4) 3 71 := ⟨by decide +kernel, rfl⟩
theorem kX6_wishes_71 : Dk mtX6_wishes 71 (.return_) 1 72 := ⟨by decide +kernel, rfl⟩
theorem kX6_wishes_72 : Dk mtX6_wishes 72 (.aload_n 0) 1 73 := ⟨by decide +kernel, rfl⟩
theorem kX6_wishes_73 : Dk mtX6_wishes 73 (.iload_n 2) 1 74 := ⟨by decide +kernel, rfl⟩
theorem kX6_wishes_74 : Dk mtX6_wishes 74 (.invokevirtual 71) 3 77 := ⟨by decide +kernel, rfl⟩
theorem kX6_wishes_77 : Dk mtX6_wishes 77 (.aload_n 0) 1 78 := ⟨by decide +kernel, rfl⟩
theorem kX6_wishes_78 : Dk mtX6_wishes 78 (.iload_n 2) 1 79 := ⟨by decide +kernel, rfl⟩
theorem kX6_wishes_79 : Dk mtX6_wishes 79 (.iconst 4) 1 80 := ⟨by decide +kernel, rfl⟩
theorem kX6_wishes_80 : Dk mtX6_wishes 80 (.invokevirtual 46) 3 83 := ⟨by decide +kernel, rfl⟩
theorem kX6_wishes_83 : Dk mtX6_wishes 83 (.if_icmp .ne 17) 3 86 := ⟨by decide +kernel, rfl⟩
theorem kX6_wishes_86 : Dk mtX6_wishes 86 (.aload_n 0) 1 87 := ⟨by decide +kernel, rfl⟩
theorem kX6_wishes_87 : Dk mtX6_wishes 87 (.getfield 7) 3 90 := ⟨by decide +kernel, rfl⟩
theorem kX6_wishes_90 : Dk mtX6_wishes 90 (.bipush 9) 2 92 := ⟨by decide +kernel, rfl⟩
theorem kX6_wishes_92 : Dk mtX6_wishes 92 (.dup2) 1 93 := ⟨by decide +kernel, rfl⟩
theorem kX6_wishes_93 : Dk mtX6_wishes 93 (.iaload) 1 94 := ⟨by decide +kernel, rfl⟩
theorem kX6_wishes_94 : Dk mtX6_wishes 94 (.iconst 1) 1 95 := ⟨by decide +kernel, rfl⟩
theorem kX6_wishes_95 : Dk mtX6_wishes 95 (.iadd) 1 96 := ⟨by decide +kernel, rfl⟩
theorem kX6_wishes_96 : Dk mtX6_wishes 96 (.iastore) 1 97 := ⟨by decide +kernel, rfl⟩
theorem kX6_wishes_97 : Dk mtX6_wishes 97 (.goto 9) 3 100 := ⟨by decide +kernel, rfl⟩
theorem kX6_wishes_100 : Dk mtX6_wishes 100 (.aload_n 0) 1 101 := ⟨by decide +kernel, rfl⟩
theorem kX6_wishes_101 : Dk mtX6_wishes 101 (.iload_n 1) 1 102 := ⟨by decide +kernel, rfl⟩
theorem kX6_wishes_102 : Dk mtX6_wishes 102 (.iload_n 2) 1 103 := ⟨by decide +kernel, rfl⟩
theorem kX6_wishes_103 : Dk mtX6_wishes 103 (.invokevirtual 74) 3 106 := ⟨by decide +kernel, rfl⟩
theorem kX6_wishes_106 : Dk mtX6_wishes 106 (.return_) 1 107 := ⟨by decide +kernel, rfl⟩
theorem lmX6_67 : LkM RX6 67 mtX6_wished := Or.inl (by decide +kernel)
theorem mkX6_wished : MkV mtX6_wished 1 := ⟨List.mem_of_getElem? (i := 1209) (by decide +kernel), by decide +kernel, by decide +kernel, by decide +kernel, ⟨by decide +kernel, by decide +kernel, by decide +kernel⟩⟩
theorem lmX6_71 : LkM RX6 71 mtX6_serves := Or.inl (by decide +kernel)
theorem mkX6_serves : MkV mtX6_serves 1 := ⟨List.mem_of_getElem? (i := 1217) (by decide +kernel), by decide +kernel, by decide +kernel, by decide +kernel, ⟨by decide +kernel, by decide +kernel, by decide +kernel⟩⟩
theorem lmX6_74 : LkM RX6 74 mtX6_hands := Or.inl (by decide +kernel)
theorem mkX6_hands : MkV mtX6_hands 2 := ⟨List.mem_of_getElem? (i := 1221) (by decide +kernel), by decide +kernel, by decide +kernel, by decide +kernel, ⟨by decide +kernel, by decide +kernel, by decide +kernel⟩⟩
set_option maxHeartbeats 4000000 in
set_option maxRecDepth 100000 in
theorem ct_wishes {l : Launch} {w : Wd} {sg : Sg} (hWr : Wr w) {mo n : Nat} (hI : Inv (sg (mo + 1))) (hn : n < tn (sg (mo + 1) 5)) (hby : ∃ j, j < tn (sg (mo + 1) 4) ∧ gB (sg (mo + 1)) (nI n) 2 - 1 = nI j) : M l mtX6_wishes w [vR (some (6, 0, mo)), vI (nI n)] sg (fV0 (upr sg (mo + 1) (F_wishes (sg (mo + 1)) (nI n)))) := by
  refine M_of [some (vR (some (6, 0, mo))), some (vI (nI n)), none, none] rfl (Nat.le_of_ble_eq_true rfl) (by decide +kernel) ?_
  intro p_ e_ s_ m_ args_ below_ meth_ c_ hC hO
  have h8 : n < 8 := by have := hI.c5.1; omega
  have hv8 : vp_in (nI n) 8 := vp_in_nI h8 (by decide)
  refine V_aload_n hC kX6_wishes_0 rfl ?_
  refine V_iload_n hC kX6_wishes_1 rfl ?_
  refine V_cV_fI hC (ct_wished hWr (nI n) hv8 hI.hc4 (fun j hj => hI.ne hj) hby) mkX6_wished lmX6_67 kX6_wishes_2 (Nat.le_of_ble_eq_true rfl) rfl rfl rfl (Nat.le_of_ble_eq_true rfl) ⟨(Nat.le_of_ble_eq_true rfl), (Nat.le_of_ble_eq_true rfl)⟩ ⟨rfl, rfl⟩ ⟨(Nat.le_of_ble_eq_true rfl), (Nat.le_of_ble_eq_true rfl)⟩ ?_
  refine V_nameI (fun wi e_wi => ?_)
  refine V_istore_n hC [some _, some _, some _, none] kX6_wishes_5 rfl (Nat.le_of_ble_eq_true rfl) ?_
  refine V_join 39 (F_wticks (sg (mo + 1)) (nI n) wi) ?_ (fun j39 => ?_)
  · refine V_nameI (fun tk e_tk => ?_)
    refine V_istore_n hC [some _, some _, some _, some _] kX6_wishes_39 rfl (Nat.le_of_ble_eq_true rfl) ?_
    refine V_aload_n hC kX6_wishes_40 rfl ?_
    refine V_iload_n hC kX6_wishes_41 rfl ?_
    refine V_iconst hC (4) kX6_wishes_42 (by decide) ?_
    refine V_iload_n hC kX6_wishes_43 rfl ?_
    refine V_iconst hC (1) kX6_wishes_44 (by decide) ?_
    refine V_iadd hC kX6_wishes_45 ?_
    refine V_cV_fV hC (ct_layBoat hWr (nI n) 4 _ hv8 (vp_lit rfl)) mkX6_layBoat lmX6_63 kX6_wishes_46 (Nat.le_of_ble_eq_true rfl) rfl rfl rfl (Nat.le_of_ble_eq_true rfl) ⟨(Nat.le_of_ble_eq_true rfl), (Nat.le_of_ble_eq_true rfl)⟩ ⟨rfl, rfl⟩ ⟨(Nat.le_of_ble_eq_true rfl), (Nat.le_of_ble_eq_true rfl)⟩ ?_
    refine V_aload_n hC kX6_wishes_49 rfl ?_
    refine V_iload_n hC kX6_wishes_50 rfl ?_
    refine V_iconst hC (5) kX6_wishes_51 (by decide) ?_
    refine V_iload_n hC kX6_wishes_52 rfl ?_
    refine V_cV_fV hC (ct_layBoat hWr (nI n) 5 _ hv8 (vp_lit rfl)) mkX6_layBoat lmX6_63 kX6_wishes_53 (Nat.le_of_ble_eq_true rfl) rfl rfl rfl (Nat.le_of_ble_eq_true rfl) ⟨(Nat.le_of_ble_eq_true rfl), (Nat.le_of_ble_eq_true rfl)⟩ ⟨rfl, rfl⟩ ⟨(Nat.le_of_ble_eq_true rfl), (Nat.le_of_ble_eq_true rfl)⟩ ?_
    refine V_canon (upr sg (mo + 1) (F_wishA (sg (mo + 1)) (nI n))) (by subst e_tk e_wi; simp only [upr_upr, upr_at, F_wishA]) ?_
    refine V_iload_n hC kX6_wishes_56 rfl ?_
    refine V_iconst hC (-1) kX6_wishes_57 (by decide) ?_
    refine V_icmp_eq hC 71 kX6_wishes_58 (by decide) (fun h58 => ?_) (fun h58 => ?_)
    · refine V_vret hC rfl kX6_wishes_71 ?_
      refine ⟨by with_reducible rfl, ?_⟩
      subst e_tk e_wi
      try simp only [upr_upr, upr_at, ups]
      unfold F_wishes
      first
        | (rw [if_pos (Or.inl h58)]; done)
        | (rw [if_pos (Or.inr (by rw [upr_at] at h68; exact Int32.not_le.mp h68))]; done)
        | (rw [if_neg (fun z => z.elim h58 (fun z => absurd z (Int32.not_lt.mpr (by rw [upr_at] at h68; exact h68)))), if_pos (by rw [upr_at] at h83; exact h83)]; unfold F_inc; with_reducible rfl)
        | (rw [if_neg (fun z => z.elim h58 (fun z => absurd z (Int32.not_lt.mpr (by rw [upr_at] at h68; exact h68)))), if_neg (by rw [upr_at] at h83; exact h83)])
    · refine V_iload_n hC kX6_wishes_61 rfl ?_
      refine V_aload_n hC kX6_wishes_62 rfl ?_
      refine V_getR hC hWr 6 1 lfX6_7 kX6_wishes_63 (Nat.le_of_ble_eq_true rfl) (Nat.le_of_ble_eq_true rfl) rfl ?_
      refine V_iconst hC (1) kX6_wishes_66 (by decide) ?_
      refine V_iald hC 1 rfl kX6_wishes_67 (vp_lit rfl) ?_
      refine V_icmp_ge hC 72 kX6_wishes_68 (by decide) (fun h68 => ?_) (fun h68 => ?_)
      · obtain ⟨jw, hjw, ejw⟩ : ∃ j, j < tn (sg (mo + 1) 4) ∧ wi = nI j := by
          rcases F_wishedN_in (sg (mo + 1)) (nI n) (tn (sg (mo + 1) 4)) with z | ⟨j, h1, h2⟩
          · exact absurd (e_wi.trans z) h58
          · exact ⟨j, h1, e_wi.trans h2⟩
        have hw6 : vp_in wi 6 := by rw [ejw]; exact vp_in_nI (by have := hI.c4.1; omega) (by decide)
        refine V_aload_n hC kX6_wishes_72 rfl ?_
        refine V_iload_n hC kX6_wishes_73 rfl ?_
        refine V_cV_fI hC (ct_serves hWr wi (by rw [upr_at, wishA_c h8 (Or.inl (by decide))]; exact hI.hc5)) mkX6_serves lmX6_71 kX6_wishes_74 (Nat.le_of_ble_eq_true rfl) rfl rfl rfl (Nat.le_of_ble_eq_true rfl) ⟨(Nat.le_of_ble_eq_true rfl), (Nat.le_of_ble_eq_true rfl)⟩ ⟨rfl, rfl⟩ ⟨(Nat.le_of_ble_eq_true rfl), (Nat.le_of_ble_eq_true rfl)⟩ ?_
        refine V_aload_n hC kX6_wishes_77 rfl ?_
        refine V_iload_n hC kX6_wishes_78 rfl ?_
        refine V_iconst hC (4) kX6_wishes_79 (by decide) ?_
        refine V_cV_fI hC (ct_of hWr wi 4 hw6 (vp_lit rfl)) mkX6_of lmX6_46 kX6_wishes_80 (Nat.le_of_ble_eq_true rfl) rfl rfl rfl (Nat.le_of_ble_eq_true rfl) ⟨(Nat.le_of_ble_eq_true rfl), (Nat.le_of_ble_eq_true rfl)⟩ ⟨rfl, rfl⟩ ⟨(Nat.le_of_ble_eq_true rfl), (Nat.le_of_ble_eq_true rfl)⟩ ?_
        refine V_icmp_ne hC 100 kX6_wishes_83 (by decide) (fun h83 => ?_) (fun h83 => ?_)
        · refine V_aload_n hC kX6_wishes_100 rfl ?_
          refine V_iload_n hC kX6_wishes_101 rfl ?_
          refine V_iload_n hC kX6_wishes_102 rfl ?_
          refine V_cV_fV hC (ct_hands hWr (nI n) wi hv8 hw6) mkX6_hands lmX6_74 kX6_wishes_103 (Nat.le_of_ble_eq_true rfl) rfl rfl rfl (Nat.le_of_ble_eq_true rfl) ⟨(Nat.le_of_ble_eq_true rfl), (Nat.le_of_ble_eq_true rfl)⟩ ⟨rfl, rfl⟩ ⟨(Nat.le_of_ble_eq_true rfl), (Nat.le_of_ble_eq_true rfl)⟩ ?_
          refine V_vret hC rfl kX6_wishes_106 ?_
          refine ⟨by with_reducible rfl, ?_⟩
          subst e_tk e_wi
          try simp only [upr_upr, upr_at, ups]
          unfold F_wishes
          first
            | (rw [if_pos (Or.inl h58)]; done)
            | (rw [if_pos (Or.inr (by rw [upr_at] at h68; exact Int32.not_le.mp h68))]; done)
            | (rw [if_neg (fun z => z.elim h58 (fun z => absurd z (Int32.not_lt.mpr (by rw [upr_at] at h68; exact h68)))), if_pos (by rw [upr_at] at h83; exact h83)]; unfold F_inc; with_reducible rfl)
            | (rw [if_neg (fun z => z.elim h58 (fun z => absurd z (Int32.not_lt.mpr (by rw [upr_at] at h68; exact h68)))), if_neg (by rw [upr_at] at h83; exact h83)])
        · refine V_aload_n hC kX6_wishes_86 rfl ?_
          refine V_getR hC hWr 6 1 lfX6_7 kX6_wishes_87 (Nat.le_of_ble_eq_true rfl) (Nat.le_of_ble_eq_true rfl) rfl ?_
          refine V_bipush hC (9) kX6_wishes_90 (by decide) ?_
          refine V_dup2 hC kX6_wishes_92 rfl rfl ?_
          refine V_iald hC 9 rfl kX6_wishes_93 (vp_lit rfl) ?_
          refine V_iconst hC (1) kX6_wishes_94 (by decide) ?_
          refine V_iadd hC kX6_wishes_95 ?_
          refine V_iast hC 9 rfl kX6_wishes_96 (vp_lit rfl) ?_
          refine V_goto hC 106 kX6_wishes_97 (by decide) ?_
          refine V_vret hC rfl kX6_wishes_106 ?_
          refine ⟨by with_reducible rfl, ?_⟩
          subst e_tk e_wi
          try simp only [upr_upr, upr_at, ups]
          unfold F_wishes
          first
            | (rw [if_pos (Or.inl h58)]; done)
            | (rw [if_pos (Or.inr (by rw [upr_at] at h68; exact Int32.not_le.mp h68))]; done)
            | (rw [if_neg (fun z => z.elim h58 (fun z => absurd z (Int32.not_lt.mpr (by rw [upr_at] at h68; exact h68)))), if_pos (by rw [upr_at] at h83; exact h83)]; unfold F_inc; with_reducible rfl)
            | (rw [if_neg (fun z => z.elim h58 (fun z => absurd z (Int32.not_lt.mpr (by rw [upr_at] at h68; exact h68)))), if_neg (by rw [upr_at] at h83; exact h83)])
      · refine V_vret hC rfl kX6_wishes_71 ?_
        refine ⟨by with_reducible rfl, ?_⟩
        subst e_tk e_wi
        try simp only [upr_upr, upr_at, ups]
        unfold F_wishes
        first
          | (rw [if_pos (Or.inl h58)]; done)
          | (rw [if_pos (Or.inr (by rw [upr_at] at h68; exact Int32.not_le.mp h68))]; done)
          | (rw [if_neg (fun z => z.elim h58 (fun z => absurd z (Int32.not_lt.mpr (by rw [upr_at] at h68; exact h68)))), if_pos (by rw [upr_at] at h83; exact h83)]; unfold F_inc; with_reducible rfl)
          | (rw [if_neg (fun z => z.elim h58 (fun z => absurd z (Int32.not_lt.mpr (by rw [upr_at] at h68; exact h68)))), if_neg (by rw [upr_at] at h83; exact h83)])
  · refine V_iload_n hC kX6_wishes_6 rfl ?_
    refine V_iconst hC (-1) kX6_wishes_7 (by decide) ?_
    refine V_icmp_ne hC 15 kX6_wishes_8 (by decide) (fun h8 => ?_) (fun h8 => ?_)
    · refine V_iload_n hC kX6_wishes_15 rfl ?_
      refine V_iconst hC (1) kX6_wishes_16 (by decide) ?_
      refine V_iadd hC kX6_wishes_17 ?_
      refine V_aload_n hC kX6_wishes_18 rfl ?_
      refine V_iload_n hC kX6_wishes_19 rfl ?_
      refine V_iconst hC (4) kX6_wishes_20 (by decide) ?_
      refine V_cV_fI hC (ct_ofBoat hWr (nI n) 4 hv8 (vp_lit rfl)) mkX6_ofBoat lmX6_53 kX6_wishes_21 (Nat.le_of_ble_eq_true rfl) rfl rfl rfl (Nat.le_of_ble_eq_true rfl) ⟨(Nat.le_of_ble_eq_true rfl), (Nat.le_of_ble_eq_true rfl)⟩ ⟨rfl, rfl⟩ ⟨(Nat.le_of_ble_eq_true rfl), (Nat.le_of_ble_eq_true rfl)⟩ ?_
      refine V_icmp_ne hC 38 kX6_wishes_24 (by decide) (fun h24 => ?_) (fun h24 => ?_)
      · refine V_iconst hC (1) kX6_wishes_38 (by decide) ?_
        exact j39 _ ((by rw [F_wticks, if_neg h8, if_neg h24]))
      · refine V_aload_n hC kX6_wishes_27 rfl ?_
        refine V_iload_n hC kX6_wishes_28 rfl ?_
        refine V_iconst hC (5) kX6_wishes_29 (by decide) ?_
        refine V_cV_fI hC (ct_ofBoat hWr (nI n) 5 hv8 (vp_lit rfl)) mkX6_ofBoat lmX6_53 kX6_wishes_30 (Nat.le_of_ble_eq_true rfl) rfl rfl rfl (Nat.le_of_ble_eq_true rfl) ⟨(Nat.le_of_ble_eq_true rfl), (Nat.le_of_ble_eq_true rfl)⟩ ⟨rfl, rfl⟩ ⟨(Nat.le_of_ble_eq_true rfl), (Nat.le_of_ble_eq_true rfl)⟩ ?_
        refine V_iconst hC (1) kX6_wishes_33 (by decide) ?_
        refine V_iadd hC kX6_wishes_34 ?_
        refine V_goto hC 39 kX6_wishes_35 (by decide) ?_
        exact j39 _ ((by rw [F_wticks, if_neg h8, if_pos h24]))
    · refine V_iconst hC (0) kX6_wishes_11 (by decide) ?_
      refine V_goto hC 39 kX6_wishes_12 (by decide) ?_
      exact j39 _ ((by rw [F_wticks, if_pos h8]))
def mtX6_finds : Mt := (yX6_finds, cX6_finds, 6, none, 3, 70, 0, 0)
theorem kX6_finds_0 : Dk mtX6_finds 0 (.aload_n 0) 1 1 := ⟨by decide +kernel, rfl⟩
theorem kX6_finds_1 : Dk mtX6_finds 1 (.iload_n 1) 1 2 := ⟨by decide +kernel, rfl⟩
theorem kX6_finds_2 : Dk mtX6_finds 2 (.iconst 0) 1 3 := ⟨by decide +kernel, rfl⟩
theorem kX6_finds_3 : Dk mtX6_finds 3 (.invokevirtual 53) 3 6 := ⟨by decide +kernel, rfl⟩
theorem kX6_finds_6 : Dk mtX6_finds 6 (.istore_n 2) 1 7 := ⟨by decide +kernel, rfl⟩
theorem kX6_finds_7 : Dk mtX6_finds 7 (.iconst (-1)) 1 8 := ⟨by decide +kernel, rfl⟩
theorem kX6_finds_8 : Dk mtX6_finds 8 (.istore_n 3) 1 9 := ⟨by decide +kernel, rfl⟩
theorem kX6_finds_9 : Dk mtX6_finds 9 (.iconst 0) 1 10 := ⟨by decide +kernel, rfl⟩
theorem kX6_finds_10 : Dk mtX6_finds 10 (.istore 4) 2 12 := ⟨by decide +kernel, rfl⟩
theorem kX6_finds_12 : Dk mtX6_finds 12 (.iload 4) 2 14 := ⟨by decide +kernel, rfl⟩
theorem kX6_finds_14 : Dk mtX6_finds 14 (.aload_n 0) 1 15 := ⟨by decide +kernel, rfl⟩
theorem kX6_finds_15 : Dk mtX6_finds 15 (.getfield 7) 3 18 := ⟨by decide +kernel, rfl⟩
theorem kX6_finds_18 : Dk mtX6_finds 18 (.iconst 4) 1 19 := ⟨by decide +kernel, rfl⟩
theorem kX6_finds_19 : Dk mtX6_finds 19 (.iaload) 1 20 := ⟨by decide +kernel, rfl⟩
theorem kX6_finds_20 : Dk mtX6_finds 20 (.if_icmp .ge 89) 3 23 := ⟨by decide +kernel, rfl⟩
theorem kX6_finds_23 : Dk mtX6_finds 23 (.aload_n 0) 1 24 := ⟨by decide +kernel, rfl⟩
theorem kX6_finds_24 : Dk mtX6_finds 24 (.iload 4) 2 26 := ⟨by decide +kernel, rfl⟩
theorem kX6_finds_26 : Dk mtX6_finds 26 (.iload_n 2) 1 27 := ⟨by decide +kernel, rfl⟩
theorem kX6_finds_27 : Dk mtX6_finds 27 (.invokevirtual 50) 3 30 := ⟨by decide +kernel, rfl⟩
theorem kX6_finds_30 : Dk mtX6_finds 30 (.aload_n 0) 1 31 := ⟨by decide +kernel, rfl⟩
theorem kX6_finds_31 : Dk mtX6_finds 31 (.getfield 7) 3 34 := ⟨by decide +kernel, rfl⟩
theorem kX6_finds_34 : Dk mtX6_finds 34 (.iconst 2) 1 35 := ⟨by decide +kernel, rfl⟩
theorem kX6_finds_35 : Dk mtX6_finds 35 (.iaload) 1 36 := ⟨by decide +kernel, rfl⟩
theorem kX6_finds_36 : Dk mtX6_finds 36 (.if_icmp .lt 31) 3 39 := ⟨by decide +kernel, rfl⟩
theorem kX6_finds_39 : Dk mtX6_finds 39 (.aload_n 0) 1 40 := ⟨by decide +kernel, rfl⟩
theorem kX6_finds_40 : Dk mtX6_finds 40 (.iload 4) 2 42 := ⟨by decide +kernel, rfl⟩
theorem kX6_finds_42 : Dk mtX6_finds 42 (.invokevirtual 71) 3 45 := ⟨by decide +kernel, rfl⟩
theorem kX6_finds_45 : Dk mtX6_finds 45 (.aload_n 0) 1 46 := ⟨by decide +kernel, rfl⟩
theorem kX6_finds_46 : Dk mtX6_finds 46 (.iload 4) 2 48 := ⟨by decide +kernel, rfl⟩
theorem kX6_finds_48 : Dk mtX6_finds 48 (.iconst 4) 1 49 := ⟨by decide +kernel, rfl⟩
theorem kX6_finds_49 : Dk mtX6_finds 49 (.invokevirtual 46) 3 52 := ⟨by decide +kernel, rfl⟩
theorem kX6_finds_52 : Dk mtX6_finds 52 (.aload_n 0) 1 53 := ⟨by decide +kernel, rfl⟩
theorem kX6_finds_53 : Dk mtX6_finds 53 (.iload 4) 2 55 := ⟨by decide +kernel, rfl⟩
theorem kX6_finds_55 : Dk mtX6_finds 55 (.iconst 5) 1 56 := ⟨by decide +kernel, rfl⟩
theorem kX6_finds_56 : Dk mtX6_finds 56 (.invokevirtual 46) 3 59 := ⟨by decide +kernel, rfl⟩
theorem kX6_finds_59 : Dk mtX6_finds 59 (.isub) 1 60 := ⟨by decide +kernel, rfl⟩
theorem kX6_finds_60 : Dk mtX6_finds 60 (.if_icmp .ge 7) 3 63 := ⟨by decide +kernel, rfl⟩
theorem kX6_finds_63 : Dk mtX6_finds 63 (.iconst 1) 1 64 := ⟨by decide +kernel, rfl⟩
theorem kX6_finds_64 : Dk mtX6_finds 64 (.goto 4) 3 67 := ⟨by decide +kernel, rfl⟩
theorem kX6_finds_67 : Dk mtX6_finds 67 (.iconst 0) 1 68 := ⟨by decide +kernel, rfl⟩
theorem kX6_finds_68 : Dk mtX6_finds 68 (.istore 5) 2 70 := ⟨by decide +kernel, rfl⟩
theorem kX6_finds_70 : Dk mtX6_finds 70 (.iload 5) 2 72 := ⟨by decide +kernel, rfl⟩
theorem kX6_finds_72 : Dk mtX6_finds 72 (.ifCond .eq 29) 3 75 := ⟨by decide +kernel, rfl⟩
theorem kX6_finds_75 : Dk mtX6_finds 75 (.iload_n 3) 1 76 := ⟨by decide +kernel, rfl⟩
theorem kX6_finds_76 : Dk mtX6_finds 76 (.iconst (-1)) 1 77 := ⟨by decide +kernel, rfl⟩
theorem kX6_finds_77 : Dk mtX6_finds 77 (.if_icmp .eq 19) 3 80 := ⟨by decide +kernel, rfl⟩
theorem kX6_finds_80 : Dk mtX6_finds 80 (.aload_n 0) 1 81 := ⟨by decide +kernel, rfl⟩
theorem kX6_finds_81 : Dk mtX6_finds 81 (.iload 4) 2 83 := ⟨by decide +kernel, rfl⟩
theorem kX6_finds_83 : Dk mtX6_finds 83 (.iload_n 2) 1 84 := ⟨by decide +kernel, rfl⟩
theorem kX6_finds_84 : Dk mtX6_finds 84 (.invokevirtual 56) 3 87 := ⟨by decide +kernel, rfl⟩
theorem kX6_finds_87 : Dk mtX6_finds 87 (.aload_n 0) 1 88 := ⟨by decide +kernel, rfl⟩
theorem kX6_finds_88 : Dk mtX6_finds 88 (.iload_n 3) 1 89 := ⟨by decide +kernel, rfl⟩
theorem kX6_finds_89 : Dk mtX6_finds 89 (.iload_n 2) 1 90 := ⟨by decide +kernel, rfl⟩
theorem kX6_finds_90 : Dk mtX6_finds 90 (.invokevirtual 56) 3 93 := ⟨by decide +kernel, rfl⟩
theorem kX6_finds_93 : Dk mtX6_finds 93 (.if_icmp .le 8) 3 96 := ⟨by decide +kernel, rfl⟩
theorem kX6_finds_96 : Dk mtX6_finds 96 (.iload 4) 2 98 := ⟨by decide +kernel, rfl⟩
theorem kX6_finds_98 : Dk mtX6_finds 98 (.goto 4) 3 101 := ⟨by decide +kernel, rfl⟩
theorem kX6_finds_101 : Dk mtX6_finds 101 (.iload_n 3) 1 102 := ⟨by decide +kernel, rfl⟩
theorem kX6_finds_102 : Dk mtX6_finds 102 (.istore_n 3) 1 103 := ⟨by decide +kernel, rfl⟩
theorem kX6_finds_103 : Dk mtX6_finds 103 (.iinc 4 1) 3 106 := ⟨by decide +kernel, rfl⟩
theorem kX6_finds_106 : Dk mtX6_finds 106 (.goto (-94)) 3 109 := ⟨by decide +kernel, rfl⟩
theorem kX6_finds_109 : Dk mtX6_finds 109 (.aload_n 0) 1 110 := ⟨by decide +kernel, rfl⟩
theorem kX6_finds_110 : Dk mtX6_finds 110 (.iload_n 1) 1 111 := ⟨by decide +kernel, rfl⟩
theorem kX6_finds_111 : Dk mtX6_finds 111 (.iconst 2) 1 112 := ⟨by decide +kernel, rfl⟩
theorem kX6_finds_112 : Dk mtX6_finds 112 (.iload_n 3) 1 113 := ⟨by decide +kernel, rfl⟩
theorem kX6_finds_113 : Dk mtX6_finds 113 (.iconst 1) 1 114 := ⟨by decide +kernel, rfl⟩
theorem kX6_finds_114 : Dk mtX6_finds 114 (.iadd) 1 115 := ⟨by decide +kernel, rfl⟩
theorem kX6_finds_115 : Dk mtX6_finds 115 (.invokevirtual 63) 3 118 := ⟨by decide +kernel, rfl⟩
theorem kX6_finds_118 : Dk mtX6_finds 118 (.aload_n 0) 1 119 := ⟨by decide +kernel, rfl⟩
theorem kX6_finds_119 : Dk mtX6_finds 119 (.getfield 7) 3 122 := ⟨by decide +kernel, rfl⟩
theorem kX6_finds_122 : Dk mtX6_finds 122 (.bipush 11) 2 124 := ⟨by decide +kernel, rfl⟩
theorem kX6_finds_124 : Dk mtX6_finds 124 (.dup2) 1 125 := ⟨by decide +kernel, rfl⟩
theorem kX6_finds_125 : Dk mtX6_finds 125 (.iaload) 1 126 := ⟨by decide +kernel, rfl⟩
theorem kX6_finds_126 : Dk mtX6_finds 126 (.iload_n 3) 1 127 := ⟨by decide +kernel, rfl⟩
theorem kX6_finds_127 : Dk mtX6_finds 127 (.iconst (-1)) 1 128 := ⟨by decide +kernel, rfl⟩
theorem kX6_finds_128 : Dk mtX6_finds 128 (.if_icmp .ne 7) 3 131 := ⟨by decide +kernel, rfl⟩
theorem kX6_finds_131 : Dk mtX6_finds 131 (.iconst 0) 1 132 := ⟨by decide +kernel, rfl⟩
theorem kX6_finds_132 : Dk mtX6_finds 132 (.goto 4) 3 135 := ⟨by decide +kernel, rfl⟩
theorem kX6_finds_135 : Dk mtX6_finds 135 (.iconst 1) 1 136 := ⟨by decide +kernel, rfl⟩
theorem kX6_finds_136 : Dk mtX6_finds 136 (.iadd) 1 137 := ⟨by decide +kernel, rfl⟩
theorem kX6_finds_137 : Dk mtX6_finds 137 (.iastore) 1 138 := ⟨by decide +kernel, rfl⟩
theorem kX6_finds_138 : Dk mtX6_finds 138 (.return_) 1 139 := ⟨by decide +kernel, rfl⟩
set_option maxHeartbeats 4000000 in
set_option maxRecDepth 100000 in
theorem ct_finds {l : Launch} {w : Wd} {sg : Sg} (hWr : Wr w) {mo n : Nat} (hI : Inv (sg (mo + 1))) (hn : n < tn (sg (mo + 1) 5)) : M l mtX6_finds w [vR (some (6, 0, mo)), vI (nI n)] sg (fV0 (upr sg (mo + 1) (F_finds (sg (mo + 1)) (nI n)))) := by
  refine M_of [some (vR (some (6, 0, mo))), some (vI (nI n)), none, none, none, none] rfl (Nat.le_of_ble_eq_true rfl) (by decide +kernel) ?_
  intro p_ e_ s_ m_ args_ below_ meth_ c_ hC hO
  have h8 : n < 8 := by have := hI.c5.1; omega
  have hv8 : vp_in (nI n) 8 := vp_in_nI h8 (by decide)
  refine V_aload_n hC kX6_finds_0 rfl ?_
  refine V_iload_n hC kX6_finds_1 rfl ?_
  refine V_iconst hC (0) kX6_finds_2 (by decide) ?_
  refine V_cV_fI hC (ct_ofBoat hWr (nI n) 0 hv8 (vp_lit rfl)) mkX6_ofBoat lmX6_53 kX6_finds_3 (Nat.le_of_ble_eq_true rfl) rfl rfl rfl (Nat.le_of_ble_eq_true rfl) ⟨(Nat.le_of_ble_eq_true rfl), (Nat.le_of_ble_eq_true rfl)⟩ ⟨rfl, rfl⟩ ⟨(Nat.le_of_ble_eq_true rfl), (Nat.le_of_ble_eq_true rfl)⟩ ?_
  refine V_nameI (fun pl e_pl => ?_)
  refine V_istore_n hC [some _, some _, some _, none, none, none] kX6_finds_6 rfl (Nat.le_of_ble_eq_true rfl) ?_
  refine V_iconst hC (-1) kX6_finds_7 (by decide) ?_
  refine V_istore_n hC [some _, some _, some _, some _, none, none] kX6_finds_8 rfl (Nat.le_of_ble_eq_true rfl) ?_
  refine V_iconst hC (0) kX6_finds_9 (by decide) ?_
  refine V_istore hC [some _, some _, some _, some _, some _, none] kX6_finds_10 rfl (Nat.le_of_ble_eq_true rfl) ?_
  refine V_loop (tn ((sg (mo + 1)) 4)) (fun i => [some (vR (some (6, 0, mo))), some (vI (nI n)), some (vI pl), some (vI (F_findsN (sg (mo + 1)) (nI n) i)), some (vI (nI i)), none]) (fun i => sg) rfl rfl ?_ (fun i hi ihi => ?_)
  · refine V_iload hC kX6_finds_12 rfl ?_
    refine V_aload_n hC kX6_finds_14 rfl ?_
    refine V_getR hC hWr 6 1 lfX6_7 kX6_finds_15 (Nat.le_of_ble_eq_true rfl) (Nat.le_of_ble_eq_true rfl) rfl ?_
    refine V_iconst hC (4) kX6_finds_18 (by decide) ?_
    refine V_iald hC 4 rfl kX6_finds_19 (vp_lit rfl) ?_
    refine V_icmp_ge hC 109 kX6_finds_20 (by decide) (fun h20 => ?_) (fun h20 => absurd h20 (not_not_intro (cnt_le hI.hc4.1)))
    refine V_aload_n hC kX6_finds_109 rfl ?_
    refine V_iload_n hC kX6_finds_110 rfl ?_
    refine V_iconst hC (2) kX6_finds_111 (by decide) ?_
    refine V_iload_n hC kX6_finds_112 rfl ?_
    refine V_iconst hC (1) kX6_finds_113 (by decide) ?_
    refine V_iadd hC kX6_finds_114 ?_
    refine V_cV_fV hC (ct_layBoat hWr (nI n) 2 _ hv8 (vp_lit rfl)) mkX6_layBoat lmX6_63 kX6_finds_115 (Nat.le_of_ble_eq_true rfl) rfl rfl rfl (Nat.le_of_ble_eq_true rfl) ⟨(Nat.le_of_ble_eq_true rfl), (Nat.le_of_ble_eq_true rfl)⟩ ⟨rfl, rfl⟩ ⟨(Nat.le_of_ble_eq_true rfl), (Nat.le_of_ble_eq_true rfl)⟩ ?_
    refine V_aload_n hC kX6_finds_118 rfl ?_
    refine V_getR hC hWr 6 1 lfX6_7 kX6_finds_119 (Nat.le_of_ble_eq_true rfl) (Nat.le_of_ble_eq_true rfl) rfl ?_
    refine V_bipush hC (11) kX6_finds_122 (by decide) ?_
    refine V_dup2 hC kX6_finds_124 rfl rfl ?_
    refine V_iald hC 11 rfl kX6_finds_125 (vp_lit rfl) ?_
    refine V_join 136 (if F_findsN (sg (mo + 1)) (nI n) (tn ((sg (mo + 1)) 4)) = -1 then 0 else 1) ?_ (fun j136 => ?_)
    · refine V_iadd hC kX6_finds_136 ?_
      refine V_iast hC 11 rfl kX6_finds_137 (vp_lit rfl) ?_
      refine V_vret hC rfl kX6_finds_138 ?_
      refine ⟨by with_reducible rfl, ?_⟩
      unfold F_finds
      simp only [upr_upr, upr_at, ups]
    · refine V_iload_n hC kX6_finds_126 rfl ?_
      refine V_iconst hC (-1) kX6_finds_127 (by decide) ?_
      refine V_icmp_ne hC 135 kX6_finds_128 (by decide) (fun h128 => ?_) (fun h128 => ?_)
      · refine V_iconst hC (1) kX6_finds_135 (by decide) ?_
        exact j136 _ ((if_neg h128).symm)
      · refine V_iconst hC (0) kX6_finds_131 (by decide) ?_
        refine V_goto hC 136 kX6_finds_132 (by decide) ?_
        exact j136 _ ((if_pos h128).symm)
  · have hi6 := hI.c4.1
    have hbi : ¬ F_findsN (sg (mo + 1)) (nI n) i = -1 → ∃ j, j < tn (sg (mo + 1) 4) ∧ F_findsN (sg (mo + 1)) (nI n) i = nI j := fun z => by
      rcases F_findsN_in (sg (mo + 1)) (nI n) i with h | ⟨j, h1, h2⟩
      · exact absurd h z
      · exact ⟨j, by omega, h2⟩
    refine V_iload hC kX6_finds_12 rfl ?_
    refine V_aload_n hC kX6_finds_14 rfl ?_
    refine V_getR hC hWr 6 1 lfX6_7 kX6_finds_15 (Nat.le_of_ble_eq_true rfl) (Nat.le_of_ble_eq_true rfl) rfl ?_
    refine V_iconst hC (4) kX6_finds_18 (by decide) ?_
    refine V_iald hC 4 rfl kX6_finds_19 (vp_lit rfl) ?_
    refine V_icmp_ge hC 109 kX6_finds_20 (by decide) (fun h20 => absurd h20 (cnt_lt hI.hc4.1 hi)) (fun h20 => ?_)
    refine V_join 68 (b01 ((sg (mo + 1)) 2 ≤ F_bright (sg (mo + 1)) (nI i) pl ∧ F_serves (sg (mo + 1)) (nI i) < gL (sg (mo + 1)) (nI i) 4 - gL (sg (mo + 1)) (nI i) 5)) ?_ (fun j68 => ?_)
    · refine V_nameI (fun can e_can => ?_)
      refine V_istore hC [some _, some _, some _, some _, some _, some _] kX6_finds_68 rfl (Nat.le_of_ble_eq_true rfl) ?_
      refine V_join 102 (F_findsN (sg (mo + 1)) (nI n) (i + 1)) ?_ (fun j102 => ?_)
      · refine V_istore_n hC [some _, some _, some _, some _, some _, some _] kX6_finds_102 rfl (Nat.le_of_ble_eq_true rfl) ?_
        refine V_iinc hC (_ + 1) [some _, some _, some _, some _, some _, some _] kX6_finds_103 rfl rfl rfl (Nat.le_of_ble_eq_true rfl) ?_
        refine V_goto hC 12 kX6_finds_106 (by decide) ?_
        refine V_drop 5 [_, _, _, _, _, none] rfl ?_
        refine V_eq ?_ rfl ihi
        simp only [nI_succ]
      · refine V_iload hC kX6_finds_70 rfl ?_
        refine V_if_eq hC 101 kX6_finds_72 (by decide) (fun h72 => ?_) (fun h72 => ?_)
        · refine V_iload_n hC kX6_finds_101 rfl ?_
          exact j102 _ ((by subst e_pl; rw [F_findsN, if_neg (fun z => (b0_of e_can h72) z.1)]))
        · refine V_iload_n hC kX6_finds_75 rfl ?_
          refine V_iconst hC (-1) kX6_finds_76 (by decide) ?_
          refine V_icmp_eq hC 96 kX6_finds_77 (by decide) (fun h77 => ?_) (fun h77 => ?_)
          · refine V_iload hC kX6_finds_96 rfl ?_
            refine V_goto hC 102 kX6_finds_98 (by decide) ?_
            exact j102 _ ((by subst e_pl; rw [F_findsN, if_pos ⟨b1_of e_can h72, Or.inl h77⟩]))
          · obtain ⟨jb, hjb, ejb⟩ := hbi h77
            refine V_aload_n hC kX6_finds_80 rfl ?_
            refine V_iload hC kX6_finds_81 rfl ?_
            refine V_iload_n hC kX6_finds_83 rfl ?_
            refine V_cV_fI hC (ct_worth hWr (nI i) pl (vp_in_nI (by omega) (by decide)) (fun _ => hI.ne hi)) mkX6_worth lmX6_56 kX6_finds_84 (Nat.le_of_ble_eq_true rfl) rfl rfl rfl (Nat.le_of_ble_eq_true rfl) ⟨(Nat.le_of_ble_eq_true rfl), (Nat.le_of_ble_eq_true rfl)⟩ ⟨rfl, rfl⟩ ⟨(Nat.le_of_ble_eq_true rfl), (Nat.le_of_ble_eq_true rfl)⟩ ?_
            refine V_aload_n hC kX6_finds_87 rfl ?_
            refine V_iload_n hC kX6_finds_88 rfl ?_
            refine V_iload_n hC kX6_finds_89 rfl ?_
            refine V_cV_fI hC (ct_worth hWr _ pl (by rw [ejb]; exact vp_in_nI (by omega) (by decide)) (fun _ => by rw [ejb]; exact hI.ne hjb)) mkX6_worth lmX6_56 kX6_finds_90 (Nat.le_of_ble_eq_true rfl) rfl rfl rfl (Nat.le_of_ble_eq_true rfl) ⟨(Nat.le_of_ble_eq_true rfl), (Nat.le_of_ble_eq_true rfl)⟩ ⟨rfl, rfl⟩ ⟨(Nat.le_of_ble_eq_true rfl), (Nat.le_of_ble_eq_true rfl)⟩ ?_
            refine V_icmp_le hC 101 kX6_finds_93 (by decide) (fun h93 => ?_) (fun h93 => ?_)
            · refine V_iload_n hC kX6_finds_101 rfl ?_
              exact j102 _ ((by subst e_pl; rw [F_findsN, if_neg (fun z => z.2.elim h77 (fun z => absurd z (Int32.not_lt.mpr h93)))]))
            · refine V_iload hC kX6_finds_96 rfl ?_
              refine V_goto hC 102 kX6_finds_98 (by decide) ?_
              exact j102 _ ((by subst e_pl; rw [F_findsN, if_pos ⟨b1_of e_can h72, Or.inr (Int32.not_le.mp h93)⟩]))
    · refine V_aload_n hC kX6_finds_23 rfl ?_
      refine V_iload hC kX6_finds_24 rfl ?_
      refine V_iload_n hC kX6_finds_26 rfl ?_
      refine V_cV_fI hC (ct_bright hWr (nI i) pl (vp_in_nI (by omega) (by decide)) (fun _ => hI.ne hi)) mkX6_bright lmX6_50 kX6_finds_27 (Nat.le_of_ble_eq_true rfl) rfl rfl rfl (Nat.le_of_ble_eq_true rfl) ⟨(Nat.le_of_ble_eq_true rfl), (Nat.le_of_ble_eq_true rfl)⟩ ⟨rfl, rfl⟩ ⟨(Nat.le_of_ble_eq_true rfl), (Nat.le_of_ble_eq_true rfl)⟩ ?_
      refine V_aload_n hC kX6_finds_30 rfl ?_
      refine V_getR hC hWr 6 1 lfX6_7 kX6_finds_31 (Nat.le_of_ble_eq_true rfl) (Nat.le_of_ble_eq_true rfl) rfl ?_
      refine V_iconst hC (2) kX6_finds_34 (by decide) ?_
      refine V_iald hC 2 rfl kX6_finds_35 (vp_lit rfl) ?_
      refine V_icmp_lt hC 67 kX6_finds_36 (by decide) (fun h36 => ?_) (fun h36 => ?_)
      · refine V_iconst hC (0) kX6_finds_67 (by decide) ?_
        exact j68 _ ((b01_f (fun z => absurd z.1 (Int32.not_le.mpr h36))).symm)
      · refine V_aload_n hC kX6_finds_39 rfl ?_
        refine V_iload hC kX6_finds_40 rfl ?_
        refine V_cV_fI hC (ct_serves hWr (nI i) hI.hc5) mkX6_serves lmX6_71 kX6_finds_42 (Nat.le_of_ble_eq_true rfl) rfl rfl rfl (Nat.le_of_ble_eq_true rfl) ⟨(Nat.le_of_ble_eq_true rfl), (Nat.le_of_ble_eq_true rfl)⟩ ⟨rfl, rfl⟩ ⟨(Nat.le_of_ble_eq_true rfl), (Nat.le_of_ble_eq_true rfl)⟩ ?_
        refine V_aload_n hC kX6_finds_45 rfl ?_
        refine V_iload hC kX6_finds_46 rfl ?_
        refine V_iconst hC (4) kX6_finds_48 (by decide) ?_
        refine V_cV_fI hC (ct_of hWr (nI i) 4 (vp_in_nI (by omega) (by decide)) (vp_lit rfl)) mkX6_of lmX6_46 kX6_finds_49 (Nat.le_of_ble_eq_true rfl) rfl rfl rfl (Nat.le_of_ble_eq_true rfl) ⟨(Nat.le_of_ble_eq_true rfl), (Nat.le_of_ble_eq_true rfl)⟩ ⟨rfl, rfl⟩ ⟨(Nat.le_of_ble_eq_true rfl), (Nat.le_of_ble_eq_true rfl)⟩ ?_
        refine V_aload_n hC kX6_finds_52 rfl ?_
        refine V_iload hC kX6_finds_53 rfl ?_
        refine V_iconst hC (5) kX6_finds_55 (by decide) ?_
        refine V_cV_fI hC (ct_of hWr (nI i) 5 (vp_in_nI (by omega) (by decide)) (vp_lit rfl)) mkX6_of lmX6_46 kX6_finds_56 (Nat.le_of_ble_eq_true rfl) rfl rfl rfl (Nat.le_of_ble_eq_true rfl) ⟨(Nat.le_of_ble_eq_true rfl), (Nat.le_of_ble_eq_true rfl)⟩ ⟨rfl, rfl⟩ ⟨(Nat.le_of_ble_eq_true rfl), (Nat.le_of_ble_eq_true rfl)⟩ ?_
        refine V_isub hC kX6_finds_59 ?_
        refine V_icmp_ge hC 67 kX6_finds_60 (by decide) (fun h60 => ?_) (fun h60 => ?_)
        · refine V_iconst hC (0) kX6_finds_67 (by decide) ?_
          exact j68 _ ((b01_f (fun z => absurd z.2 (Int32.not_lt.mpr h60))).symm)
        · refine V_iconst hC (1) kX6_finds_63 (by decide) ?_
          refine V_goto hC 68 kX6_finds_64 (by decide) ?_
          exact j68 _ ((b01_t ⟨Int32.not_lt.mp h36, Int32.not_le.mp h60⟩).symm)
def mtX6_goesOn : Mt := (yX6_goesOn, cX6_goesOn, 3, none, 5, 119, 0, 0)
theorem kX6_goesOn_0 : Dk mtX6_goesOn 0 (.aload_n 0) 1 1 := ⟨by decide +kernel, rfl⟩
theorem kX6_goesOn_1 : Dk mtX6_goesOn 1 (.iload_n 1) 1 2 := ⟨by decide +kernel, rfl⟩
theorem kX6_goesOn_2 : Dk mtX6_goesOn 2 (.invokevirtual 78) 3 5 := ⟨by decide +kernel, rfl⟩
theorem kX6_goesOn_5 : Dk mtX6_goesOn 5 (.aload_n 0) 1 6 := ⟨by decide +kernel, rfl⟩
theorem kX6_goesOn_6 : Dk mtX6_goesOn 6 (.iload_n 1) 1 7 := ⟨by decide +kernel, rfl⟩
theorem kX6_goesOn_7 : Dk mtX6_goesOn 7 (.iconst 2) 1 8 := ⟨by decide +kernel, rfl⟩
theorem kX6_goesOn_8 : Dk mtX6_goesOn 8 (.invokevirtual 53) 3 11 := ⟨by decide +kernel, rfl⟩
theorem kX6_goesOn_11 : Dk mtX6_goesOn 11 (.iconst 1) 1 12 := ⟨by decide +kernel, rfl⟩
theorem kX6_goesOn_12 : Dk mtX6_goesOn 12 (.isub) 1 13 := ⟨by decide +kernel, rfl⟩
theorem kX6_goesOn_13 : Dk mtX6_goesOn 13 (.istore_n 2) 1 14 := ⟨by decide +kernel, rfl⟩
theorem kX6_goesOn_14 : Dk mtX6_goesOn 14 (.iload_n 2) 1 15 := ⟨by decide +kernel, rfl⟩
theorem kX6_goesOn_15 : Dk mtX6_goesOn 15 (.iconst (-1)) 1 16 := ⟨by decide +kernel, rfl⟩
theorem kX6_goesOn_16 : Dk mtX6_goesOn 16 (.if_icmp .eq 31) 3 19 := ⟨by decide +kernel, rfl⟩
theorem kX6_goesOn_19 : Dk mtX6_goesOn 19 (.aload_n 0) 1 20 := ⟨by decide +kernel, rfl⟩
theorem kX6_goesOn_20 : Dk mtX6_goesOn 20 (.iload_n 2) 1 21 := ⟨by decide +kernel, rfl⟩
theorem kX6_goesOn_21 : Dk mtX6_goesOn 21 (.aload_n 0) 1 22 := ⟨by decide +kernel, rfl⟩
theorem kX6_goesOn_22 : Dk mtX6_goesOn 22 (.iload_n 1) 1 23 := ⟨by decide +kernel, rfl⟩
theorem kX6_goesOn_23 : Dk mtX6_goesOn 23 (.iconst 0) 1 24 := ⟨by decide +kernel, rfl⟩
theorem kX6_goesOn_24 : Dk mtX6_goesOn 24 (.invokevirtual 53) 3 27 := ⟨by decide +kernel, rfl⟩
theorem kX6_goesOn_27 : Dk mtX6_goesOn 27 (.invokevirtual 50) 3 30 := ⟨by decide +kernel, rfl⟩
theorem kX6_goesOn_30 : Dk mtX6_goesOn 30 (.aload_n 0) 1 31 := ⟨by decide +kernel, rfl⟩
theorem kX6_goesOn_31 : Dk mtX6_goesOn 31 (.getfield 7) 3 34 := ⟨by decide +kernel, rfl⟩
theorem kX6_goesOn_34 : Dk mtX6_goesOn 34 (.iconst 2) 1 35 := ⟨by decide +kernel, rfl⟩
theorem kX6_goesOn_35 : Dk mtX6_goesOn 35 (.iaload) 1 36 := ⟨by decide +kernel, rfl⟩
theorem kX6_goesOn_36 : Dk mtX6_goesOn 36 (.if_icmp .ge 11) 3 39 := ⟨by decide +kernel, rfl⟩
theorem kX6_goesOn_39 : Dk mtX6_goesOn 39 (.aload_n 0) 1 40 := ⟨by decide +kernel, rfl⟩
theorem kX6_goesOn_40 : Dk mtX6_goesOn 40 (.iload_n 1) 1 41 := ⟨by decide +kernel, rfl⟩
theorem kX6_goesOn_41 : Dk mtX6_goesOn 41 (.invokevirtual 82) 3 44 := ⟨by decide +kernel, rfl⟩
theorem kX6_goesOn_44 : Dk mtX6_goesOn 44 (.goto 13) 3 47 := ⟨by decide +kernel, rfl⟩
theorem kX6_goesOn_47 : Dk mtX6_goesOn 47 (.iload_n 2) 1 48 := ⟨by decide +kernel, rfl⟩
theorem kX6_goesOn_48 : Dk mtX6_goesOn 48 (.iconst (-1)) 1 49 := ⟨by decide +kernel, rfl⟩
theorem kX6_goesOn_49 : Dk mtX6_goesOn 49 (.if_icmp .eq 8) 3 52 := ⟨by decide +kernel, rfl⟩
theorem kX6_goesOn_52 : Dk mtX6_goesOn 52 (.aload_n 0) 1 53 := ⟨by decide +kernel, rfl⟩
theorem kX6_goesOn_53 : Dk mtX6_goesOn 53 (.iload_n 1) 1 54 := ⟨by decide +kernel, rfl⟩
theorem kX6_goesOn_54 : Dk mtX6_goesOn 54 (.invokevirtual 85) 3 57 := ⟨by decide +kernel, rfl⟩
theorem kX6_goesOn_57 : Dk mtX6_goesOn 57 (.aload_n 0) 1 58 := ⟨by decide +kernel, rfl⟩
theorem kX6_goesOn_58 : Dk mtX6_goesOn 58 (.iload_n 1) 1 59 := ⟨by decide +kernel, rfl⟩
theorem kX6_goesOn_59 : Dk mtX6_goesOn 59 (.iconst 2) 1 60 := ⟨by decide +kernel, rfl⟩
theorem kX6_goesOn_60 : Dk mtX6_goesOn 60 (.invokevirtual 53) 3 63 := ⟨by decide +kernel, rfl⟩
theorem kX6_goesOn_63 : Dk mtX6_goesOn 63 (.ifCond .ne 8) 3 66 := ⟨by decide +kernel, rfl⟩
theorem kX6_goesOn_66 : Dk mtX6_goesOn 66 (.aload_n 0) 1 67 := ⟨by decide +kernel, rfl⟩
theorem kX6_goesOn_67 : Dk mtX6_goesOn 67 (.iload_n 1) 1 68 := ⟨by decide +kernel, rfl⟩
theorem kX6_goesOn_68 : Dk mtX6_goesOn 68 (.invokevirtual 88) 3 71 := ⟨by decide +kernel, rfl⟩
theorem kX6_goesOn_71 : Dk mtX6_goesOn 71 (.aload_n 0) 1 72 := ⟨by decide +kernel, rfl⟩
theorem kX6_goesOn_72 : Dk mtX6_goesOn 72 (.iload_n 1) 1 73 := ⟨by decide +kernel, rfl⟩
theorem kX6_goesOn_73 : Dk mtX6_goesOn 73 (.iconst 3) 1 74 := ⟨by decide +kernel, rfl⟩
theorem kX6_goesOn_74 : Dk mtX6_goesOn 74 (.aload_n 0) 1 75 := ⟨by decide +kernel, rfl⟩
theorem kX6_goesOn_75 : Dk mtX6_goesOn 75 (.iload_n 1) 1 76 := ⟨by decide +kernel, rfl⟩
theorem kX6_goesOn_76 : Dk mtX6_goesOn 76 (.iconst 3) 1 77 := ⟨by decide +kernel, rfl⟩
theorem kX6_goesOn_77 : Dk mtX6_goesOn 77 (.invokevirtual 53) 3 80 := ⟨by decide +kernel, rfl⟩
theorem kX6_goesOn_80 : Dk mtX6_goesOn 80 (.ifCond .le 14) 3 83 := ⟨by decide +kernel, rfl⟩
theorem kX6_goesOn_83 : Dk mtX6_goesOn 83 (.aload_n 0) 1 84 := ⟨by decide +kernel, rfl⟩
theorem kX6_goesOn_84 : Dk mtX6_goesOn 84 (.iload_n 1) 1 85 := ⟨by decide +kernel, rfl⟩
theorem kX6_goesOn_85 : Dk mtX6_goesOn 85 (.iconst 3) 1 86 := ⟨by decide +kernel, rfl⟩
theorem kX6_goesOn_86 : Dk mtX6_goesOn 86 (.invokevirtual 53) 3 89 := ⟨by decide +kernel, rfl⟩
theorem kX6_goesOn_89 : Dk mtX6_goesOn 89 (.iconst 1) 1 90 := ⟨by decide +kernel, rfl⟩
theorem kX6_goesOn_90 : Dk mtX6_goesOn 90 (.isub) 1 91 := ⟨by decide +kernel, rfl⟩
theorem kX6_goesOn_91 : Dk mtX6_goesOn 91 (.goto 4) 3 94 := ⟨by decide +kernel, rfl⟩
theorem kX6_goesOn_94 : Dk mtX6_goesOn 94 (.iconst 0) 1 95 := ⟨by decide +kernel, rfl⟩
theorem kX6_goesOn_95 : Dk mtX6_goesOn 95 (.invokevirtual 63) 3 98 := ⟨by decide +kernel, rfl⟩
theorem kX6_goesOn_98 : Dk mtX6_goesOn 98 (.return_) 1 99 := ⟨by decide +kernel, rfl⟩
theorem lmX6_78 : LkM RX6 78 mtX6_sails := Or.inl (by decide +kernel)
theorem mkX6_sails : MkV mtX6_sails 1 := ⟨List.mem_of_getElem? (i := 1189) (by decide +kernel), by decide +kernel, by decide +kernel, by decide +kernel, ⟨by decide +kernel, by decide +kernel, by decide +kernel⟩⟩
theorem lmX6_88 : LkM RX6 88 mtX6_finds := Or.inl (by decide +kernel)
theorem mkX6_finds : MkV mtX6_finds 1 := ⟨List.mem_of_getElem? (i := 1225) (by decide +kernel), by decide +kernel, by decide +kernel, by decide +kernel, ⟨by decide +kernel, by decide +kernel, by decide +kernel⟩⟩
theorem lmX6_85 : LkM RX6 85 mtX6_wishes := Or.inl (by decide +kernel)
theorem mkX6_wishes : MkV mtX6_wishes 1 := ⟨List.mem_of_getElem? (i := 1205) (by decide +kernel), by decide +kernel, by decide +kernel, by decide +kernel, ⟨by decide +kernel, by decide +kernel, by decide +kernel⟩⟩
theorem lmX6_82 : LkM RX6 82 mtX6_drops := Or.inl (by decide +kernel)
theorem mkX6_drops : MkV mtX6_drops 1 := ⟨List.mem_of_getElem? (i := 1201) (by decide +kernel), by decide +kernel, by decide +kernel, by decide +kernel, ⟨by decide +kernel, by decide +kernel, by decide +kernel⟩⟩
set_option maxHeartbeats 4000000 in
set_option maxRecDepth 100000 in
theorem ct_goesOn {l : Launch} {w : Wd} {sg : Sg} (hWr : Wr w) {mo n : Nat} (hI : Inv (sg (mo + 1))) (hn : n < tn (sg (mo + 1) 5)) : M l mtX6_goesOn w [vR (some (6, 0, mo)), vI (nI n)] sg (fV0 (upr sg (mo + 1) (F_goesOn (sg (mo + 1)) (nI n)))) := by
  refine M_of [some (vR (some (6, 0, mo))), some (vI (nI n)), none] rfl (Nat.le_of_ble_eq_true rfl) (by decide +kernel) ?_
  intro p_ e_ s_ m_ args_ below_ meth_ c_ hC hO
  have h8 : n < 8 := by have := hI.c5.1; omega
  have hv8 : vp_in (nI n) 8 := vp_in_nI h8 (by decide)
  refine V_aload_n hC kX6_goesOn_0 rfl ?_
  refine V_iload_n hC kX6_goesOn_1 rfl ?_
  refine V_cV_fV hC (ct_sails hWr (nI n) hv8) mkX6_sails lmX6_78 kX6_goesOn_2 (Nat.le_of_ble_eq_true rfl) rfl rfl rfl (Nat.le_of_ble_eq_true rfl) ⟨(Nat.le_of_ble_eq_true rfl), (Nat.le_of_ble_eq_true rfl)⟩ ⟨rfl, rfl⟩ ⟨(Nat.le_of_ble_eq_true rfl), (Nat.le_of_ble_eq_true rfl)⟩ ?_
  have hI1 := Inv_sails hI hn
  have e15 : F_sails (sg (mo + 1)) (nI n) 5 = sg (mo + 1) 5 := sails_lo h8 (Or.inl (by decide))
  have hn1 : n < tn (F_sails (sg (mo + 1)) (nI n) 5) := by rw [e15]; exact hn
  refine V_aload_n hC kX6_goesOn_5 rfl ?_
  refine V_iload_n hC kX6_goesOn_6 rfl ?_
  refine V_iconst hC (2) kX6_goesOn_7 (by decide) ?_
  refine V_cV_fI hC (ct_ofBoat hWr (nI n) 2 hv8 (vp_lit rfl)) mkX6_ofBoat lmX6_53 kX6_goesOn_8 (Nat.le_of_ble_eq_true rfl) rfl rfl rfl (Nat.le_of_ble_eq_true rfl) ⟨(Nat.le_of_ble_eq_true rfl), (Nat.le_of_ble_eq_true rfl)⟩ ⟨rfl, rfl⟩ ⟨(Nat.le_of_ble_eq_true rfl), (Nat.le_of_ble_eq_true rfl)⟩ ?_
  refine V_iconst hC (1) kX6_goesOn_11 (by decide) ?_
  refine V_isub hC kX6_goesOn_12 ?_
  refine V_nameI (fun by1 e_by1 => ?_)
  refine V_istore_n hC [some _, some _, some _] kX6_goesOn_13 rfl (Nat.le_of_ble_eq_true rfl) ?_
  refine V_joinS 57 (upr sg (mo + 1) (F_onA (F_sails (sg (mo + 1)) (nI n)) (nI n))) ?_ (fun j57 => ?_)
  · have hI2 := Inv_onA hI1 hn1
    have e25 : F_onA (F_sails (sg (mo + 1)) (nI n)) (nI n) 5 = sg (mo + 1) 5 := (onA_lo hI1 h8 lo5).trans e15
    have hn2 : n < tn (F_onA (F_sails (sg (mo + 1)) (nI n)) (nI n) 5) := by rw [e25]; exact hn
    refine V_joinS 71 (upr sg (mo + 1) (F_onB (F_onA (F_sails (sg (mo + 1)) (nI n)) (nI n)) (nI n))) ?_ (fun j71 => ?_)
    · refine V_aload_n hC kX6_goesOn_71 rfl ?_
      refine V_iload_n hC kX6_goesOn_72 rfl ?_
      refine V_iconst hC (3) kX6_goesOn_73 (by decide) ?_
      refine V_join 95 (if 0 < gB (F_onB (F_onA (F_sails (sg (mo + 1)) (nI n)) (nI n)) (nI n)) (nI n) 3 then gB (F_onB (F_onA (F_sails (sg (mo + 1)) (nI n)) (nI n)) (nI n)) (nI n) 3 - 1 else 0) ?_ (fun j95 => ?_)
      · refine V_cV_fV hC (ct_layBoat hWr (nI n) 3 _ hv8 (vp_lit rfl)) mkX6_layBoat lmX6_63 kX6_goesOn_95 (Nat.le_of_ble_eq_true rfl) rfl rfl rfl (Nat.le_of_ble_eq_true rfl) ⟨(Nat.le_of_ble_eq_true rfl), (Nat.le_of_ble_eq_true rfl)⟩ ⟨rfl, rfl⟩ ⟨(Nat.le_of_ble_eq_true rfl), (Nat.le_of_ble_eq_true rfl)⟩ ?_
        refine V_vret hC rfl kX6_goesOn_98 ?_
        refine ⟨by with_reducible rfl, ?_⟩
        unfold F_goesOn F_onC
        rw [upr_at, upr_upr]
      · refine V_aload_n hC kX6_goesOn_74 rfl ?_
        refine V_iload_n hC kX6_goesOn_75 rfl ?_
        refine V_iconst hC (3) kX6_goesOn_76 (by decide) ?_
        refine V_cV_fI hC (ct_ofBoat hWr (nI n) 3 hv8 (vp_lit rfl)) mkX6_ofBoat lmX6_53 kX6_goesOn_77 (Nat.le_of_ble_eq_true rfl) rfl rfl rfl (Nat.le_of_ble_eq_true rfl) ⟨(Nat.le_of_ble_eq_true rfl), (Nat.le_of_ble_eq_true rfl)⟩ ⟨rfl, rfl⟩ ⟨(Nat.le_of_ble_eq_true rfl), (Nat.le_of_ble_eq_true rfl)⟩ ?_
        refine V_if_le hC 94 kX6_goesOn_80 (by decide) (fun h80 => ?_) (fun h80 => ?_)
        · refine V_iconst hC (0) kX6_goesOn_94 (by decide) ?_
          exact j95 _ ((by rw [upr_at] at h80; rw [if_neg (Int32.not_lt.mpr h80)]))
        · refine V_aload_n hC kX6_goesOn_83 rfl ?_
          refine V_iload_n hC kX6_goesOn_84 rfl ?_
          refine V_iconst hC (3) kX6_goesOn_85 (by decide) ?_
          refine V_cV_fI hC (ct_ofBoat hWr (nI n) 3 hv8 (vp_lit rfl)) mkX6_ofBoat lmX6_53 kX6_goesOn_86 (Nat.le_of_ble_eq_true rfl) rfl rfl rfl (Nat.le_of_ble_eq_true rfl) ⟨(Nat.le_of_ble_eq_true rfl), (Nat.le_of_ble_eq_true rfl)⟩ ⟨rfl, rfl⟩ ⟨(Nat.le_of_ble_eq_true rfl), (Nat.le_of_ble_eq_true rfl)⟩ ?_
          refine V_iconst hC (1) kX6_goesOn_89 (by decide) ?_
          refine V_isub hC kX6_goesOn_90 ?_
          refine V_goto hC 95 kX6_goesOn_91 (by decide) ?_
          exact j95 _ ((by rw [upr_at] at h80 ⊢; rw [if_pos (Int32.not_le.mp h80)]))
    · refine V_aload_n hC kX6_goesOn_57 rfl ?_
      refine V_iload_n hC kX6_goesOn_58 rfl ?_
      refine V_iconst hC (2) kX6_goesOn_59 (by decide) ?_
      refine V_cV_fI hC (ct_ofBoat hWr (nI n) 2 hv8 (vp_lit rfl)) mkX6_ofBoat lmX6_53 kX6_goesOn_60 (Nat.le_of_ble_eq_true rfl) rfl rfl rfl (Nat.le_of_ble_eq_true rfl) ⟨(Nat.le_of_ble_eq_true rfl), (Nat.le_of_ble_eq_true rfl)⟩ ⟨rfl, rfl⟩ ⟨(Nat.le_of_ble_eq_true rfl), (Nat.le_of_ble_eq_true rfl)⟩ ?_
      refine V_if_ne hC 71 kX6_goesOn_63 (by decide) (fun h63 => ?_) (fun h63 => ?_)
      · exact j71 _ (by rw [upr_at] at h63; rw [F_onB, if_neg h63])
      · refine V_aload_n hC kX6_goesOn_66 rfl ?_
        refine V_iload_n hC kX6_goesOn_67 rfl ?_
        refine V_cV_fV hC (ct_finds hWr (by rw [upr_at]; exact hI2) (by rw [upr_at]; exact hn2)) mkX6_finds lmX6_88 kX6_goesOn_68 (Nat.le_of_ble_eq_true rfl) rfl rfl rfl (Nat.le_of_ble_eq_true rfl) ⟨(Nat.le_of_ble_eq_true rfl), (Nat.le_of_ble_eq_true rfl)⟩ ⟨rfl, rfl⟩ ⟨(Nat.le_of_ble_eq_true rfl), (Nat.le_of_ble_eq_true rfl)⟩ ?_
        exact j71 _ (by rw [upr_at] at h63; rw [F_onB, if_pos h63, upr_at, upr_upr])
  · refine V_iload_n hC kX6_goesOn_14 rfl ?_
    refine V_iconst hC (-1) kX6_goesOn_15 (by decide) ?_
    refine V_icmp_eq hC 47 kX6_goesOn_16 (by decide) (fun h16 => ?_) (fun h16 => ?_)
    · refine V_iload_n hC kX6_goesOn_47 rfl ?_
      refine V_iconst hC (-1) kX6_goesOn_48 (by decide) ?_
      refine V_icmp_eq hC 57 kX6_goesOn_49 (by decide) (fun h49 => ?_) (fun h49 => absurd h49 (not_not_intro h16))
      exact j57 _ (by subst e_by1; rw [F_onA, if_neg (fun z => z.1 (by rw [upr_at] at h16; exact h16)), if_neg (not_not_intro (by rw [upr_at] at h16; exact h16))])
    · refine V_aload_n hC kX6_goesOn_19 rfl ?_
      refine V_iload_n hC kX6_goesOn_20 rfl ?_
      refine V_aload_n hC kX6_goesOn_21 rfl ?_
      refine V_iload_n hC kX6_goesOn_22 rfl ?_
      refine V_iconst hC (0) kX6_goesOn_23 (by decide) ?_
      refine V_cV_fI hC (ct_ofBoat hWr (nI n) 0 hv8 (vp_lit rfl)) mkX6_ofBoat lmX6_53 kX6_goesOn_24 (Nat.le_of_ble_eq_true rfl) rfl rfl rfl (Nat.le_of_ble_eq_true rfl) ⟨(Nat.le_of_ble_eq_true rfl), (Nat.le_of_ble_eq_true rfl)⟩ ⟨rfl, rfl⟩ ⟨(Nat.le_of_ble_eq_true rfl), (Nat.le_of_ble_eq_true rfl)⟩ ?_
      obtain ⟨jy, hjy, ejy⟩ : ∃ j, j < tn (F_sails (sg (mo + 1)) (nI n) 4) ∧ by1 = nI j := by
        rcases hI1.by hn1 with z | ⟨j, h1, h2⟩
        · exact absurd (by rw [e_by1, upr_at]; exact z) h16
        · exact ⟨j, h1, by rw [e_by1, upr_at]; exact h2⟩
      have hy6 := hI1.c4.1
      refine V_cV_fI hC (ct_bright hWr by1 _ (by rw [ejy]; exact vp_in_nI (by omega) (by decide)) (fun _ => by rw [ejy, upr_at]; exact hI1.ne hjy)) mkX6_bright lmX6_50 kX6_goesOn_27 (Nat.le_of_ble_eq_true rfl) rfl rfl rfl (Nat.le_of_ble_eq_true rfl) ⟨(Nat.le_of_ble_eq_true rfl), (Nat.le_of_ble_eq_true rfl)⟩ ⟨rfl, rfl⟩ ⟨(Nat.le_of_ble_eq_true rfl), (Nat.le_of_ble_eq_true rfl)⟩ ?_
      refine V_aload_n hC kX6_goesOn_30 rfl ?_
      refine V_getR hC hWr 6 1 lfX6_7 kX6_goesOn_31 (Nat.le_of_ble_eq_true rfl) (Nat.le_of_ble_eq_true rfl) rfl ?_
      refine V_iconst hC (2) kX6_goesOn_34 (by decide) ?_
      refine V_iald hC 2 rfl kX6_goesOn_35 (vp_lit rfl) ?_
      refine V_icmp_ge hC 47 kX6_goesOn_36 (by decide) (fun h36 => ?_) (fun h36 => ?_)
      · refine V_iload_n hC kX6_goesOn_47 rfl ?_
        refine V_iconst hC (-1) kX6_goesOn_48 (by decide) ?_
        refine V_icmp_eq hC 57 kX6_goesOn_49 (by decide) (fun h49 => absurd h49 h16) (fun h49 => ?_)
        refine V_aload_n hC kX6_goesOn_52 rfl ?_
        refine V_iload_n hC kX6_goesOn_53 rfl ?_
        refine V_cV_fV hC (ct_wishes hWr (by rw [upr_at]; exact hI1) (by rw [upr_at]; exact hn1) (by
          rw [upr_at]
          rcases hI1.by hn1 with z | ⟨j, h1, h2⟩
          · exact absurd (by rw [e_by1, upr_at]; exact z) h16
          · exact ⟨j, h1, h2⟩)) mkX6_wishes lmX6_85 kX6_goesOn_54 (Nat.le_of_ble_eq_true rfl) rfl rfl rfl (Nat.le_of_ble_eq_true rfl) ⟨(Nat.le_of_ble_eq_true rfl), (Nat.le_of_ble_eq_true rfl)⟩ ⟨rfl, rfl⟩ ⟨(Nat.le_of_ble_eq_true rfl), (Nat.le_of_ble_eq_true rfl)⟩ ?_
        exact j57 _ (by rw [upr_at] at e_by1; rw [F_onA, if_neg (fun z => absurd z.2 (by rw [upr_at, e_by1] at h36; exact Int32.not_lt.mpr h36)), if_pos (by rw [← e_by1]; exact h16), upr_at, upr_upr])
      · refine V_aload_n hC kX6_goesOn_39 rfl ?_
        refine V_iload_n hC kX6_goesOn_40 rfl ?_
        refine V_cV_fV hC (ct_drops hWr (nI n) hv8) mkX6_drops lmX6_82 kX6_goesOn_41 (Nat.le_of_ble_eq_true rfl) rfl rfl rfl (Nat.le_of_ble_eq_true rfl) ⟨(Nat.le_of_ble_eq_true rfl), (Nat.le_of_ble_eq_true rfl)⟩ ⟨rfl, rfl⟩ ⟨(Nat.le_of_ble_eq_true rfl), (Nat.le_of_ble_eq_true rfl)⟩ ?_
        refine V_goto hC 57 kX6_goesOn_44 (by decide) ?_
        exact j57 _ (by rw [upr_at] at e_by1; rw [F_onA, if_pos ⟨by rw [← e_by1]; exact h16, by rw [upr_at, e_by1] at h36; exact Int32.not_le.mp h36⟩, upr_at, upr_upr])
def mtX6_goesTick : Mt := (yX6_goesTick, cX6_goesTick, 2, none, 6, 141, 0, 0)
theorem kX6_goesTick_0 : Dk mtX6_goesTick 0 (.aload_n 0) 1 1 := ⟨by decide +kernel, rfl⟩
theorem kX6_goesTick_1 : Dk mtX6_goesTick 1 (.getfield 7) 3 4 := ⟨by decide +kernel, rfl⟩
theorem kX6_goesTick_4 : Dk mtX6_goesTick 4 (.bipush 6) 2 6 := ⟨by decide +kernel, rfl⟩
theorem kX6_goesTick_6 : Dk mtX6_goesTick 6 (.dup2) 1 7 := ⟨by decide +kernel, rfl⟩
theorem kX6_goesTick_7 : Dk mtX6_goesTick 7 (.iaload) 1 8 := ⟨by decide +kernel, rfl⟩
theorem kX6_goesTick_8 : Dk mtX6_goesTick 8 (.iconst 1) 1 9 := ⟨by decide +kernel, rfl⟩
theorem kX6_goesTick_9 : Dk mtX6_goesTick 9 (.iadd) 1 10 := ⟨by decide +kernel, rfl⟩
theorem kX6_goesTick_10 : Dk mtX6_goesTick 10 (.iastore) 1 11 := ⟨by decide +kernel, rfl⟩
theorem kX6_goesTick_11 : Dk mtX6_goesTick 11 (.iconst 0) 1 12 := ⟨by decide +kernel, rfl⟩
theorem kX6_goesTick_12 : Dk mtX6_goesTick 12 (.istore_n 1) 1 13 := ⟨by decide +kernel, rfl⟩
theorem kX6_goesTick_13 : Dk mtX6_goesTick 13 (.iload_n 1) 1 14 := ⟨by decide +kernel, rfl⟩
theorem kX6_goesTick_14 : Dk mtX6_goesTick 14 (.aload_n 0) 1 15 := ⟨by decide +kernel, rfl⟩
theorem kX6_goesTick_15 : Dk mtX6_goesTick 15 (.getfield 7) 3 18 := ⟨by decide +kernel, rfl⟩
theorem kX6_goesTick_18 : Dk mtX6_goesTick 18 (.iconst 5) 1 19 := ⟨by decide +kernel, rfl⟩
theorem kX6_goesTick_19 : Dk mtX6_goesTick 19 (.iaload) 1 20 := ⟨by decide +kernel, rfl⟩
theorem kX6_goesTick_20 : Dk mtX6_goesTick 20 (.if_icmp .ge 14) 3 23 := ⟨by decide +kernel, rfl⟩
theorem kX6_goesTick_23 : Dk mtX6_goesTick 23 (.aload_n 0) 1 24 := ⟨by decide +kernel, rfl⟩
theorem kX6_goesTick_24 : Dk mtX6_goesTick 24 (.iload_n 1) 1 25 := ⟨by decide +kernel, rfl⟩
theorem kX6_goesTick_25 : Dk mtX6_goesTick 25 (.invokevirtual 91) 3 28 := ⟨by decide +kernel, rfl⟩
theorem kX6_goesTick_28 : Dk mtX6_goesTick 28 (.iinc 1 1) 3 31 := ⟨by decide +kernel, rfl⟩
theorem kX6_goesTick_31 : Dk mtX6_goesTick 31 (.goto (-18)) 3 34 := ⟨by decide +kernel, rfl⟩
theorem kX6_goesTick_34 : Dk mtX6_goesTick 34 (.return_) 1 35 := ⟨by decide +kernel, rfl⟩
theorem lmX6_91 : LkM RX6 91 mtX6_goesOn := Or.inl (by decide +kernel)
theorem mkX6_goesOn : MkV mtX6_goesOn 1 := ⟨List.mem_of_getElem? (i := 1185) (by decide +kernel), by decide +kernel, by decide +kernel, by decide +kernel, ⟨by decide +kernel, by decide +kernel, by decide +kernel⟩⟩
set_option maxHeartbeats 4000000 in
set_option maxRecDepth 100000 in
theorem ct_goesTick {l : Launch} {w : Wd} {sg : Sg} (hWr : Wr w) {mo : Nat} (hI : Inv (sg (mo + 1))) : M l mtX6_goesTick w [vR (some (6, 0, mo))] sg (fV0 (upr sg (mo + 1) (F_tick (sg (mo + 1))))) := by
  refine M_of [some (vR (some (6, 0, mo))), none] rfl (Nat.le_of_ble_eq_true rfl) (by decide +kernel) ?_
  intro p_ e_ s_ m_ args_ below_ meth_ c_ hC hO
  refine V_aload_n hC kX6_goesTick_0 rfl ?_
  refine V_getR hC hWr 6 1 lfX6_7 kX6_goesTick_1 (Nat.le_of_ble_eq_true rfl) (Nat.le_of_ble_eq_true rfl) rfl ?_
  refine V_bipush hC (6) kX6_goesTick_4 (by decide) ?_
  refine V_dup2 hC kX6_goesTick_6 rfl rfl ?_
  refine V_iald hC 6 rfl kX6_goesTick_7 (vp_lit rfl) ?_
  refine V_iconst hC (1) kX6_goesTick_8 (by decide) ?_
  refine V_iadd hC kX6_goesTick_9 ?_
  refine V_iast hC 6 rfl kX6_goesTick_10 (vp_lit rfl) ?_
  refine V_iconst hC (0) kX6_goesTick_11 (by decide) ?_
  refine V_istore_n hC [some _, some _] kX6_goesTick_12 rfl (Nat.le_of_ble_eq_true rfl) ?_
  refine V_canon (upr sg (mo + 1) (F_tickN (sg (mo + 1)) 0)) (by rw [F_tickN, F_inc, ups]) ?_
  refine V_loop (tn ((sg (mo + 1)) 5)) (fun i => [some (vR (some (6, 0, mo))), some (vI (nI i))]) (fun i => upr sg (mo + 1) (F_tickN (sg (mo + 1)) i)) rfl rfl ?_ (fun i hi ihi => ?_)
  · refine V_iload_n hC kX6_goesTick_13 rfl ?_
    refine V_aload_n hC kX6_goesTick_14 rfl ?_
    refine V_getR hC hWr 6 1 lfX6_7 kX6_goesTick_15 (Nat.le_of_ble_eq_true rfl) (Nat.le_of_ble_eq_true rfl) rfl ?_
    refine V_iconst hC (5) kX6_goesTick_18 (by decide) ?_
    refine V_iald hC 5 rfl kX6_goesTick_19 (vp_lit rfl) ?_
    refine V_icmp_ge hC 34 kX6_goesTick_20 (by decide) (fun h20 => ?_) (fun h20 => absurd h20 (not_not_intro (by rw [upr_at, (Inv_tickN hI _ (Nat.le_refl _)).2 5 lo5]; exact cnt_le hI.hc5.1)))
    refine V_vret hC rfl kX6_goesTick_34 ?_
    refine ⟨by with_reducible rfl, ?_⟩
    unfold F_tick
    with_reducible rfl
  · obtain ⟨hIi, hei⟩ := Inv_tickN hI i (Nat.le_of_lt hi)
    have e5 := hei 5 lo5
    refine V_iload_n hC kX6_goesTick_13 rfl ?_
    refine V_aload_n hC kX6_goesTick_14 rfl ?_
    refine V_getR hC hWr 6 1 lfX6_7 kX6_goesTick_15 (Nat.le_of_ble_eq_true rfl) (Nat.le_of_ble_eq_true rfl) rfl ?_
    refine V_iconst hC (5) kX6_goesTick_18 (by decide) ?_
    refine V_iald hC 5 rfl kX6_goesTick_19 (vp_lit rfl) ?_
    refine V_icmp_ge hC 34 kX6_goesTick_20 (by decide) (fun h20 => absurd h20 (by rw [upr_at, e5]; exact cnt_lt hI.hc5.1 hi)) (fun h20 => ?_)
    refine V_aload_n hC kX6_goesTick_23 rfl ?_
    refine V_iload_n hC kX6_goesTick_24 rfl ?_
    refine V_cV_fV hC (ct_goesOn hWr (by rw [upr_at]; exact hIi) (by rw [upr_at, e5]; exact hi)) mkX6_goesOn lmX6_91 kX6_goesTick_25 (Nat.le_of_ble_eq_true rfl) rfl rfl rfl (Nat.le_of_ble_eq_true rfl) ⟨(Nat.le_of_ble_eq_true rfl), (Nat.le_of_ble_eq_true rfl)⟩ ⟨rfl, rfl⟩ ⟨(Nat.le_of_ble_eq_true rfl), (Nat.le_of_ble_eq_true rfl)⟩ ?_
    refine V_iinc hC (_ + 1) [some _, some _] kX6_goesTick_28 rfl rfl rfl (Nat.le_of_ble_eq_true rfl) ?_
    refine V_goto hC 13 kX6_goesTick_31 (by decide) ?_
    refine V_eq (by rw [nI_succ]) ?_ ihi
    rw [upr_at, upr_upr, F_tickN]
def mtX6_goesBy : Mt := (yX6_goesBy, cX6_goesBy, 5, (some .int), 7, 162, 0, 0)
theorem kX6_goesBy_0 : Dk mtX6_goesBy 0 (.aload_n 0) 1 1 := ⟨by decide +kernel, rfl⟩
theorem kX6_goesBy_1 : Dk mtX6_goesBy 1 (.getfield 7) 3 4 := ⟨by decide +kernel, rfl⟩
theorem kX6_goesBy_4 : Dk mtX6_goesBy 4 (.iload_n 2) 1 5 := ⟨by decide +kernel, rfl⟩
theorem kX6_goesBy_5 : Dk mtX6_goesBy 5 (.iaload) 1 6 := ⟨by decide +kernel, rfl⟩
theorem kX6_goesBy_6 : Dk mtX6_goesBy 6 (.istore_n 3) 1 7 := ⟨by decide +kernel, rfl⟩
theorem kX6_goesBy_7 : Dk mtX6_goesBy 7 (.iconst 0) 1 8 := ⟨by decide +kernel, rfl⟩
theorem kX6_goesBy_8 : Dk mtX6_goesBy 8 (.istore 4) 2 10 := ⟨by decide +kernel, rfl⟩
theorem kX6_goesBy_10 : Dk mtX6_goesBy 10 (.iload 4) 2 12 := ⟨by decide +kernel, rfl⟩
theorem kX6_goesBy_12 : Dk mtX6_goesBy 12 (.iload_n 1) 1 13 := ⟨by decide +kernel, rfl⟩
theorem kX6_goesBy_13 : Dk mtX6_goesBy 13 (.if_icmp .ge 13) 3 16 := ⟨by decide +kernel, rfl⟩
theorem kX6_goesBy_16 : Dk mtX6_goesBy 16 (.aload_n 0) 1 17 := ⟨by decide +kernel, rfl⟩
theorem kX6_goesBy_17 : Dk mtX6_goesBy 17 (.invokevirtual 94) 3 20 := ⟨by decide +kernel, rfl⟩
theorem kX6_goesBy_20 : Dk mtX6_goesBy 20 (.iinc 4 1) 3 23 := ⟨by decide +kernel, rfl⟩
theorem kX6_goesBy_23 : Dk mtX6_goesBy 23 (.goto (-13)) 3 26 := ⟨by decide +kernel, rfl⟩
theorem kX6_goesBy_26 : Dk mtX6_goesBy 26 (.aload_n 0) 1 27 := ⟨by decide +kernel, rfl⟩
theorem kX6_goesBy_27 : Dk mtX6_goesBy 27 (.getfield 7) 3 30 := ⟨by decide +kernel, rfl⟩
theorem kX6_goesBy_30 : Dk mtX6_goesBy 30 (.iload_n 2) 1 31 := ⟨by decide +kernel, rfl⟩
theorem kX6_goesBy_31 : Dk mtX6_goesBy 31 (.iaload) 1 32 := ⟨by decide +kernel, rfl⟩
theorem kX6_goesBy_32 : Dk mtX6_goesBy 32 (.iload_n 3) 1 33 := ⟨by decide +kernel, rfl⟩
theorem kX6_goesBy_33 : Dk mtX6_goesBy 33 (.isub) 1 34 := ⟨by decide +kernel, rfl⟩
theorem kX6_goesBy_34 : Dk mtX6_goesBy 34 (.ireturn) 1 35 := ⟨by decide +kernel, rfl⟩
theorem lmX6_94 : LkM RX6 94 mtX6_goesTick := Or.inl (by decide +kernel)
theorem mkX6_goesTick : MkV mtX6_goesTick 0 := ⟨List.mem_of_getElem? (i := 1181) (by decide +kernel), by decide +kernel, by decide +kernel, by decide +kernel, ⟨by decide +kernel, by decide +kernel, by decide +kernel⟩⟩
set_option maxHeartbeats 4000000 in
set_option maxRecDepth 100000 in
theorem ct_goesBy {l : Launch} {w : Wd} {sg : Sg} (hWr : Wr w) {mo N j : Nat} (hI : Inv (sg (mo + 1))) (hN : N < 2 ^ 31) (hj : j < 140) : M l mtX6_goesBy w [vR (some (6, 0, mo)), vI (nI N), vI (nI j)] sg (fI (F_ticks (sg (mo + 1)) N j - (sg (mo + 1)) j) (upr sg (mo + 1) (F_ticks (sg (mo + 1)) N))) := by
  refine M_of [some (vR (some (6, 0, mo))), some (vI (nI N)), some (vI (nI j)), none, none] rfl (Nat.le_of_ble_eq_true rfl) (by decide +kernel) ?_
  intro p_ e_ s_ m_ args_ below_ meth_ c_ hC hO
  refine V_aload_n hC kX6_goesBy_0 rfl ?_
  refine V_getR hC hWr 6 1 lfX6_7 kX6_goesBy_1 (Nat.le_of_ble_eq_true rfl) (Nat.le_of_ble_eq_true rfl) rfl ?_
  refine V_iload_n hC kX6_goesBy_4 rfl ?_
  refine V_iald hC j (nI_clamp (by omega)) kX6_goesBy_5 (vp_in_nI hj (by decide)) ?_
  refine V_nameI (fun had e_had => ?_)
  refine V_istore_n hC [some _, some _, some _, some _, none] kX6_goesBy_6 rfl (Nat.le_of_ble_eq_true rfl) ?_
  refine V_iconst hC (0) kX6_goesBy_7 (by decide) ?_
  refine V_istore hC [some _, some _, some _, some _, some _] kX6_goesBy_8 rfl (Nat.le_of_ble_eq_true rfl) ?_
  refine V_canon (upr sg (mo + 1) (F_ticks (sg (mo + 1)) 0)) (by rw [F_ticks, upr_self]) ?_
  refine V_loop N (fun i => [some (vR (some (6, 0, mo))), some (vI (nI N)), some (vI (nI j)), some (vI had), some (vI (nI i))]) (fun i => upr sg (mo + 1) (F_ticks (sg (mo + 1)) i)) rfl rfl ?_ (fun i hi ihi => ?_)
  · refine V_iload hC kX6_goesBy_10 rfl ?_
    refine V_iload_n hC kX6_goesBy_12 rfl ?_
    refine V_icmp_ge hC 26 kX6_goesBy_13 (by decide) (fun h13 => ?_) (fun h13 => absurd h13 (not_not_intro (Int32.le_refl _)))
    refine V_aload_n hC kX6_goesBy_26 rfl ?_
    refine V_getR hC hWr 6 1 lfX6_7 kX6_goesBy_27 (Nat.le_of_ble_eq_true rfl) (Nat.le_of_ble_eq_true rfl) rfl ?_
    refine V_iload_n hC kX6_goesBy_30 rfl ?_
    refine V_iald hC j (nI_clamp (by omega)) kX6_goesBy_31 (vp_in_nI hj (by decide)) ?_
    refine V_iload_n hC kX6_goesBy_32 rfl ?_
    refine V_isub hC kX6_goesBy_33 ?_
    refine V_ireti hC rfl kX6_goesBy_34 ?_
    refine ⟨cI ?_, by with_reducible rfl⟩
    rw [e_had, upr_at]
  · refine V_iload hC kX6_goesBy_10 rfl ?_
    refine V_iload_n hC kX6_goesBy_12 rfl ?_
    refine V_icmp_ge hC 26 kX6_goesBy_13 (by decide) (fun h13 => absurd h13 (nI_ge hi hN)) (fun h13 => ?_)
    refine V_aload_n hC kX6_goesBy_16 rfl ?_
    refine V_cV_fV hC (ct_goesTick hWr (by rw [upr_at]; exact (Inv_ticks hI i).1)) mkX6_goesTick lmX6_94 kX6_goesBy_17 (Nat.le_of_ble_eq_true rfl) rfl rfl rfl (Nat.le_of_ble_eq_true rfl) ⟨(Nat.le_of_ble_eq_true rfl), (Nat.le_of_ble_eq_true rfl)⟩ ⟨rfl, rfl⟩ ⟨(Nat.le_of_ble_eq_true rfl), (Nat.le_of_ble_eq_true rfl)⟩ ?_
    refine V_iinc hC (_ + 1) [some _, some _, some _, some _, some _] kX6_goesBy_20 rfl rfl rfl (Nat.le_of_ble_eq_true rfl) ?_
    refine V_goto hC 10 kX6_goesBy_23 (by decide) ?_
    refine V_eq (by rw [nI_succ]) ?_ ihi
    rw [upr_at, upr_upr, F_ticks]
end
section
/-! the reference's actions: pure -/
abbrev cLamp (st k n bo re : Int32) : Prop := (inn st 10 99 ∧ inn k 0 2 ∧ inn n 1 20) ∧ inn bo 1 6 ∧ inn re 0 bo
abbrev cLight (g : Gs) (q st k n bo re : Int32) : Prop := inn q 0 199 ∧ cLamp st k n bo re ∧ g 4 < 6
def F_addLight (g : Gs) (q st k n bo re : Int32) : Gs := F_inc (upd (upd (upd (upd (upd (upd g (tn (12 + 8 * g 4 + 0)) q) (tn (12 + 8 * g 4 + 1)) st) (tn (12 + 8 * g 4 + 2)) k) (tn (12 + 8 * g 4 + 3)) n) (tn (12 + 8 * g 4 + 4)) bo) (tn (12 + 8 * g 4 + 5)) re) 4 1
abbrev cBoat (g : Gs) (q v : Int32) : Prop := inn q 0 199 ∧ inn v (-6) 6 ∧ g 5 < 8
def F_addBoat (g : Gs) (q v : Int32) : Gs := F_inc (pB (pB g (g 5) 0 q) (g 5) 1 v) 5 1
abbrev cSteer (g : Gs) (b v : Int32) : Prop := inn b 0 (g 5 - 1) ∧ inn v (-6) 6
abbrev cTalk (g : Gs) (b n : Int32) : Prop := inn b 0 (g 5 - 1) ∧ inn n 1 99 ∧ 0 < gB g b 2
abbrev cLean (g : Gs) (a v : Int32) : Prop := inn a 0 (g 4 - 1) ∧ inn v (-30) 30
abbrev cDim (g : Gs) (a v : Int32) : Prop := inn a 0 (g 4 - 1) ∧ inn v 10 99
def F_lean (g : Gs) (a v : Int32) : Gs := upd g (tn (12 + 8 * a + 6)) v
def F_dim (g : Gs) (a v : Int32) : Gs := upd g (tn (12 + 8 * a + 1)) v
def F_most (what : Int32) : Int32 := if what = 0 then 100 else if what = 1 then 10 else if what = 2 then 300 else 50
abbrev cSet (what v : Int32) : Prop := inn what 0 3 ∧ inn v (b01 (what = 1 ∨ what = 2)) (F_most what)
theorem in_L {x a : Int32} (hx : 0 ≤ x.toInt ∧ x.toInt ≤ 6) (h : inn a 0 (x - 1)) : ∃ n, n < tn x ∧ a = nI n := by
  obtain ⟨h1, h2⟩ := cnt_in (n := 6) hx.1 hx.2
  have h3 := Int32.le_iff_toInt_le.mp h.1
  have h4 := Int32.le_iff_toInt_le.mp h.2
  have z1 : (1 : Int32).toInt = 1 := rfl
  have z0 : (0 : Int32).toInt = 0 := rfl
  rw [fb_subI (by omega) (by omega)] at h4
  obtain ⟨h5, h6⟩ := cnt_in (x := a) (n := 6) (by omega) (by omega)
  refine ⟨tn a, ?_, h6⟩
  have e1 : (tn x : Int) = x.toInt := by rw [h2, nI_toInt (by omega), show tn (nI (tn x)) = tn x from nI_clamp (by omega)]
  have e2 : (tn a : Int) = a.toInt := by rw [h6, nI_toInt (by omega), show tn (nI (tn a)) = tn a from nI_clamp (by omega)]
  omega
theorem in_B {x a : Int32} (hx : 0 ≤ x.toInt ∧ x.toInt ≤ 8) (h : inn a 0 (x - 1)) : ∃ n, n < tn x ∧ a = nI n := by
  obtain ⟨h1, h2⟩ := cnt_in (n := 8) hx.1 hx.2
  have h3 := Int32.le_iff_toInt_le.mp h.1
  have h4 := Int32.le_iff_toInt_le.mp h.2
  have z1 : (1 : Int32).toInt = 1 := rfl
  have z0 : (0 : Int32).toInt = 0 := rfl
  rw [fb_subI (by omega) (by omega)] at h4
  obtain ⟨h5, h6⟩ := cnt_in (x := a) (n := 8) (by omega) (by omega)
  refine ⟨tn a, ?_, h6⟩
  have e1 : (tn x : Int) = x.toInt := by rw [h2, nI_toInt (by omega), show tn (nI (tn x)) = tn x from nI_clamp (by omega)]
  have e2 : (tn a : Int) = a.toInt := by rw [h6, nI_toInt (by omega), show tn (nI (tn a)) = tn a from nI_clamp (by omega)]
  omega
theorem vpL {x a : Int32} (hx : 0 ≤ x.toInt ∧ x.toInt ≤ 6) (h : inn a 0 (x - 1)) : vp_in a 6 := by
  obtain ⟨n, h1, rfl⟩ := in_L hx h
  exact vp_in_nI (by have := (cnt_in (n := 6) hx.1 hx.2).1; omega) (by decide)
theorem vpB {x a : Int32} (hx : 0 ≤ x.toInt ∧ x.toInt ≤ 8) (h : inn a 0 (x - 1)) : vp_in a 8 := by
  obtain ⟨n, h1, rfl⟩ := in_B hx h
  exact vp_in_nI (by have := (cnt_in (n := 8) hx.1 hx.2).1; omega) (by decide)
theorem vp_lt {x : Int32} {n : Nat} (h0 : 0 ≤ x.toInt) (h : x.toInt < n) : vp_in x n := vp_in_iff.mpr ⟨h0, h⟩
theorem lt6 {x : Int32} (h0 : 0 ≤ x.toInt) (h : x < 6) : vp_in x 6 := vp_lt h0 (Int32.lt_iff_toInt_lt.mp h)
theorem lt8 {x : Int32} (h0 : 0 ≤ x.toInt) (h : x < 8) : vp_in x 8 := vp_lt h0 (Int32.lt_iff_toInt_lt.mp h)
theorem inn_vp {x : Int32} {m : Nat} {M : Int32} (hM : M.toInt < m) (h : inn x 0 M) : vp_in x m := by
  have h3 := Int32.le_iff_toInt_le.mp h.1
  have h4 := Int32.le_iff_toInt_le.mp h.2
  have z0 : (0 : Int32).toInt = 0 := rfl
  exact vp_lt (by omega) (by omega)
end
section
-- HOW ct_in fI
-- HOW ct_fails fI
-- HOW ct_of fI
-- HOW ct_ofBoat fI
-- HOW ct_layBoat fV
-- HOW ct_isLight fI
-- HOW ct_isBoat fI
-- HOW ct_isPlace fI
-- HOW ct_bright fI
-- HOW ct_worth fI
-- HOW ct_serves fI
-- HOW ct_best fI
-- HOW ct_sails fV
-- HOW ct_drops fV
-- HOW ct_wished fI
-- HOW ct_hands fV
-- HOW ct_wishes fV
-- HOW ct_finds fV
-- HOW ct_goesOn fV
-- HOW ct_goesTick fV
-- HOW ct_goesBy fI
-- HOW ct_putAside fV
-- HOW ct_takeBack fV
-- HOW ct_isLamp fI
-- HOW ct_addsLight fI
-- HOW ct_actsLight fI
-- HOW ct_addsBoat fI
-- HOW ct_actsBoat fI
-- HOW ct_actsSteer fI
-- HOW ct_canTalk fI
-- HOW ct_actsTalk fI
-- HOW ct_actsLean fI
-- HOW ct_actsDim fI
-- HOW ct_mostOf fI
-- HOW ct_isSetting fI
-- HOW ct_actsSet fI
-- HOW ct_actsTicks fI
-- HOW ct_boatsThat fI
-- HOW ct_servedBy fI
/-! the reference: rows copied, actions -/
def cpy (f g : Nat → Int32) (n : Nat) : Nat → Int32 := fun z => if z < n then f z else g z
theorem cpy_0 (f g : Nat → Int32) : cpy f g 0 = g := by funext z; simp [cpy]
theorem cpy_s (f g : Nat → Int32) (n : Nat) : upd (cpy f g n) n (f n) = cpy f g (n + 1) := by
  funext z
  unfold cpy upd
  by_cases h : z = n
  · subst h; simp
  · rw [if_neg h]
    by_cases h2 : z < n
    · show (if z < n then f z else g z) = _
      rw [if_pos h2, if_pos (by omega)]
    · show (if z < n then f z else g z) = _
      rw [if_neg h2, if_neg (by omega)]
theorem nI_lit {x : Int32} {n : Nat} (h : x = nI n) : nI n ≤ x := by rw [h]; exact Int32.le_refl _
def mtX6_putAside : Mt := (yX6_putAside, cX6_putAside, 2, none, 0, 0, 0, 0)
theorem kX6_putAside_0 : Dk mtX6_putAside 0 (.iconst 0) 1 1 := ⟨by decide +kernel, rfl⟩
theorem kX6_putAside_1 : Dk mtX6_putAside 1 (.istore_n 1) 1 2 := ⟨by decide +kernel, rfl⟩
theorem kX6_putAside_2 : Dk mtX6_putAside 2 (.iload_n 1) 1 3 := ⟨by decide +kernel, rfl⟩
theorem kX6_putAside_3 : Dk mtX6_putAside 3 (.sipush 140) 3 6 := ⟨by decide +kernel, rfl⟩
theorem kX6_putAside_6 : Dk mtX6_putAside 6 (.if_icmp .ge 21) 3 9 := ⟨by decide +kernel, rfl⟩
theorem kX6_putAside_9 : Dk mtX6_putAside 9 (.aload_n 0) 1 10 := ⟨by decide +kernel, rfl⟩
theorem kX6_putAside_10 : Dk mtX6_putAside 10 (.getfield 13) 3 13 := ⟨by decide +kernel, rfl⟩
theorem kX6_putAside_13 : Dk mtX6_putAside 13 (.iload_n 1) 1 14 := ⟨by decide +kernel, rfl⟩
theorem kX6_putAside_14 : Dk mtX6_putAside 14 (.aload_n 0) 1 15 := ⟨by decide +kernel, rfl⟩
theorem kX6_putAside_15 : Dk mtX6_putAside 15 (.getfield 7) 3 18 := ⟨by decide +kernel, rfl⟩
theorem kX6_putAside_18 : Dk mtX6_putAside 18 (.iload_n 1) 1 19 := ⟨by decide +kernel, rfl⟩
theorem kX6_putAside_19 : Dk mtX6_putAside 19 (.iaload) 1 20 := ⟨by decide +kernel, rfl⟩
theorem kX6_putAside_20 : Dk mtX6_putAside 20 (.iastore) 1 21 := ⟨by decide +kernel, rfl⟩
theorem kX6_putAside_21 : Dk mtX6_putAside 21 (.iinc 1 1) 3 24 := ⟨by decide +kernel, rfl⟩
theorem kX6_putAside_24 : Dk mtX6_putAside 24 (.goto (-22)) 3 27 := ⟨by decide +kernel, rfl⟩
theorem kX6_putAside_27 : Dk mtX6_putAside 27 (.return_) 1 28 := ⟨by decide +kernel, rfl⟩
theorem lfX6_13 : LkF RX6 13 6 2 := Or.inl (by decide +kernel)
set_option maxHeartbeats 4000000 in
set_option maxRecDepth 100000 in
theorem ct_putAside {l : Launch} {w : Wd} {sg : Sg} (hWr : Wr w) {mo : Nat} : M l mtX6_putAside w [vR (some (6, 0, mo))] sg (fV0 (upr sg (mo + 2) (cpy (sg (mo + 1)) (sg (mo + 2)) 140))) := by
  refine M_of [some (vR (some (6, 0, mo))), none] rfl (Nat.le_of_ble_eq_true rfl) (by decide +kernel) ?_
  intro p_ e_ s_ m_ args_ below_ meth_ c_ hC hO
  refine V_iconst hC (0) kX6_putAside_0 (by decide) ?_
  refine V_istore_n hC [some _, some _] kX6_putAside_1 rfl (Nat.le_of_ble_eq_true rfl) ?_
  refine V_canon (upr sg (mo + 2) (cpy (sg (mo + 1)) (sg (mo + 2)) 0)) (by rw [cpy_0, upr_self]) ?_
  refine V_loop 140 (fun i => [some (vR (some (6, 0, mo))), some (vI (nI i))]) (fun i => upr sg (mo + 2) (cpy (sg (mo + 1)) (sg (mo + 2)) i)) rfl rfl ?_ (fun i hi ihi => ?_)
  · refine V_iload_n hC kX6_putAside_2 rfl ?_
    refine V_sipush hC (140) kX6_putAside_3 (by decide) ?_
    refine V_icmp_ge hC 27 kX6_putAside_6 (by decide) (fun h6 => ?_) (fun h6 => absurd h6 (not_not_intro (nI_lit rfl)))
    refine V_vret hC rfl kX6_putAside_27 ?_
    exact ⟨by with_reducible rfl, by with_reducible rfl⟩
  · refine V_iload_n hC kX6_putAside_2 rfl ?_
    refine V_sipush hC (140) kX6_putAside_3 (by decide) ?_
    refine V_icmp_ge hC 27 kX6_putAside_6 (by decide) (fun h6 => absurd h6 (by exact nI_ge (b := 140) hi (by decide))) (fun h6 => ?_)
    refine V_aload_n hC kX6_putAside_9 rfl ?_
    refine V_getR hC hWr 6 2 lfX6_13 kX6_putAside_10 (Nat.le_of_ble_eq_true rfl) (Nat.le_of_ble_eq_true rfl) rfl ?_
    refine V_iload_n hC kX6_putAside_13 rfl ?_
    refine V_aload_n hC kX6_putAside_14 rfl ?_
    refine V_getR hC hWr 6 1 lfX6_7 kX6_putAside_15 (Nat.le_of_ble_eq_true rfl) (Nat.le_of_ble_eq_true rfl) rfl ?_
    refine V_iload_n hC kX6_putAside_18 rfl ?_
    refine V_iald hC i (nI_clamp (by omega)) kX6_putAside_19 (vp_in_nI hi (by decide)) ?_
    refine V_iast hC i (nI_clamp (by omega)) kX6_putAside_20 (vp_in_nI hi (by decide)) ?_
    refine V_iinc hC (_ + 1) [some _, some _] kX6_putAside_21 rfl rfl rfl (Nat.le_of_ble_eq_true rfl) ?_
    refine V_goto hC 2 kX6_putAside_24 (by decide) ?_
    refine V_eq (by rw [nI_succ]) ?_ ihi
    unfold ups
    rw [upr_at, upr_upr, upr_ne _ _ (by omega), cpy_s]
def mtX6_takeBack : Mt := (yX6_takeBack, cX6_takeBack, 2, none, 0, 0, 0, 0)
theorem kX6_takeBack_0 : Dk mtX6_takeBack 0 (.iconst 0) 1 1 := ⟨by decide +kernel, rfl⟩
theorem kX6_takeBack_1 : Dk mtX6_takeBack 1 (.istore_n 1) 1 2 := ⟨by decide +kernel, rfl⟩
theorem kX6_takeBack_2 : Dk mtX6_takeBack 2 (.iload_n 1) 1 3 := ⟨by decide +kernel, rfl⟩
theorem kX6_takeBack_3 : Dk mtX6_takeBack 3 (.sipush 140) 3 6 := ⟨by decide +kernel, rfl⟩
theorem kX6_takeBack_6 : Dk mtX6_takeBack 6 (.if_icmp .ge 21) 3 9 := ⟨by decide +kernel, rfl⟩
theorem kX6_takeBack_9 : Dk mtX6_takeBack 9 (.aload_n 0) 1 10 := ⟨by decide +kernel, rfl⟩
theorem kX6_takeBack_10 : Dk mtX6_takeBack 10 (.getfield 7) 3 13 := ⟨by decide +kernel, rfl⟩
theorem kX6_takeBack_13 : Dk mtX6_takeBack 13 (.iload_n 1) 1 14 := ⟨by decide +kernel, rfl⟩
theorem kX6_takeBack_14 : Dk mtX6_takeBack 14 (.aload_n 0) 1 15 := ⟨by decide +kernel, rfl⟩
theorem kX6_takeBack_15 : Dk mtX6_takeBack 15 (.getfield 13) 3 18 := ⟨by decide +kernel, rfl⟩
theorem kX6_takeBack_18 : Dk mtX6_takeBack 18 (.iload_n 1) 1 19 := ⟨by decide +kernel, rfl⟩
theorem kX6_takeBack_19 : Dk mtX6_takeBack 19 (.iaload) 1 20 := ⟨by decide +kernel, rfl⟩
theorem kX6_takeBack_20 : Dk mtX6_takeBack 20 (.iastore) 1 21 := ⟨by decide +kernel, rfl⟩
theorem kX6_takeBack_21 : Dk mtX6_takeBack 21 (.iinc 1 1) 3 24 := ⟨by decide +kernel, rfl⟩
theorem kX6_takeBack_24 : Dk mtX6_takeBack 24 (.goto (-22)) 3 27 := ⟨by decide +kernel, rfl⟩
theorem kX6_takeBack_27 : Dk mtX6_takeBack 27 (.return_) 1 28 := ⟨by decide +kernel, rfl⟩
set_option maxHeartbeats 4000000 in
set_option maxRecDepth 100000 in
theorem ct_takeBack {l : Launch} {w : Wd} {sg : Sg} (hWr : Wr w) {mo : Nat} : M l mtX6_takeBack w [vR (some (6, 0, mo))] sg (fV0 (upr sg (mo + 1) (cpy (sg (mo + 2)) (sg (mo + 1)) 140))) := by
  refine M_of [some (vR (some (6, 0, mo))), none] rfl (Nat.le_of_ble_eq_true rfl) (by decide +kernel) ?_
  intro p_ e_ s_ m_ args_ below_ meth_ c_ hC hO
  refine V_iconst hC (0) kX6_takeBack_0 (by decide) ?_
  refine V_istore_n hC [some _, some _] kX6_takeBack_1 rfl (Nat.le_of_ble_eq_true rfl) ?_
  refine V_canon (upr sg (mo + 1) (cpy (sg (mo + 2)) (sg (mo + 1)) 0)) (by rw [cpy_0, upr_self]) ?_
  refine V_loop 140 (fun i => [some (vR (some (6, 0, mo))), some (vI (nI i))]) (fun i => upr sg (mo + 1) (cpy (sg (mo + 2)) (sg (mo + 1)) i)) rfl rfl ?_ (fun i hi ihi => ?_)
  · refine V_iload_n hC kX6_takeBack_2 rfl ?_
    refine V_sipush hC (140) kX6_takeBack_3 (by decide) ?_
    refine V_icmp_ge hC 27 kX6_takeBack_6 (by decide) (fun h6 => ?_) (fun h6 => absurd h6 (not_not_intro (nI_lit rfl)))
    refine V_vret hC rfl kX6_takeBack_27 ?_
    exact ⟨by with_reducible rfl, by with_reducible rfl⟩
  · refine V_iload_n hC kX6_takeBack_2 rfl ?_
    refine V_sipush hC (140) kX6_takeBack_3 (by decide) ?_
    refine V_icmp_ge hC 27 kX6_takeBack_6 (by decide) (fun h6 => absurd h6 (by exact nI_ge (b := 140) hi (by decide))) (fun h6 => ?_)
    refine V_aload_n hC kX6_takeBack_9 rfl ?_
    refine V_getR hC hWr 6 1 lfX6_7 kX6_takeBack_10 (Nat.le_of_ble_eq_true rfl) (Nat.le_of_ble_eq_true rfl) rfl ?_
    refine V_iload_n hC kX6_takeBack_13 rfl ?_
    refine V_aload_n hC kX6_takeBack_14 rfl ?_
    refine V_getR hC hWr 6 2 lfX6_13 kX6_takeBack_15 (Nat.le_of_ble_eq_true rfl) (Nat.le_of_ble_eq_true rfl) rfl ?_
    refine V_iload_n hC kX6_takeBack_18 rfl ?_
    refine V_iald hC i (nI_clamp (by omega)) kX6_takeBack_19 (vp_in_nI hi (by decide)) ?_
    refine V_iast hC i (nI_clamp (by omega)) kX6_takeBack_20 (vp_in_nI hi (by decide)) ?_
    refine V_iinc hC (_ + 1) [some _, some _] kX6_takeBack_21 rfl rfl rfl (Nat.le_of_ble_eq_true rfl) ?_
    refine V_goto hC 2 kX6_takeBack_24 (by decide) ?_
    refine V_eq (by rw [nI_succ]) ?_ ihi
    unfold ups
    rw [upr_at, upr_upr, upr_ne _ _ (by omega), cpy_s]
def mtX6_isLamp : Mt := (yX6_isLamp, cX6_isLamp, 6, (some .boolean), 1, 22, 0, 0)
theorem kX6_isLamp_0 : Dk mtX6_isLamp 0 (.iload_n 0) 1 1 := ⟨by decide +kernel, rfl⟩
theorem kX6_isLamp_1 : Dk mtX6_isLamp 1 (.bipush 10) 2 3 := ⟨by decide +kernel, rfl⟩
theorem kX6_isLamp_3 : Dk mtX6_isLamp 3 (.bipush 99) 2 5 := ⟨by decide +kernel, rfl⟩
theorem kX6_isLamp_5 : Dk mtX6_isLamp 5 (.invokestatic 39) 3 8 := ⟨by decide +kernel, rfl⟩
theorem kX6_isLamp_8 : Dk mtX6_isLamp 8 (.ifCond .eq 26) 3 11 := ⟨by decide +kernel, rfl⟩
theorem kX6_isLamp_11 : Dk mtX6_isLamp 11 (.iload_n 1) 1 12 := ⟨by decide +kernel, rfl⟩
theorem kX6_isLamp_12 : Dk mtX6_isLamp 12 (.iconst 0) 1 13 := ⟨by decide +kernel, rfl⟩
theorem kX6_isLamp_13 : Dk mtX6_isLamp 13 (.iconst 2) 1 14 := ⟨by decide +kernel, rfl⟩
theorem kX6_isLamp_14 : Dk mtX6_isLamp 14 (.invokestatic 39) 3 17 := ⟨by decide +kernel, rfl⟩
theorem kX6_isLamp_17 : Dk mtX6_isLamp 17 (.ifCond .eq 17) 3 20 := ⟨by decide +kernel, rfl⟩
theorem kX6_isLamp_20 : Dk mtX6_isLamp 20 (.iload_n 2) 1 21 := ⟨by decide +kernel, rfl⟩
theorem kX6_isLamp_21 : Dk mtX6_isLamp 21 (.iconst 1) 1 22 := ⟨by decide +kernel, rfl⟩
theorem kX6_isLamp_22 : Dk mtX6_isLamp 22 (.bipush 20) 2 24 := ⟨by decide +kernel, rfl⟩
theorem kX6_isLamp_24 : Dk mtX6_isLamp 24 (.invokestatic 39) 3 27 := ⟨by decide +kernel, rfl⟩
theorem kX6_isLamp_27 : Dk mtX6_isLamp 27 (.ifCond .eq 7) 3 30 := ⟨by decide +kernel, rfl⟩
theorem kX6_isLamp_30 : Dk mtX6_isLamp 30 (.iconst 1) 1 31 := ⟨by decide +kernel, rfl⟩
theorem kX6_isLamp_31 : Dk mtX6_isLamp 31 (.goto 4) 3 34 := ⟨by decide +kernel, rfl⟩
theorem kX6_isLamp_34 : Dk mtX6_isLamp 34 (.iconst 0) 1 35 := ⟨by decide +kernel, rfl⟩
theorem kX6_isLamp_35 : Dk mtX6_isLamp 35 (.istore 5) 2 37 := ⟨by decide +kernel, rfl⟩
theorem kX6_isLamp_37 : Dk mtX6_isLamp 37 (.iload 5) 2 39 := ⟨by decide +kernel, rfl⟩
theorem kX6_isLamp_39 : Dk mtX6_isLamp 39 (.ifCond .eq 27) 3 42 := ⟨by decide +kernel, rfl⟩
theorem kX6_isLamp_42 : Dk mtX6_isLamp 42 (.iload_n 3) 1 43 := ⟨by decide +kernel, rfl⟩
theorem kX6_isLamp_43 : Dk mtX6_isLamp 43 (.iconst 1) 1 44 := ⟨by decide +kernel, rfl⟩
theorem kX6_isLamp_44 : Dk mtX6_isLamp 44 (.bipush 6) 2 46 := ⟨by decide +kernel, rfl⟩
theorem kX6_isLamp_46 : Dk mtX6_isLamp 46 (.invokestatic 39) 3 49 := ⟨by decide +kernel, rfl⟩
theorem kX6_isLamp_49 : Dk mtX6_isLamp 49 (.ifCond .eq 17) 3 52 := ⟨by decide +kernel, rfl⟩
theorem kX6_isLamp_52 : Dk mtX6_isLamp 52 (.iload 4) 2 54 := ⟨by decide +kernel, rfl⟩
theorem kX6_isLamp_54 : Dk mtX6_isLamp 54 (.iconst 0) 1 55 := ⟨by decide +kernel, rfl⟩
theorem kX6_isLamp_55 : Dk mtX6_isLamp 55 (.iload_n 3) 1 56 := ⟨by decide +kernel, rfl⟩
theorem kX6_isLamp_56 : Dk mtX6_isLamp 56 (.invokestatic 39) 3 59 := ⟨by decide +kernel, rfl⟩
theorem kX6_isLamp_59 : Dk mtX6_isLamp 59 (.ifCond .eq 7) 3 62 := ⟨by decide +kernel, rfl⟩
theorem kX6_isLamp_62 : Dk mtX6_isLamp 62 (.iconst 1) 1 63 := ⟨by decide +kernel, rfl⟩
theorem kX6_isLamp_63 : Dk mtX6_isLamp 63 (.goto 4) 3 66 := ⟨by decide +kernel, rfl⟩
theorem kX6_isLamp_66 : Dk mtX6_isLamp 66 (.iconst 0) 1 67 := ⟨by decide +kernel, rfl⟩
theorem kX6_isLamp_67 : Dk mtX6_isLamp 67 (.ireturn) 1 68 := ⟨by decide +kernel, rfl⟩
set_option maxHeartbeats 4000000 in
set_option maxRecDepth 100000 in
theorem ct_isLamp {l : Launch} {w : Wd} {sg : Sg} (hWr : Wr w) (st k n bo re : Int32) : M l mtX6_isLamp w [vI st, vI k, vI n, vI bo, vI re] sg (fI (b01 (cLamp st k n bo re)) sg) := by
  refine M_of [some (vI st), some (vI k), some (vI n), some (vI bo), some (vI re), none] rfl (Nat.le_of_ble_eq_true rfl) (by decide +kernel) ?_
  intro p_ e_ s_ m_ args_ below_ meth_ c_ hC hO
  refine V_join 35 (b01 (inn st 10 99 ∧ inn k 0 2 ∧ inn n 1 20)) ?_ (fun j35 => ?_)
  · refine V_nameI (fun is1 e_is1 => ?_)
    refine V_istore hC [some _, some _, some _, some _, some _, some _] kX6_isLamp_35 rfl (Nat.le_of_ble_eq_true rfl) ?_
    refine V_iload hC kX6_isLamp_37 rfl ?_
    refine V_if_eq hC 66 kX6_isLamp_39 (by decide) (fun h39 => ?_) (fun h39 => ?_)
    · refine V_iconst hC (0) kX6_isLamp_66 (by decide) ?_
      refine V_iretz hC rfl kX6_isLamp_67 ?_ ?_
      · first | exact Or.inl rfl | exact Or.inr rfl | exact b01_z _
      · refine ⟨?_, by with_reducible rfl⟩
        first
          | exact cI (b01_f (fun z => (b0_of e_is1 h39) z.1)).symm
          | exact cI (b01_f (fun z => (b01e.mp h49) z.2.1)).symm
          | exact cI (b01_f (fun z => (b01e.mp h59) z.2.2)).symm
          | exact cI (b01_t ⟨b1_of e_is1 h39, b01n.mp h49, b01n.mp h59⟩).symm
    · refine V_iload_n hC kX6_isLamp_42 rfl ?_
      refine V_iconst hC (1) kX6_isLamp_43 (by decide) ?_
      refine V_bipush hC (6) kX6_isLamp_44 (by decide) ?_
      refine V_cS_fI hC (ct_in hWr _ _ _) mkX6_in lmX6_39 kX6_isLamp_46 rfl rfl (Nat.le_of_ble_eq_true rfl) ⟨(Nat.le_of_ble_eq_true rfl), (Nat.le_of_ble_eq_true rfl)⟩ ⟨rfl, rfl⟩ ⟨(Nat.le_of_ble_eq_true rfl), (Nat.le_of_ble_eq_true rfl)⟩ ?_
      refine V_if_eq hC 66 kX6_isLamp_49 (by decide) (fun h49 => ?_) (fun h49 => ?_)
      · refine V_iconst hC (0) kX6_isLamp_66 (by decide) ?_
        refine V_iretz hC rfl kX6_isLamp_67 ?_ ?_
        · first | exact Or.inl rfl | exact Or.inr rfl | exact b01_z _
        · refine ⟨?_, by with_reducible rfl⟩
          first
            | exact cI (b01_f (fun z => (b0_of e_is1 h39) z.1)).symm
            | exact cI (b01_f (fun z => (b01e.mp h49) z.2.1)).symm
            | exact cI (b01_f (fun z => (b01e.mp h59) z.2.2)).symm
            | exact cI (b01_t ⟨b1_of e_is1 h39, b01n.mp h49, b01n.mp h59⟩).symm
      · refine V_iload hC kX6_isLamp_52 rfl ?_
        refine V_iconst hC (0) kX6_isLamp_54 (by decide) ?_
        refine V_iload_n hC kX6_isLamp_55 rfl ?_
        refine V_cS_fI hC (ct_in hWr _ _ _) mkX6_in lmX6_39 kX6_isLamp_56 rfl rfl (Nat.le_of_ble_eq_true rfl) ⟨(Nat.le_of_ble_eq_true rfl), (Nat.le_of_ble_eq_true rfl)⟩ ⟨rfl, rfl⟩ ⟨(Nat.le_of_ble_eq_true rfl), (Nat.le_of_ble_eq_true rfl)⟩ ?_
        refine V_if_eq hC 66 kX6_isLamp_59 (by decide) (fun h59 => ?_) (fun h59 => ?_)
        · refine V_iconst hC (0) kX6_isLamp_66 (by decide) ?_
          refine V_iretz hC rfl kX6_isLamp_67 ?_ ?_
          · first | exact Or.inl rfl | exact Or.inr rfl | exact b01_z _
          · refine ⟨?_, by with_reducible rfl⟩
            first
              | exact cI (b01_f (fun z => (b0_of e_is1 h39) z.1)).symm
              | exact cI (b01_f (fun z => (b01e.mp h49) z.2.1)).symm
              | exact cI (b01_f (fun z => (b01e.mp h59) z.2.2)).symm
              | exact cI (b01_t ⟨b1_of e_is1 h39, b01n.mp h49, b01n.mp h59⟩).symm
        · refine V_iconst hC (1) kX6_isLamp_62 (by decide) ?_
          refine V_goto hC 67 kX6_isLamp_63 (by decide) ?_
          refine V_iretz hC rfl kX6_isLamp_67 ?_ ?_
          · first | exact Or.inl rfl | exact Or.inr rfl | exact b01_z _
          · refine ⟨?_, by with_reducible rfl⟩
            first
              | exact cI (b01_f (fun z => (b0_of e_is1 h39) z.1)).symm
              | exact cI (b01_f (fun z => (b01e.mp h49) z.2.1)).symm
              | exact cI (b01_f (fun z => (b01e.mp h59) z.2.2)).symm
              | exact cI (b01_t ⟨b1_of e_is1 h39, b01n.mp h49, b01n.mp h59⟩).symm
  · refine V_iload_n hC kX6_isLamp_0 rfl ?_
    refine V_bipush hC (10) kX6_isLamp_1 (by decide) ?_
    refine V_bipush hC (99) kX6_isLamp_3 (by decide) ?_
    refine V_cS_fI hC (ct_in hWr _ _ _) mkX6_in lmX6_39 kX6_isLamp_5 rfl rfl (Nat.le_of_ble_eq_true rfl) ⟨(Nat.le_of_ble_eq_true rfl), (Nat.le_of_ble_eq_true rfl)⟩ ⟨rfl, rfl⟩ ⟨(Nat.le_of_ble_eq_true rfl), (Nat.le_of_ble_eq_true rfl)⟩ ?_
    refine V_if_eq hC 34 kX6_isLamp_8 (by decide) (fun h8 => ?_) (fun h8 => ?_)
    · refine V_iconst hC (0) kX6_isLamp_34 (by decide) ?_
      exact j35 _ ((b01_f (fun z => (b01e.mp h8) z.1)).symm)
    · refine V_iload_n hC kX6_isLamp_11 rfl ?_
      refine V_iconst hC (0) kX6_isLamp_12 (by decide) ?_
      refine V_iconst hC (2) kX6_isLamp_13 (by decide) ?_
      refine V_cS_fI hC (ct_in hWr _ _ _) mkX6_in lmX6_39 kX6_isLamp_14 rfl rfl (Nat.le_of_ble_eq_true rfl) ⟨(Nat.le_of_ble_eq_true rfl), (Nat.le_of_ble_eq_true rfl)⟩ ⟨rfl, rfl⟩ ⟨(Nat.le_of_ble_eq_true rfl), (Nat.le_of_ble_eq_true rfl)⟩ ?_
      refine V_if_eq hC 34 kX6_isLamp_17 (by decide) (fun h17 => ?_) (fun h17 => ?_)
      · refine V_iconst hC (0) kX6_isLamp_34 (by decide) ?_
        exact j35 _ ((b01_f (fun z => (b01e.mp h17) z.2.1)).symm)
      · refine V_iload_n hC kX6_isLamp_20 rfl ?_
        refine V_iconst hC (1) kX6_isLamp_21 (by decide) ?_
        refine V_bipush hC (20) kX6_isLamp_22 (by decide) ?_
        refine V_cS_fI hC (ct_in hWr _ _ _) mkX6_in lmX6_39 kX6_isLamp_24 rfl rfl (Nat.le_of_ble_eq_true rfl) ⟨(Nat.le_of_ble_eq_true rfl), (Nat.le_of_ble_eq_true rfl)⟩ ⟨rfl, rfl⟩ ⟨(Nat.le_of_ble_eq_true rfl), (Nat.le_of_ble_eq_true rfl)⟩ ?_
        refine V_if_eq hC 34 kX6_isLamp_27 (by decide) (fun h27 => ?_) (fun h27 => ?_)
        · refine V_iconst hC (0) kX6_isLamp_34 (by decide) ?_
          exact j35 _ ((b01_f (fun z => (b01e.mp h27) z.2.2)).symm)
        · refine V_iconst hC (1) kX6_isLamp_30 (by decide) ?_
          refine V_goto hC 35 kX6_isLamp_31 (by decide) ?_
          exact j35 _ ((b01_t ⟨b01n.mp h8, b01n.mp h17, b01n.mp h27⟩).symm)
def mtX6_addsLight : Mt := (yX6_addsLight, cX6_addsLight, 8, (some .int), 0, 0, 0, 0)
theorem kX6_addsLight_0 : Dk mtX6_addsLight 0 (.bipush 12) 2 2 := ⟨by decide +kernel, rfl⟩
theorem kX6_addsLight_2 : Dk mtX6_addsLight 2 (.bipush 8) 2 4 := ⟨by decide +kernel, rfl⟩
theorem kX6_addsLight_4 : Dk mtX6_addsLight 4 (.aload_n 0) 1 5 := ⟨by decide +kernel, rfl⟩
theorem kX6_addsLight_5 : Dk mtX6_addsLight 5 (.getfield 7) 3 8 := ⟨by decide +kernel, rfl⟩
theorem kX6_addsLight_8 : Dk mtX6_addsLight 8 (.iconst 4) 1 9 := ⟨by decide +kernel, rfl⟩
theorem kX6_addsLight_9 : Dk mtX6_addsLight 9 (.iaload) 1 10 := ⟨by decide +kernel, rfl⟩
theorem kX6_addsLight_10 : Dk mtX6_addsLight 10 (.imul) 1 11 := ⟨by decide +kernel, rfl⟩
theorem kX6_addsLight_11 : Dk mtX6_addsLight 11 (.iadd) 1 12 := ⟨by decide +kernel, rfl⟩
theorem kX6_addsLight_12 : Dk mtX6_addsLight 12 (.istore 7) 2 14 := ⟨by decide +kernel, rfl⟩
theorem kX6_addsLight_14 : Dk mtX6_addsLight 14 (.aload_n 0) 1 15 := ⟨by decide +kernel, rfl⟩
theorem kX6_addsLight_15 : Dk mtX6_addsLight 15 (.getfield 7) 3 18 := ⟨by decide +kernel, rfl⟩
theorem kX6_addsLight_18 : Dk mtX6_addsLight 18 (.iload 7) 2 20 := ⟨by decide +kernel, rfl⟩
theorem kX6_addsLight_20 : Dk mtX6_addsLight 20 (.iconst 0) 1 21 := ⟨by decide +kernel, rfl⟩
theorem kX6_addsLight_21 : Dk mtX6_addsLight 21 (.iadd) 1 22 := ⟨by decide +kernel, rfl⟩
theorem kX6_addsLight_22 : Dk mtX6_addsLight 22 (.iload_n 1) 1 23 := ⟨by decide +kernel, rfl⟩
theorem kX6_addsLight_23 : Dk mtX6_addsLight 23 (.iastore) 1 24 := ⟨by decide +kernel, rfl⟩
theorem kX6_addsLight_24 : Dk mtX6_addsLight 24 (.aload_n 0) 1 25 := ⟨by decide +kernel, rfl⟩
theorem kX6_addsLight_25 : Dk mtX6_addsLight 25 (.getfield 7) 3 28 := ⟨by decide +kernel, rfl⟩
theorem kX6_addsLight_28 : Dk mtX6_addsLight 28 (.iload 7) 2 30 := ⟨by decide +kernel, rfl⟩
theorem kX6_addsLight_30 : Dk mtX6_addsLight 30 (.iconst 1) 1 31 := ⟨by decide +kernel, rfl⟩
theorem kX6_addsLight_31 : Dk mtX6_addsLight 31 (.iadd) 1 32 := ⟨by decide +kernel, rfl⟩
theorem kX6_addsLight_32 : Dk mtX6_addsLight 32 (.iload_n 2) 1 33 := ⟨by decide +kernel, rfl⟩
theorem kX6_addsLight_33 : Dk mtX6_addsLight 33 (.iastore) 1 34 := ⟨by decide +kernel, rfl⟩
theorem kX6_addsLight_34 : Dk mtX6_addsLight 34 (.aload_n 0) 1 35 := ⟨by decide +kernel, rfl⟩
theorem kX6_addsLight_35 : Dk mtX6_addsLight 35 (.getfield 7) 3 38 := ⟨by decide +kernel, rfl⟩
theorem kX6_addsLight_38 : Dk mtX6_addsLight 38 (.iload 7) 2 40 := ⟨by decide +kernel, rfl⟩
theorem kX6_addsLight_40 : Dk mtX6_addsLight 40 (.iconst 2) 1 41 := ⟨by decide +kernel, rfl⟩
theorem kX6_addsLight_41 : Dk mtX6_addsLight 41 (.iadd) 1 42 := ⟨by decide +kernel, rfl⟩
theorem kX6_addsLight_42 : Dk mtX6_addsLight 42 (.iload_n 3) 1 43 := ⟨by decide +kernel, rfl⟩
theorem kX6_addsLight_43 : Dk mtX6_addsLight 43 (.iastore) 1 44 := ⟨by decide +kernel, rfl⟩
theorem kX6_addsLight_44 : Dk mtX6_addsLight 44 (.aload_n 0) 1 45 := ⟨by decide +kernel, rfl⟩
theorem kX6_addsLight_45 : Dk mtX6_addsLight 45 (.getfield 7) 3 48 := ⟨by decide +kernel, rfl⟩
theorem kX6_addsLight_48 : Dk mtX6_addsLight 48 (.iload 7) 2 50 := ⟨by decide +kernel, rfl⟩
theorem kX6_addsLight_50 : Dk mtX6_addsLight 50 (.iconst 3) 1 51 := ⟨by decide +kernel, rfl⟩
theorem kX6_addsLight_51 : Dk mtX6_addsLight 51 (.iadd) 1 52 := ⟨by decide +kernel, rfl⟩
theorem kX6_addsLight_52 : Dk mtX6_addsLight 52 (.iload 4) 2 54 := ⟨by decide +kernel, rfl⟩
theorem kX6_addsLight_54 : Dk mtX6_addsLight 54 (.iastore) 1 55 := ⟨by decide +kernel, rfl⟩
theorem kX6_addsLight_55 : Dk mtX6_addsLight 55 (.aload_n 0) 1 56 := ⟨by decide +kernel, rfl⟩
theorem kX6_addsLight_56 : Dk mtX6_addsLight 56 (.getfield 7) 3 59 := ⟨by decide +kernel, rfl⟩
theorem kX6_addsLight_59 : Dk mtX6_addsLight 59 (.iload 7) 2 61 := ⟨by decide +kernel, rfl⟩
theorem kX6_addsLight_61 : Dk mtX6_addsLight 61 (.iconst 4) 1 62 := ⟨by decide +kernel, rfl⟩
theorem kX6_addsLight_62 : Dk mtX6_addsLight 62 (.iadd) 1 63 := ⟨by decide +kernel, rfl⟩
theorem kX6_addsLight_63 : Dk mtX6_addsLight 63 (.iload 5) 2 65 := ⟨by decide +kernel, rfl⟩
theorem kX6_addsLight_65 : Dk mtX6_addsLight 65 (.iastore) 1 66 := ⟨by decide +kernel, rfl⟩
theorem kX6_addsLight_66 : Dk mtX6_addsLight 66 (.aload_n 0) 1 67 := ⟨by decide +kernel, rfl⟩
theorem kX6_addsLight_67 : Dk mtX6_addsLight 67 (.getfield 7) 3 70 := ⟨by decide +kernel, rfl⟩
theorem kX6_addsLight_70 : Dk mtX6_addsLight 70 (.iload 7) 2 72 := ⟨by decide +kernel, rfl⟩
theorem kX6_addsLight_72 : Dk mtX6_addsLight 72 (.iconst 5) 1 73 := ⟨by decide +kernel, rfl⟩
theorem kX6_addsLight_73 : Dk mtX6_addsLight 73 (.iadd) 1 74 := ⟨by decide +kernel, rfl⟩
theorem kX6_addsLight_74 : Dk mtX6_addsLight 74 (.iload 6) 2 76 := ⟨by decide +kernel, rfl⟩
theorem kX6_addsLight_76 : Dk mtX6_addsLight 76 (.iastore) 1 77 := ⟨by decide +kernel, rfl⟩
theorem kX6_addsLight_77 : Dk mtX6_addsLight 77 (.aload_n 0) 1 78 := ⟨by decide +kernel, rfl⟩
theorem kX6_addsLight_78 : Dk mtX6_addsLight 78 (.getfield 7) 3 81 := ⟨by decide +kernel, rfl⟩
theorem kX6_addsLight_81 : Dk mtX6_addsLight 81 (.iconst 4) 1 82 := ⟨by decide +kernel, rfl⟩
theorem kX6_addsLight_82 : Dk mtX6_addsLight 82 (.dup2) 1 83 := ⟨by decide +kernel, rfl⟩
theorem kX6_addsLight_83 : Dk mtX6_addsLight 83 (.iaload) 1 84 := ⟨by decide +kernel, rfl⟩
theorem kX6_addsLight_84 : Dk mtX6_addsLight 84 (.iconst 1) 1 85 := ⟨by decide +kernel, rfl⟩
theorem kX6_addsLight_85 : Dk mtX6_addsLight 85 (.iadd) 1 86 := ⟨by decide +kernel, rfl⟩
theorem kX6_addsLight_86 : Dk mtX6_addsLight 86 (.iastore) 1 87 := ⟨by decide +kernel, rfl⟩
theorem kX6_addsLight_87 : Dk mtX6_addsLight 87 (.aload_n 0) 1 88 := ⟨by decide +kernel, rfl⟩
theorem kX6_addsLight_88 : Dk mtX6_addsLight 88 (.getfield 7) 3 91 := ⟨by decide +kernel, rfl⟩
theorem kX6_addsLight_91 : Dk mtX6_addsLight 91 (.iconst 4) 1 92 := ⟨by decide +kernel, rfl⟩
theorem kX6_addsLight_92 : Dk mtX6_addsLight 92 (.iaload) 1 93 := ⟨by decide +kernel, rfl⟩
theorem kX6_addsLight_93 : Dk mtX6_addsLight 93 (.iconst 1) 1 94 := ⟨by decide +kernel, rfl⟩
theorem kX6_addsLight_94 : Dk mtX6_addsLight 94 (.isub) 1 95 := ⟨by decide +kernel, rfl⟩
theorem kX6_addsLight_95 : Dk mtX6_addsLight 95 (.ireturn) 1 96 := ⟨by decide +kernel, rfl⟩
set_option maxHeartbeats 4000000 in
set_option maxRecDepth 100000 in
theorem ct_addsLight {l : Launch} {w : Wd} {sg : Sg} (hWr : Wr w) {mo : Nat} (q st k n bo re : Int32) (hL4 : vp_in (sg (mo + 1) 4) 6) : M l mtX6_addsLight w [vR (some (6, 0, mo)), vI q, vI st, vI k, vI n, vI bo, vI re] sg (fI (F_addLight (sg (mo + 1)) q st k n bo re 4 - 1) (upr sg (mo + 1) (F_addLight (sg (mo + 1)) q st k n bo re))) := by
  refine M_of [some (vR (some (6, 0, mo))), some (vI q), some (vI st), some (vI k), some (vI n), some (vI bo), some (vI re), none] rfl (Nat.le_of_ble_eq_true rfl) (by decide +kernel) ?_
  intro p_ e_ s_ m_ args_ below_ meth_ c_ hC hO
  refine V_bipush hC (12) kX6_addsLight_0 (by decide) ?_
  refine V_bipush hC (8) kX6_addsLight_2 (by decide) ?_
  refine V_aload_n hC kX6_addsLight_4 rfl ?_
  refine V_getR hC hWr 6 1 lfX6_7 kX6_addsLight_5 (Nat.le_of_ble_eq_true rfl) (Nat.le_of_ble_eq_true rfl) rfl ?_
  refine V_iconst hC (4) kX6_addsLight_8 (by decide) ?_
  refine V_iald hC 4 rfl kX6_addsLight_9 (vp_lit rfl) ?_
  refine V_imul hC kX6_addsLight_10 ?_
  refine V_iadd hC kX6_addsLight_11 ?_
  refine V_nameI (fun fr e_fr => ?_)
  refine V_istore hC [some _, some _, some _, some _, some _, some _, some _, some _] kX6_addsLight_12 rfl (Nat.le_of_ble_eq_true rfl) ?_
  refine V_aload_n hC kX6_addsLight_14 rfl ?_
  refine V_getR hC hWr 6 1 lfX6_7 kX6_addsLight_15 (Nat.le_of_ble_eq_true rfl) (Nat.le_of_ble_eq_true rfl) rfl ?_
  refine V_iload hC kX6_addsLight_18 rfl ?_
  refine V_iconst hC (0) kX6_addsLight_20 (by decide) ?_
  refine V_iadd hC kX6_addsLight_21 ?_
  refine V_iload_n hC kX6_addsLight_22 rfl ?_
  refine V_iast hC _ rfl kX6_addsLight_23 (by rw [e_fr]; exact inL hL4 (vp_lit rfl)) ?_
  refine V_aload_n hC kX6_addsLight_24 rfl ?_
  refine V_getR hC hWr 6 1 lfX6_7 kX6_addsLight_25 (Nat.le_of_ble_eq_true rfl) (Nat.le_of_ble_eq_true rfl) rfl ?_
  refine V_iload hC kX6_addsLight_28 rfl ?_
  refine V_iconst hC (1) kX6_addsLight_30 (by decide) ?_
  refine V_iadd hC kX6_addsLight_31 ?_
  refine V_iload_n hC kX6_addsLight_32 rfl ?_
  refine V_iast hC _ rfl kX6_addsLight_33 (by rw [e_fr]; exact inL hL4 (vp_lit rfl)) ?_
  refine V_aload_n hC kX6_addsLight_34 rfl ?_
  refine V_getR hC hWr 6 1 lfX6_7 kX6_addsLight_35 (Nat.le_of_ble_eq_true rfl) (Nat.le_of_ble_eq_true rfl) rfl ?_
  refine V_iload hC kX6_addsLight_38 rfl ?_
  refine V_iconst hC (2) kX6_addsLight_40 (by decide) ?_
  refine V_iadd hC kX6_addsLight_41 ?_
  refine V_iload_n hC kX6_addsLight_42 rfl ?_
  refine V_iast hC _ rfl kX6_addsLight_43 (by rw [e_fr]; exact inL hL4 (vp_lit rfl)) ?_
  refine V_aload_n hC kX6_addsLight_44 rfl ?_
  refine V_getR hC hWr 6 1 lfX6_7 kX6_addsLight_45 (Nat.le_of_ble_eq_true rfl) (Nat.le_of_ble_eq_true rfl) rfl ?_
  refine V_iload hC kX6_addsLight_48 rfl ?_
  refine V_iconst hC (3) kX6_addsLight_50 (by decide) ?_
  refine V_iadd hC kX6_addsLight_51 ?_
  refine V_iload hC kX6_addsLight_52 rfl ?_
  refine V_iast hC _ rfl kX6_addsLight_54 (by rw [e_fr]; exact inL hL4 (vp_lit rfl)) ?_
  refine V_aload_n hC kX6_addsLight_55 rfl ?_
  refine V_getR hC hWr 6 1 lfX6_7 kX6_addsLight_56 (Nat.le_of_ble_eq_true rfl) (Nat.le_of_ble_eq_true rfl) rfl ?_
  refine V_iload hC kX6_addsLight_59 rfl ?_
  refine V_iconst hC (4) kX6_addsLight_61 (by decide) ?_
  refine V_iadd hC kX6_addsLight_62 ?_
  refine V_iload hC kX6_addsLight_63 rfl ?_
  refine V_iast hC _ rfl kX6_addsLight_65 (by rw [e_fr]; exact inL hL4 (vp_lit rfl)) ?_
  refine V_aload_n hC kX6_addsLight_66 rfl ?_
  refine V_getR hC hWr 6 1 lfX6_7 kX6_addsLight_67 (Nat.le_of_ble_eq_true rfl) (Nat.le_of_ble_eq_true rfl) rfl ?_
  refine V_iload hC kX6_addsLight_70 rfl ?_
  refine V_iconst hC (5) kX6_addsLight_72 (by decide) ?_
  refine V_iadd hC kX6_addsLight_73 ?_
  refine V_iload hC kX6_addsLight_74 rfl ?_
  refine V_iast hC _ rfl kX6_addsLight_76 (by rw [e_fr]; exact inL hL4 (vp_lit rfl)) ?_
  refine V_aload_n hC kX6_addsLight_77 rfl ?_
  refine V_getR hC hWr 6 1 lfX6_7 kX6_addsLight_78 (Nat.le_of_ble_eq_true rfl) (Nat.le_of_ble_eq_true rfl) rfl ?_
  refine V_iconst hC (4) kX6_addsLight_81 (by decide) ?_
  refine V_dup2 hC kX6_addsLight_82 rfl rfl ?_
  refine V_iald hC 4 rfl kX6_addsLight_83 (vp_lit rfl) ?_
  refine V_iconst hC (1) kX6_addsLight_84 (by decide) ?_
  refine V_iadd hC kX6_addsLight_85 ?_
  refine V_iast hC 4 rfl kX6_addsLight_86 (vp_lit rfl) ?_
  refine V_canon (upr sg (mo + 1) (F_addLight (sg (mo + 1)) q st k n bo re)) (by subst e_fr; simp only [upr_upr, upr_at, ups, F_addLight, F_inc, tn]) ?_
  refine V_aload_n hC kX6_addsLight_87 rfl ?_
  refine V_getR hC hWr 6 1 lfX6_7 kX6_addsLight_88 (Nat.le_of_ble_eq_true rfl) (Nat.le_of_ble_eq_true rfl) rfl ?_
  refine V_iconst hC (4) kX6_addsLight_91 (by decide) ?_
  refine V_iald hC 4 rfl kX6_addsLight_92 (vp_lit rfl) ?_
  refine V_iconst hC (1) kX6_addsLight_93 (by decide) ?_
  refine V_isub hC kX6_addsLight_94 ?_
  refine V_ireti hC rfl kX6_addsLight_95 ?_
  refine ⟨cI ?_, by with_reducible rfl⟩
  rw [upr_at]
def mtX6_actsLight : Mt := (yX6_actsLight, cX6_actsLight, 8, (some .int), 2, 47, 0, 0)
theorem kX6_actsLight_0 : Dk mtX6_actsLight 0 (.iload_n 1) 1 1 := ⟨by decide +kernel, rfl⟩
theorem kX6_actsLight_1 : Dk mtX6_actsLight 1 (.invokestatic 59) 3 4 := ⟨by decide +kernel, rfl⟩
theorem kX6_actsLight_4 : Dk mtX6_actsLight 4 (.ifCond .eq 32) 3 7 := ⟨by decide +kernel, rfl⟩
theorem kX6_actsLight_7 : Dk mtX6_actsLight 7 (.iload_n 2) 1 8 := ⟨by decide +kernel, rfl⟩
theorem kX6_actsLight_8 : Dk mtX6_actsLight 8 (.iload_n 3) 1 9 := ⟨by decide +kernel, rfl⟩
theorem kX6_actsLight_9 : Dk mtX6_actsLight 9 (.iload 4) 2 11 := ⟨by decide +kernel, rfl⟩
theorem kX6_actsLight_11 : Dk mtX6_actsLight 11 (.iload 5) 2 13 := ⟨by decide +kernel, rfl⟩
theorem kX6_actsLight_13 : Dk mtX6_actsLight 13 (.iload 6) 2 15 := ⟨by decide +kernel, rfl⟩
theorem kX6_actsLight_15 : Dk mtX6_actsLight 15 (.invokestatic 97) 3 18 := ⟨by decide +kernel, rfl⟩
theorem kX6_actsLight_18 : Dk mtX6_actsLight 18 (.ifCond .eq 18) 3 21 := ⟨by decide +kernel, rfl⟩
theorem kX6_actsLight_21 : Dk mtX6_actsLight 21 (.aload_n 0) 1 22 := ⟨by decide +kernel, rfl⟩
theorem kX6_actsLight_22 : Dk mtX6_actsLight 22 (.getfield 7) 3 25 := ⟨by decide +kernel, rfl⟩
theorem kX6_actsLight_25 : Dk mtX6_actsLight 25 (.iconst 4) 1 26 := ⟨by decide +kernel, rfl⟩
theorem kX6_actsLight_26 : Dk mtX6_actsLight 26 (.iaload) 1 27 := ⟨by decide +kernel, rfl⟩
theorem kX6_actsLight_27 : Dk mtX6_actsLight 27 (.bipush 6) 2 29 := ⟨by decide +kernel, rfl⟩
theorem kX6_actsLight_29 : Dk mtX6_actsLight 29 (.if_icmp .ge 7) 3 32 := ⟨by decide +kernel, rfl⟩
theorem kX6_actsLight_32 : Dk mtX6_actsLight 32 (.iconst 1) 1 33 := ⟨by decide +kernel, rfl⟩
theorem kX6_actsLight_33 : Dk mtX6_actsLight 33 (.goto 4) 3 36 := ⟨by decide +kernel, rfl⟩
theorem kX6_actsLight_36 : Dk mtX6_actsLight 36 (.iconst 0) 1 37 := ⟨by decide +kernel, rfl⟩
theorem kX6_actsLight_37 : Dk mtX6_actsLight 37 (.istore 7) 2 39 := ⟨by decide +kernel, rfl⟩
theorem kX6_actsLight_39 : Dk mtX6_actsLight 39 (.iload 7) 2 41 := ⟨by decide +kernel, rfl⟩
theorem kX6_actsLight_41 : Dk mtX6_actsLight 41 (.ifCond .eq 19) 3 44 := ⟨by decide +kernel, rfl⟩
theorem kX6_actsLight_44 : Dk mtX6_actsLight 44 (.aload_n 0) 1 45 := ⟨by decide +kernel, rfl⟩
theorem kX6_actsLight_45 : Dk mtX6_actsLight 45 (.iload_n 1) 1 46 := ⟨by decide +kernel, rfl⟩
theorem kX6_actsLight_46 : Dk mtX6_actsLight 46 (.iload_n 2) 1 47 := ⟨by decide +kernel, rfl⟩
theorem kX6_actsLight_47 : Dk mtX6_actsLight 47 (.iload_n 3) 1 48 := ⟨by decide +kernel, rfl⟩
theorem kX6_actsLight_48 : Dk mtX6_actsLight 48 (.iload 4) 2 50 := ⟨by decide +kernel, rfl⟩
theorem kX6_actsLight_50 : Dk mtX6_actsLight 50 (.iload 5) 2 52 := ⟨by decide +kernel, rfl⟩
theorem kX6_actsLight_52 : Dk mtX6_actsLight 52 (.iload 6) 2 54 := ⟨by decide +kernel, rfl⟩
theorem kX6_actsLight_54 : Dk mtX6_actsLight 54 (.invokevirtual 101) 3 57 := ⟨by decide +kernel, rfl⟩
theorem kX6_actsLight_57 : Dk mtX6_actsLight 57 (.goto 4) 3 60 := ⟨by decide +kernel, rfl⟩
theorem kX6_actsLight_60 : Dk mtX6_actsLight 60 (.iconst (-1)) 1 61 := ⟨by decide +kernel, rfl⟩
theorem kX6_actsLight_61 : Dk mtX6_actsLight 61 (.ireturn) 1 62 := ⟨by decide +kernel, rfl⟩
theorem lmX6_101 : LkM RX6 101 mtX6_addsLight := Or.inl (by decide +kernel)
theorem mkX6_addsLight : MkV mtX6_addsLight 6 := ⟨List.mem_of_getElem? (i := 1123) (by decide +kernel), by decide +kernel, by decide +kernel, by decide +kernel, ⟨by decide +kernel, by decide +kernel, by decide +kernel⟩⟩
theorem lmX6_97 : LkM RX6 97 mtX6_isLamp := Or.inl (by decide +kernel)
theorem mkX6_isLamp : MkS mtX6_isLamp 5 := ⟨List.mem_of_getElem? (i := 1119) (by decide +kernel), by decide +kernel, by decide +kernel, ⟨by decide +kernel, by decide +kernel, by decide +kernel⟩⟩
set_option maxHeartbeats 4000000 in
set_option maxRecDepth 100000 in
theorem ct_actsLight {l : Launch} {w : Wd} {sg : Sg} (hWr : Wr w) {mo : Nat} (q st k n bo re : Int32) (hc : 0 ≤ (sg (mo + 1) 4).toInt ∧ (sg (mo + 1) 4).toInt ≤ 6) : M l mtX6_actsLight w [vR (some (6, 0, mo)), vI q, vI st, vI k, vI n, vI bo, vI re] sg (fI (if cLight (sg (mo + 1)) q st k n bo re then F_addLight (sg (mo + 1)) q st k n bo re 4 - 1 else -1) (upr sg (mo + 1) (if cLight (sg (mo + 1)) q st k n bo re then F_addLight (sg (mo + 1)) q st k n bo re else (sg (mo + 1))))) := by
  refine M_of [some (vR (some (6, 0, mo))), some (vI q), some (vI st), some (vI k), some (vI n), some (vI bo), some (vI re), none] rfl (Nat.le_of_ble_eq_true rfl) (by decide +kernel) ?_
  intro p_ e_ s_ m_ args_ below_ meth_ c_ hC hO
  refine V_join 37 (b01 (cLight (sg (mo + 1)) q st k n bo re)) ?_ (fun j37 => ?_)
  · refine V_nameI (fun can e_can => ?_)
    refine V_istore hC [some _, some _, some _, some _, some _, some _, some _, some _] kX6_actsLight_37 rfl (Nat.le_of_ble_eq_true rfl) ?_
    refine V_iload hC kX6_actsLight_39 rfl ?_
    refine V_if_eq hC 60 kX6_actsLight_41 (by decide) (fun h41 => ?_) (fun h41 => ?_)
    · refine V_iconst hC (-1) kX6_actsLight_60 (by decide) ?_
      refine V_ireti hC rfl kX6_actsLight_61 ?_
      first
        | (have hn := b0_of e_can h41; refine ⟨cI ?_, ?_⟩; rw [if_neg hn]; rw [if_neg hn, upr_self])
        | (have hp := b1_of e_can h41; refine ⟨cI ?_, ?_⟩; rw [if_pos hp]; rw [if_pos hp])
    · refine V_aload_n hC kX6_actsLight_44 rfl ?_
      refine V_iload_n hC kX6_actsLight_45 rfl ?_
      refine V_iload_n hC kX6_actsLight_46 rfl ?_
      refine V_iload_n hC kX6_actsLight_47 rfl ?_
      refine V_iload hC kX6_actsLight_48 rfl ?_
      refine V_iload hC kX6_actsLight_50 rfl ?_
      refine V_iload hC kX6_actsLight_52 rfl ?_
      refine V_cV_fI hC (ct_addsLight hWr _ _ _ _ _ _ (lt6 hc.1 (b1_of e_can h41).2.2)) mkX6_addsLight lmX6_101 kX6_actsLight_54 (Nat.le_of_ble_eq_true rfl) rfl rfl rfl (Nat.le_of_ble_eq_true rfl) ⟨(Nat.le_of_ble_eq_true rfl), (Nat.le_of_ble_eq_true rfl)⟩ ⟨rfl, rfl⟩ ⟨(Nat.le_of_ble_eq_true rfl), (Nat.le_of_ble_eq_true rfl)⟩ ?_
      refine V_goto hC 61 kX6_actsLight_57 (by decide) ?_
      refine V_ireti hC rfl kX6_actsLight_61 ?_
      first
        | (have hn := b0_of e_can h41; refine ⟨cI ?_, ?_⟩; rw [if_neg hn]; rw [if_neg hn, upr_self])
        | (have hp := b1_of e_can h41; refine ⟨cI ?_, ?_⟩; rw [if_pos hp]; rw [if_pos hp])
  · refine V_iload_n hC kX6_actsLight_0 rfl ?_
    refine V_cS_fI hC (ct_isPlace hWr _) mkX6_isPlace lmX6_59 kX6_actsLight_1 rfl rfl (Nat.le_of_ble_eq_true rfl) ⟨(Nat.le_of_ble_eq_true rfl), (Nat.le_of_ble_eq_true rfl)⟩ ⟨rfl, rfl⟩ ⟨(Nat.le_of_ble_eq_true rfl), (Nat.le_of_ble_eq_true rfl)⟩ ?_
    refine V_if_eq hC 36 kX6_actsLight_4 (by decide) (fun h4 => ?_) (fun h4 => ?_)
    · refine V_iconst hC (0) kX6_actsLight_36 (by decide) ?_
      exact j37 _ ((b01_f (fun z => (b01e.mp h4) z.1)).symm)
    · refine V_iload_n hC kX6_actsLight_7 rfl ?_
      refine V_iload_n hC kX6_actsLight_8 rfl ?_
      refine V_iload hC kX6_actsLight_9 rfl ?_
      refine V_iload hC kX6_actsLight_11 rfl ?_
      refine V_iload hC kX6_actsLight_13 rfl ?_
      refine V_cS_fI hC (ct_isLamp hWr _ _ _ _ _) mkX6_isLamp lmX6_97 kX6_actsLight_15 rfl rfl (Nat.le_of_ble_eq_true rfl) ⟨(Nat.le_of_ble_eq_true rfl), (Nat.le_of_ble_eq_true rfl)⟩ ⟨rfl, rfl⟩ ⟨(Nat.le_of_ble_eq_true rfl), (Nat.le_of_ble_eq_true rfl)⟩ ?_
      refine V_if_eq hC 36 kX6_actsLight_18 (by decide) (fun h18 => ?_) (fun h18 => ?_)
      · refine V_iconst hC (0) kX6_actsLight_36 (by decide) ?_
        exact j37 _ ((b01_f (fun z => (b01e.mp h18) z.2.1)).symm)
      · refine V_aload_n hC kX6_actsLight_21 rfl ?_
        refine V_getR hC hWr 6 1 lfX6_7 kX6_actsLight_22 (Nat.le_of_ble_eq_true rfl) (Nat.le_of_ble_eq_true rfl) rfl ?_
        refine V_iconst hC (4) kX6_actsLight_25 (by decide) ?_
        refine V_iald hC 4 rfl kX6_actsLight_26 (vp_lit rfl) ?_
        refine V_bipush hC (6) kX6_actsLight_27 (by decide) ?_
        refine V_icmp_ge hC 36 kX6_actsLight_29 (by decide) (fun h29 => ?_) (fun h29 => ?_)
        · refine V_iconst hC (0) kX6_actsLight_36 (by decide) ?_
          exact j37 _ ((b01_f (fun z => absurd z.2.2 (Int32.not_lt.mpr h29))).symm)
        · refine V_iconst hC (1) kX6_actsLight_32 (by decide) ?_
          refine V_goto hC 37 kX6_actsLight_33 (by decide) ?_
          exact j37 _ ((b01_t ⟨b01n.mp h4, b01n.mp h18, Int32.not_le.mp h29⟩).symm)
def mtX6_addsBoat : Mt := (yX6_addsBoat, cX6_addsBoat, 4, (some .int), 1, 23, 0, 0)
theorem kX6_addsBoat_0 : Dk mtX6_addsBoat 0 (.aload_n 0) 1 1 := ⟨by decide +kernel, rfl⟩
theorem kX6_addsBoat_1 : Dk mtX6_addsBoat 1 (.getfield 7) 3 4 := ⟨by decide +kernel, rfl⟩
theorem kX6_addsBoat_4 : Dk mtX6_addsBoat 4 (.iconst 5) 1 5 := ⟨by decide +kernel, rfl⟩
theorem kX6_addsBoat_5 : Dk mtX6_addsBoat 5 (.iaload) 1 6 := ⟨by decide +kernel, rfl⟩
theorem kX6_addsBoat_6 : Dk mtX6_addsBoat 6 (.istore_n 3) 1 7 := ⟨by decide +kernel, rfl⟩
theorem kX6_addsBoat_7 : Dk mtX6_addsBoat 7 (.aload_n 0) 1 8 := ⟨by decide +kernel, rfl⟩
theorem kX6_addsBoat_8 : Dk mtX6_addsBoat 8 (.iload_n 3) 1 9 := ⟨by decide +kernel, rfl⟩
theorem kX6_addsBoat_9 : Dk mtX6_addsBoat 9 (.iconst 0) 1 10 := ⟨by decide +kernel, rfl⟩
theorem kX6_addsBoat_10 : Dk mtX6_addsBoat 10 (.iload_n 1) 1 11 := ⟨by decide +kernel, rfl⟩
theorem kX6_addsBoat_11 : Dk mtX6_addsBoat 11 (.invokevirtual 63) 3 14 := ⟨by decide +kernel, rfl⟩
theorem kX6_addsBoat_14 : Dk mtX6_addsBoat 14 (.aload_n 0) 1 15 := ⟨by decide +kernel, rfl⟩
theorem kX6_addsBoat_15 : Dk mtX6_addsBoat 15 (.iload_n 3) 1 16 := ⟨by decide +kernel, rfl⟩
theorem kX6_addsBoat_16 : Dk mtX6_addsBoat 16 (.iconst 1) 1 17 := ⟨by decide +kernel, rfl⟩
theorem kX6_addsBoat_17 : Dk mtX6_addsBoat 17 (.iload_n 2) 1 18 := ⟨by decide +kernel, rfl⟩
theorem kX6_addsBoat_18 : Dk mtX6_addsBoat 18 (.invokevirtual 63) 3 21 := ⟨by decide +kernel, rfl⟩
theorem kX6_addsBoat_21 : Dk mtX6_addsBoat 21 (.aload_n 0) 1 22 := ⟨by decide +kernel, rfl⟩
theorem kX6_addsBoat_22 : Dk mtX6_addsBoat 22 (.getfield 7) 3 25 := ⟨by decide +kernel, rfl⟩
theorem kX6_addsBoat_25 : Dk mtX6_addsBoat 25 (.iconst 5) 1 26 := ⟨by decide +kernel, rfl⟩
theorem kX6_addsBoat_26 : Dk mtX6_addsBoat 26 (.dup2) 1 27 := ⟨by decide +kernel, rfl⟩
theorem kX6_addsBoat_27 : Dk mtX6_addsBoat 27 (.iaload) 1 28 := ⟨by decide +kernel, rfl⟩
theorem kX6_addsBoat_28 : Dk mtX6_addsBoat 28 (.iconst 1) 1 29 := ⟨by decide +kernel, rfl⟩
theorem kX6_addsBoat_29 : Dk mtX6_addsBoat 29 (.iadd) 1 30 := ⟨by decide +kernel, rfl⟩
theorem kX6_addsBoat_30 : Dk mtX6_addsBoat 30 (.iastore) 1 31 := ⟨by decide +kernel, rfl⟩
theorem kX6_addsBoat_31 : Dk mtX6_addsBoat 31 (.iload_n 3) 1 32 := ⟨by decide +kernel, rfl⟩
theorem kX6_addsBoat_32 : Dk mtX6_addsBoat 32 (.ireturn) 1 33 := ⟨by decide +kernel, rfl⟩
set_option maxHeartbeats 4000000 in
set_option maxRecDepth 100000 in
theorem ct_addsBoat {l : Launch} {w : Wd} {sg : Sg} (hWr : Wr w) {mo : Nat} (q v : Int32) (hL5 : vp_in (sg (mo + 1) 5) 8) : M l mtX6_addsBoat w [vR (some (6, 0, mo)), vI q, vI v] sg (fI ((sg (mo + 1)) 5) (upr sg (mo + 1) (F_addBoat (sg (mo + 1)) q v))) := by
  refine M_of [some (vR (some (6, 0, mo))), some (vI q), some (vI v), none] rfl (Nat.le_of_ble_eq_true rfl) (by decide +kernel) ?_
  intro p_ e_ s_ m_ args_ below_ meth_ c_ hC hO
  refine V_aload_n hC kX6_addsBoat_0 rfl ?_
  refine V_getR hC hWr 6 1 lfX6_7 kX6_addsBoat_1 (Nat.le_of_ble_eq_true rfl) (Nat.le_of_ble_eq_true rfl) rfl ?_
  refine V_iconst hC (5) kX6_addsBoat_4 (by decide) ?_
  refine V_iald hC 5 rfl kX6_addsBoat_5 (vp_lit rfl) ?_
  refine V_nameI (fun b e_b => ?_)
  refine V_istore_n hC [some _, some _, some _, some _] kX6_addsBoat_6 rfl (Nat.le_of_ble_eq_true rfl) ?_
  refine V_aload_n hC kX6_addsBoat_7 rfl ?_
  refine V_iload_n hC kX6_addsBoat_8 rfl ?_
  refine V_iconst hC (0) kX6_addsBoat_9 (by decide) ?_
  refine V_iload_n hC kX6_addsBoat_10 rfl ?_
  refine V_cV_fV hC (ct_layBoat hWr b 0 q (by rw [e_b]; exact hL5) (vp_lit rfl)) mkX6_layBoat lmX6_63 kX6_addsBoat_11 (Nat.le_of_ble_eq_true rfl) rfl rfl rfl (Nat.le_of_ble_eq_true rfl) ⟨(Nat.le_of_ble_eq_true rfl), (Nat.le_of_ble_eq_true rfl)⟩ ⟨rfl, rfl⟩ ⟨(Nat.le_of_ble_eq_true rfl), (Nat.le_of_ble_eq_true rfl)⟩ ?_
  refine V_aload_n hC kX6_addsBoat_14 rfl ?_
  refine V_iload_n hC kX6_addsBoat_15 rfl ?_
  refine V_iconst hC (1) kX6_addsBoat_16 (by decide) ?_
  refine V_iload_n hC kX6_addsBoat_17 rfl ?_
  refine V_cV_fV hC (ct_layBoat hWr b 1 v (by rw [e_b]; exact hL5) (vp_lit rfl)) mkX6_layBoat lmX6_63 kX6_addsBoat_18 (Nat.le_of_ble_eq_true rfl) rfl rfl rfl (Nat.le_of_ble_eq_true rfl) ⟨(Nat.le_of_ble_eq_true rfl), (Nat.le_of_ble_eq_true rfl)⟩ ⟨rfl, rfl⟩ ⟨(Nat.le_of_ble_eq_true rfl), (Nat.le_of_ble_eq_true rfl)⟩ ?_
  refine V_aload_n hC kX6_addsBoat_21 rfl ?_
  refine V_getR hC hWr 6 1 lfX6_7 kX6_addsBoat_22 (Nat.le_of_ble_eq_true rfl) (Nat.le_of_ble_eq_true rfl) rfl ?_
  refine V_iconst hC (5) kX6_addsBoat_25 (by decide) ?_
  refine V_dup2 hC kX6_addsBoat_26 rfl rfl ?_
  refine V_iald hC 5 rfl kX6_addsBoat_27 (vp_lit rfl) ?_
  refine V_iconst hC (1) kX6_addsBoat_28 (by decide) ?_
  refine V_iadd hC kX6_addsBoat_29 ?_
  refine V_iast hC 5 rfl kX6_addsBoat_30 (vp_lit rfl) ?_
  refine V_iload_n hC kX6_addsBoat_31 rfl ?_
  refine V_ireti hC rfl kX6_addsBoat_32 ?_
  refine ⟨cI e_b, ?_⟩
  subst e_b
  simp only [upr_upr, upr_at, ups, F_addBoat, F_inc]
def mtX6_actsBoat : Mt := (yX6_actsBoat, cX6_actsBoat, 3, (some .int), 2, 46, 0, 0)
theorem kX6_actsBoat_0 : Dk mtX6_actsBoat 0 (.iload_n 1) 1 1 := ⟨by decide +kernel, rfl⟩
theorem kX6_actsBoat_1 : Dk mtX6_actsBoat 1 (.invokestatic 59) 3 4 := ⟨by decide +kernel, rfl⟩
theorem kX6_actsBoat_4 : Dk mtX6_actsBoat 4 (.ifCond .eq 34) 3 7 := ⟨by decide +kernel, rfl⟩
theorem kX6_actsBoat_7 : Dk mtX6_actsBoat 7 (.iload_n 2) 1 8 := ⟨by decide +kernel, rfl⟩
theorem kX6_actsBoat_8 : Dk mtX6_actsBoat 8 (.bipush (-6)) 2 10 := ⟨by decide +kernel, rfl⟩
theorem kX6_actsBoat_10 : Dk mtX6_actsBoat 10 (.bipush 6) 2 12 := ⟨by decide +kernel, rfl⟩
theorem kX6_actsBoat_12 : Dk mtX6_actsBoat 12 (.invokestatic 39) 3 15 := ⟨by decide +kernel, rfl⟩
theorem kX6_actsBoat_15 : Dk mtX6_actsBoat 15 (.ifCond .eq 23) 3 18 := ⟨by decide +kernel, rfl⟩
theorem kX6_actsBoat_18 : Dk mtX6_actsBoat 18 (.aload_n 0) 1 19 := ⟨by decide +kernel, rfl⟩
theorem kX6_actsBoat_19 : Dk mtX6_actsBoat 19 (.getfield 7) 3 22 := ⟨by decide +kernel, rfl⟩
theorem kX6_actsBoat_22 : Dk mtX6_actsBoat 22 (.iconst 5) 1 23 := ⟨by decide +kernel, rfl⟩
theorem kX6_actsBoat_23 : Dk mtX6_actsBoat 23 (.iaload) 1 24 := ⟨by decide +kernel, rfl⟩
theorem kX6_actsBoat_24 : Dk mtX6_actsBoat 24 (.bipush 8) 2 26 := ⟨by decide +kernel, rfl⟩
theorem kX6_actsBoat_26 : Dk mtX6_actsBoat 26 (.if_icmp .ge 12) 3 29 := ⟨by decide +kernel, rfl⟩
theorem kX6_actsBoat_29 : Dk mtX6_actsBoat 29 (.aload_n 0) 1 30 := ⟨by decide +kernel, rfl⟩
theorem kX6_actsBoat_30 : Dk mtX6_actsBoat 30 (.iload_n 1) 1 31 := ⟨by decide +kernel, rfl⟩
theorem kX6_actsBoat_31 : Dk mtX6_actsBoat 31 (.iload_n 2) 1 32 := ⟨by decide +kernel, rfl⟩
theorem kX6_actsBoat_32 : Dk mtX6_actsBoat 32 (.invokevirtual 105) 3 35 := ⟨by decide +kernel, rfl⟩
theorem kX6_actsBoat_35 : Dk mtX6_actsBoat 35 (.goto 4) 3 38 := ⟨by decide +kernel, rfl⟩
theorem kX6_actsBoat_38 : Dk mtX6_actsBoat 38 (.iconst (-1)) 1 39 := ⟨by decide +kernel, rfl⟩
theorem kX6_actsBoat_39 : Dk mtX6_actsBoat 39 (.ireturn) 1 40 := ⟨by decide +kernel, rfl⟩
theorem lmX6_105 : LkM RX6 105 mtX6_addsBoat := Or.inl (by decide +kernel)
theorem mkX6_addsBoat : MkV mtX6_addsBoat 2 := ⟨List.mem_of_getElem? (i := 1135) (by decide +kernel), by decide +kernel, by decide +kernel, by decide +kernel, ⟨by decide +kernel, by decide +kernel, by decide +kernel⟩⟩
set_option maxHeartbeats 4000000 in
set_option maxRecDepth 100000 in
theorem ct_actsBoat {l : Launch} {w : Wd} {sg : Sg} (hWr : Wr w) {mo : Nat} (q v : Int32) (hc : 0 ≤ (sg (mo + 1) 5).toInt ∧ (sg (mo + 1) 5).toInt ≤ 8) : M l mtX6_actsBoat w [vR (some (6, 0, mo)), vI q, vI v] sg (fI (if cBoat (sg (mo + 1)) q v then (sg (mo + 1)) 5 else -1) (upr sg (mo + 1) (if cBoat (sg (mo + 1)) q v then F_addBoat (sg (mo + 1)) q v else (sg (mo + 1))))) := by
  refine M_of [some (vR (some (6, 0, mo))), some (vI q), some (vI v)] rfl (Nat.le_of_ble_eq_true rfl) (by decide +kernel) ?_
  intro p_ e_ s_ m_ args_ below_ meth_ c_ hC hO
  refine V_iload_n hC kX6_actsBoat_0 rfl ?_
  refine V_cS_fI hC (ct_isPlace hWr _) mkX6_isPlace lmX6_59 kX6_actsBoat_1 rfl rfl (Nat.le_of_ble_eq_true rfl) ⟨(Nat.le_of_ble_eq_true rfl), (Nat.le_of_ble_eq_true rfl)⟩ ⟨rfl, rfl⟩ ⟨(Nat.le_of_ble_eq_true rfl), (Nat.le_of_ble_eq_true rfl)⟩ ?_
  refine V_if_eq hC 38 kX6_actsBoat_4 (by decide) (fun h4 => ?_) (fun h4 => ?_)
  · refine V_iconst hC (-1) kX6_actsBoat_38 (by decide) ?_
    refine V_ireti hC rfl kX6_actsBoat_39 ?_
    first
      | (have hn : ¬ cBoat (sg (mo + 1)) q v := fun z => (b01e.mp h4) z.1; refine ⟨cI ?_, ?_⟩; rw [if_neg hn]; rw [if_neg hn, upr_self])
      | (have hn : ¬ cBoat (sg (mo + 1)) q v := fun z => (b01e.mp h15) z.2.1; refine ⟨cI ?_, ?_⟩; rw [if_neg hn]; rw [if_neg hn, upr_self])
      | (have hn : ¬ cBoat (sg (mo + 1)) q v := fun z => absurd z.2.2 (Int32.not_lt.mpr h26); refine ⟨cI ?_, ?_⟩; rw [if_neg hn]; rw [if_neg hn, upr_self])
      | (have hp : cBoat (sg (mo + 1)) q v := ⟨b01n.mp h4, b01n.mp h15, Int32.not_le.mp h26⟩; refine ⟨cI ?_, ?_⟩; rw [if_pos hp]; rw [if_pos hp])
  · refine V_iload_n hC kX6_actsBoat_7 rfl ?_
    refine V_bipush hC (-6) kX6_actsBoat_8 (by decide) ?_
    refine V_bipush hC (6) kX6_actsBoat_10 (by decide) ?_
    refine V_cS_fI hC (ct_in hWr _ _ _) mkX6_in lmX6_39 kX6_actsBoat_12 rfl rfl (Nat.le_of_ble_eq_true rfl) ⟨(Nat.le_of_ble_eq_true rfl), (Nat.le_of_ble_eq_true rfl)⟩ ⟨rfl, rfl⟩ ⟨(Nat.le_of_ble_eq_true rfl), (Nat.le_of_ble_eq_true rfl)⟩ ?_
    refine V_if_eq hC 38 kX6_actsBoat_15 (by decide) (fun h15 => ?_) (fun h15 => ?_)
    · refine V_iconst hC (-1) kX6_actsBoat_38 (by decide) ?_
      refine V_ireti hC rfl kX6_actsBoat_39 ?_
      first
        | (have hn : ¬ cBoat (sg (mo + 1)) q v := fun z => (b01e.mp h4) z.1; refine ⟨cI ?_, ?_⟩; rw [if_neg hn]; rw [if_neg hn, upr_self])
        | (have hn : ¬ cBoat (sg (mo + 1)) q v := fun z => (b01e.mp h15) z.2.1; refine ⟨cI ?_, ?_⟩; rw [if_neg hn]; rw [if_neg hn, upr_self])
        | (have hn : ¬ cBoat (sg (mo + 1)) q v := fun z => absurd z.2.2 (Int32.not_lt.mpr h26); refine ⟨cI ?_, ?_⟩; rw [if_neg hn]; rw [if_neg hn, upr_self])
        | (have hp : cBoat (sg (mo + 1)) q v := ⟨b01n.mp h4, b01n.mp h15, Int32.not_le.mp h26⟩; refine ⟨cI ?_, ?_⟩; rw [if_pos hp]; rw [if_pos hp])
    · refine V_aload_n hC kX6_actsBoat_18 rfl ?_
      refine V_getR hC hWr 6 1 lfX6_7 kX6_actsBoat_19 (Nat.le_of_ble_eq_true rfl) (Nat.le_of_ble_eq_true rfl) rfl ?_
      refine V_iconst hC (5) kX6_actsBoat_22 (by decide) ?_
      refine V_iald hC 5 rfl kX6_actsBoat_23 (vp_lit rfl) ?_
      refine V_bipush hC (8) kX6_actsBoat_24 (by decide) ?_
      refine V_icmp_ge hC 38 kX6_actsBoat_26 (by decide) (fun h26 => ?_) (fun h26 => ?_)
      · refine V_iconst hC (-1) kX6_actsBoat_38 (by decide) ?_
        refine V_ireti hC rfl kX6_actsBoat_39 ?_
        first
          | (have hn : ¬ cBoat (sg (mo + 1)) q v := fun z => (b01e.mp h4) z.1; refine ⟨cI ?_, ?_⟩; rw [if_neg hn]; rw [if_neg hn, upr_self])
          | (have hn : ¬ cBoat (sg (mo + 1)) q v := fun z => (b01e.mp h15) z.2.1; refine ⟨cI ?_, ?_⟩; rw [if_neg hn]; rw [if_neg hn, upr_self])
          | (have hn : ¬ cBoat (sg (mo + 1)) q v := fun z => absurd z.2.2 (Int32.not_lt.mpr h26); refine ⟨cI ?_, ?_⟩; rw [if_neg hn]; rw [if_neg hn, upr_self])
          | (have hp : cBoat (sg (mo + 1)) q v := ⟨b01n.mp h4, b01n.mp h15, Int32.not_le.mp h26⟩; refine ⟨cI ?_, ?_⟩; rw [if_pos hp]; rw [if_pos hp])
      · refine V_aload_n hC kX6_actsBoat_29 rfl ?_
        refine V_iload_n hC kX6_actsBoat_30 rfl ?_
        refine V_iload_n hC kX6_actsBoat_31 rfl ?_
        refine V_cV_fI hC (ct_addsBoat hWr _ _ (lt8 hc.1 (Int32.not_le.mp h26))) mkX6_addsBoat lmX6_105 kX6_actsBoat_32 (Nat.le_of_ble_eq_true rfl) rfl rfl rfl (Nat.le_of_ble_eq_true rfl) ⟨(Nat.le_of_ble_eq_true rfl), (Nat.le_of_ble_eq_true rfl)⟩ ⟨rfl, rfl⟩ ⟨(Nat.le_of_ble_eq_true rfl), (Nat.le_of_ble_eq_true rfl)⟩ ?_
        refine V_goto hC 39 kX6_actsBoat_35 (by decide) ?_
        refine V_ireti hC rfl kX6_actsBoat_39 ?_
        first
          | (have hn : ¬ cBoat (sg (mo + 1)) q v := fun z => (b01e.mp h4) z.1; refine ⟨cI ?_, ?_⟩; rw [if_neg hn]; rw [if_neg hn, upr_self])
          | (have hn : ¬ cBoat (sg (mo + 1)) q v := fun z => (b01e.mp h15) z.2.1; refine ⟨cI ?_, ?_⟩; rw [if_neg hn]; rw [if_neg hn, upr_self])
          | (have hn : ¬ cBoat (sg (mo + 1)) q v := fun z => absurd z.2.2 (Int32.not_lt.mpr h26); refine ⟨cI ?_, ?_⟩; rw [if_neg hn]; rw [if_neg hn, upr_self])
          | (have hp : cBoat (sg (mo + 1)) q v := ⟨b01n.mp h4, b01n.mp h15, Int32.not_le.mp h26⟩; refine ⟨cI ?_, ?_⟩; rw [if_pos hp]; rw [if_pos hp])
def mtX6_actsSteer : Mt := (yX6_actsSteer, cX6_actsSteer, 4, (some .int), 2, 43, 0, 0)
theorem kX6_actsSteer_0 : Dk mtX6_actsSteer 0 (.aload_n 0) 1 1 := ⟨by decide +kernel, rfl⟩
theorem kX6_actsSteer_1 : Dk mtX6_actsSteer 1 (.iload_n 1) 1 2 := ⟨by decide +kernel, rfl⟩
theorem kX6_actsSteer_2 : Dk mtX6_actsSteer 2 (.invokevirtual 108) 3 5 := ⟨by decide +kernel, rfl⟩
theorem kX6_actsSteer_5 : Dk mtX6_actsSteer 5 (.ifCond .eq 18) 3 8 := ⟨by decide +kernel, rfl⟩
theorem kX6_actsSteer_8 : Dk mtX6_actsSteer 8 (.iload_n 2) 1 9 := ⟨by decide +kernel, rfl⟩
theorem kX6_actsSteer_9 : Dk mtX6_actsSteer 9 (.bipush (-6)) 2 11 := ⟨by decide +kernel, rfl⟩
theorem kX6_actsSteer_11 : Dk mtX6_actsSteer 11 (.bipush 6) 2 13 := ⟨by decide +kernel, rfl⟩
theorem kX6_actsSteer_13 : Dk mtX6_actsSteer 13 (.invokestatic 39) 3 16 := ⟨by decide +kernel, rfl⟩
theorem kX6_actsSteer_16 : Dk mtX6_actsSteer 16 (.ifCond .eq 7) 3 19 := ⟨by decide +kernel, rfl⟩
theorem kX6_actsSteer_19 : Dk mtX6_actsSteer 19 (.iconst 1) 1 20 := ⟨by decide +kernel, rfl⟩
theorem kX6_actsSteer_20 : Dk mtX6_actsSteer 20 (.goto 4) 3 23 := ⟨by decide +kernel, rfl⟩
theorem kX6_actsSteer_23 : Dk mtX6_actsSteer 23 (.iconst 0) 1 24 := ⟨by decide +kernel, rfl⟩
theorem kX6_actsSteer_24 : Dk mtX6_actsSteer 24 (.istore_n 3) 1 25 := ⟨by decide +kernel, rfl⟩
theorem kX6_actsSteer_25 : Dk mtX6_actsSteer 25 (.iload_n 3) 1 26 := ⟨by decide +kernel, rfl⟩
theorem kX6_actsSteer_26 : Dk mtX6_actsSteer 26 (.ifCond .eq 10) 3 29 := ⟨by decide +kernel, rfl⟩
theorem kX6_actsSteer_29 : Dk mtX6_actsSteer 29 (.aload_n 0) 1 30 := ⟨by decide +kernel, rfl⟩
theorem kX6_actsSteer_30 : Dk mtX6_actsSteer 30 (.iload_n 1) 1 31 := ⟨by decide +kernel, rfl⟩
theorem kX6_actsSteer_31 : Dk mtX6_actsSteer 31 (.iconst 1) 1 32 := ⟨by decide +kernel, rfl⟩
theorem kX6_actsSteer_32 : Dk mtX6_actsSteer 32 (.iload_n 2) 1 33 := ⟨by decide +kernel, rfl⟩
theorem kX6_actsSteer_33 : Dk mtX6_actsSteer 33 (.invokevirtual 63) 3 36 := ⟨by decide +kernel, rfl⟩
theorem kX6_actsSteer_36 : Dk mtX6_actsSteer 36 (.iload_n 3) 1 37 := ⟨by decide +kernel, rfl⟩
theorem kX6_actsSteer_37 : Dk mtX6_actsSteer 37 (.ifCond .eq 7) 3 40 := ⟨by decide +kernel, rfl⟩
theorem kX6_actsSteer_40 : Dk mtX6_actsSteer 40 (.iconst 0) 1 41 := ⟨by decide +kernel, rfl⟩
theorem kX6_actsSteer_41 : Dk mtX6_actsSteer 41 (.goto 4) 3 44 := ⟨by decide +kernel, rfl⟩
theorem kX6_actsSteer_44 : Dk mtX6_actsSteer 44 (.iconst (-1)) 1 45 := ⟨by decide +kernel, rfl⟩
theorem kX6_actsSteer_45 : Dk mtX6_actsSteer 45 (.ireturn) 1 46 := ⟨by decide +kernel, rfl⟩
theorem lmX6_108 : LkM RX6 108 mtX6_isBoat := Or.inl (by decide +kernel)
theorem mkX6_isBoat : MkV mtX6_isBoat 1 := ⟨List.mem_of_getElem? (i := 1147) (by decide +kernel), by decide +kernel, by decide +kernel, by decide +kernel, ⟨by decide +kernel, by decide +kernel, by decide +kernel⟩⟩
set_option maxHeartbeats 4000000 in
set_option maxRecDepth 100000 in
theorem ct_actsSteer {l : Launch} {w : Wd} {sg : Sg} (hWr : Wr w) {mo : Nat} (b v : Int32) (hc : 0 ≤ (sg (mo + 1) 5).toInt ∧ (sg (mo + 1) 5).toInt ≤ 8) : M l mtX6_actsSteer w [vR (some (6, 0, mo)), vI b, vI v] sg (fI (if cSteer (sg (mo + 1)) b v then 0 else -1) (upr sg (mo + 1) (if cSteer (sg (mo + 1)) b v then pB (sg (mo + 1)) b 1 v else (sg (mo + 1))))) := by
  refine M_of [some (vR (some (6, 0, mo))), some (vI b), some (vI v), none] rfl (Nat.le_of_ble_eq_true rfl) (by decide +kernel) ?_
  intro p_ e_ s_ m_ args_ below_ meth_ c_ hC hO
  refine V_join 24 (b01 (cSteer (sg (mo + 1)) b v)) ?_ (fun j24 => ?_)
  · refine V_nameI (fun can e_can => ?_)
    refine V_istore_n hC [some _, some _, some _, some _] kX6_actsSteer_24 rfl (Nat.le_of_ble_eq_true rfl) ?_
    refine V_iload_n hC kX6_actsSteer_25 rfl ?_
    refine V_if_eq hC 36 kX6_actsSteer_26 (by decide) (fun h26 => ?_) (fun h26 => ?_)
    · refine V_iload_n hC kX6_actsSteer_36 rfl ?_
      refine V_if_eq hC 44 kX6_actsSteer_37 (by decide) (fun h37 => ?_) (fun h37 => absurd h37 (not_not_intro h26))
      refine V_iconst hC (-1) kX6_actsSteer_44 (by decide) ?_
      refine V_ireti hC rfl kX6_actsSteer_45 ?_
      first
        | (have hn := b0_of e_can h26; refine ⟨cI ?_, ?_⟩; rw [if_neg hn]; rw [if_neg hn, upr_self])
        | (have hp := b1_of e_can h26; refine ⟨cI ?_, ?_⟩; rw [if_pos hp]; rw [if_pos hp])
    · refine V_aload_n hC kX6_actsSteer_29 rfl ?_
      refine V_iload_n hC kX6_actsSteer_30 rfl ?_
      refine V_iconst hC (1) kX6_actsSteer_31 (by decide) ?_
      refine V_iload_n hC kX6_actsSteer_32 rfl ?_
      refine V_cV_fV hC (ct_layBoat hWr b 1 v (vpB hc (b1_of e_can h26).1) (vp_lit rfl)) mkX6_layBoat lmX6_63 kX6_actsSteer_33 (Nat.le_of_ble_eq_true rfl) rfl rfl rfl (Nat.le_of_ble_eq_true rfl) ⟨(Nat.le_of_ble_eq_true rfl), (Nat.le_of_ble_eq_true rfl)⟩ ⟨rfl, rfl⟩ ⟨(Nat.le_of_ble_eq_true rfl), (Nat.le_of_ble_eq_true rfl)⟩ ?_
      refine V_iload_n hC kX6_actsSteer_36 rfl ?_
      refine V_if_eq hC 44 kX6_actsSteer_37 (by decide) (fun h37 => absurd h37 h26) (fun h37 => ?_)
      refine V_iconst hC (0) kX6_actsSteer_40 (by decide) ?_
      refine V_goto hC 45 kX6_actsSteer_41 (by decide) ?_
      refine V_ireti hC rfl kX6_actsSteer_45 ?_
      first
        | (have hn := b0_of e_can h26; refine ⟨cI ?_, ?_⟩; rw [if_neg hn]; rw [if_neg hn, upr_self])
        | (have hp := b1_of e_can h26; refine ⟨cI ?_, ?_⟩; rw [if_pos hp]; rw [if_pos hp])
  · refine V_aload_n hC kX6_actsSteer_0 rfl ?_
    refine V_iload_n hC kX6_actsSteer_1 rfl ?_
    refine V_cV_fI hC (ct_isBoat hWr _) mkX6_isBoat lmX6_108 kX6_actsSteer_2 (Nat.le_of_ble_eq_true rfl) rfl rfl rfl (Nat.le_of_ble_eq_true rfl) ⟨(Nat.le_of_ble_eq_true rfl), (Nat.le_of_ble_eq_true rfl)⟩ ⟨rfl, rfl⟩ ⟨(Nat.le_of_ble_eq_true rfl), (Nat.le_of_ble_eq_true rfl)⟩ ?_
    refine V_if_eq hC 23 kX6_actsSteer_5 (by decide) (fun h5 => ?_) (fun h5 => ?_)
    · refine V_iconst hC (0) kX6_actsSteer_23 (by decide) ?_
      exact j24 _ ((b01_f (fun z => (b01e.mp h5) z.1)).symm)
    · refine V_iload_n hC kX6_actsSteer_8 rfl ?_
      refine V_bipush hC (-6) kX6_actsSteer_9 (by decide) ?_
      refine V_bipush hC (6) kX6_actsSteer_11 (by decide) ?_
      refine V_cS_fI hC (ct_in hWr _ _ _) mkX6_in lmX6_39 kX6_actsSteer_13 rfl rfl (Nat.le_of_ble_eq_true rfl) ⟨(Nat.le_of_ble_eq_true rfl), (Nat.le_of_ble_eq_true rfl)⟩ ⟨rfl, rfl⟩ ⟨(Nat.le_of_ble_eq_true rfl), (Nat.le_of_ble_eq_true rfl)⟩ ?_
      refine V_if_eq hC 23 kX6_actsSteer_16 (by decide) (fun h16 => ?_) (fun h16 => ?_)
      · refine V_iconst hC (0) kX6_actsSteer_23 (by decide) ?_
        exact j24 _ ((b01_f (fun z => (b01e.mp h16) z.2)).symm)
      · refine V_iconst hC (1) kX6_actsSteer_19 (by decide) ?_
        refine V_goto hC 24 kX6_actsSteer_20 (by decide) ?_
        exact j24 _ ((b01_t ⟨b01n.mp h5, b01n.mp h16⟩).symm)
def mtX6_canTalk : Mt := (yX6_canTalk, cX6_canTalk, 2, (some .boolean), 1, 22, 0, 0)
theorem kX6_canTalk_0 : Dk mtX6_canTalk 0 (.aload_n 0) 1 1 := ⟨by decide +kernel, rfl⟩
theorem kX6_canTalk_1 : Dk mtX6_canTalk 1 (.iload_n 1) 1 2 := ⟨by decide +kernel, rfl⟩
theorem kX6_canTalk_2 : Dk mtX6_canTalk 2 (.iconst 2) 1 3 := ⟨by decide +kernel, rfl⟩
theorem kX6_canTalk_3 : Dk mtX6_canTalk 3 (.invokevirtual 53) 3 6 := ⟨by decide +kernel, rfl⟩
theorem kX6_canTalk_6 : Dk mtX6_canTalk 6 (.ifCond .le 7) 3 9 := ⟨by decide +kernel, rfl⟩
theorem kX6_canTalk_9 : Dk mtX6_canTalk 9 (.iconst 1) 1 10 := ⟨by decide +kernel, rfl⟩
theorem kX6_canTalk_10 : Dk mtX6_canTalk 10 (.goto 4) 3 13 := ⟨by decide +kernel, rfl⟩
theorem kX6_canTalk_13 : Dk mtX6_canTalk 13 (.iconst 0) 1 14 := ⟨by decide +kernel, rfl⟩
theorem kX6_canTalk_14 : Dk mtX6_canTalk 14 (.ireturn) 1 15 := ⟨by decide +kernel, rfl⟩
set_option maxHeartbeats 4000000 in
set_option maxRecDepth 100000 in
theorem ct_canTalk {l : Launch} {w : Wd} {sg : Sg} (hWr : Wr w) {mo : Nat} (a : Int32) (ha : vp_in a 8) : M l mtX6_canTalk w [vR (some (6, 0, mo)), vI a] sg (fI (b01 (0 < gB (sg (mo + 1)) a 2)) sg) := by
  refine M_of [some (vR (some (6, 0, mo))), some (vI a)] rfl (Nat.le_of_ble_eq_true rfl) (by decide +kernel) ?_
  intro p_ e_ s_ m_ args_ below_ meth_ c_ hC hO
  refine V_aload_n hC kX6_canTalk_0 rfl ?_
  refine V_iload_n hC kX6_canTalk_1 rfl ?_
  refine V_iconst hC (2) kX6_canTalk_2 (by decide) ?_
  refine V_cV_fI hC (ct_ofBoat hWr a 2 ha (vp_lit rfl)) mkX6_ofBoat lmX6_53 kX6_canTalk_3 (Nat.le_of_ble_eq_true rfl) rfl rfl rfl (Nat.le_of_ble_eq_true rfl) ⟨(Nat.le_of_ble_eq_true rfl), (Nat.le_of_ble_eq_true rfl)⟩ ⟨rfl, rfl⟩ ⟨(Nat.le_of_ble_eq_true rfl), (Nat.le_of_ble_eq_true rfl)⟩ ?_
  refine V_if_le hC 13 kX6_canTalk_6 (by decide) (fun h6 => ?_) (fun h6 => ?_)
  · refine V_iconst hC (0) kX6_canTalk_13 (by decide) ?_
    refine V_iretz hC rfl kX6_canTalk_14 ?_ ?_
    · first | exact Or.inl rfl | exact Or.inr rfl | exact b01_z _
    · refine ⟨?_, by with_reducible rfl⟩
      first | exact cI (b01_f (Int32.not_lt.mpr h6)).symm | exact cI (b01_t (Int32.not_le.mp h6)).symm
  · refine V_iconst hC (1) kX6_canTalk_9 (by decide) ?_
    refine V_goto hC 14 kX6_canTalk_10 (by decide) ?_
    refine V_iretz hC rfl kX6_canTalk_14 ?_ ?_
    · first | exact Or.inl rfl | exact Or.inr rfl | exact b01_z _
    · refine ⟨?_, by with_reducible rfl⟩
      first | exact cI (b01_f (Int32.not_lt.mpr h6)).symm | exact cI (b01_t (Int32.not_le.mp h6)).symm
def mtX6_actsTalk : Mt := (yX6_actsTalk, cX6_actsTalk, 4, (some .int), 2, 43, 0, 0)
theorem kX6_actsTalk_0 : Dk mtX6_actsTalk 0 (.aload_n 0) 1 1 := ⟨by decide +kernel, rfl⟩
theorem kX6_actsTalk_1 : Dk mtX6_actsTalk 1 (.iload_n 1) 1 2 := ⟨by decide +kernel, rfl⟩
theorem kX6_actsTalk_2 : Dk mtX6_actsTalk 2 (.invokevirtual 108) 3 5 := ⟨by decide +kernel, rfl⟩
theorem kX6_actsTalk_5 : Dk mtX6_actsTalk 5 (.ifCond .eq 25) 3 8 := ⟨by decide +kernel, rfl⟩
theorem kX6_actsTalk_8 : Dk mtX6_actsTalk 8 (.iload_n 2) 1 9 := ⟨by decide +kernel, rfl⟩
theorem kX6_actsTalk_9 : Dk mtX6_actsTalk 9 (.iconst 1) 1 10 := ⟨by decide +kernel, rfl⟩
theorem kX6_actsTalk_10 : Dk mtX6_actsTalk 10 (.bipush 99) 2 12 := ⟨by decide +kernel, rfl⟩
theorem kX6_actsTalk_12 : Dk mtX6_actsTalk 12 (.invokestatic 39) 3 15 := ⟨by decide +kernel, rfl⟩
theorem kX6_actsTalk_15 : Dk mtX6_actsTalk 15 (.ifCond .eq 15) 3 18 := ⟨by decide +kernel, rfl⟩
theorem kX6_actsTalk_18 : Dk mtX6_actsTalk 18 (.aload_n 0) 1 19 := ⟨by decide +kernel, rfl⟩
theorem kX6_actsTalk_19 : Dk mtX6_actsTalk 19 (.iload_n 1) 1 20 := ⟨by decide +kernel, rfl⟩
theorem kX6_actsTalk_20 : Dk mtX6_actsTalk 20 (.invokevirtual 111) 3 23 := ⟨by decide +kernel, rfl⟩
theorem kX6_actsTalk_23 : Dk mtX6_actsTalk 23 (.ifCond .eq 7) 3 26 := ⟨by decide +kernel, rfl⟩
theorem kX6_actsTalk_26 : Dk mtX6_actsTalk 26 (.iconst 1) 1 27 := ⟨by decide +kernel, rfl⟩
theorem kX6_actsTalk_27 : Dk mtX6_actsTalk 27 (.goto 4) 3 30 := ⟨by decide +kernel, rfl⟩
theorem kX6_actsTalk_30 : Dk mtX6_actsTalk 30 (.iconst 0) 1 31 := ⟨by decide +kernel, rfl⟩
theorem kX6_actsTalk_31 : Dk mtX6_actsTalk 31 (.istore_n 3) 1 32 := ⟨by decide +kernel, rfl⟩
theorem kX6_actsTalk_32 : Dk mtX6_actsTalk 32 (.iload_n 3) 1 33 := ⟨by decide +kernel, rfl⟩
theorem kX6_actsTalk_33 : Dk mtX6_actsTalk 33 (.ifCond .eq 10) 3 36 := ⟨by decide +kernel, rfl⟩
theorem kX6_actsTalk_36 : Dk mtX6_actsTalk 36 (.aload_n 0) 1 37 := ⟨by decide +kernel, rfl⟩
theorem kX6_actsTalk_37 : Dk mtX6_actsTalk 37 (.iload_n 1) 1 38 := ⟨by decide +kernel, rfl⟩
theorem kX6_actsTalk_38 : Dk mtX6_actsTalk 38 (.iconst 3) 1 39 := ⟨by decide +kernel, rfl⟩
theorem kX6_actsTalk_39 : Dk mtX6_actsTalk 39 (.iload_n 2) 1 40 := ⟨by decide +kernel, rfl⟩
theorem kX6_actsTalk_40 : Dk mtX6_actsTalk 40 (.invokevirtual 63) 3 43 := ⟨by decide +kernel, rfl⟩
theorem kX6_actsTalk_43 : Dk mtX6_actsTalk 43 (.iload_n 3) 1 44 := ⟨by decide +kernel, rfl⟩
theorem kX6_actsTalk_44 : Dk mtX6_actsTalk 44 (.ifCond .eq 7) 3 47 := ⟨by decide +kernel, rfl⟩
theorem kX6_actsTalk_47 : Dk mtX6_actsTalk 47 (.iconst 0) 1 48 := ⟨by decide +kernel, rfl⟩
theorem kX6_actsTalk_48 : Dk mtX6_actsTalk 48 (.goto 4) 3 51 := ⟨by decide +kernel, rfl⟩
theorem kX6_actsTalk_51 : Dk mtX6_actsTalk 51 (.iconst (-1)) 1 52 := ⟨by decide +kernel, rfl⟩
theorem kX6_actsTalk_52 : Dk mtX6_actsTalk 52 (.ireturn) 1 53 := ⟨by decide +kernel, rfl⟩
theorem lmX6_111 : LkM RX6 111 mtX6_canTalk := Or.inl (by decide +kernel)
theorem mkX6_canTalk : MkV mtX6_canTalk 1 := ⟨List.mem_of_getElem? (i := 1155) (by decide +kernel), by decide +kernel, by decide +kernel, by decide +kernel, ⟨by decide +kernel, by decide +kernel, by decide +kernel⟩⟩
set_option maxHeartbeats 4000000 in
set_option maxRecDepth 100000 in
theorem ct_actsTalk {l : Launch} {w : Wd} {sg : Sg} (hWr : Wr w) {mo : Nat} (b v : Int32) (hc : 0 ≤ (sg (mo + 1) 5).toInt ∧ (sg (mo + 1) 5).toInt ≤ 8) : M l mtX6_actsTalk w [vR (some (6, 0, mo)), vI b, vI v] sg (fI (if cTalk (sg (mo + 1)) b v then 0 else -1) (upr sg (mo + 1) (if cTalk (sg (mo + 1)) b v then pB (sg (mo + 1)) b 3 v else (sg (mo + 1))))) := by
  refine M_of [some (vR (some (6, 0, mo))), some (vI b), some (vI v), none] rfl (Nat.le_of_ble_eq_true rfl) (by decide +kernel) ?_
  intro p_ e_ s_ m_ args_ below_ meth_ c_ hC hO
  refine V_join 31 (b01 (cTalk (sg (mo + 1)) b v)) ?_ (fun j31 => ?_)
  · refine V_nameI (fun can e_can => ?_)
    refine V_istore_n hC [some _, some _, some _, some _] kX6_actsTalk_31 rfl (Nat.le_of_ble_eq_true rfl) ?_
    refine V_iload_n hC kX6_actsTalk_32 rfl ?_
    refine V_if_eq hC 43 kX6_actsTalk_33 (by decide) (fun h33 => ?_) (fun h33 => ?_)
    · refine V_iload_n hC kX6_actsTalk_43 rfl ?_
      refine V_if_eq hC 51 kX6_actsTalk_44 (by decide) (fun h44 => ?_) (fun h44 => absurd h44 (not_not_intro h33))
      refine V_iconst hC (-1) kX6_actsTalk_51 (by decide) ?_
      refine V_ireti hC rfl kX6_actsTalk_52 ?_
      first
        | (have hn := b0_of e_can h33; refine ⟨cI ?_, ?_⟩; rw [if_neg hn]; rw [if_neg hn, upr_self])
        | (have hp := b1_of e_can h33; refine ⟨cI ?_, ?_⟩; rw [if_pos hp]; rw [if_pos hp])
    · refine V_aload_n hC kX6_actsTalk_36 rfl ?_
      refine V_iload_n hC kX6_actsTalk_37 rfl ?_
      refine V_iconst hC (3) kX6_actsTalk_38 (by decide) ?_
      refine V_iload_n hC kX6_actsTalk_39 rfl ?_
      refine V_cV_fV hC (ct_layBoat hWr b 3 v (vpB hc (b1_of e_can h33).1) (vp_lit rfl)) mkX6_layBoat lmX6_63 kX6_actsTalk_40 (Nat.le_of_ble_eq_true rfl) rfl rfl rfl (Nat.le_of_ble_eq_true rfl) ⟨(Nat.le_of_ble_eq_true rfl), (Nat.le_of_ble_eq_true rfl)⟩ ⟨rfl, rfl⟩ ⟨(Nat.le_of_ble_eq_true rfl), (Nat.le_of_ble_eq_true rfl)⟩ ?_
      refine V_iload_n hC kX6_actsTalk_43 rfl ?_
      refine V_if_eq hC 51 kX6_actsTalk_44 (by decide) (fun h44 => absurd h44 h33) (fun h44 => ?_)
      refine V_iconst hC (0) kX6_actsTalk_47 (by decide) ?_
      refine V_goto hC 52 kX6_actsTalk_48 (by decide) ?_
      refine V_ireti hC rfl kX6_actsTalk_52 ?_
      first
        | (have hn := b0_of e_can h33; refine ⟨cI ?_, ?_⟩; rw [if_neg hn]; rw [if_neg hn, upr_self])
        | (have hp := b1_of e_can h33; refine ⟨cI ?_, ?_⟩; rw [if_pos hp]; rw [if_pos hp])
  · refine V_aload_n hC kX6_actsTalk_0 rfl ?_
    refine V_iload_n hC kX6_actsTalk_1 rfl ?_
    refine V_cV_fI hC (ct_isBoat hWr _) mkX6_isBoat lmX6_108 kX6_actsTalk_2 (Nat.le_of_ble_eq_true rfl) rfl rfl rfl (Nat.le_of_ble_eq_true rfl) ⟨(Nat.le_of_ble_eq_true rfl), (Nat.le_of_ble_eq_true rfl)⟩ ⟨rfl, rfl⟩ ⟨(Nat.le_of_ble_eq_true rfl), (Nat.le_of_ble_eq_true rfl)⟩ ?_
    refine V_if_eq hC 30 kX6_actsTalk_5 (by decide) (fun h5 => ?_) (fun h5 => ?_)
    · refine V_iconst hC (0) kX6_actsTalk_30 (by decide) ?_
      exact j31 _ ((b01_f (fun z => (b01e.mp h5) z.1)).symm)
    · refine V_iload_n hC kX6_actsTalk_8 rfl ?_
      refine V_iconst hC (1) kX6_actsTalk_9 (by decide) ?_
      refine V_bipush hC (99) kX6_actsTalk_10 (by decide) ?_
      refine V_cS_fI hC (ct_in hWr _ _ _) mkX6_in lmX6_39 kX6_actsTalk_12 rfl rfl (Nat.le_of_ble_eq_true rfl) ⟨(Nat.le_of_ble_eq_true rfl), (Nat.le_of_ble_eq_true rfl)⟩ ⟨rfl, rfl⟩ ⟨(Nat.le_of_ble_eq_true rfl), (Nat.le_of_ble_eq_true rfl)⟩ ?_
      refine V_if_eq hC 30 kX6_actsTalk_15 (by decide) (fun h15 => ?_) (fun h15 => ?_)
      · refine V_iconst hC (0) kX6_actsTalk_30 (by decide) ?_
        exact j31 _ ((b01_f (fun z => (b01e.mp h15) z.2.1)).symm)
      · refine V_aload_n hC kX6_actsTalk_18 rfl ?_
        refine V_iload_n hC kX6_actsTalk_19 rfl ?_
        refine V_cV_fI hC (ct_canTalk hWr b (vpB hc (b01n.mp h5))) mkX6_canTalk lmX6_111 kX6_actsTalk_20 (Nat.le_of_ble_eq_true rfl) rfl rfl rfl (Nat.le_of_ble_eq_true rfl) ⟨(Nat.le_of_ble_eq_true rfl), (Nat.le_of_ble_eq_true rfl)⟩ ⟨rfl, rfl⟩ ⟨(Nat.le_of_ble_eq_true rfl), (Nat.le_of_ble_eq_true rfl)⟩ ?_
        refine V_if_eq hC 30 kX6_actsTalk_23 (by decide) (fun h23 => ?_) (fun h23 => ?_)
        · refine V_iconst hC (0) kX6_actsTalk_30 (by decide) ?_
          exact j31 _ ((b01_f (fun z => (b01e.mp h23) z.2.2)).symm)
        · refine V_iconst hC (1) kX6_actsTalk_26 (by decide) ?_
          refine V_goto hC 31 kX6_actsTalk_27 (by decide) ?_
          exact j31 _ ((b01_t ⟨b01n.mp h5, b01n.mp h15, b01n.mp h23⟩).symm)
def mtX6_actsLean : Mt := (yX6_actsLean, cX6_actsLean, 4, (some .int), 2, 43, 0, 0)
theorem kX6_actsLean_0 : Dk mtX6_actsLean 0 (.aload_n 0) 1 1 := ⟨by decide +kernel, rfl⟩
theorem kX6_actsLean_1 : Dk mtX6_actsLean 1 (.iload_n 1) 1 2 := ⟨by decide +kernel, rfl⟩
theorem kX6_actsLean_2 : Dk mtX6_actsLean 2 (.invokevirtual 114) 3 5 := ⟨by decide +kernel, rfl⟩
theorem kX6_actsLean_5 : Dk mtX6_actsLean 5 (.ifCond .eq 18) 3 8 := ⟨by decide +kernel, rfl⟩
theorem kX6_actsLean_8 : Dk mtX6_actsLean 8 (.iload_n 2) 1 9 := ⟨by decide +kernel, rfl⟩
theorem kX6_actsLean_9 : Dk mtX6_actsLean 9 (.bipush (-30)) 2 11 := ⟨by decide +kernel, rfl⟩
theorem kX6_actsLean_11 : Dk mtX6_actsLean 11 (.bipush 30) 2 13 := ⟨by decide +kernel, rfl⟩
theorem kX6_actsLean_13 : Dk mtX6_actsLean 13 (.invokestatic 39) 3 16 := ⟨by decide +kernel, rfl⟩
theorem kX6_actsLean_16 : Dk mtX6_actsLean 16 (.ifCond .eq 7) 3 19 := ⟨by decide +kernel, rfl⟩
theorem kX6_actsLean_19 : Dk mtX6_actsLean 19 (.iconst 1) 1 20 := ⟨by decide +kernel, rfl⟩
theorem kX6_actsLean_20 : Dk mtX6_actsLean 20 (.goto 4) 3 23 := ⟨by decide +kernel, rfl⟩
theorem kX6_actsLean_23 : Dk mtX6_actsLean 23 (.iconst 0) 1 24 := ⟨by decide +kernel, rfl⟩
theorem kX6_actsLean_24 : Dk mtX6_actsLean 24 (.istore_n 3) 1 25 := ⟨by decide +kernel, rfl⟩
theorem kX6_actsLean_25 : Dk mtX6_actsLean 25 (.iload_n 3) 1 26 := ⟨by decide +kernel, rfl⟩
theorem kX6_actsLean_26 : Dk mtX6_actsLean 26 (.ifCond .eq 19) 3 29 := ⟨by decide +kernel, rfl⟩
theorem kX6_actsLean_29 : Dk mtX6_actsLean 29 (.aload_n 0) 1 30 := ⟨by decide +kernel, rfl⟩
theorem kX6_actsLean_30 : Dk mtX6_actsLean 30 (.getfield 7) 3 33 := ⟨by decide +kernel, rfl⟩
theorem kX6_actsLean_33 : Dk mtX6_actsLean 33 (.bipush 12) 2 35 := ⟨by decide +kernel, rfl⟩
theorem kX6_actsLean_35 : Dk mtX6_actsLean 35 (.bipush 8) 2 37 := ⟨by decide +kernel, rfl⟩
theorem kX6_actsLean_37 : Dk mtX6_actsLean 37 (.iload_n 1) 1 38 := ⟨by decide +kernel, rfl⟩
theorem kX6_actsLean_38 : Dk mtX6_actsLean 38 (.imul) 1 39 := ⟨by decide +kernel, rfl⟩
theorem kX6_actsLean_39 : Dk mtX6_actsLean 39 (.iadd) 1 40 := ⟨by decide +kernel, rfl⟩
theorem kX6_actsLean_40 : Dk mtX6_actsLean 40 (.bipush 6) 2 42 := ⟨by decide +kernel, rfl⟩
theorem kX6_actsLean_42 : Dk mtX6_actsLean 42 (.iadd) 1 43 := ⟨by decide +kernel, rfl⟩
theorem kX6_actsLean_43 : Dk mtX6_actsLean 43 (.iload_n 2) 1 44 := ⟨by decide +kernel, rfl⟩
theorem kX6_actsLean_44 : Dk mtX6_actsLean 44 (.iastore) 1 45 := ⟨by decide +kernel, rfl⟩
theorem kX6_actsLean_45 : Dk mtX6_actsLean 45 (.iload_n 3) 1 46 := ⟨by decide +kernel, rfl⟩
theorem kX6_actsLean_46 : Dk mtX6_actsLean 46 (.ifCond .eq 7) 3 49 := ⟨by decide +kernel, rfl⟩
theorem kX6_actsLean_49 : Dk mtX6_actsLean 49 (.iconst 0) 1 50 := ⟨by decide +kernel, rfl⟩
theorem kX6_actsLean_50 : Dk mtX6_actsLean 50 (.goto 4) 3 53 := ⟨by decide +kernel, rfl⟩
theorem kX6_actsLean_53 : Dk mtX6_actsLean 53 (.iconst (-1)) 1 54 := ⟨by decide +kernel, rfl⟩
theorem kX6_actsLean_54 : Dk mtX6_actsLean 54 (.ireturn) 1 55 := ⟨by decide +kernel, rfl⟩
theorem lmX6_114 : LkM RX6 114 mtX6_isLight := Or.inl (by decide +kernel)
theorem mkX6_isLight : MkV mtX6_isLight 1 := ⟨List.mem_of_getElem? (i := 1249) (by decide +kernel), by decide +kernel, by decide +kernel, by decide +kernel, ⟨by decide +kernel, by decide +kernel, by decide +kernel⟩⟩
set_option maxHeartbeats 4000000 in
set_option maxRecDepth 100000 in
theorem ct_actsLean {l : Launch} {w : Wd} {sg : Sg} (hWr : Wr w) {mo : Nat} (a v : Int32) (hc : 0 ≤ (sg (mo + 1) 4).toInt ∧ (sg (mo + 1) 4).toInt ≤ 6) : M l mtX6_actsLean w [vR (some (6, 0, mo)), vI a, vI v] sg (fI (if cLean (sg (mo + 1)) a v then 0 else -1) (upr sg (mo + 1) (if cLean (sg (mo + 1)) a v then F_lean (sg (mo + 1)) a v else (sg (mo + 1))))) := by
  refine M_of [some (vR (some (6, 0, mo))), some (vI a), some (vI v), none] rfl (Nat.le_of_ble_eq_true rfl) (by decide +kernel) ?_
  intro p_ e_ s_ m_ args_ below_ meth_ c_ hC hO
  refine V_join 24 (b01 (cLean (sg (mo + 1)) a v)) ?_ (fun j24 => ?_)
  · refine V_nameI (fun can e_can => ?_)
    refine V_istore_n hC [some _, some _, some _, some _] kX6_actsLean_24 rfl (Nat.le_of_ble_eq_true rfl) ?_
    refine V_iload_n hC kX6_actsLean_25 rfl ?_
    refine V_if_eq hC 45 kX6_actsLean_26 (by decide) (fun h26 => ?_) (fun h26 => ?_)
    · refine V_iload_n hC kX6_actsLean_45 rfl ?_
      refine V_if_eq hC 53 kX6_actsLean_46 (by decide) (fun h46 => ?_) (fun h46 => absurd h46 (not_not_intro h26))
      refine V_iconst hC (-1) kX6_actsLean_53 (by decide) ?_
      refine V_ireti hC rfl kX6_actsLean_54 ?_
      first
        | (have hn := b0_of e_can h26; refine ⟨cI ?_, ?_⟩; rw [if_neg hn]; rw [if_neg hn, upr_self])
        | (have hp := b1_of e_can h26; refine ⟨cI ?_, ?_⟩; rw [if_pos hp]; rw [if_pos hp]; unfold F_lean ups; with_reducible rfl)
    · refine V_aload_n hC kX6_actsLean_29 rfl ?_
      refine V_getR hC hWr 6 1 lfX6_7 kX6_actsLean_30 (Nat.le_of_ble_eq_true rfl) (Nat.le_of_ble_eq_true rfl) rfl ?_
      refine V_bipush hC (12) kX6_actsLean_33 (by decide) ?_
      refine V_bipush hC (8) kX6_actsLean_35 (by decide) ?_
      refine V_iload_n hC kX6_actsLean_37 rfl ?_
      refine V_imul hC kX6_actsLean_38 ?_
      refine V_iadd hC kX6_actsLean_39 ?_
      refine V_bipush hC (6) kX6_actsLean_40 (by decide) ?_
      refine V_iadd hC kX6_actsLean_42 ?_
      refine V_iload_n hC kX6_actsLean_43 rfl ?_
      refine V_iast hC _ rfl kX6_actsLean_44 (inL (vpL hc (b1_of e_can h26).1) (vp_lit rfl)) ?_
      refine V_iload_n hC kX6_actsLean_45 rfl ?_
      refine V_if_eq hC 53 kX6_actsLean_46 (by decide) (fun h46 => absurd h46 h26) (fun h46 => ?_)
      refine V_iconst hC (0) kX6_actsLean_49 (by decide) ?_
      refine V_goto hC 54 kX6_actsLean_50 (by decide) ?_
      refine V_ireti hC rfl kX6_actsLean_54 ?_
      first
        | (have hn := b0_of e_can h26; refine ⟨cI ?_, ?_⟩; rw [if_neg hn]; rw [if_neg hn, upr_self])
        | (have hp := b1_of e_can h26; refine ⟨cI ?_, ?_⟩; rw [if_pos hp]; rw [if_pos hp]; unfold F_lean ups; with_reducible rfl)
  · refine V_aload_n hC kX6_actsLean_0 rfl ?_
    refine V_iload_n hC kX6_actsLean_1 rfl ?_
    refine V_cV_fI hC (ct_isLight hWr _) mkX6_isLight lmX6_114 kX6_actsLean_2 (Nat.le_of_ble_eq_true rfl) rfl rfl rfl (Nat.le_of_ble_eq_true rfl) ⟨(Nat.le_of_ble_eq_true rfl), (Nat.le_of_ble_eq_true rfl)⟩ ⟨rfl, rfl⟩ ⟨(Nat.le_of_ble_eq_true rfl), (Nat.le_of_ble_eq_true rfl)⟩ ?_
    refine V_if_eq hC 23 kX6_actsLean_5 (by decide) (fun h5 => ?_) (fun h5 => ?_)
    · refine V_iconst hC (0) kX6_actsLean_23 (by decide) ?_
      exact j24 _ ((b01_f (fun z => (b01e.mp h5) z.1)).symm)
    · refine V_iload_n hC kX6_actsLean_8 rfl ?_
      refine V_bipush hC (-30) kX6_actsLean_9 (by decide) ?_
      refine V_bipush hC (30) kX6_actsLean_11 (by decide) ?_
      refine V_cS_fI hC (ct_in hWr _ _ _) mkX6_in lmX6_39 kX6_actsLean_13 rfl rfl (Nat.le_of_ble_eq_true rfl) ⟨(Nat.le_of_ble_eq_true rfl), (Nat.le_of_ble_eq_true rfl)⟩ ⟨rfl, rfl⟩ ⟨(Nat.le_of_ble_eq_true rfl), (Nat.le_of_ble_eq_true rfl)⟩ ?_
      refine V_if_eq hC 23 kX6_actsLean_16 (by decide) (fun h16 => ?_) (fun h16 => ?_)
      · refine V_iconst hC (0) kX6_actsLean_23 (by decide) ?_
        exact j24 _ ((b01_f (fun z => (b01e.mp h16) z.2)).symm)
      · refine V_iconst hC (1) kX6_actsLean_19 (by decide) ?_
        refine V_goto hC 24 kX6_actsLean_20 (by decide) ?_
        exact j24 _ ((b01_t ⟨b01n.mp h5, b01n.mp h16⟩).symm)
def mtX6_actsDim : Mt := (yX6_actsDim, cX6_actsDim, 4, (some .int), 2, 43, 0, 0)
theorem kX6_actsDim_0 : Dk mtX6_actsDim 0 (.aload_n 0) 1 1 := ⟨by decide +kernel, rfl⟩
theorem kX6_actsDim_1 : Dk mtX6_actsDim 1 (.iload_n 1) 1 2 := ⟨by decide +kernel, rfl⟩
theorem kX6_actsDim_2 : Dk mtX6_actsDim 2 (.invokevirtual 114) 3 5 := ⟨by decide +kernel, rfl⟩
theorem kX6_actsDim_5 : Dk mtX6_actsDim 5 (.ifCond .eq 18) 3 8 := ⟨by decide +kernel, rfl⟩
theorem kX6_actsDim_8 : Dk mtX6_actsDim 8 (.iload_n 2) 1 9 := ⟨by decide +kernel, rfl⟩
theorem kX6_actsDim_9 : Dk mtX6_actsDim 9 (.bipush 10) 2 11 := ⟨by decide +kernel, rfl⟩
theorem kX6_actsDim_11 : Dk mtX6_actsDim 11 (.bipush 99) 2 13 := ⟨by decide +kernel, rfl⟩
theorem kX6_actsDim_13 : Dk mtX6_actsDim 13 (.invokestatic 39) 3 16 := ⟨by decide +kernel, rfl⟩
theorem kX6_actsDim_16 : Dk mtX6_actsDim 16 (.ifCond .eq 7) 3 19 := ⟨by decide +kernel, rfl⟩
theorem kX6_actsDim_19 : Dk mtX6_actsDim 19 (.iconst 1) 1 20 := ⟨by decide +kernel, rfl⟩
theorem kX6_actsDim_20 : Dk mtX6_actsDim 20 (.goto 4) 3 23 := ⟨by decide +kernel, rfl⟩
theorem kX6_actsDim_23 : Dk mtX6_actsDim 23 (.iconst 0) 1 24 := ⟨by decide +kernel, rfl⟩
theorem kX6_actsDim_24 : Dk mtX6_actsDim 24 (.istore_n 3) 1 25 := ⟨by decide +kernel, rfl⟩
theorem kX6_actsDim_25 : Dk mtX6_actsDim 25 (.iload_n 3) 1 26 := ⟨by decide +kernel, rfl⟩
theorem kX6_actsDim_26 : Dk mtX6_actsDim 26 (.ifCond .eq 18) 3 29 := ⟨by decide +kernel, rfl⟩
theorem kX6_actsDim_29 : Dk mtX6_actsDim 29 (.aload_n 0) 1 30 := ⟨by decide +kernel, rfl⟩
theorem kX6_actsDim_30 : Dk mtX6_actsDim 30 (.getfield 7) 3 33 := ⟨by decide +kernel, rfl⟩
theorem kX6_actsDim_33 : Dk mtX6_actsDim 33 (.bipush 12) 2 35 := ⟨by decide +kernel, rfl⟩
theorem kX6_actsDim_35 : Dk mtX6_actsDim 35 (.bipush 8) 2 37 := ⟨by decide +kernel, rfl⟩
theorem kX6_actsDim_37 : Dk mtX6_actsDim 37 (.iload_n 1) 1 38 := ⟨by decide +kernel, rfl⟩
theorem kX6_actsDim_38 : Dk mtX6_actsDim 38 (.imul) 1 39 := ⟨by decide +kernel, rfl⟩
theorem kX6_actsDim_39 : Dk mtX6_actsDim 39 (.iadd) 1 40 := ⟨by decide +kernel, rfl⟩
theorem kX6_actsDim_40 : Dk mtX6_actsDim 40 (.iconst 1) 1 41 := ⟨by decide +kernel, rfl⟩
theorem kX6_actsDim_41 : Dk mtX6_actsDim 41 (.iadd) 1 42 := ⟨by decide +kernel, rfl⟩
theorem kX6_actsDim_42 : Dk mtX6_actsDim 42 (.iload_n 2) 1 43 := ⟨by decide +kernel, rfl⟩
theorem kX6_actsDim_43 : Dk mtX6_actsDim 43 (.iastore) 1 44 := ⟨by decide +kernel, rfl⟩
theorem kX6_actsDim_44 : Dk mtX6_actsDim 44 (.iload_n 3) 1 45 := ⟨by decide +kernel, rfl⟩
theorem kX6_actsDim_45 : Dk mtX6_actsDim 45 (.ifCond .eq 7) 3 48 := ⟨by decide +kernel, rfl⟩
theorem kX6_actsDim_48 : Dk mtX6_actsDim 48 (.iconst 0) 1 49 := ⟨by decide +kernel, rfl⟩
theorem kX6_actsDim_49 : Dk mtX6_actsDim 49 (.goto 4) 3 52 := ⟨by decide +kernel, rfl⟩
theorem kX6_actsDim_52 : Dk mtX6_actsDim 52 (.iconst (-1)) 1 53 := ⟨by decide +kernel, rfl⟩
theorem kX6_actsDim_53 : Dk mtX6_actsDim 53 (.ireturn) 1 54 := ⟨by decide +kernel, rfl⟩
set_option maxHeartbeats 4000000 in
set_option maxRecDepth 100000 in
theorem ct_actsDim {l : Launch} {w : Wd} {sg : Sg} (hWr : Wr w) {mo : Nat} (a v : Int32) (hc : 0 ≤ (sg (mo + 1) 4).toInt ∧ (sg (mo + 1) 4).toInt ≤ 6) : M l mtX6_actsDim w [vR (some (6, 0, mo)), vI a, vI v] sg (fI (if cDim (sg (mo + 1)) a v then 0 else -1) (upr sg (mo + 1) (if cDim (sg (mo + 1)) a v then F_dim (sg (mo + 1)) a v else (sg (mo + 1))))) := by
  refine M_of [some (vR (some (6, 0, mo))), some (vI a), some (vI v), none] rfl (Nat.le_of_ble_eq_true rfl) (by decide +kernel) ?_
  intro p_ e_ s_ m_ args_ below_ meth_ c_ hC hO
  refine V_join 24 (b01 (cDim (sg (mo + 1)) a v)) ?_ (fun j24 => ?_)
  · refine V_nameI (fun can e_can => ?_)
    refine V_istore_n hC [some _, some _, some _, some _] kX6_actsDim_24 rfl (Nat.le_of_ble_eq_true rfl) ?_
    refine V_iload_n hC kX6_actsDim_25 rfl ?_
    refine V_if_eq hC 44 kX6_actsDim_26 (by decide) (fun h26 => ?_) (fun h26 => ?_)
    · refine V_iload_n hC kX6_actsDim_44 rfl ?_
      refine V_if_eq hC 52 kX6_actsDim_45 (by decide) (fun h45 => ?_) (fun h45 => absurd h45 (not_not_intro h26))
      refine V_iconst hC (-1) kX6_actsDim_52 (by decide) ?_
      refine V_ireti hC rfl kX6_actsDim_53 ?_
      first
        | (have hn := b0_of e_can h26; refine ⟨cI ?_, ?_⟩; rw [if_neg hn]; rw [if_neg hn, upr_self])
        | (have hp := b1_of e_can h26; refine ⟨cI ?_, ?_⟩; rw [if_pos hp]; rw [if_pos hp]; unfold F_dim ups; with_reducible rfl)
    · refine V_aload_n hC kX6_actsDim_29 rfl ?_
      refine V_getR hC hWr 6 1 lfX6_7 kX6_actsDim_30 (Nat.le_of_ble_eq_true rfl) (Nat.le_of_ble_eq_true rfl) rfl ?_
      refine V_bipush hC (12) kX6_actsDim_33 (by decide) ?_
      refine V_bipush hC (8) kX6_actsDim_35 (by decide) ?_
      refine V_iload_n hC kX6_actsDim_37 rfl ?_
      refine V_imul hC kX6_actsDim_38 ?_
      refine V_iadd hC kX6_actsDim_39 ?_
      refine V_iconst hC (1) kX6_actsDim_40 (by decide) ?_
      refine V_iadd hC kX6_actsDim_41 ?_
      refine V_iload_n hC kX6_actsDim_42 rfl ?_
      refine V_iast hC _ rfl kX6_actsDim_43 (inL (vpL hc (b1_of e_can h26).1) (vp_lit rfl)) ?_
      refine V_iload_n hC kX6_actsDim_44 rfl ?_
      refine V_if_eq hC 52 kX6_actsDim_45 (by decide) (fun h45 => absurd h45 h26) (fun h45 => ?_)
      refine V_iconst hC (0) kX6_actsDim_48 (by decide) ?_
      refine V_goto hC 53 kX6_actsDim_49 (by decide) ?_
      refine V_ireti hC rfl kX6_actsDim_53 ?_
      first
        | (have hn := b0_of e_can h26; refine ⟨cI ?_, ?_⟩; rw [if_neg hn]; rw [if_neg hn, upr_self])
        | (have hp := b1_of e_can h26; refine ⟨cI ?_, ?_⟩; rw [if_pos hp]; rw [if_pos hp]; unfold F_dim ups; with_reducible rfl)
  · refine V_aload_n hC kX6_actsDim_0 rfl ?_
    refine V_iload_n hC kX6_actsDim_1 rfl ?_
    refine V_cV_fI hC (ct_isLight hWr _) mkX6_isLight lmX6_114 kX6_actsDim_2 (Nat.le_of_ble_eq_true rfl) rfl rfl rfl (Nat.le_of_ble_eq_true rfl) ⟨(Nat.le_of_ble_eq_true rfl), (Nat.le_of_ble_eq_true rfl)⟩ ⟨rfl, rfl⟩ ⟨(Nat.le_of_ble_eq_true rfl), (Nat.le_of_ble_eq_true rfl)⟩ ?_
    refine V_if_eq hC 23 kX6_actsDim_5 (by decide) (fun h5 => ?_) (fun h5 => ?_)
    · refine V_iconst hC (0) kX6_actsDim_23 (by decide) ?_
      exact j24 _ ((b01_f (fun z => (b01e.mp h5) z.1)).symm)
    · refine V_iload_n hC kX6_actsDim_8 rfl ?_
      refine V_bipush hC (10) kX6_actsDim_9 (by decide) ?_
      refine V_bipush hC (99) kX6_actsDim_11 (by decide) ?_
      refine V_cS_fI hC (ct_in hWr _ _ _) mkX6_in lmX6_39 kX6_actsDim_13 rfl rfl (Nat.le_of_ble_eq_true rfl) ⟨(Nat.le_of_ble_eq_true rfl), (Nat.le_of_ble_eq_true rfl)⟩ ⟨rfl, rfl⟩ ⟨(Nat.le_of_ble_eq_true rfl), (Nat.le_of_ble_eq_true rfl)⟩ ?_
      refine V_if_eq hC 23 kX6_actsDim_16 (by decide) (fun h16 => ?_) (fun h16 => ?_)
      · refine V_iconst hC (0) kX6_actsDim_23 (by decide) ?_
        exact j24 _ ((b01_f (fun z => (b01e.mp h16) z.2)).symm)
      · refine V_iconst hC (1) kX6_actsDim_19 (by decide) ?_
        refine V_goto hC 24 kX6_actsDim_20 (by decide) ?_
        exact j24 _ ((b01_t ⟨b01n.mp h5, b01n.mp h16⟩).symm)
def mtX6_mostOf : Mt := (yX6_mostOf, cX6_mostOf, 1, (some .int), 0, 0, 0, 0)
theorem kX6_mostOf_0 : Dk mtX6_mostOf 0 (.iload_n 0) 1 1 := ⟨by decide +kernel, rfl⟩
theorem kX6_mostOf_1 : Dk mtX6_mostOf 1 (.ifCond .ne 8) 3 4 := ⟨by decide +kernel, rfl⟩
theorem kX6_mostOf_4 : Dk mtX6_mostOf 4 (.bipush 100) 2 6 := ⟨by decide +kernel, rfl⟩
theorem kX6_mostOf_6 : Dk mtX6_mostOf 6 (.goto 26) 3 9 := ⟨by decide +kernel, rfl⟩
theorem kX6_mostOf_9 : Dk mtX6_mostOf 9 (.iload_n 0) 1 10 := ⟨by decide +kernel, rfl⟩
theorem kX6_mostOf_10 : Dk mtX6_mostOf 10 (.iconst 1) 1 11 := ⟨by decide +kernel, rfl⟩
theorem kX6_mostOf_11 : Dk mtX6_mostOf 11 (.if_icmp .ne 8) 3 14 := ⟨by decide +kernel, rfl⟩
theorem kX6_mostOf_14 : Dk mtX6_mostOf 14 (.bipush 10) 2 16 := ⟨by decide +kernel, rfl⟩
theorem kX6_mostOf_16 : Dk mtX6_mostOf 16 (.goto 16) 3 19 := ⟨by decide +kernel, rfl⟩
theorem kX6_mostOf_19 : Dk mtX6_mostOf 19 (.iload_n 0) 1 20 := ⟨by decide +kernel, rfl⟩
theorem kX6_mostOf_20 : Dk mtX6_mostOf 20 (.iconst 2) 1 21 := ⟨by decide +kernel, rfl⟩
theorem kX6_mostOf_21 : Dk mtX6_mostOf 21 (.if_icmp .ne 9) 3 24 := ⟨by decide +kernel, rfl⟩
theorem kX6_mostOf_24 : Dk mtX6_mostOf 24 (.sipush 300) 3 27 := ⟨by decide +kernel, rfl⟩
theorem kX6_mostOf_27 : Dk mtX6_mostOf 27 (.goto 5) 3 30 := ⟨by decide +kernel, rfl⟩
theorem kX6_mostOf_30 : Dk mtX6_mostOf 30 (.bipush 50) 2 32 := ⟨by decide +kernel, rfl⟩
theorem kX6_mostOf_32 : Dk mtX6_mostOf 32 (.ireturn) 1 33 := ⟨by decide +kernel, rfl⟩
set_option maxHeartbeats 4000000 in
set_option maxRecDepth 100000 in
theorem ct_mostOf {l : Launch} {w : Wd} {sg : Sg} (hWr : Wr w) (a : Int32) : M l mtX6_mostOf w [vI a] sg (fI (F_most a) sg) := by
  refine M_of [some (vI a)] rfl (Nat.le_of_ble_eq_true rfl) (by decide +kernel) ?_
  intro p_ e_ s_ m_ args_ below_ meth_ c_ hC hO
  refine V_iload_n hC kX6_mostOf_0 rfl ?_
  refine V_if_ne hC 9 kX6_mostOf_1 (by decide) (fun h1 => ?_) (fun h1 => ?_)
  · refine V_iload_n hC kX6_mostOf_9 rfl ?_
    refine V_iconst hC (1) kX6_mostOf_10 (by decide) ?_
    refine V_icmp_ne hC 19 kX6_mostOf_11 (by decide) (fun h11 => ?_) (fun h11 => ?_)
    · refine V_iload_n hC kX6_mostOf_19 rfl ?_
      refine V_iconst hC (2) kX6_mostOf_20 (by decide) ?_
      refine V_icmp_ne hC 30 kX6_mostOf_21 (by decide) (fun h21 => ?_) (fun h21 => ?_)
      · refine V_bipush hC (50) kX6_mostOf_30 (by decide) ?_
        refine V_ireti hC rfl kX6_mostOf_32 ?_
        refine ⟨cI ?_, by with_reducible rfl⟩
        unfold F_most
        first
          | (rw [if_pos (show a = 0 from h1)]; done)
          | (rw [if_neg h1, if_pos (show a = 1 from h11)]; done)
          | (rw [if_neg h1, if_neg h11, if_pos (show a = 2 from h21)]; done)
          | (rw [if_neg h1, if_neg h11, if_neg h21]; done)
      · refine V_sipush hC (300) kX6_mostOf_24 (by decide) ?_
        refine V_goto hC 32 kX6_mostOf_27 (by decide) ?_
        refine V_ireti hC rfl kX6_mostOf_32 ?_
        refine ⟨cI ?_, by with_reducible rfl⟩
        unfold F_most
        first
          | (rw [if_pos (show a = 0 from h1)]; done)
          | (rw [if_neg h1, if_pos (show a = 1 from h11)]; done)
          | (rw [if_neg h1, if_neg h11, if_pos (show a = 2 from h21)]; done)
          | (rw [if_neg h1, if_neg h11, if_neg h21]; done)
    · refine V_bipush hC (10) kX6_mostOf_14 (by decide) ?_
      refine V_goto hC 32 kX6_mostOf_16 (by decide) ?_
      refine V_ireti hC rfl kX6_mostOf_32 ?_
      refine ⟨cI ?_, by with_reducible rfl⟩
      unfold F_most
      first
        | (rw [if_pos (show a = 0 from h1)]; done)
        | (rw [if_neg h1, if_pos (show a = 1 from h11)]; done)
        | (rw [if_neg h1, if_neg h11, if_pos (show a = 2 from h21)]; done)
        | (rw [if_neg h1, if_neg h11, if_neg h21]; done)
  · refine V_bipush hC (100) kX6_mostOf_4 (by decide) ?_
    refine V_goto hC 32 kX6_mostOf_6 (by decide) ?_
    refine V_ireti hC rfl kX6_mostOf_32 ?_
    refine ⟨cI ?_, by with_reducible rfl⟩
    unfold F_most
    first
      | (rw [if_pos (show a = 0 from h1)]; done)
      | (rw [if_neg h1, if_pos (show a = 1 from h11)]; done)
      | (rw [if_neg h1, if_neg h11, if_pos (show a = 2 from h21)]; done)
      | (rw [if_neg h1, if_neg h11, if_neg h21]; done)
def mtX6_isSetting : Mt := (yX6_isSetting, cX6_isSetting, 2, (some .boolean), 1, 22, 0, 0)
theorem kX6_isSetting_0 : Dk mtX6_isSetting 0 (.iload_n 0) 1 1 := ⟨by decide +kernel, rfl⟩
theorem kX6_isSetting_1 : Dk mtX6_isSetting 1 (.iconst 0) 1 2 := ⟨by decide +kernel, rfl⟩
theorem kX6_isSetting_2 : Dk mtX6_isSetting 2 (.iconst 3) 1 3 := ⟨by decide +kernel, rfl⟩
theorem kX6_isSetting_3 : Dk mtX6_isSetting 3 (.invokestatic 39) 3 6 := ⟨by decide +kernel, rfl⟩
theorem kX6_isSetting_6 : Dk mtX6_isSetting 6 (.ifCond .eq 33) 3 9 := ⟨by decide +kernel, rfl⟩
theorem kX6_isSetting_9 : Dk mtX6_isSetting 9 (.iload_n 1) 1 10 := ⟨by decide +kernel, rfl⟩
theorem kX6_isSetting_10 : Dk mtX6_isSetting 10 (.iload_n 0) 1 11 := ⟨by decide +kernel, rfl⟩
theorem kX6_isSetting_11 : Dk mtX6_isSetting 11 (.iconst 1) 1 12 := ⟨by decide +kernel, rfl⟩
theorem kX6_isSetting_12 : Dk mtX6_isSetting 12 (.if_icmp .eq 8) 3 15 := ⟨by decide +kernel, rfl⟩
theorem kX6_isSetting_15 : Dk mtX6_isSetting 15 (.iload_n 0) 1 16 := ⟨by decide +kernel, rfl⟩
theorem kX6_isSetting_16 : Dk mtX6_isSetting 16 (.iconst 2) 1 17 := ⟨by decide +kernel, rfl⟩
theorem kX6_isSetting_17 : Dk mtX6_isSetting 17 (.if_icmp .ne 7) 3 20 := ⟨by decide +kernel, rfl⟩
theorem kX6_isSetting_20 : Dk mtX6_isSetting 20 (.iconst 1) 1 21 := ⟨by decide +kernel, rfl⟩
theorem kX6_isSetting_21 : Dk mtX6_isSetting 21 (.goto 4) 3 24 := ⟨by decide +kernel, rfl⟩
theorem kX6_isSetting_24 : Dk mtX6_isSetting 24 (.iconst 0) 1 25 := ⟨by decide +kernel, rfl⟩
theorem kX6_isSetting_25 : Dk mtX6_isSetting 25 (.iload_n 0) 1 26 := ⟨by decide +kernel, rfl⟩
theorem kX6_isSetting_26 : Dk mtX6_isSetting 26 (.invokestatic 117) 3 29 := ⟨by decide +kernel, rfl⟩
theorem kX6_isSetting_29 : Dk mtX6_isSetting 29 (.invokestatic 39) 3 32 := ⟨by decide +kernel, rfl⟩
theorem kX6_isSetting_32 : Dk mtX6_isSetting 32 (.ifCond .eq 7) 3 35 := ⟨by decide +kernel, rfl⟩
theorem kX6_isSetting_35 : Dk mtX6_isSetting 35 (.iconst 1) 1 36 := ⟨by decide +kernel, rfl⟩
theorem kX6_isSetting_36 : Dk mtX6_isSetting 36 (.goto 4) 3 39 := ⟨by decide +kernel, rfl⟩
theorem kX6_isSetting_39 : Dk mtX6_isSetting 39 (.iconst 0) 1 40 := ⟨by decide +kernel, rfl⟩
theorem kX6_isSetting_40 : Dk mtX6_isSetting 40 (.ireturn) 1 41 := ⟨by decide +kernel, rfl⟩
theorem lmX6_117 : LkM RX6 117 mtX6_mostOf := Or.inl (by decide +kernel)
theorem mkX6_mostOf : MkS mtX6_mostOf 1 := ⟨List.mem_of_getElem? (i := 1169) (by decide +kernel), by decide +kernel, by decide +kernel, ⟨by decide +kernel, by decide +kernel, by decide +kernel⟩⟩
set_option maxHeartbeats 4000000 in
set_option maxRecDepth 100000 in
theorem ct_isSetting {l : Launch} {w : Wd} {sg : Sg} (hWr : Wr w) (a v : Int32) : M l mtX6_isSetting w [vI a, vI v] sg (fI (b01 (cSet a v)) sg) := by
  refine M_of [some (vI a), some (vI v)] rfl (Nat.le_of_ble_eq_true rfl) (by decide +kernel) ?_
  intro p_ e_ s_ m_ args_ below_ meth_ c_ hC hO
  refine V_iload_n hC kX6_isSetting_0 rfl ?_
  refine V_iconst hC (0) kX6_isSetting_1 (by decide) ?_
  refine V_iconst hC (3) kX6_isSetting_2 (by decide) ?_
  refine V_cS_fI hC (ct_in hWr _ _ _) mkX6_in lmX6_39 kX6_isSetting_3 rfl rfl (Nat.le_of_ble_eq_true rfl) ⟨(Nat.le_of_ble_eq_true rfl), (Nat.le_of_ble_eq_true rfl)⟩ ⟨rfl, rfl⟩ ⟨(Nat.le_of_ble_eq_true rfl), (Nat.le_of_ble_eq_true rfl)⟩ ?_
  refine V_if_eq hC 39 kX6_isSetting_6 (by decide) (fun h6 => ?_) (fun h6 => ?_)
  · refine V_iconst hC (0) kX6_isSetting_39 (by decide) ?_
    refine V_iretz hC rfl kX6_isSetting_40 ?_ ?_
    · first | exact Or.inl rfl | exact Or.inr rfl | exact b01_z _
    · refine ⟨?_, by with_reducible rfl⟩
      first
        | exact cI (b01_f (fun z => (b01e.mp h6) z.1)).symm
        | exact cI (b01_f (fun z => (b01e.mp h32) z.2)).symm
        | exact cI (b01_t ⟨b01n.mp h6, b01n.mp h32⟩).symm
  · refine V_iload_n hC kX6_isSetting_9 rfl ?_
    refine V_join 25 (b01 (a = 1 ∨ a = 2)) ?_ (fun j25 => ?_)
    · refine V_iload_n hC kX6_isSetting_25 rfl ?_
      refine V_cS_fI hC (ct_mostOf hWr a) mkX6_mostOf lmX6_117 kX6_isSetting_26 rfl rfl (Nat.le_of_ble_eq_true rfl) ⟨(Nat.le_of_ble_eq_true rfl), (Nat.le_of_ble_eq_true rfl)⟩ ⟨rfl, rfl⟩ ⟨(Nat.le_of_ble_eq_true rfl), (Nat.le_of_ble_eq_true rfl)⟩ ?_
      refine V_cS_fI hC (ct_in hWr _ _ _) mkX6_in lmX6_39 kX6_isSetting_29 rfl rfl (Nat.le_of_ble_eq_true rfl) ⟨(Nat.le_of_ble_eq_true rfl), (Nat.le_of_ble_eq_true rfl)⟩ ⟨rfl, rfl⟩ ⟨(Nat.le_of_ble_eq_true rfl), (Nat.le_of_ble_eq_true rfl)⟩ ?_
      refine V_if_eq hC 39 kX6_isSetting_32 (by decide) (fun h32 => ?_) (fun h32 => ?_)
      · refine V_iconst hC (0) kX6_isSetting_39 (by decide) ?_
        refine V_iretz hC rfl kX6_isSetting_40 ?_ ?_
        · first | exact Or.inl rfl | exact Or.inr rfl | exact b01_z _
        · refine ⟨?_, by with_reducible rfl⟩
          first
            | exact cI (b01_f (fun z => (b01e.mp h6) z.1)).symm
            | exact cI (b01_f (fun z => (b01e.mp h32) z.2)).symm
            | exact cI (b01_t ⟨b01n.mp h6, b01n.mp h32⟩).symm
      · refine V_iconst hC (1) kX6_isSetting_35 (by decide) ?_
        refine V_goto hC 40 kX6_isSetting_36 (by decide) ?_
        refine V_iretz hC rfl kX6_isSetting_40 ?_ ?_
        · first | exact Or.inl rfl | exact Or.inr rfl | exact b01_z _
        · refine ⟨?_, by with_reducible rfl⟩
          first
            | exact cI (b01_f (fun z => (b01e.mp h6) z.1)).symm
            | exact cI (b01_f (fun z => (b01e.mp h32) z.2)).symm
            | exact cI (b01_t ⟨b01n.mp h6, b01n.mp h32⟩).symm
    · refine V_iload_n hC kX6_isSetting_10 rfl ?_
      refine V_iconst hC (1) kX6_isSetting_11 (by decide) ?_
      refine V_icmp_eq hC 20 kX6_isSetting_12 (by decide) (fun h12 => ?_) (fun h12 => ?_)
      · refine V_iconst hC (1) kX6_isSetting_20 (by decide) ?_
        refine V_goto hC 25 kX6_isSetting_21 (by decide) ?_
        exact j25 _ ((b01_t (Or.inl h12)).symm)
      · refine V_iload_n hC kX6_isSetting_15 rfl ?_
        refine V_iconst hC (2) kX6_isSetting_16 (by decide) ?_
        refine V_icmp_ne hC 24 kX6_isSetting_17 (by decide) (fun h17 => ?_) (fun h17 => ?_)
        · refine V_iconst hC (0) kX6_isSetting_24 (by decide) ?_
          exact j25 _ ((b01_f (fun z => z.elim h12 h17)).symm)
        · refine V_iconst hC (1) kX6_isSetting_20 (by decide) ?_
          refine V_goto hC 25 kX6_isSetting_21 (by decide) ?_
          exact j25 _ ((b01_t (Or.inr h17)).symm)
def mtX6_actsSet : Mt := (yX6_actsSet, cX6_actsSet, 4, (some .int), 2, 43, 0, 0)
theorem kX6_actsSet_0 : Dk mtX6_actsSet 0 (.iload_n 1) 1 1 := ⟨by decide +kernel, rfl⟩
theorem kX6_actsSet_1 : Dk mtX6_actsSet 1 (.iload_n 2) 1 2 := ⟨by decide +kernel, rfl⟩
theorem kX6_actsSet_2 : Dk mtX6_actsSet 2 (.invokestatic 120) 3 5 := ⟨by decide +kernel, rfl⟩
theorem kX6_actsSet_5 : Dk mtX6_actsSet 5 (.istore_n 3) 1 6 := ⟨by decide +kernel, rfl⟩
theorem kX6_actsSet_6 : Dk mtX6_actsSet 6 (.iload_n 3) 1 7 := ⟨by decide +kernel, rfl⟩
theorem kX6_actsSet_7 : Dk mtX6_actsSet 7 (.ifCond .eq 10) 3 10 := ⟨by decide +kernel, rfl⟩
theorem kX6_actsSet_10 : Dk mtX6_actsSet 10 (.aload_n 0) 1 11 := ⟨by decide +kernel, rfl⟩
theorem kX6_actsSet_11 : Dk mtX6_actsSet 11 (.getfield 7) 3 14 := ⟨by decide +kernel, rfl⟩
theorem kX6_actsSet_14 : Dk mtX6_actsSet 14 (.iload_n 1) 1 15 := ⟨by decide +kernel, rfl⟩
theorem kX6_actsSet_15 : Dk mtX6_actsSet 15 (.iload_n 2) 1 16 := ⟨by decide +kernel, rfl⟩
theorem kX6_actsSet_16 : Dk mtX6_actsSet 16 (.iastore) 1 17 := ⟨by decide +kernel, rfl⟩
theorem kX6_actsSet_17 : Dk mtX6_actsSet 17 (.iload_n 3) 1 18 := ⟨by decide +kernel, rfl⟩
theorem kX6_actsSet_18 : Dk mtX6_actsSet 18 (.ifCond .eq 7) 3 21 := ⟨by decide +kernel, rfl⟩
theorem kX6_actsSet_21 : Dk mtX6_actsSet 21 (.iconst 0) 1 22 := ⟨by decide +kernel, rfl⟩
theorem kX6_actsSet_22 : Dk mtX6_actsSet 22 (.goto 4) 3 25 := ⟨by decide +kernel, rfl⟩
theorem kX6_actsSet_25 : Dk mtX6_actsSet 25 (.iconst (-1)) 1 26 := ⟨by decide +kernel, rfl⟩
theorem kX6_actsSet_26 : Dk mtX6_actsSet 26 (.ireturn) 1 27 := ⟨by decide +kernel, rfl⟩
theorem lmX6_120 : LkM RX6 120 mtX6_isSetting := Or.inl (by decide +kernel)
theorem mkX6_isSetting : MkS mtX6_isSetting 2 := ⟨List.mem_of_getElem? (i := 1166) (by decide +kernel), by decide +kernel, by decide +kernel, ⟨by decide +kernel, by decide +kernel, by decide +kernel⟩⟩
set_option maxHeartbeats 4000000 in
set_option maxRecDepth 100000 in
theorem ct_actsSet {l : Launch} {w : Wd} {sg : Sg} (hWr : Wr w) {mo : Nat} (a v : Int32) : M l mtX6_actsSet w [vR (some (6, 0, mo)), vI a, vI v] sg (fI (if cSet a v then 0 else -1) (upr sg (mo + 1) (if cSet a v then upd (sg (mo + 1)) (tn a) v else (sg (mo + 1))))) := by
  refine M_of [some (vR (some (6, 0, mo))), some (vI a), some (vI v), none] rfl (Nat.le_of_ble_eq_true rfl) (by decide +kernel) ?_
  intro p_ e_ s_ m_ args_ below_ meth_ c_ hC hO
  refine V_iload_n hC kX6_actsSet_0 rfl ?_
  refine V_iload_n hC kX6_actsSet_1 rfl ?_
  refine V_cS_fI hC (ct_isSetting hWr _ _) mkX6_isSetting lmX6_120 kX6_actsSet_2 rfl rfl (Nat.le_of_ble_eq_true rfl) ⟨(Nat.le_of_ble_eq_true rfl), (Nat.le_of_ble_eq_true rfl)⟩ ⟨rfl, rfl⟩ ⟨(Nat.le_of_ble_eq_true rfl), (Nat.le_of_ble_eq_true rfl)⟩ ?_
  refine V_nameI (fun can e_can => ?_)
  refine V_istore_n hC [some _, some _, some _, some _] kX6_actsSet_5 rfl (Nat.le_of_ble_eq_true rfl) ?_
  refine V_iload_n hC kX6_actsSet_6 rfl ?_
  refine V_if_eq hC 17 kX6_actsSet_7 (by decide) (fun h7 => ?_) (fun h7 => ?_)
  · refine V_iload_n hC kX6_actsSet_17 rfl ?_
    refine V_if_eq hC 25 kX6_actsSet_18 (by decide) (fun h18 => ?_) (fun h18 => absurd h18 (not_not_intro h7))
    refine V_iconst hC (-1) kX6_actsSet_25 (by decide) ?_
    refine V_ireti hC rfl kX6_actsSet_26 ?_
    first
      | (have hn := b0_of e_can h7; refine ⟨cI ?_, ?_⟩; rw [if_neg hn]; rw [if_neg hn, upr_self])
      | (have hp := b1_of e_can h7; refine ⟨cI ?_, ?_⟩; rw [if_pos hp]; rw [if_pos hp]; unfold ups tn; with_reducible rfl)
  · refine V_aload_n hC kX6_actsSet_10 rfl ?_
    refine V_getR hC hWr 6 1 lfX6_7 kX6_actsSet_11 (Nat.le_of_ble_eq_true rfl) (Nat.le_of_ble_eq_true rfl) rfl ?_
    refine V_iload_n hC kX6_actsSet_14 rfl ?_
    refine V_iload_n hC kX6_actsSet_15 rfl ?_
    refine V_iast hC _ rfl kX6_actsSet_16 (inn_vp (by decide) (b1_of e_can h7).1) ?_
    refine V_iload_n hC kX6_actsSet_17 rfl ?_
    refine V_if_eq hC 25 kX6_actsSet_18 (by decide) (fun h18 => absurd h18 h7) (fun h18 => ?_)
    refine V_iconst hC (0) kX6_actsSet_21 (by decide) ?_
    refine V_goto hC 26 kX6_actsSet_22 (by decide) ?_
    refine V_ireti hC rfl kX6_actsSet_26 ?_
    first
      | (have hn := b0_of e_can h7; refine ⟨cI ?_, ?_⟩; rw [if_neg hn]; rw [if_neg hn, upr_self])
      | (have hp := b1_of e_can h7; refine ⟨cI ?_, ?_⟩; rw [if_pos hp]; rw [if_pos hp]; unfold ups tn; with_reducible rfl)
def mtX6_actsTicks : Mt := (yX6_actsTicks, cX6_actsTicks, 2, (some .int), 8, 186, 0, 0)
theorem kX6_actsTicks_0 : Dk mtX6_actsTicks 0 (.iload_n 1) 1 1 := ⟨by decide +kernel, rfl⟩
theorem kX6_actsTicks_1 : Dk mtX6_actsTicks 1 (.iconst 1) 1 2 := ⟨by decide +kernel, rfl⟩
theorem kX6_actsTicks_2 : Dk mtX6_actsTicks 2 (.bipush 60) 2 4 := ⟨by decide +kernel, rfl⟩
theorem kX6_actsTicks_4 : Dk mtX6_actsTicks 4 (.invokestatic 39) 3 7 := ⟨by decide +kernel, rfl⟩
theorem kX6_actsTicks_7 : Dk mtX6_actsTicks 7 (.ifCond .eq 13) 3 10 := ⟨by decide +kernel, rfl⟩
theorem kX6_actsTicks_10 : Dk mtX6_actsTicks 10 (.aload_n 0) 1 11 := ⟨by decide +kernel, rfl⟩
theorem kX6_actsTicks_11 : Dk mtX6_actsTicks 11 (.iload_n 1) 1 12 := ⟨by decide +kernel, rfl⟩
theorem kX6_actsTicks_12 : Dk mtX6_actsTicks 12 (.bipush 7) 2 14 := ⟨by decide +kernel, rfl⟩
theorem kX6_actsTicks_14 : Dk mtX6_actsTicks 14 (.invokevirtual 124) 3 17 := ⟨by decide +kernel, rfl⟩
theorem kX6_actsTicks_17 : Dk mtX6_actsTicks 17 (.goto 4) 3 20 := ⟨by decide +kernel, rfl⟩
theorem kX6_actsTicks_20 : Dk mtX6_actsTicks 20 (.iconst (-1)) 1 21 := ⟨by decide +kernel, rfl⟩
theorem kX6_actsTicks_21 : Dk mtX6_actsTicks 21 (.ireturn) 1 22 := ⟨by decide +kernel, rfl⟩
theorem lmX6_124 : LkM RX6 124 mtX6_goesBy := Or.inl (by decide +kernel)
theorem mkX6_goesBy : MkV mtX6_goesBy 2 := ⟨List.mem_of_getElem? (i := 1177) (by decide +kernel), by decide +kernel, by decide +kernel, by decide +kernel, ⟨by decide +kernel, by decide +kernel, by decide +kernel⟩⟩
set_option maxHeartbeats 4000000 in
set_option maxRecDepth 100000 in
theorem ct_actsTicks {l : Launch} {w : Wd} {sg : Sg} (hWr : Wr w) {mo : Nat} (a : Int32) (hI : Inv (sg (mo + 1))) : M l mtX6_actsTicks w [vR (some (6, 0, mo)), vI a] sg (fI (if inn a 1 60 then F_ticks (sg (mo + 1)) (tn a) 7 - (sg (mo + 1)) 7 else -1) (upr sg (mo + 1) (if inn a 1 60 then F_ticks (sg (mo + 1)) (tn a) else (sg (mo + 1))))) := by
  refine M_of [some (vR (some (6, 0, mo))), some (vI a)] rfl (Nat.le_of_ble_eq_true rfl) (by decide +kernel) ?_
  intro p_ e_ s_ m_ args_ below_ meth_ c_ hC hO
  refine V_iload_n hC kX6_actsTicks_0 rfl ?_
  refine V_iconst hC (1) kX6_actsTicks_1 (by decide) ?_
  refine V_bipush hC (60) kX6_actsTicks_2 (by decide) ?_
  refine V_cS_fI hC (ct_in hWr _ _ _) mkX6_in lmX6_39 kX6_actsTicks_4 rfl rfl (Nat.le_of_ble_eq_true rfl) ⟨(Nat.le_of_ble_eq_true rfl), (Nat.le_of_ble_eq_true rfl)⟩ ⟨rfl, rfl⟩ ⟨(Nat.le_of_ble_eq_true rfl), (Nat.le_of_ble_eq_true rfl)⟩ ?_
  refine V_if_eq hC 20 kX6_actsTicks_7 (by decide) (fun h7 => ?_) (fun h7 => ?_)
  · refine V_iconst hC (-1) kX6_actsTicks_20 (by decide) ?_
    refine V_ireti hC rfl kX6_actsTicks_21 ?_
    first
      | (have hn := b01e.mp h7; refine ⟨cI ?_, ?_⟩; rw [if_neg hn]; rw [if_neg hn, upr_self])
      | (have et : tn (nI N) = N := nI_clamp (by omega); refine ⟨cI ?_, ?_⟩; rw [if_pos hp, et]; rw [if_pos hp, et])
  · have hp := b01n.mp h7
    obtain ⟨N, hN, ea⟩ : ∃ N, N ≤ 60 ∧ a = nI N := by
      have q1 := Int32.le_iff_toInt_le.mp hp.1
      have q2 := Int32.le_iff_toInt_le.mp hp.2
      have z1 : (1 : Int32).toInt = 1 := rfl
      have z2 : (60 : Int32).toInt = 60 := rfl
      obtain ⟨w1, w2⟩ := cnt_in (x := a) (n := 60) (by omega) (by omega)
      exact ⟨tn a, w1, w2⟩
    subst ea
    refine V_aload_n hC kX6_actsTicks_10 rfl ?_
    refine V_iload_n hC kX6_actsTicks_11 rfl ?_
    refine V_bipush hC (7) kX6_actsTicks_12 (by decide) ?_
    refine V_cV_fI hC (ct_goesBy (N := N) (j := 7) hWr hI (by omega) (by decide)) mkX6_goesBy lmX6_124 kX6_actsTicks_14 (Nat.le_of_ble_eq_true rfl) rfl rfl rfl (Nat.le_of_ble_eq_true rfl) ⟨(Nat.le_of_ble_eq_true rfl), (Nat.le_of_ble_eq_true rfl)⟩ ⟨rfl, rfl⟩ ⟨(Nat.le_of_ble_eq_true rfl), (Nat.le_of_ble_eq_true rfl)⟩ ?_
    refine V_goto hC 21 kX6_actsTicks_17 (by decide) ?_
    refine V_ireti hC rfl kX6_actsTicks_21 ?_
    first
      | (have hn := b01e.mp h7; refine ⟨cI ?_, ?_⟩; rw [if_neg hn]; rw [if_neg hn, upr_self])
      | (have et : tn (nI N) = N := nI_clamp (by omega); refine ⟨cI ?_, ?_⟩; rw [if_pos hp, et]; rw [if_pos hp, et])
def F_thatN (g : Gs) (what : Int32) : Nat → Int32
  | 0 => 0
  | n + 1 => F_thatN g what n + b01 (0 < gB g (nI n) (if what = 0 then 2 else 3))
def F_servedN (g : Gs) (a : Int32) : Nat → Int32
  | 0 => 0
  | n + 1 => F_servedN g a n ||| (if gB g (nI n) 2 = a + 1 then 1 <<< (nI n &&& 31) else 0)
def F_tells (g : Gs) (what : Int32) : Int32 := if what < 3 then g (tn (4 + what)) else if what < 5 then F_thatN g (what - 3) (tn (g 5)) else g (tn (7 + what - 5))
def mtX6_boatsThat : Mt := (yX6_boatsThat, cX6_boatsThat, 4, (some .int), 1, 22, 0, 0)
theorem kX6_boatsThat_0 : Dk mtX6_boatsThat 0 (.iconst 0) 1 1 := ⟨by decide +kernel, rfl⟩
theorem kX6_boatsThat_1 : Dk mtX6_boatsThat 1 (.istore_n 2) 1 2 := ⟨by decide +kernel, rfl⟩
theorem kX6_boatsThat_2 : Dk mtX6_boatsThat 2 (.iconst 0) 1 3 := ⟨by decide +kernel, rfl⟩
theorem kX6_boatsThat_3 : Dk mtX6_boatsThat 3 (.istore_n 3) 1 4 := ⟨by decide +kernel, rfl⟩
theorem kX6_boatsThat_4 : Dk mtX6_boatsThat 4 (.iload_n 3) 1 5 := ⟨by decide +kernel, rfl⟩
theorem kX6_boatsThat_5 : Dk mtX6_boatsThat 5 (.aload_n 0) 1 6 := ⟨by decide +kernel, rfl⟩
theorem kX6_boatsThat_6 : Dk mtX6_boatsThat 6 (.getfield 7) 3 9 := ⟨by decide +kernel, rfl⟩
theorem kX6_boatsThat_9 : Dk mtX6_boatsThat 9 (.iconst 5) 1 10 := ⟨by decide +kernel, rfl⟩
theorem kX6_boatsThat_10 : Dk mtX6_boatsThat 10 (.iaload) 1 11 := ⟨by decide +kernel, rfl⟩
theorem kX6_boatsThat_11 : Dk mtX6_boatsThat 11 (.if_icmp .ge 34) 3 14 := ⟨by decide +kernel, rfl⟩
theorem kX6_boatsThat_14 : Dk mtX6_boatsThat 14 (.iload_n 2) 1 15 := ⟨by decide +kernel, rfl⟩
theorem kX6_boatsThat_15 : Dk mtX6_boatsThat 15 (.aload_n 0) 1 16 := ⟨by decide +kernel, rfl⟩
theorem kX6_boatsThat_16 : Dk mtX6_boatsThat 16 (.iload_n 3) 1 17 := ⟨by decide +kernel, rfl⟩
theorem kX6_boatsThat_17 : Dk mtX6_boatsThat 17 (.iload_n 1) 1 18 := ⟨by decide +kernel, rfl⟩
theorem kX6_boatsThat_18 : Dk mtX6_boatsThat 18 (.ifCond .ne 7) 3 21 := ⟨by decide +kernel, rfl⟩
theorem kX6_boatsThat_21 : Dk mtX6_boatsThat 21 (.iconst 2) 1 22 := ⟨by decide +kernel, rfl⟩
theorem kX6_boatsThat_22 : Dk mtX6_boatsThat 22 (.goto 4) 3 25 := ⟨by decide +kernel, rfl⟩
theorem kX6_boatsThat_25 : Dk mtX6_boatsThat 25 (.iconst 3) 1 26 := ⟨by decide +kernel, rfl⟩
theorem kX6_boatsThat_26 : Dk mtX6_boatsThat 26 (.invokevirtual 53) 3 29 := ⟨by decide +kernel, rfl⟩
theorem kX6_boatsThat_29 : Dk mtX6_boatsThat 29 (.ifCond .le 7) 3 32 := ⟨by decide +kernel, rfl⟩
theorem kX6_boatsThat_32 : Dk mtX6_boatsThat 32 (.iconst 1) 1 33 := ⟨by decide +kernel, rfl⟩
theorem kX6_boatsThat_33 : Dk mtX6_boatsThat 33 (.goto 4) 3 36 := ⟨by decide +kernel, rfl⟩
theorem kX6_boatsThat_36 : Dk mtX6_boatsThat 36 (.iconst 0) 1 37 := ⟨by decide +kernel, rfl⟩
theorem kX6_boatsThat_37 : Dk mtX6_boatsThat 37 (.iadd) 1 38 := ⟨by decide +kernel, rfl⟩
theorem kX6_boatsThat_38 : Dk mtX6_boatsThat 38 (.istore_n 2) 1 39 := ⟨by decide +kernel, rfl⟩
theorem kX6_boatsThat_39 : Dk mtX6_boatsThat 39 (.iinc 3 1) 3 42 := ⟨by decide +kernel, rfl⟩
theorem kX6_boatsThat_42 : Dk mtX6_boatsThat 42 (.goto (-38)) 3 45 := ⟨by decide +kernel, rfl⟩
theorem kX6_boatsThat_45 : Dk mtX6_boatsThat 45 (.iload_n 2) 1 46 := ⟨by decide +kernel, rfl⟩
theorem kX6_boatsThat_46 : Dk mtX6_boatsThat 46 (.ireturn) 1 47 := ⟨by decide +kernel, rfl⟩
set_option maxHeartbeats 4000000 in
set_option maxRecDepth 100000 in
theorem ct_boatsThat {l : Launch} {w : Wd} {sg : Sg} (hWr : Wr w) {mo : Nat} (a : Int32) (hc : 0 ≤ (sg (mo + 1) 5).toInt ∧ (sg (mo + 1) 5).toInt ≤ 8) : M l mtX6_boatsThat w [vR (some (6, 0, mo)), vI a] sg (fI (F_thatN (sg (mo + 1)) a (tn ((sg (mo + 1)) 5))) sg) := by
  refine M_of [some (vR (some (6, 0, mo))), some (vI a), none, none] rfl (Nat.le_of_ble_eq_true rfl) (by decide +kernel) ?_
  intro p_ e_ s_ m_ args_ below_ meth_ c_ hC hO
  refine V_iconst hC (0) kX6_boatsThat_0 (by decide) ?_
  refine V_istore_n hC [some _, some _, some _, none] kX6_boatsThat_1 rfl (Nat.le_of_ble_eq_true rfl) ?_
  refine V_iconst hC (0) kX6_boatsThat_2 (by decide) ?_
  refine V_istore_n hC [some _, some _, some _, some _] kX6_boatsThat_3 rfl (Nat.le_of_ble_eq_true rfl) ?_
  refine V_loop (tn ((sg (mo + 1)) 5)) (fun i => [some (vR (some (6, 0, mo))), some (vI a), some (vI (F_thatN (sg (mo + 1)) a i)), some (vI (nI i))]) (fun i => sg) rfl rfl ?_ (fun i hi ihi => ?_)
  · refine V_iload_n hC kX6_boatsThat_4 rfl ?_
    refine V_aload_n hC kX6_boatsThat_5 rfl ?_
    refine V_getR hC hWr 6 1 lfX6_7 kX6_boatsThat_6 (Nat.le_of_ble_eq_true rfl) (Nat.le_of_ble_eq_true rfl) rfl ?_
    refine V_iconst hC (5) kX6_boatsThat_9 (by decide) ?_
    refine V_iald hC 5 rfl kX6_boatsThat_10 (vp_lit rfl) ?_
    refine V_icmp_ge hC 45 kX6_boatsThat_11 (by decide) (fun h11 => ?_) (fun h11 => absurd h11 (not_not_intro (cnt_le hc.1)))
    refine V_iload_n hC kX6_boatsThat_45 rfl ?_
    refine V_ireti hC rfl kX6_boatsThat_46 ?_
    refine ⟨cI ?_, by with_reducible rfl⟩
    with_reducible rfl
  · have hi8 : i < 8 := by have := (cnt_in (n := 8) hc.1 hc.2).1; omega
    refine V_iload_n hC kX6_boatsThat_4 rfl ?_
    refine V_aload_n hC kX6_boatsThat_5 rfl ?_
    refine V_getR hC hWr 6 1 lfX6_7 kX6_boatsThat_6 (Nat.le_of_ble_eq_true rfl) (Nat.le_of_ble_eq_true rfl) rfl ?_
    refine V_iconst hC (5) kX6_boatsThat_9 (by decide) ?_
    refine V_iald hC 5 rfl kX6_boatsThat_10 (vp_lit rfl) ?_
    refine V_icmp_ge hC 45 kX6_boatsThat_11 (by decide) (fun h11 => absurd h11 (cnt_lt hc.1 hi)) (fun h11 => ?_)
    refine V_iload_n hC kX6_boatsThat_14 rfl ?_
    refine V_join 37 (b01 (0 < gB (sg (mo + 1)) (nI i) (if a = 0 then 2 else 3))) ?_ (fun j37 => ?_)
    · refine V_iadd hC kX6_boatsThat_37 ?_
      refine V_istore_n hC [some _, some _, some _, some _] kX6_boatsThat_38 rfl (Nat.le_of_ble_eq_true rfl) ?_
      refine V_iinc hC (_ + 1) [some _, some _, some _, some _] kX6_boatsThat_39 rfl rfl rfl (Nat.le_of_ble_eq_true rfl) ?_
      refine V_goto hC 4 kX6_boatsThat_42 (by decide) ?_
      refine V_eq ?_ rfl ihi
      simp only [F_thatN, nI_succ]
    · refine V_aload_n hC kX6_boatsThat_15 rfl ?_
      refine V_iload_n hC kX6_boatsThat_16 rfl ?_
      refine V_join 26 (if a = 0 then 2 else 3) ?_ (fun j26 => ?_)
      · refine V_cV_fI hC (ct_ofBoat hWr (nI i) _ (vp_in_nI hi8 (by decide)) (by split <;> exact vp_lit rfl)) mkX6_ofBoat lmX6_53 kX6_boatsThat_26 (Nat.le_of_ble_eq_true rfl) rfl rfl rfl (Nat.le_of_ble_eq_true rfl) ⟨(Nat.le_of_ble_eq_true rfl), (Nat.le_of_ble_eq_true rfl)⟩ ⟨rfl, rfl⟩ ⟨(Nat.le_of_ble_eq_true rfl), (Nat.le_of_ble_eq_true rfl)⟩ ?_
        refine V_if_le hC 36 kX6_boatsThat_29 (by decide) (fun h29 => ?_) (fun h29 => ?_)
        · refine V_iconst hC (0) kX6_boatsThat_36 (by decide) ?_
          exact j37 _ ((b01_f (Int32.not_lt.mpr h29)).symm)
        · refine V_iconst hC (1) kX6_boatsThat_32 (by decide) ?_
          refine V_goto hC 37 kX6_boatsThat_33 (by decide) ?_
          exact j37 _ ((b01_t (Int32.not_le.mp h29)).symm)
      · refine V_iload_n hC kX6_boatsThat_17 rfl ?_
        refine V_if_ne hC 25 kX6_boatsThat_18 (by decide) (fun h18 => ?_) (fun h18 => ?_)
        · refine V_iconst hC (3) kX6_boatsThat_25 (by decide) ?_
          exact j26 _ ((if_neg h18).symm)
        · refine V_iconst hC (2) kX6_boatsThat_21 (by decide) ?_
          refine V_goto hC 26 kX6_boatsThat_22 (by decide) ?_
          exact j26 _ ((if_pos h18).symm)
def mtX6_servedBy : Mt := (yX6_servedBy, cX6_servedBy, 4, (some .int), 1, 22, 0, 0)
theorem kX6_servedBy_0 : Dk mtX6_servedBy 0 (.iconst 0) 1 1 := ⟨by decide +kernel, rfl⟩
theorem kX6_servedBy_1 : Dk mtX6_servedBy 1 (.istore_n 2) 1 2 := ⟨by decide +kernel, rfl⟩
theorem kX6_servedBy_2 : Dk mtX6_servedBy 2 (.iconst 0) 1 3 := ⟨by decide +kernel, rfl⟩
theorem kX6_servedBy_3 : Dk mtX6_servedBy 3 (.istore_n 3) 1 4 := ⟨by decide +kernel, rfl⟩
theorem kX6_servedBy_4 : Dk mtX6_servedBy 4 (.iload_n 3) 1 5 := ⟨by decide +kernel, rfl⟩
theorem kX6_servedBy_5 : Dk mtX6_servedBy 5 (.aload_n 0) 1 6 := ⟨by decide +kernel, rfl⟩
theorem kX6_servedBy_6 : Dk mtX6_servedBy 6 (.getfield 7) 3 9 := ⟨by decide +kernel, rfl⟩
theorem kX6_servedBy_9 : Dk mtX6_servedBy 9 (.iconst 5) 1 10 := ⟨by decide +kernel, rfl⟩
theorem kX6_servedBy_10 : Dk mtX6_servedBy 10 (.iaload) 1 11 := ⟨by decide +kernel, rfl⟩
theorem kX6_servedBy_11 : Dk mtX6_servedBy 11 (.if_icmp .ge 31) 3 14 := ⟨by decide +kernel, rfl⟩
theorem kX6_servedBy_14 : Dk mtX6_servedBy 14 (.iload_n 2) 1 15 := ⟨by decide +kernel, rfl⟩
theorem kX6_servedBy_15 : Dk mtX6_servedBy 15 (.aload_n 0) 1 16 := ⟨by decide +kernel, rfl⟩
theorem kX6_servedBy_16 : Dk mtX6_servedBy 16 (.iload_n 3) 1 17 := ⟨by decide +kernel, rfl⟩
theorem kX6_servedBy_17 : Dk mtX6_servedBy 17 (.iconst 2) 1 18 := ⟨by decide +kernel, rfl⟩
theorem kX6_servedBy_18 : Dk mtX6_servedBy 18 (.invokevirtual 53) 3 21 := ⟨by decide +kernel, rfl⟩
theorem kX6_servedBy_21 : Dk mtX6_servedBy 21 (.iload_n 1) 1 22 := ⟨by decide +kernel, rfl⟩
theorem kX6_servedBy_22 : Dk mtX6_servedBy 22 (.iconst 1) 1 23 := ⟨by decide +kernel, rfl⟩
theorem kX6_servedBy_23 : Dk mtX6_servedBy 23 (.iadd) 1 24 := ⟨by decide +kernel, rfl⟩
theorem kX6_servedBy_24 : Dk mtX6_servedBy 24 (.if_icmp .ne 9) 3 27 := ⟨by decide +kernel, rfl⟩
theorem kX6_servedBy_27 : Dk mtX6_servedBy 27 (.iconst 1) 1 28 := ⟨by decide +kernel, rfl⟩
theorem kX6_servedBy_28 : Dk mtX6_servedBy 28 (.iload_n 3) 1 29 := ⟨by decide +kernel, rfl⟩
theorem kX6_servedBy_29 : Dk mtX6_servedBy 29 (.ishl) 1 30 := ⟨by decide +kernel, rfl⟩
theorem kX6_servedBy_30 : Dk mtX6_servedBy 30 (.goto 4) 3 33 := ⟨by decide +kernel, rfl⟩
theorem kX6_servedBy_33 : Dk mtX6_servedBy 33 (.iconst 0) 1 34 := ⟨by decide +kernel, rfl⟩
theorem kX6_servedBy_34 : Dk mtX6_servedBy 34 (.ior) 1 35 := ⟨by decide +kernel, rfl⟩
theorem kX6_servedBy_35 : Dk mtX6_servedBy 35 (.istore_n 2) 1 36 := ⟨by decide +kernel, rfl⟩
theorem kX6_servedBy_36 : Dk mtX6_servedBy 36 (.iinc 3 1) 3 39 := ⟨by decide +kernel, rfl⟩
theorem kX6_servedBy_39 : Dk mtX6_servedBy 39 (.goto (-35)) 3 42 := ⟨by decide +kernel, rfl⟩
theorem kX6_servedBy_42 : Dk mtX6_servedBy 42 (.iload_n 2) 1 43 := ⟨by decide +kernel, rfl⟩
theorem kX6_servedBy_43 : Dk mtX6_servedBy 43 (.ireturn) 1 44 := ⟨by decide +kernel, rfl⟩
set_option maxHeartbeats 4000000 in
set_option maxRecDepth 100000 in
theorem ct_servedBy {l : Launch} {w : Wd} {sg : Sg} (hWr : Wr w) {mo : Nat} (a : Int32) (hc : 0 ≤ (sg (mo + 1) 5).toInt ∧ (sg (mo + 1) 5).toInt ≤ 8) : M l mtX6_servedBy w [vR (some (6, 0, mo)), vI a] sg (fI (F_servedN (sg (mo + 1)) a (tn ((sg (mo + 1)) 5))) sg) := by
  refine M_of [some (vR (some (6, 0, mo))), some (vI a), none, none] rfl (Nat.le_of_ble_eq_true rfl) (by decide +kernel) ?_
  intro p_ e_ s_ m_ args_ below_ meth_ c_ hC hO
  refine V_iconst hC (0) kX6_servedBy_0 (by decide) ?_
  refine V_istore_n hC [some _, some _, some _, none] kX6_servedBy_1 rfl (Nat.le_of_ble_eq_true rfl) ?_
  refine V_iconst hC (0) kX6_servedBy_2 (by decide) ?_
  refine V_istore_n hC [some _, some _, some _, some _] kX6_servedBy_3 rfl (Nat.le_of_ble_eq_true rfl) ?_
  refine V_loop (tn ((sg (mo + 1)) 5)) (fun i => [some (vR (some (6, 0, mo))), some (vI a), some (vI (F_servedN (sg (mo + 1)) a i)), some (vI (nI i))]) (fun i => sg) rfl rfl ?_ (fun i hi ihi => ?_)
  · refine V_iload_n hC kX6_servedBy_4 rfl ?_
    refine V_aload_n hC kX6_servedBy_5 rfl ?_
    refine V_getR hC hWr 6 1 lfX6_7 kX6_servedBy_6 (Nat.le_of_ble_eq_true rfl) (Nat.le_of_ble_eq_true rfl) rfl ?_
    refine V_iconst hC (5) kX6_servedBy_9 (by decide) ?_
    refine V_iald hC 5 rfl kX6_servedBy_10 (vp_lit rfl) ?_
    refine V_icmp_ge hC 42 kX6_servedBy_11 (by decide) (fun h11 => ?_) (fun h11 => absurd h11 (not_not_intro (cnt_le hc.1)))
    refine V_iload_n hC kX6_servedBy_42 rfl ?_
    refine V_ireti hC rfl kX6_servedBy_43 ?_
    refine ⟨cI ?_, by with_reducible rfl⟩
    with_reducible rfl
  · have hi8 : i < 8 := by have := (cnt_in (n := 8) hc.1 hc.2).1; omega
    refine V_iload_n hC kX6_servedBy_4 rfl ?_
    refine V_aload_n hC kX6_servedBy_5 rfl ?_
    refine V_getR hC hWr 6 1 lfX6_7 kX6_servedBy_6 (Nat.le_of_ble_eq_true rfl) (Nat.le_of_ble_eq_true rfl) rfl ?_
    refine V_iconst hC (5) kX6_servedBy_9 (by decide) ?_
    refine V_iald hC 5 rfl kX6_servedBy_10 (vp_lit rfl) ?_
    refine V_icmp_ge hC 42 kX6_servedBy_11 (by decide) (fun h11 => absurd h11 (cnt_lt hc.1 hi)) (fun h11 => ?_)
    refine V_iload_n hC kX6_servedBy_14 rfl ?_
    refine V_join 34 (if gB (sg (mo + 1)) (nI i) 2 = a + 1 then 1 <<< (nI i &&& 31) else 0) ?_ (fun j34 => ?_)
    · refine V_ior hC kX6_servedBy_34 ?_
      refine V_istore_n hC [some _, some _, some _, some _] kX6_servedBy_35 rfl (Nat.le_of_ble_eq_true rfl) ?_
      refine V_iinc hC (_ + 1) [some _, some _, some _, some _] kX6_servedBy_36 rfl rfl rfl (Nat.le_of_ble_eq_true rfl) ?_
      refine V_goto hC 4 kX6_servedBy_39 (by decide) ?_
      refine V_eq ?_ rfl ihi
      simp only [F_servedN, nI_succ]
    · refine V_aload_n hC kX6_servedBy_15 rfl ?_
      refine V_iload_n hC kX6_servedBy_16 rfl ?_
      refine V_iconst hC (2) kX6_servedBy_17 (by decide) ?_
      refine V_cV_fI hC (ct_ofBoat hWr (nI i) 2 (vp_in_nI hi8 (by decide)) (vp_lit rfl)) mkX6_ofBoat lmX6_53 kX6_servedBy_18 (Nat.le_of_ble_eq_true rfl) rfl rfl rfl (Nat.le_of_ble_eq_true rfl) ⟨(Nat.le_of_ble_eq_true rfl), (Nat.le_of_ble_eq_true rfl)⟩ ⟨rfl, rfl⟩ ⟨(Nat.le_of_ble_eq_true rfl), (Nat.le_of_ble_eq_true rfl)⟩ ?_
      refine V_iload_n hC kX6_servedBy_21 rfl ?_
      refine V_iconst hC (1) kX6_servedBy_22 (by decide) ?_
      refine V_iadd hC kX6_servedBy_23 ?_
      refine V_icmp_ne hC 33 kX6_servedBy_24 (by decide) (fun h24 => ?_) (fun h24 => ?_)
      · refine V_iconst hC (0) kX6_servedBy_33 (by decide) ?_
        exact j34 _ ((if_neg h24).symm)
      · refine V_iconst hC (1) kX6_servedBy_27 (by decide) ?_
        refine V_iload_n hC kX6_servedBy_28 rfl ?_
        refine V_ishl hC kX6_servedBy_29 ?_
        refine V_goto hC 34 kX6_servedBy_30 (by decide) ?_
        exact j34 _ ((if_pos h24).symm)
end
section
/-! the reference's face: how a call of it ends: with the code K (0: it answers R and leaves G) -/
def fM (mo : Nat) (sg : Sg) (K R : Int32) (G : Sg) : Option VV → Sg → Prop := fun r g' => if K = 0 then r = some (vI R) ∧ g' = ups G mo 0 0 else r = some (vI 0) ∧ g' = ups sg mo 0 K
theorem fM_ok {mo : Nat} {sg g' G : Sg} {K R r : Int32} (hK : K = 0) (hr : r = R) (hg : g' = ups G mo 0 0) : fM mo sg K R G (some (vI r)) g' := by
  unfold fM
  rw [if_pos hK, hr]
  exact ⟨by with_reducible rfl, hg⟩
theorem fM_no {mo : Nat} {sg g' G : Sg} {K R : Int32} (k : Int32) (hK : K = k) (hk : ¬ k = 0) (hg : g' = ups sg mo 0 k) : fM mo sg K R G (some (vI 0)) g' := by
  unfold fM
  rw [if_neg (by rw [hK]; exact hk), hK]
  exact ⟨by with_reducible rfl, hg⟩
theorem upd_upd (f : Nat → Int32) (k : Nat) (x y : Int32) : upd (upd f k x) k y = upd f k y := by
  funext j
  unfold upd
  split <;> rfl
theorem ups_ups (sg : Sg) (k j : Nat) (x y : Int32) : ups (ups sg k j x) k j y = ups sg k j y := by
  unfold ups
  rw [upr_at, upr_upr, upd_upd]
theorem ups_upr (sg : Sg) {k k' : Nat} (j : Nat) (x : Int32) (r : Nat → Int32) (h : k' ≠ k) : ups (upr sg k r) k' j x = upr (ups sg k' j x) k r := by
  unfold ups
  rw [upr_ne _ _ h, upr_comm _ _ _ (Ne.symm h)]
def F_begins (g : Gs) : Gs := upd (upd (upd (upd (cpy (fun _ => 0) g 140) 0 10) 1 3) 2 60) 3 12
def K_about (a : Int32) : Int32 := if inn a 0 9 then 0 else 1
def K_lightOf (g : Gs) (a b : Int32) : Int32 := if inn a 0 (g 4 - 1) then (if inn b 0 8 then 0 else 2) else 1
def R_lightOf (g : Gs) (a b : Int32) : Int32 := if b < 7 then gL g a b else if b = 7 then F_servedN g a (tn (g 5)) else gL g a 7
def K_boatOf (g : Gs) (a b : Int32) : Int32 := if inn a 0 (g 5 - 1) then (if inn b 0 8 then 0 else 2) else 1
def R_boatOf (g : Gs) (a b : Int32) : Int32 := gB g a b - b01 (b = 2 ∨ b = 4 ∨ b = 6)
def K_brightness (g : Gs) (a b : Int32) : Int32 := if inn a 0 (g 4 - 1) ∧ inn b 0 199 then 0 else 1
def K_bestAt (a b : Int32) : Int32 := if inn a 0 199 then (if inn b 0 1 then 0 else 2) else 1
def R_bestAt (g : Gs) (a b : Int32) : Int32 := if b = 0 then F_best g a else if F_best g a = -1 then 0 else F_worth g (F_best g a) a
def K_setting (a : Int32) : Int32 := if inn a 0 3 then 0 else 1
def csv (c : Nat) : Nat := if c = 14 then 13 else c
theorem csv_le {c : Nat} (h : c ≤ 14) : csv c ≤ 13 := by unfold csv; split <;> omega
def F_sv (sv g : Nat → Int32) (c : Nat) : Nat → Int32 := fb_put (if c = 14 then cpy (fun z => sv (z + 140)) sv 1820 else sv) g (140 * csv c) 140
def G_saves (sg : Sg) (mo c : Nat) : Sg := ups (upr sg (mo + 3) (F_sv (sg (mo + 3)) (sg (mo + 1)) c)) mo 4 (nI (csv c + 1))
theorem upd_comm (f : Nat → Int32) {k j : Nat} (x y : Int32) (h : k ≠ j) : upd (upd f k x) j y = upd (upd f j y) k x := by
  funext i
  unfold upd
  by_cases h1 : i = j
  · subst h1
    rw [if_pos rfl, if_neg (Ne.symm h), if_pos rfl]
  · rw [if_neg h1]
    split <;> rfl
theorem ups_comm (sg : Sg) (k : Nat) {i j : Nat} (x y : Int32) (h : i ≠ j) : ups (ups sg k i x) k j y = ups (ups sg k j y) k i x := by
  unfold ups
  rw [upr_at, upr_upr, upr_at, upr_upr, upd_comm _ _ _ h]
theorem saves_thr (sg : Sg) (mo c : Nat) (x : Int32) : G_saves (ups sg mo 0 x) mo c = ups (G_saves sg mo c) mo 0 x := by
  unfold G_saves
  rw [ups_ne sg 0 x (show mo + 3 ≠ mo by omega), ups_ne sg 0 x (show mo + 1 ≠ mo by omega), ← ups_upr sg (k := mo + 3) (k' := mo) 0 x _ (by omega), ups_comm _ _ _ _ (by decide : (0 : Nat) ≠ 4)]
theorem saves_1 (sg : Sg) (mo c : Nat) : G_saves sg mo c (mo + 1) = sg (mo + 1) := by
  unfold G_saves
  rw [ups_ne _ _ _ (by omega), upr_ne _ _ (by omega)]
def K_light (g : Gs) (q st k n bo re : Int32) : Int32 := if inn q 0 199 then (if cLamp st k n bo re then (if g 4 = 6 then 3 else 0) else 2) else 1
def K_boat (g : Gs) (q v : Int32) : Int32 := if inn q 0 199 then (if inn v (-6) 6 then (if g 5 = 8 then 3 else 0) else 2) else 1
def K_steer (g : Gs) (b v : Int32) : Int32 := if inn b 0 (g 5 - 1) then (if inn v (-6) 6 then 0 else 2) else 1
def K_talk (g : Gs) (b v : Int32) : Int32 := if inn b 0 (g 5 - 1) then (if inn v 1 99 then (if 0 < gB g b 2 then 0 else 3) else 2) else 1
def K_lean (g : Gs) (a v : Int32) : Int32 := if inn a 0 (g 4 - 1) then (if inn v (-30) 30 then 0 else 2) else 1
def K_dim (g : Gs) (a v : Int32) : Int32 := if inn a 0 (g 4 - 1) then (if inn v 10 99 then 0 else 2) else 1
def K_set (a v : Int32) : Int32 := if cSet a v then 0 else 1
def K_ticks (a : Int32) : Int32 := if inn a 1 60 then 0 else 1
def K_undo (c : Nat) : Int32 := if c = 0 then 1 else 0
def G_undo (sg : Sg) (mo c : Nat) : Sg := ups (upr sg (mo + 1) (cpy (fun z => sg (mo + 3) (140 * (c - 1) + z)) (sg (mo + 1)) 140)) mo 4 (nI (c - 1))
def K_slot (a : Int32) : Int32 := if inn a 0 1 then 0 else 1
def G_save (sg : Sg) (mo a : Nat) : Sg := upr (upr sg (mo + 4) (fb_put (sg (mo + 4)) (sg (mo + 1)) (140 * a) 140)) (mo + 5) (upd (sg (mo + 5)) a 1)
def K_restore (sg : Sg) (mo : Nat) (a : Int32) : Int32 := if inn a 0 1 then (if sg (mo + 5) (tn a) = 0 then 2 else 0) else 1
def G_restore (sg : Sg) (mo a : Nat) : Sg := ups (upr sg (mo + 1) (cpy (fun z => sg (mo + 4) (140 * a + z)) (sg (mo + 1)) 140)) mo 4 0
theorem nlt6 {x : Int32} (h : 0 ≤ x.toInt ∧ x.toInt ≤ 6) (hn : ¬ x = 6) : vp_in x 6 := vp_lt h.1 (by
  rcases Int.lt_or_eq_of_le h.2 with z | z
  · exact z
  · exact absurd (Int32.toInt_inj.mp z) hn)
theorem nlt8 {x : Int32} (h : 0 ≤ x.toInt ∧ x.toInt ≤ 8) (hn : ¬ x = 8) : vp_in x 8 := vp_lt h.1 (by
  rcases Int.lt_or_eq_of_le h.2 with z | z
  · exact z
  · exact absurd (Int32.toInt_inj.mp z) hn)
theorem ix_in {a c i N : Nat} (h : a * c + i < N) (hN : N < 2 ^ 31) {A C : Int32} (hA : A = nI a) (hC : C = nI c) : vp_in (A * C + nI i) N := by
  rw [hA, hC, pk_mul, nI_add]
  exact vp_in_nI h hN
theorem ix_eq {a c i : Nat} (h : a * c + i < 2 ^ 31) {A C : Int32} (hA : A = nI a) (hC : C = nI c) : (A * C + nI i).toNatClampNeg = a * c + i := by
  rw [hA, hC, pk_mul, nI_add]
  exact nI_clamp h
end
section
-- HOW ct_in fI
-- HOW ct_fails fI
-- HOW ct_of fI
-- HOW ct_ofBoat fI
-- HOW ct_layBoat fV
-- HOW ct_isLight fI
-- HOW ct_isBoat fI
-- HOW ct_isPlace fI
-- HOW ct_bright fI
-- HOW ct_worth fI
-- HOW ct_serves fI
-- HOW ct_best fI
-- HOW ct_sails fV
-- HOW ct_drops fV
-- HOW ct_wished fI
-- HOW ct_hands fV
-- HOW ct_wishes fV
-- HOW ct_finds fV
-- HOW ct_goesOn fV
-- HOW ct_goesTick fV
-- HOW ct_goesBy fI
-- HOW ct_putAside fV
-- HOW ct_takeBack fV
-- HOW ct_isLamp fI
-- HOW ct_addsLight fI
-- HOW ct_actsLight fI
-- HOW ct_addsBoat fI
-- HOW ct_actsBoat fI
-- HOW ct_actsSteer fI
-- HOW ct_canTalk fI
-- HOW ct_actsTalk fI
-- HOW ct_actsLean fI
-- HOW ct_actsDim fI
-- HOW ct_mostOf fI
-- HOW ct_isSetting fI
-- HOW ct_actsSet fI
-- HOW ct_actsTicks fI
-- HOW ct_boatsThat fI
-- HOW ct_servedBy fI
-- HOW ct_begins fV
-- HOW ct_tellsAbout fI
-- HOW ct_about fM
-- HOW ct_lightOf fM
-- HOW ct_boatOf fM
-- HOW ct_brightness fM
-- HOW ct_bestAt fM
-- HOW ct_setting fM
/-! the reference: what there is -/
def mtX6_begins : Mt := (yX6_begins, cX6_begins, 2, none, 0, 0, 0, 0)
theorem kX6_begins_0 : Dk mtX6_begins 0 (.iconst 0) 1 1 := ⟨by decide +kernel, rfl⟩
theorem kX6_begins_1 : Dk mtX6_begins 1 (.istore_n 1) 1 2 := ⟨by decide +kernel, rfl⟩
theorem kX6_begins_2 : Dk mtX6_begins 2 (.iload_n 1) 1 3 := ⟨by decide +kernel, rfl⟩
theorem kX6_begins_3 : Dk mtX6_begins 3 (.sipush 140) 3 6 := ⟨by decide +kernel, rfl⟩
theorem kX6_begins_6 : Dk mtX6_begins 6 (.if_icmp .ge 16) 3 9 := ⟨by decide +kernel, rfl⟩
theorem kX6_begins_9 : Dk mtX6_begins 9 (.aload_n 0) 1 10 := ⟨by decide +kernel, rfl⟩
theorem kX6_begins_10 : Dk mtX6_begins 10 (.getfield 7) 3 13 := ⟨by decide +kernel, rfl⟩
theorem kX6_begins_13 : Dk mtX6_begins 13 (.iload_n 1) 1 14 := ⟨by decide +kernel, rfl⟩
theorem kX6_begins_14 : Dk mtX6_begins 14 (.iconst 0) 1 15 := ⟨by decide +kernel, rfl⟩
theorem kX6_begins_15 : Dk mtX6_begins 15 (.iastore) 1 16 := ⟨by decide +kernel, rfl⟩
theorem kX6_begins_16 : Dk mtX6_begins 16 (.iinc 1 1) 3 19 := ⟨by decide +kernel, rfl⟩
theorem kX6_begins_19 : Dk mtX6_begins 19 (.goto (-17)) 3 22 := ⟨by decide +kernel, rfl⟩
theorem kX6_begins_22 : Dk mtX6_begins 22 (.aload_n 0) 1 23 := ⟨by decide +kernel, rfl⟩
theorem kX6_begins_23 : Dk mtX6_begins 23 (.getfield 7) 3 26 := ⟨by decide +kernel, rfl⟩
theorem kX6_begins_26 : Dk mtX6_begins 26 (.iconst 0) 1 27 := ⟨by decide +kernel, rfl⟩
theorem kX6_begins_27 : Dk mtX6_begins 27 (.bipush 10) 2 29 := ⟨by decide +kernel, rfl⟩
theorem kX6_begins_29 : Dk mtX6_begins 29 (.iastore) 1 30 := ⟨by decide +kernel, rfl⟩
theorem kX6_begins_30 : Dk mtX6_begins 30 (.aload_n 0) 1 31 := ⟨by decide +kernel, rfl⟩
theorem kX6_begins_31 : Dk mtX6_begins 31 (.getfield 7) 3 34 := ⟨by decide +kernel, rfl⟩
theorem kX6_begins_34 : Dk mtX6_begins 34 (.iconst 1) 1 35 := ⟨by decide +kernel, rfl⟩
theorem kX6_begins_35 : Dk mtX6_begins 35 (.iconst 3) 1 36 := ⟨by decide +kernel, rfl⟩
theorem kX6_begins_36 : Dk mtX6_begins 36 (.iastore) 1 37 := ⟨by decide +kernel, rfl⟩
theorem kX6_begins_37 : Dk mtX6_begins 37 (.aload_n 0) 1 38 := ⟨by decide +kernel, rfl⟩
theorem kX6_begins_38 : Dk mtX6_begins 38 (.getfield 7) 3 41 := ⟨by decide +kernel, rfl⟩
theorem kX6_begins_41 : Dk mtX6_begins 41 (.iconst 2) 1 42 := ⟨by decide +kernel, rfl⟩
theorem kX6_begins_42 : Dk mtX6_begins 42 (.bipush 60) 2 44 := ⟨by decide +kernel, rfl⟩
theorem kX6_begins_44 : Dk mtX6_begins 44 (.iastore) 1 45 := ⟨by decide +kernel, rfl⟩
theorem kX6_begins_45 : Dk mtX6_begins 45 (.aload_n 0) 1 46 := ⟨by decide +kernel, rfl⟩
theorem kX6_begins_46 : Dk mtX6_begins 46 (.getfield 7) 3 49 := ⟨by decide +kernel, rfl⟩
theorem kX6_begins_49 : Dk mtX6_begins 49 (.iconst 3) 1 50 := ⟨by decide +kernel, rfl⟩
theorem kX6_begins_50 : Dk mtX6_begins 50 (.bipush 12) 2 52 := ⟨by decide +kernel, rfl⟩
theorem kX6_begins_52 : Dk mtX6_begins 52 (.iastore) 1 53 := ⟨by decide +kernel, rfl⟩
theorem kX6_begins_53 : Dk mtX6_begins 53 (.return_) 1 54 := ⟨by decide +kernel, rfl⟩
set_option maxHeartbeats 4000000 in
set_option maxRecDepth 100000 in
theorem ct_begins {l : Launch} {w : Wd} {sg : Sg} (hWr : Wr w) {mo : Nat} : M l mtX6_begins w [vR (some (6, 0, mo))] sg (fV0 (upr sg (mo + 1) (F_begins (sg (mo + 1))))) := by
  refine M_of [some (vR (some (6, 0, mo))), none] rfl (Nat.le_of_ble_eq_true rfl) (by decide +kernel) ?_
  intro p_ e_ s_ m_ args_ below_ meth_ c_ hC hO
  refine V_iconst hC (0) kX6_begins_0 (by decide) ?_
  refine V_istore_n hC [some _, some _] kX6_begins_1 rfl (Nat.le_of_ble_eq_true rfl) ?_
  refine V_canon (upr sg (mo + 1) (cpy (fun _ => 0) (sg (mo + 1)) 0)) (by rw [cpy_0, upr_self]) ?_
  refine V_loop 140 (fun i => [some (vR (some (6, 0, mo))), some (vI (nI i))]) (fun i => upr sg (mo + 1) (cpy (fun _ => 0) (sg (mo + 1)) i)) rfl rfl ?_ (fun i hi ihi => ?_)
  · refine V_iload_n hC kX6_begins_2 rfl ?_
    refine V_sipush hC (140) kX6_begins_3 (by decide) ?_
    refine V_icmp_ge hC 22 kX6_begins_6 (by decide) (fun h6 => ?_) (fun h6 => absurd h6 (not_not_intro (nI_lit rfl)))
    refine V_aload_n hC kX6_begins_22 rfl ?_
    refine V_getR hC hWr 6 1 lfX6_7 kX6_begins_23 (Nat.le_of_ble_eq_true rfl) (Nat.le_of_ble_eq_true rfl) rfl ?_
    refine V_iconst hC (0) kX6_begins_26 (by decide) ?_
    refine V_bipush hC (10) kX6_begins_27 (by decide) ?_
    refine V_iast hC 0 rfl kX6_begins_29 (vp_lit rfl) ?_
    refine V_aload_n hC kX6_begins_30 rfl ?_
    refine V_getR hC hWr 6 1 lfX6_7 kX6_begins_31 (Nat.le_of_ble_eq_true rfl) (Nat.le_of_ble_eq_true rfl) rfl ?_
    refine V_iconst hC (1) kX6_begins_34 (by decide) ?_
    refine V_iconst hC (3) kX6_begins_35 (by decide) ?_
    refine V_iast hC 1 rfl kX6_begins_36 (vp_lit rfl) ?_
    refine V_aload_n hC kX6_begins_37 rfl ?_
    refine V_getR hC hWr 6 1 lfX6_7 kX6_begins_38 (Nat.le_of_ble_eq_true rfl) (Nat.le_of_ble_eq_true rfl) rfl ?_
    refine V_iconst hC (2) kX6_begins_41 (by decide) ?_
    refine V_bipush hC (60) kX6_begins_42 (by decide) ?_
    refine V_iast hC 2 rfl kX6_begins_44 (vp_lit rfl) ?_
    refine V_aload_n hC kX6_begins_45 rfl ?_
    refine V_getR hC hWr 6 1 lfX6_7 kX6_begins_46 (Nat.le_of_ble_eq_true rfl) (Nat.le_of_ble_eq_true rfl) rfl ?_
    refine V_iconst hC (3) kX6_begins_49 (by decide) ?_
    refine V_bipush hC (12) kX6_begins_50 (by decide) ?_
    refine V_iast hC 3 rfl kX6_begins_52 (vp_lit rfl) ?_
    refine V_vret hC rfl kX6_begins_53 ?_
    refine ⟨by with_reducible rfl, ?_⟩
    simp only [upr_upr, upr_at, ups, F_begins]
  · refine V_iload_n hC kX6_begins_2 rfl ?_
    refine V_sipush hC (140) kX6_begins_3 (by decide) ?_
    refine V_icmp_ge hC 22 kX6_begins_6 (by decide) (fun h6 => absurd h6 (by exact nI_ge (b := 140) hi (by decide))) (fun h6 => ?_)
    refine V_aload_n hC kX6_begins_9 rfl ?_
    refine V_getR hC hWr 6 1 lfX6_7 kX6_begins_10 (Nat.le_of_ble_eq_true rfl) (Nat.le_of_ble_eq_true rfl) rfl ?_
    refine V_iload_n hC kX6_begins_13 rfl ?_
    refine V_iconst hC (0) kX6_begins_14 (by decide) ?_
    refine V_iast hC i (nI_clamp (by omega)) kX6_begins_15 (vp_in_nI hi (by decide)) ?_
    refine V_iinc hC (_ + 1) [some _, some _] kX6_begins_16 rfl rfl rfl (Nat.le_of_ble_eq_true rfl) ?_
    refine V_goto hC 2 kX6_begins_19 (by decide) ?_
    refine V_eq (by rw [nI_succ]) ?_ ihi
    unfold ups
    rw [upr_at, upr_upr]
    exact congrArg _ (cpy_s (fun _ => 0) _ i)
def mtX6_tellsAbout : Mt := (yX6_tellsAbout, cX6_tellsAbout, 2, (some .int), 2, 45, 0, 0)
theorem kX6_tellsAbout_0 : Dk mtX6_tellsAbout 0 (.iload_n 1) 1 1 := ⟨by decide +kernel, rfl⟩
theorem kX6_tellsAbout_1 : Dk mtX6_tellsAbout 1 (.tableswitch 52 0 4 #[35, 35, 35, 44, 44]) 35 36 := ⟨by decide +kernel, rfl⟩
theorem kX6_tellsAbout_36 : Dk mtX6_tellsAbout 36 (.aload_n 0) 1 37 := ⟨by decide +kernel, rfl⟩
theorem kX6_tellsAbout_37 : Dk mtX6_tellsAbout 37 (.getfield 7) 3 40 := ⟨by decide +kernel, rfl⟩
theorem kX6_tellsAbout_40 : Dk mtX6_tellsAbout 40 (.iconst 4) 1 41 := ⟨by decide +kernel, rfl⟩
theorem kX6_tellsAbout_41 : Dk mtX6_tellsAbout 41 (.iload_n 1) 1 42 := ⟨by decide +kernel, rfl⟩
theorem kX6_tellsAbout_42 : Dk mtX6_tellsAbout 42 (.iadd) 1 43 := ⟨by decide +kernel, rfl⟩
theorem kX6_tellsAbout_43 : Dk mtX6_tellsAbout 43 (.iaload) 1 44 := ⟨by decide +kernel, rfl⟩
theorem kX6_tellsAbout_44 : Dk mtX6_tellsAbout 44 (.ireturn) 1 45 := ⟨by decide +kernel, rfl⟩
theorem kX6_tellsAbout_45 : Dk mtX6_tellsAbout 45 (.aload_n 0) 1 46 := ⟨by decide +kernel, rfl⟩
theorem kX6_tellsAbout_46 : Dk mtX6_tellsAbout 46 (.iload_n 1) 1 47 := ⟨by decide +kernel, rfl⟩
theorem kX6_tellsAbout_47 : Dk mtX6_tellsAbout 47 (.iconst 3) 1 48 := ⟨by decide +kernel, rfl⟩
theorem kX6_tellsAbout_48 : Dk mtX6_tellsAbout 48 (.isub) 1 49 := ⟨by decide +kernel, rfl⟩
theorem kX6_tellsAbout_49 : Dk mtX6_tellsAbout 49 (.invokevirtual 185) 3 52 := ⟨by decide +kernel, rfl⟩
theorem kX6_tellsAbout_52 : Dk mtX6_tellsAbout 52 (.ireturn) 1 53 := ⟨by decide +kernel, rfl⟩
theorem kX6_tellsAbout_53 : Dk mtX6_tellsAbout 53 (.aload_n 0) 1 54 := ⟨by decide +kernel, rfl⟩
theorem kX6_tellsAbout_54 : Dk mtX6_tellsAbout 54 (.getfield 7) 3 57 := ⟨by decide +kernel, rfl⟩
theorem kX6_tellsAbout_57 : Dk mtX6_tellsAbout 57 (.bipush 7) 2 59 := ⟨by decide +kernel, rfl⟩
theorem kX6_tellsAbout_59 : Dk mtX6_tellsAbout 59 (.iload_n 1) 1 60 := ⟨by decide +kernel, rfl⟩
theorem kX6_tellsAbout_60 : Dk mtX6_tellsAbout 60 (.iadd) 1 61 := ⟨by decide +kernel, rfl⟩
theorem kX6_tellsAbout_61 : Dk mtX6_tellsAbout 61 (.iconst 5) 1 62 := ⟨by decide +kernel, rfl⟩
theorem kX6_tellsAbout_62 : Dk mtX6_tellsAbout 62 (.isub) 1 63 := ⟨by decide +kernel, rfl⟩
theorem kX6_tellsAbout_63 : Dk mtX6_tellsAbout 63 (.iaload) 1 64 := ⟨by decide +kernel, rfl⟩
theorem kX6_tellsAbout_64 : Dk mtX6_tellsAbout 64 (.ireturn) 1 65 := ⟨by decide +kernel, rfl⟩
theorem lmX6_185 : LkM RX6 185 mtX6_boatsThat := Or.inl (by decide +kernel)
theorem mkX6_boatsThat : MkV mtX6_boatsThat 1 := ⟨List.mem_of_getElem? (i := 1241) (by decide +kernel), by decide +kernel, by decide +kernel, by decide +kernel, ⟨by decide +kernel, by decide +kernel, by decide +kernel⟩⟩
set_option maxHeartbeats 4000000 in
set_option maxRecDepth 100000 in
theorem ct_tellsAbout {l : Launch} {w : Wd} {sg : Sg} (hWr : Wr w) {mo : Nat} (a : Int32) (ha : inn a 0 9) (hI : Inv (sg (mo + 1))) : M l mtX6_tellsAbout w [vR (some (6, 0, mo)), vI a] sg (fI (F_tells (sg (mo + 1)) a) sg) := by
  refine M_of [some (vR (some (6, 0, mo))), some (vI a)] rfl (Nat.le_of_ble_eq_true rfl) (by decide +kernel) ?_
  intro p_ e_ s_ m_ args_ below_ meth_ c_ hC hO
  obtain ⟨N, hN, ea⟩ : ∃ N, N < 10 ∧ a = nI N := vp_in_of (inn_vp (by decide) ha) (by decide)
  subst ea
  rcases (show N = 0 ∨ N = 1 ∨ N = 2 ∨ N = 3 ∨ N = 4 ∨ N = 5 ∨ N = 6 ∨ N = 7 ∨ N = 8 ∨ N = 9 by omega) with e | e | e | e | e | e | e | e | e | e <;> subst e
  · refine V_iload_n hC kX6_tellsAbout_0 rfl ?_
    refine V_tabIn hC (35) 36 kX6_tellsAbout_1 (by decide) (by decide) rfl (by decide) ?_
    refine V_aload_n hC kX6_tellsAbout_36 rfl ?_
    refine V_getR hC hWr 6 1 lfX6_7 kX6_tellsAbout_37 (Nat.le_of_ble_eq_true rfl) (Nat.le_of_ble_eq_true rfl) rfl ?_
    refine V_iconst hC (4) kX6_tellsAbout_40 (by decide) ?_
    refine V_iload_n hC kX6_tellsAbout_41 rfl ?_
    refine V_iadd hC kX6_tellsAbout_42 ?_
    refine V_iald hC 4 rfl kX6_tellsAbout_43 (vp_lit rfl) ?_
    refine V_ireti hC rfl kX6_tellsAbout_44 ?_
    exact ⟨cI (by unfold F_tells; rfl), by with_reducible rfl⟩
  · refine V_iload_n hC kX6_tellsAbout_0 rfl ?_
    refine V_tabIn hC (35) 36 kX6_tellsAbout_1 (by decide) (by decide) rfl (by decide) ?_
    refine V_aload_n hC kX6_tellsAbout_36 rfl ?_
    refine V_getR hC hWr 6 1 lfX6_7 kX6_tellsAbout_37 (Nat.le_of_ble_eq_true rfl) (Nat.le_of_ble_eq_true rfl) rfl ?_
    refine V_iconst hC (4) kX6_tellsAbout_40 (by decide) ?_
    refine V_iload_n hC kX6_tellsAbout_41 rfl ?_
    refine V_iadd hC kX6_tellsAbout_42 ?_
    refine V_iald hC 5 rfl kX6_tellsAbout_43 (vp_lit rfl) ?_
    refine V_ireti hC rfl kX6_tellsAbout_44 ?_
    exact ⟨cI (by unfold F_tells; rfl), by with_reducible rfl⟩
  · refine V_iload_n hC kX6_tellsAbout_0 rfl ?_
    refine V_tabIn hC (35) 36 kX6_tellsAbout_1 (by decide) (by decide) rfl (by decide) ?_
    refine V_aload_n hC kX6_tellsAbout_36 rfl ?_
    refine V_getR hC hWr 6 1 lfX6_7 kX6_tellsAbout_37 (Nat.le_of_ble_eq_true rfl) (Nat.le_of_ble_eq_true rfl) rfl ?_
    refine V_iconst hC (4) kX6_tellsAbout_40 (by decide) ?_
    refine V_iload_n hC kX6_tellsAbout_41 rfl ?_
    refine V_iadd hC kX6_tellsAbout_42 ?_
    refine V_iald hC 6 rfl kX6_tellsAbout_43 (vp_lit rfl) ?_
    refine V_ireti hC rfl kX6_tellsAbout_44 ?_
    exact ⟨cI (by unfold F_tells; rfl), by with_reducible rfl⟩
  · refine V_iload_n hC kX6_tellsAbout_0 rfl ?_
    refine V_tabIn hC (44) 45 kX6_tellsAbout_1 (by decide) (by decide) rfl (by decide) ?_
    refine V_aload_n hC kX6_tellsAbout_45 rfl ?_
    refine V_iload_n hC kX6_tellsAbout_46 rfl ?_
    refine V_iconst hC (3) kX6_tellsAbout_47 (by decide) ?_
    refine V_isub hC kX6_tellsAbout_48 ?_
    refine V_cV_fI hC (ct_boatsThat hWr _ hI.hc5) mkX6_boatsThat lmX6_185 kX6_tellsAbout_49 (Nat.le_of_ble_eq_true rfl) rfl rfl rfl (Nat.le_of_ble_eq_true rfl) ⟨(Nat.le_of_ble_eq_true rfl), (Nat.le_of_ble_eq_true rfl)⟩ ⟨rfl, rfl⟩ ⟨(Nat.le_of_ble_eq_true rfl), (Nat.le_of_ble_eq_true rfl)⟩ ?_
    refine V_ireti hC rfl kX6_tellsAbout_52 ?_
    exact ⟨cI (by unfold F_tells; rfl), by with_reducible rfl⟩
  · refine V_iload_n hC kX6_tellsAbout_0 rfl ?_
    refine V_tabIn hC (44) 45 kX6_tellsAbout_1 (by decide) (by decide) rfl (by decide) ?_
    refine V_aload_n hC kX6_tellsAbout_45 rfl ?_
    refine V_iload_n hC kX6_tellsAbout_46 rfl ?_
    refine V_iconst hC (3) kX6_tellsAbout_47 (by decide) ?_
    refine V_isub hC kX6_tellsAbout_48 ?_
    refine V_cV_fI hC (ct_boatsThat hWr _ hI.hc5) mkX6_boatsThat lmX6_185 kX6_tellsAbout_49 (Nat.le_of_ble_eq_true rfl) rfl rfl rfl (Nat.le_of_ble_eq_true rfl) ⟨(Nat.le_of_ble_eq_true rfl), (Nat.le_of_ble_eq_true rfl)⟩ ⟨rfl, rfl⟩ ⟨(Nat.le_of_ble_eq_true rfl), (Nat.le_of_ble_eq_true rfl)⟩ ?_
    refine V_ireti hC rfl kX6_tellsAbout_52 ?_
    exact ⟨cI (by unfold F_tells; rfl), by with_reducible rfl⟩
  · refine V_iload_n hC kX6_tellsAbout_0 rfl ?_
    refine V_tabOut hC 53 kX6_tellsAbout_1 (by decide) (by decide) ?_
    refine V_aload_n hC kX6_tellsAbout_53 rfl ?_
    refine V_getR hC hWr 6 1 lfX6_7 kX6_tellsAbout_54 (Nat.le_of_ble_eq_true rfl) (Nat.le_of_ble_eq_true rfl) rfl ?_
    refine V_bipush hC (7) kX6_tellsAbout_57 (by decide) ?_
    refine V_iload_n hC kX6_tellsAbout_59 rfl ?_
    refine V_iadd hC kX6_tellsAbout_60 ?_
    refine V_iconst hC (5) kX6_tellsAbout_61 (by decide) ?_
    refine V_isub hC kX6_tellsAbout_62 ?_
    refine V_iald hC 7 rfl kX6_tellsAbout_63 (vp_lit rfl) ?_
    refine V_ireti hC rfl kX6_tellsAbout_64 ?_
    exact ⟨cI (by unfold F_tells; rfl), by with_reducible rfl⟩
  · refine V_iload_n hC kX6_tellsAbout_0 rfl ?_
    refine V_tabOut hC 53 kX6_tellsAbout_1 (by decide) (by decide) ?_
    refine V_aload_n hC kX6_tellsAbout_53 rfl ?_
    refine V_getR hC hWr 6 1 lfX6_7 kX6_tellsAbout_54 (Nat.le_of_ble_eq_true rfl) (Nat.le_of_ble_eq_true rfl) rfl ?_
    refine V_bipush hC (7) kX6_tellsAbout_57 (by decide) ?_
    refine V_iload_n hC kX6_tellsAbout_59 rfl ?_
    refine V_iadd hC kX6_tellsAbout_60 ?_
    refine V_iconst hC (5) kX6_tellsAbout_61 (by decide) ?_
    refine V_isub hC kX6_tellsAbout_62 ?_
    refine V_iald hC 8 rfl kX6_tellsAbout_63 (vp_lit rfl) ?_
    refine V_ireti hC rfl kX6_tellsAbout_64 ?_
    exact ⟨cI (by unfold F_tells; rfl), by with_reducible rfl⟩
  · refine V_iload_n hC kX6_tellsAbout_0 rfl ?_
    refine V_tabOut hC 53 kX6_tellsAbout_1 (by decide) (by decide) ?_
    refine V_aload_n hC kX6_tellsAbout_53 rfl ?_
    refine V_getR hC hWr 6 1 lfX6_7 kX6_tellsAbout_54 (Nat.le_of_ble_eq_true rfl) (Nat.le_of_ble_eq_true rfl) rfl ?_
    refine V_bipush hC (7) kX6_tellsAbout_57 (by decide) ?_
    refine V_iload_n hC kX6_tellsAbout_59 rfl ?_
    refine V_iadd hC kX6_tellsAbout_60 ?_
    refine V_iconst hC (5) kX6_tellsAbout_61 (by decide) ?_
    refine V_isub hC kX6_tellsAbout_62 ?_
    refine V_iald hC 9 rfl kX6_tellsAbout_63 (vp_lit rfl) ?_
    refine V_ireti hC rfl kX6_tellsAbout_64 ?_
    exact ⟨cI (by unfold F_tells; rfl), by with_reducible rfl⟩
  · refine V_iload_n hC kX6_tellsAbout_0 rfl ?_
    refine V_tabOut hC 53 kX6_tellsAbout_1 (by decide) (by decide) ?_
    refine V_aload_n hC kX6_tellsAbout_53 rfl ?_
    refine V_getR hC hWr 6 1 lfX6_7 kX6_tellsAbout_54 (Nat.le_of_ble_eq_true rfl) (Nat.le_of_ble_eq_true rfl) rfl ?_
    refine V_bipush hC (7) kX6_tellsAbout_57 (by decide) ?_
    refine V_iload_n hC kX6_tellsAbout_59 rfl ?_
    refine V_iadd hC kX6_tellsAbout_60 ?_
    refine V_iconst hC (5) kX6_tellsAbout_61 (by decide) ?_
    refine V_isub hC kX6_tellsAbout_62 ?_
    refine V_iald hC 10 rfl kX6_tellsAbout_63 (vp_lit rfl) ?_
    refine V_ireti hC rfl kX6_tellsAbout_64 ?_
    exact ⟨cI (by unfold F_tells; rfl), by with_reducible rfl⟩
  · refine V_iload_n hC kX6_tellsAbout_0 rfl ?_
    refine V_tabOut hC 53 kX6_tellsAbout_1 (by decide) (by decide) ?_
    refine V_aload_n hC kX6_tellsAbout_53 rfl ?_
    refine V_getR hC hWr 6 1 lfX6_7 kX6_tellsAbout_54 (Nat.le_of_ble_eq_true rfl) (Nat.le_of_ble_eq_true rfl) rfl ?_
    refine V_bipush hC (7) kX6_tellsAbout_57 (by decide) ?_
    refine V_iload_n hC kX6_tellsAbout_59 rfl ?_
    refine V_iadd hC kX6_tellsAbout_60 ?_
    refine V_iconst hC (5) kX6_tellsAbout_61 (by decide) ?_
    refine V_isub hC kX6_tellsAbout_62 ?_
    refine V_iald hC 11 rfl kX6_tellsAbout_63 (vp_lit rfl) ?_
    refine V_ireti hC rfl kX6_tellsAbout_64 ?_
    exact ⟨cI (by unfold F_tells; rfl), by with_reducible rfl⟩
def mtX6_about : Mt := (yX6_about, cX6_about, 2, (some .int), 3, 66, 0, 0)
theorem kX6_about_0 : Dk mtX6_about 0 (.aload_n 0) 1 1 := ⟨by decide +kernel, rfl⟩
theorem kX6_about_1 : Dk mtX6_about 1 (.iconst 0) 1 2 := ⟨by decide +kernel, rfl⟩
theorem kX6_about_2 : Dk mtX6_about 2 (.putfield 32) 3 5 := ⟨by decide +kernel, rfl⟩
theorem kX6_about_5 : Dk mtX6_about 5 (.iload_n 1) 1 6 := ⟨by decide +kernel, rfl⟩
theorem kX6_about_6 : Dk mtX6_about 6 (.iconst 0) 1 7 := ⟨by decide +kernel, rfl⟩
theorem kX6_about_7 : Dk mtX6_about 7 (.bipush 9) 2 9 := ⟨by decide +kernel, rfl⟩
theorem kX6_about_9 : Dk mtX6_about 9 (.invokestatic 39) 3 12 := ⟨by decide +kernel, rfl⟩
theorem kX6_about_12 : Dk mtX6_about 12 (.ifCond .eq 11) 3 15 := ⟨by decide +kernel, rfl⟩
theorem kX6_about_15 : Dk mtX6_about 15 (.aload_n 0) 1 16 := ⟨by decide +kernel, rfl⟩
theorem kX6_about_16 : Dk mtX6_about 16 (.iload_n 1) 1 17 := ⟨by decide +kernel, rfl⟩
theorem kX6_about_17 : Dk mtX6_about 17 (.invokevirtual 188) 3 20 := ⟨by decide +kernel, rfl⟩
theorem kX6_about_20 : Dk mtX6_about 20 (.goto 8) 3 23 := ⟨by decide +kernel, rfl⟩
theorem kX6_about_23 : Dk mtX6_about 23 (.aload_n 0) 1 24 := ⟨by decide +kernel, rfl⟩
theorem kX6_about_24 : Dk mtX6_about 24 (.iconst 1) 1 25 := ⟨by decide +kernel, rfl⟩
theorem kX6_about_25 : Dk mtX6_about 25 (.invokevirtual 127) 3 28 := ⟨by decide +kernel, rfl⟩
theorem kX6_about_28 : Dk mtX6_about 28 (.ireturn) 1 29 := ⟨by decide +kernel, rfl⟩
theorem lmX6_127 : LkM RX6 127 mtX6_fails := Or.inl (by decide +kernel)
theorem mkX6_fails : MkV mtX6_fails 1 := ⟨List.mem_of_getElem? (i := 1082) (by decide +kernel), by decide +kernel, by decide +kernel, by decide +kernel, ⟨by decide +kernel, by decide +kernel, by decide +kernel⟩⟩
theorem lmX6_188 : LkM RX6 188 mtX6_tellsAbout := Or.inl (by decide +kernel)
theorem mkX6_tellsAbout : MkV mtX6_tellsAbout 1 := ⟨List.mem_of_getElem? (i := 1237) (by decide +kernel), by decide +kernel, by decide +kernel, by decide +kernel, ⟨by decide +kernel, by decide +kernel, by decide +kernel⟩⟩
set_option maxHeartbeats 4000000 in
set_option maxRecDepth 100000 in
theorem ct_about {l : Launch} {w : Wd} {sg : Sg} (hWr : Wr w) {mo : Nat} (a : Int32) (hI : Inv (sg (mo + 1))) : M l mtX6_about w [vR (some (6, 0, mo)), vI a] sg (fM mo sg (K_about a) (F_tells (sg (mo + 1)) a) sg) := by
  refine M_of [some (vR (some (6, 0, mo))), some (vI a)] rfl (Nat.le_of_ble_eq_true rfl) (by decide +kernel) ?_
  intro p_ e_ s_ m_ args_ below_ meth_ c_ hC hO
  refine V_aload_n hC kX6_about_0 rfl ?_
  refine V_iconst hC (0) kX6_about_1 (by decide) ?_
  refine V_putI hC 6 0 lfX6_32 kX6_about_2 (Nat.le_of_ble_eq_true rfl) (Nat.le_of_ble_eq_true rfl) rfl rfl ⟨rfl, rfl⟩ ?_
  refine V_nameS (fun sg0 e_sg0 => ?_)
  have hs1 : sg0 (mo + 1) = sg (mo + 1) := by rw [e_sg0]; exact upr_ne _ _ (by omega)
  refine V_iload_n hC kX6_about_5 rfl ?_
  refine V_iconst hC (0) kX6_about_6 (by decide) ?_
  refine V_bipush hC (9) kX6_about_7 (by decide) ?_
  refine V_cS_fI hC (ct_in hWr _ _ _) mkX6_in lmX6_39 kX6_about_9 rfl rfl (Nat.le_of_ble_eq_true rfl) ⟨(Nat.le_of_ble_eq_true rfl), (Nat.le_of_ble_eq_true rfl)⟩ ⟨rfl, rfl⟩ ⟨(Nat.le_of_ble_eq_true rfl), (Nat.le_of_ble_eq_true rfl)⟩ ?_
  refine V_if_eq hC 23 kX6_about_12 (by decide) (fun h12 => ?_) (fun h12 => ?_)
  · refine V_aload_n hC kX6_about_23 rfl ?_
    refine V_iconst hC (1) kX6_about_24 (by decide) ?_
    refine V_cV_fI hC (ct_fails hWr 1) mkX6_fails lmX6_127 kX6_about_25 (Nat.le_of_ble_eq_true rfl) rfl rfl rfl (Nat.le_of_ble_eq_true rfl) ⟨(Nat.le_of_ble_eq_true rfl), (Nat.le_of_ble_eq_true rfl)⟩ ⟨rfl, rfl⟩ ⟨(Nat.le_of_ble_eq_true rfl), (Nat.le_of_ble_eq_true rfl)⟩ ?_
    refine V_ireti hC rfl kX6_about_28 ?_
    first
      | exact fM_no 1 (by rw [K_about, if_neg (b01e.mp h12)]) (by decide) (by rw [e_sg0, ups_ups])
      | exact fM_ok (by rw [K_about, if_pos (b01n.mp h12)]) (by rw [hs1]) e_sg0
  · refine V_aload_n hC kX6_about_15 rfl ?_
    refine V_iload_n hC kX6_about_16 rfl ?_
    refine V_cV_fI hC (ct_tellsAbout hWr a (b01n.mp h12) (by rw [hs1]; exact hI)) mkX6_tellsAbout lmX6_188 kX6_about_17 (Nat.le_of_ble_eq_true rfl) rfl rfl rfl (Nat.le_of_ble_eq_true rfl) ⟨(Nat.le_of_ble_eq_true rfl), (Nat.le_of_ble_eq_true rfl)⟩ ⟨rfl, rfl⟩ ⟨(Nat.le_of_ble_eq_true rfl), (Nat.le_of_ble_eq_true rfl)⟩ ?_
    refine V_goto hC 28 kX6_about_20 (by decide) ?_
    refine V_ireti hC rfl kX6_about_28 ?_
    first
      | exact fM_no 1 (by rw [K_about, if_neg (b01e.mp h12)]) (by decide) (by rw [e_sg0, ups_ups])
      | exact fM_ok (by rw [K_about, if_pos (b01n.mp h12)]) (by rw [hs1]) e_sg0
def mtX6_lightOf : Mt := (yX6_lightOf, cX6_lightOf, 3, (some .int), 2, 45, 0, 0)
theorem kX6_lightOf_0 : Dk mtX6_lightOf 0 (.aload_n 0) 1 1 := ⟨by decide +kernel, rfl⟩
theorem kX6_lightOf_1 : Dk mtX6_lightOf 1 (.iconst 0) 1 2 := ⟨by decide +kernel, rfl⟩
theorem kX6_lightOf_2 : Dk mtX6_lightOf 2 (.putfield 32) 3 5 := ⟨by decide +kernel, rfl⟩
theorem kX6_lightOf_5 : Dk mtX6_lightOf 5 (.aload_n 0) 1 6 := ⟨by decide +kernel, rfl⟩
theorem kX6_lightOf_6 : Dk mtX6_lightOf 6 (.iload_n 1) 1 7 := ⟨by decide +kernel, rfl⟩
theorem kX6_lightOf_7 : Dk mtX6_lightOf 7 (.invokevirtual 114) 3 10 := ⟨by decide +kernel, rfl⟩
theorem kX6_lightOf_10 : Dk mtX6_lightOf 10 (.ifCond .ne 9) 3 13 := ⟨by decide +kernel, rfl⟩
theorem kX6_lightOf_13 : Dk mtX6_lightOf 13 (.aload_n 0) 1 14 := ⟨by decide +kernel, rfl⟩
theorem kX6_lightOf_14 : Dk mtX6_lightOf 14 (.iconst 1) 1 15 := ⟨by decide +kernel, rfl⟩
theorem kX6_lightOf_15 : Dk mtX6_lightOf 15 (.invokevirtual 127) 3 18 := ⟨by decide +kernel, rfl⟩
theorem kX6_lightOf_18 : Dk mtX6_lightOf 18 (.ireturn) 1 19 := ⟨by decide +kernel, rfl⟩
theorem kX6_lightOf_19 : Dk mtX6_lightOf 19 (.iload_n 2) 1 20 := ⟨by decide +kernel, rfl⟩
theorem kX6_lightOf_20 : Dk mtX6_lightOf 20 (.iconst 0) 1 21 := ⟨by decide +kernel, rfl⟩
theorem kX6_lightOf_21 : Dk mtX6_lightOf 21 (.bipush 8) 2 23 := ⟨by decide +kernel, rfl⟩
theorem kX6_lightOf_23 : Dk mtX6_lightOf 23 (.invokestatic 39) 3 26 := ⟨by decide +kernel, rfl⟩
theorem kX6_lightOf_26 : Dk mtX6_lightOf 26 (.ifCond .ne 9) 3 29 := ⟨by decide +kernel, rfl⟩
theorem kX6_lightOf_29 : Dk mtX6_lightOf 29 (.aload_n 0) 1 30 := ⟨by decide +kernel, rfl⟩
theorem kX6_lightOf_30 : Dk mtX6_lightOf 30 (.iconst 2) 1 31 := ⟨by decide +kernel, rfl⟩
theorem kX6_lightOf_31 : Dk mtX6_lightOf 31 (.invokevirtual 127) 3 34 := ⟨by decide +kernel, rfl⟩
theorem kX6_lightOf_34 : Dk mtX6_lightOf 34 (.ireturn) 1 35 := ⟨by decide +kernel, rfl⟩
theorem kX6_lightOf_35 : Dk mtX6_lightOf 35 (.iload_n 2) 1 36 := ⟨by decide +kernel, rfl⟩
theorem kX6_lightOf_36 : Dk mtX6_lightOf 36 (.bipush 7) 2 38 := ⟨by decide +kernel, rfl⟩
theorem kX6_lightOf_38 : Dk mtX6_lightOf 38 (.if_icmp .ge 12) 3 41 := ⟨by decide +kernel, rfl⟩
theorem kX6_lightOf_41 : Dk mtX6_lightOf 41 (.aload_n 0) 1 42 := ⟨by decide +kernel, rfl⟩
theorem kX6_lightOf_42 : Dk mtX6_lightOf 42 (.iload_n 1) 1 43 := ⟨by decide +kernel, rfl⟩
theorem kX6_lightOf_43 : Dk mtX6_lightOf 43 (.iload_n 2) 1 44 := ⟨by decide +kernel, rfl⟩
theorem kX6_lightOf_44 : Dk mtX6_lightOf 44 (.invokevirtual 46) 3 47 := ⟨by decide +kernel, rfl⟩
theorem kX6_lightOf_47 : Dk mtX6_lightOf 47 (.goto 24) 3 50 := ⟨by decide +kernel, rfl⟩
theorem kX6_lightOf_50 : Dk mtX6_lightOf 50 (.iload_n 2) 1 51 := ⟨by decide +kernel, rfl⟩
theorem kX6_lightOf_51 : Dk mtX6_lightOf 51 (.bipush 7) 2 53 := ⟨by decide +kernel, rfl⟩
theorem kX6_lightOf_53 : Dk mtX6_lightOf 53 (.if_icmp .ne 11) 3 56 := ⟨by decide +kernel, rfl⟩
theorem kX6_lightOf_56 : Dk mtX6_lightOf 56 (.aload_n 0) 1 57 := ⟨by decide +kernel, rfl⟩
theorem kX6_lightOf_57 : Dk mtX6_lightOf 57 (.iload_n 1) 1 58 := ⟨by decide +kernel, rfl⟩
theorem kX6_lightOf_58 : Dk mtX6_lightOf 58 (.invokevirtual 191) 3 61 := ⟨by decide +kernel, rfl⟩
theorem kX6_lightOf_61 : Dk mtX6_lightOf 61 (.goto 10) 3 64 := ⟨by decide +kernel, rfl⟩
theorem kX6_lightOf_64 : Dk mtX6_lightOf 64 (.aload_n 0) 1 65 := ⟨by decide +kernel, rfl⟩
theorem kX6_lightOf_65 : Dk mtX6_lightOf 65 (.iload_n 1) 1 66 := ⟨by decide +kernel, rfl⟩
theorem kX6_lightOf_66 : Dk mtX6_lightOf 66 (.bipush 7) 2 68 := ⟨by decide +kernel, rfl⟩
theorem kX6_lightOf_68 : Dk mtX6_lightOf 68 (.invokevirtual 46) 3 71 := ⟨by decide +kernel, rfl⟩
theorem kX6_lightOf_71 : Dk mtX6_lightOf 71 (.ireturn) 1 72 := ⟨by decide +kernel, rfl⟩
theorem lmX6_191 : LkM RX6 191 mtX6_servedBy := Or.inl (by decide +kernel)
theorem mkX6_servedBy : MkV mtX6_servedBy 1 := ⟨List.mem_of_getElem? (i := 1253) (by decide +kernel), by decide +kernel, by decide +kernel, by decide +kernel, ⟨by decide +kernel, by decide +kernel, by decide +kernel⟩⟩
set_option maxHeartbeats 4000000 in
set_option maxRecDepth 100000 in
theorem ct_lightOf {l : Launch} {w : Wd} {sg : Sg} (hWr : Wr w) {mo : Nat} (a b : Int32) (hI : Inv (sg (mo + 1))) : M l mtX6_lightOf w [vR (some (6, 0, mo)), vI a, vI b] sg (fM mo sg (K_lightOf (sg (mo + 1)) a b) (R_lightOf (sg (mo + 1)) a b) sg) := by
  refine M_of [some (vR (some (6, 0, mo))), some (vI a), some (vI b)] rfl (Nat.le_of_ble_eq_true rfl) (by decide +kernel) ?_
  intro p_ e_ s_ m_ args_ below_ meth_ c_ hC hO
  refine V_aload_n hC kX6_lightOf_0 rfl ?_
  refine V_iconst hC (0) kX6_lightOf_1 (by decide) ?_
  refine V_putI hC 6 0 lfX6_32 kX6_lightOf_2 (Nat.le_of_ble_eq_true rfl) (Nat.le_of_ble_eq_true rfl) rfl rfl ⟨rfl, rfl⟩ ?_
  refine V_nameS (fun sg0 e_sg0 => ?_)
  have hs1 : sg0 (mo + 1) = sg (mo + 1) := by rw [e_sg0]; exact upr_ne _ _ (by omega)
  refine V_aload_n hC kX6_lightOf_5 rfl ?_
  refine V_iload_n hC kX6_lightOf_6 rfl ?_
  refine V_cV_fI hC (ct_isLight hWr a) mkX6_isLight lmX6_114 kX6_lightOf_7 (Nat.le_of_ble_eq_true rfl) rfl rfl rfl (Nat.le_of_ble_eq_true rfl) ⟨(Nat.le_of_ble_eq_true rfl), (Nat.le_of_ble_eq_true rfl)⟩ ⟨rfl, rfl⟩ ⟨(Nat.le_of_ble_eq_true rfl), (Nat.le_of_ble_eq_true rfl)⟩ ?_
  refine V_if_ne hC 19 kX6_lightOf_10 (by decide) (fun h10 => ?_) (fun h10 => ?_)
  · refine V_iload_n hC kX6_lightOf_19 rfl ?_
    refine V_iconst hC (0) kX6_lightOf_20 (by decide) ?_
    refine V_bipush hC (8) kX6_lightOf_21 (by decide) ?_
    refine V_cS_fI hC (ct_in hWr _ _ _) mkX6_in lmX6_39 kX6_lightOf_23 rfl rfl (Nat.le_of_ble_eq_true rfl) ⟨(Nat.le_of_ble_eq_true rfl), (Nat.le_of_ble_eq_true rfl)⟩ ⟨rfl, rfl⟩ ⟨(Nat.le_of_ble_eq_true rfl), (Nat.le_of_ble_eq_true rfl)⟩ ?_
    refine V_if_ne hC 35 kX6_lightOf_26 (by decide) (fun h26 => ?_) (fun h26 => ?_)
    · have h6 : vp_in a 6 := vpL hI.hc4 (by rw [hs1] at h10; exact b01n.mp h10)
      have hb := b01n.mp h26
      have hK : K_lightOf (sg (mo + 1)) a b = 0 := by rw [hs1] at h10; rw [K_lightOf, if_pos (b01n.mp h10), if_pos hb]
      refine V_iload_n hC kX6_lightOf_35 rfl ?_
      refine V_bipush hC (7) kX6_lightOf_36 (by decide) ?_
      refine V_icmp_ge hC 50 kX6_lightOf_38 (by decide) (fun h38 => ?_) (fun h38 => ?_)
      · refine V_iload_n hC kX6_lightOf_50 rfl ?_
        refine V_bipush hC (7) kX6_lightOf_51 (by decide) ?_
        refine V_icmp_ne hC 64 kX6_lightOf_53 (by decide) (fun h53 => ?_) (fun h53 => ?_)
        · refine V_aload_n hC kX6_lightOf_64 rfl ?_
          refine V_iload_n hC kX6_lightOf_65 rfl ?_
          refine V_bipush hC (7) kX6_lightOf_66 (by decide) ?_
          refine V_cV_fI hC (ct_of hWr a 7 h6 (vp_lit rfl)) mkX6_of lmX6_46 kX6_lightOf_68 (Nat.le_of_ble_eq_true rfl) rfl rfl rfl (Nat.le_of_ble_eq_true rfl) ⟨(Nat.le_of_ble_eq_true rfl), (Nat.le_of_ble_eq_true rfl)⟩ ⟨rfl, rfl⟩ ⟨(Nat.le_of_ble_eq_true rfl), (Nat.le_of_ble_eq_true rfl)⟩ ?_
          refine V_ireti hC rfl kX6_lightOf_71 ?_
          first
            | exact fM_ok hK (by rw [hs1, R_lightOf, if_pos (Int32.not_le.mp h38)]) e_sg0
            | exact fM_ok hK (by rw [hs1, R_lightOf, if_neg (Int32.not_lt.mpr h38), if_pos h53]) e_sg0
            | exact fM_ok hK (by rw [hs1, R_lightOf, if_neg (Int32.not_lt.mpr h38), if_neg h53]) e_sg0
        · refine V_aload_n hC kX6_lightOf_56 rfl ?_
          refine V_iload_n hC kX6_lightOf_57 rfl ?_
          refine V_cV_fI hC (ct_servedBy hWr a (by rw [hs1]; exact hI.hc5)) mkX6_servedBy lmX6_191 kX6_lightOf_58 (Nat.le_of_ble_eq_true rfl) rfl rfl rfl (Nat.le_of_ble_eq_true rfl) ⟨(Nat.le_of_ble_eq_true rfl), (Nat.le_of_ble_eq_true rfl)⟩ ⟨rfl, rfl⟩ ⟨(Nat.le_of_ble_eq_true rfl), (Nat.le_of_ble_eq_true rfl)⟩ ?_
          refine V_goto hC 71 kX6_lightOf_61 (by decide) ?_
          refine V_ireti hC rfl kX6_lightOf_71 ?_
          first
            | exact fM_ok hK (by rw [hs1, R_lightOf, if_pos (Int32.not_le.mp h38)]) e_sg0
            | exact fM_ok hK (by rw [hs1, R_lightOf, if_neg (Int32.not_lt.mpr h38), if_pos h53]) e_sg0
            | exact fM_ok hK (by rw [hs1, R_lightOf, if_neg (Int32.not_lt.mpr h38), if_neg h53]) e_sg0
      · refine V_aload_n hC kX6_lightOf_41 rfl ?_
        refine V_iload_n hC kX6_lightOf_42 rfl ?_
        refine V_iload_n hC kX6_lightOf_43 rfl ?_
        refine V_cV_fI hC (ct_of hWr a b h6 (inn_vp (M := 7) (by decide) ⟨hb.1, Int32.le_of_lt (Int32.not_le.mp h38)⟩)) mkX6_of lmX6_46 kX6_lightOf_44 (Nat.le_of_ble_eq_true rfl) rfl rfl rfl (Nat.le_of_ble_eq_true rfl) ⟨(Nat.le_of_ble_eq_true rfl), (Nat.le_of_ble_eq_true rfl)⟩ ⟨rfl, rfl⟩ ⟨(Nat.le_of_ble_eq_true rfl), (Nat.le_of_ble_eq_true rfl)⟩ ?_
        refine V_goto hC 71 kX6_lightOf_47 (by decide) ?_
        refine V_ireti hC rfl kX6_lightOf_71 ?_
        first
          | exact fM_ok hK (by rw [hs1, R_lightOf, if_pos (Int32.not_le.mp h38)]) e_sg0
          | exact fM_ok hK (by rw [hs1, R_lightOf, if_neg (Int32.not_lt.mpr h38), if_pos h53]) e_sg0
          | exact fM_ok hK (by rw [hs1, R_lightOf, if_neg (Int32.not_lt.mpr h38), if_neg h53]) e_sg0
    · refine V_aload_n hC kX6_lightOf_29 rfl ?_
      refine V_iconst hC (2) kX6_lightOf_30 (by decide) ?_
      refine V_cV_fI hC (ct_fails hWr 2) mkX6_fails lmX6_127 kX6_lightOf_31 (Nat.le_of_ble_eq_true rfl) rfl rfl rfl (Nat.le_of_ble_eq_true rfl) ⟨(Nat.le_of_ble_eq_true rfl), (Nat.le_of_ble_eq_true rfl)⟩ ⟨rfl, rfl⟩ ⟨(Nat.le_of_ble_eq_true rfl), (Nat.le_of_ble_eq_true rfl)⟩ ?_
      refine V_ireti hC rfl kX6_lightOf_34 ?_
      exact fM_no 2 (by rw [hs1] at h10; rw [K_lightOf, if_pos (b01n.mp h10), if_neg (b01e.mp h26)]) (by decide) (by rw [e_sg0, ups_ups])
  · refine V_aload_n hC kX6_lightOf_13 rfl ?_
    refine V_iconst hC (1) kX6_lightOf_14 (by decide) ?_
    refine V_cV_fI hC (ct_fails hWr 1) mkX6_fails lmX6_127 kX6_lightOf_15 (Nat.le_of_ble_eq_true rfl) rfl rfl rfl (Nat.le_of_ble_eq_true rfl) ⟨(Nat.le_of_ble_eq_true rfl), (Nat.le_of_ble_eq_true rfl)⟩ ⟨rfl, rfl⟩ ⟨(Nat.le_of_ble_eq_true rfl), (Nat.le_of_ble_eq_true rfl)⟩ ?_
    refine V_ireti hC rfl kX6_lightOf_18 ?_
    exact fM_no 1 (by rw [hs1] at h10; rw [K_lightOf, if_neg (b01e.mp h10)]) (by decide) (by rw [e_sg0, ups_ups])
def mtX6_boatOf : Mt := (yX6_boatOf, cX6_boatOf, 3, (some .int), 2, 43, 0, 0)
theorem kX6_boatOf_0 : Dk mtX6_boatOf 0 (.aload_n 0) 1 1 := ⟨by decide +kernel, rfl⟩
theorem kX6_boatOf_1 : Dk mtX6_boatOf 1 (.iconst 0) 1 2 := ⟨by decide +kernel, rfl⟩
theorem kX6_boatOf_2 : Dk mtX6_boatOf 2 (.putfield 32) 3 5 := ⟨by decide +kernel, rfl⟩
theorem kX6_boatOf_5 : Dk mtX6_boatOf 5 (.aload_n 0) 1 6 := ⟨by decide +kernel, rfl⟩
theorem kX6_boatOf_6 : Dk mtX6_boatOf 6 (.iload_n 1) 1 7 := ⟨by decide +kernel, rfl⟩
theorem kX6_boatOf_7 : Dk mtX6_boatOf 7 (.invokevirtual 108) 3 10 := ⟨by decide +kernel, rfl⟩
theorem kX6_boatOf_10 : Dk mtX6_boatOf 10 (.ifCond .ne 9) 3 13 := ⟨by decide +kernel, rfl⟩
theorem kX6_boatOf_13 : Dk mtX6_boatOf 13 (.aload_n 0) 1 14 := ⟨by decide +kernel, rfl⟩
theorem kX6_boatOf_14 : Dk mtX6_boatOf 14 (.iconst 1) 1 15 := ⟨by decide +kernel, rfl⟩
theorem kX6_boatOf_15 : Dk mtX6_boatOf 15 (.invokevirtual 127) 3 18 := ⟨by decide +kernel, rfl⟩
theorem kX6_boatOf_18 : Dk mtX6_boatOf 18 (.ireturn) 1 19 := ⟨by decide +kernel, rfl⟩
theorem kX6_boatOf_19 : Dk mtX6_boatOf 19 (.iload_n 2) 1 20 := ⟨by decide +kernel, rfl⟩
theorem kX6_boatOf_20 : Dk mtX6_boatOf 20 (.iconst 0) 1 21 := ⟨by decide +kernel, rfl⟩
theorem kX6_boatOf_21 : Dk mtX6_boatOf 21 (.bipush 8) 2 23 := ⟨by decide +kernel, rfl⟩
theorem kX6_boatOf_23 : Dk mtX6_boatOf 23 (.invokestatic 39) 3 26 := ⟨by decide +kernel, rfl⟩
theorem kX6_boatOf_26 : Dk mtX6_boatOf 26 (.ifCond .ne 9) 3 29 := ⟨by decide +kernel, rfl⟩
theorem kX6_boatOf_29 : Dk mtX6_boatOf 29 (.aload_n 0) 1 30 := ⟨by decide +kernel, rfl⟩
theorem kX6_boatOf_30 : Dk mtX6_boatOf 30 (.iconst 2) 1 31 := ⟨by decide +kernel, rfl⟩
theorem kX6_boatOf_31 : Dk mtX6_boatOf 31 (.invokevirtual 127) 3 34 := ⟨by decide +kernel, rfl⟩
theorem kX6_boatOf_34 : Dk mtX6_boatOf 34 (.ireturn) 1 35 := ⟨by decide +kernel, rfl⟩
theorem kX6_boatOf_35 : Dk mtX6_boatOf 35 (.aload_n 0) 1 36 := ⟨by decide +kernel, rfl⟩
theorem kX6_boatOf_36 : Dk mtX6_boatOf 36 (.iload_n 1) 1 37 := ⟨by decide +kernel, rfl⟩
theorem kX6_boatOf_37 : Dk mtX6_boatOf 37 (.iload_n 2) 1 38 := ⟨by decide +kernel, rfl⟩
theorem kX6_boatOf_38 : Dk mtX6_boatOf 38 (.invokevirtual 53) 3 41 := ⟨by decide +kernel, rfl⟩
theorem kX6_boatOf_41 : Dk mtX6_boatOf 41 (.iload_n 2) 1 42 := ⟨by decide +kernel, rfl⟩
theorem kX6_boatOf_42 : Dk mtX6_boatOf 42 (.iconst 2) 1 43 := ⟨by decide +kernel, rfl⟩
theorem kX6_boatOf_43 : Dk mtX6_boatOf 43 (.if_icmp .eq 14) 3 46 := ⟨by decide +kernel, rfl⟩
theorem kX6_boatOf_46 : Dk mtX6_boatOf 46 (.iload_n 2) 1 47 := ⟨by decide +kernel, rfl⟩
theorem kX6_boatOf_47 : Dk mtX6_boatOf 47 (.iconst 4) 1 48 := ⟨by decide +kernel, rfl⟩
theorem kX6_boatOf_48 : Dk mtX6_boatOf 48 (.if_icmp .eq 9) 3 51 := ⟨by decide +kernel, rfl⟩
theorem kX6_boatOf_51 : Dk mtX6_boatOf 51 (.iload_n 2) 1 52 := ⟨by decide +kernel, rfl⟩
theorem kX6_boatOf_52 : Dk mtX6_boatOf 52 (.bipush 6) 2 54 := ⟨by decide +kernel, rfl⟩
theorem kX6_boatOf_54 : Dk mtX6_boatOf 54 (.if_icmp .ne 7) 3 57 := ⟨by decide +kernel, rfl⟩
theorem kX6_boatOf_57 : Dk mtX6_boatOf 57 (.iconst 1) 1 58 := ⟨by decide +kernel, rfl⟩
theorem kX6_boatOf_58 : Dk mtX6_boatOf 58 (.goto 4) 3 61 := ⟨by decide +kernel, rfl⟩
theorem kX6_boatOf_61 : Dk mtX6_boatOf 61 (.iconst 0) 1 62 := ⟨by decide +kernel, rfl⟩
theorem kX6_boatOf_62 : Dk mtX6_boatOf 62 (.isub) 1 63 := ⟨by decide +kernel, rfl⟩
theorem kX6_boatOf_63 : Dk mtX6_boatOf 63 (.ireturn) 1 64 := ⟨by decide +kernel, rfl⟩
set_option maxHeartbeats 4000000 in
set_option maxRecDepth 100000 in
theorem ct_boatOf {l : Launch} {w : Wd} {sg : Sg} (hWr : Wr w) {mo : Nat} (a b : Int32) (hI : Inv (sg (mo + 1))) : M l mtX6_boatOf w [vR (some (6, 0, mo)), vI a, vI b] sg (fM mo sg (K_boatOf (sg (mo + 1)) a b) (R_boatOf (sg (mo + 1)) a b) sg) := by
  refine M_of [some (vR (some (6, 0, mo))), some (vI a), some (vI b)] rfl (Nat.le_of_ble_eq_true rfl) (by decide +kernel) ?_
  intro p_ e_ s_ m_ args_ below_ meth_ c_ hC hO
  refine V_aload_n hC kX6_boatOf_0 rfl ?_
  refine V_iconst hC (0) kX6_boatOf_1 (by decide) ?_
  refine V_putI hC 6 0 lfX6_32 kX6_boatOf_2 (Nat.le_of_ble_eq_true rfl) (Nat.le_of_ble_eq_true rfl) rfl rfl ⟨rfl, rfl⟩ ?_
  refine V_nameS (fun sg0 e_sg0 => ?_)
  have hs1 : sg0 (mo + 1) = sg (mo + 1) := by rw [e_sg0]; exact upr_ne _ _ (by omega)
  refine V_aload_n hC kX6_boatOf_5 rfl ?_
  refine V_iload_n hC kX6_boatOf_6 rfl ?_
  refine V_cV_fI hC (ct_isBoat hWr a) mkX6_isBoat lmX6_108 kX6_boatOf_7 (Nat.le_of_ble_eq_true rfl) rfl rfl rfl (Nat.le_of_ble_eq_true rfl) ⟨(Nat.le_of_ble_eq_true rfl), (Nat.le_of_ble_eq_true rfl)⟩ ⟨rfl, rfl⟩ ⟨(Nat.le_of_ble_eq_true rfl), (Nat.le_of_ble_eq_true rfl)⟩ ?_
  refine V_if_ne hC 19 kX6_boatOf_10 (by decide) (fun h10 => ?_) (fun h10 => ?_)
  · refine V_iload_n hC kX6_boatOf_19 rfl ?_
    refine V_iconst hC (0) kX6_boatOf_20 (by decide) ?_
    refine V_bipush hC (8) kX6_boatOf_21 (by decide) ?_
    refine V_cS_fI hC (ct_in hWr _ _ _) mkX6_in lmX6_39 kX6_boatOf_23 rfl rfl (Nat.le_of_ble_eq_true rfl) ⟨(Nat.le_of_ble_eq_true rfl), (Nat.le_of_ble_eq_true rfl)⟩ ⟨rfl, rfl⟩ ⟨(Nat.le_of_ble_eq_true rfl), (Nat.le_of_ble_eq_true rfl)⟩ ?_
    refine V_if_ne hC 35 kX6_boatOf_26 (by decide) (fun h26 => ?_) (fun h26 => ?_)
    · have h8 : vp_in a 8 := vpB hI.hc5 (by rw [hs1] at h10; exact b01n.mp h10)
      have hb := b01n.mp h26
      have hK : K_boatOf (sg (mo + 1)) a b = 0 := by rw [hs1] at h10; rw [K_boatOf, if_pos (b01n.mp h10), if_pos hb]
      refine V_aload_n hC kX6_boatOf_35 rfl ?_
      refine V_iload_n hC kX6_boatOf_36 rfl ?_
      refine V_iload_n hC kX6_boatOf_37 rfl ?_
      refine V_cV_fI hC (ct_ofBoat hWr a b h8 (inn_vp (M := 8) (by decide) hb)) mkX6_ofBoat lmX6_53 kX6_boatOf_38 (Nat.le_of_ble_eq_true rfl) rfl rfl rfl (Nat.le_of_ble_eq_true rfl) ⟨(Nat.le_of_ble_eq_true rfl), (Nat.le_of_ble_eq_true rfl)⟩ ⟨rfl, rfl⟩ ⟨(Nat.le_of_ble_eq_true rfl), (Nat.le_of_ble_eq_true rfl)⟩ ?_
      refine V_join 62 (b01 (b = 2 ∨ b = 4 ∨ b = 6)) ?_ (fun j62 => ?_)
      · refine V_isub hC kX6_boatOf_62 ?_
        refine V_ireti hC rfl kX6_boatOf_63 ?_
        exact fM_ok hK (by rw [hs1, R_boatOf]) e_sg0
      · refine V_iload_n hC kX6_boatOf_41 rfl ?_
        refine V_iconst hC (2) kX6_boatOf_42 (by decide) ?_
        refine V_icmp_eq hC 57 kX6_boatOf_43 (by decide) (fun h43 => ?_) (fun h43 => ?_)
        · refine V_iconst hC (1) kX6_boatOf_57 (by decide) ?_
          refine V_goto hC 62 kX6_boatOf_58 (by decide) ?_
          exact j62 _ ((b01_t (Or.inl h43)).symm)
        · refine V_iload_n hC kX6_boatOf_46 rfl ?_
          refine V_iconst hC (4) kX6_boatOf_47 (by decide) ?_
          refine V_icmp_eq hC 57 kX6_boatOf_48 (by decide) (fun h48 => ?_) (fun h48 => ?_)
          · refine V_iconst hC (1) kX6_boatOf_57 (by decide) ?_
            refine V_goto hC 62 kX6_boatOf_58 (by decide) ?_
            exact j62 _ ((b01_t (Or.inr (Or.inl h48))).symm)
          · refine V_iload_n hC kX6_boatOf_51 rfl ?_
            refine V_bipush hC (6) kX6_boatOf_52 (by decide) ?_
            refine V_icmp_ne hC 61 kX6_boatOf_54 (by decide) (fun h54 => ?_) (fun h54 => ?_)
            · refine V_iconst hC (0) kX6_boatOf_61 (by decide) ?_
              exact j62 _ ((b01_f (fun z => z.elim h43 (fun z => z.elim h48 h54))).symm)
            · refine V_iconst hC (1) kX6_boatOf_57 (by decide) ?_
              refine V_goto hC 62 kX6_boatOf_58 (by decide) ?_
              exact j62 _ ((b01_t (Or.inr (Or.inr h54))).symm)
    · refine V_aload_n hC kX6_boatOf_29 rfl ?_
      refine V_iconst hC (2) kX6_boatOf_30 (by decide) ?_
      refine V_cV_fI hC (ct_fails hWr 2) mkX6_fails lmX6_127 kX6_boatOf_31 (Nat.le_of_ble_eq_true rfl) rfl rfl rfl (Nat.le_of_ble_eq_true rfl) ⟨(Nat.le_of_ble_eq_true rfl), (Nat.le_of_ble_eq_true rfl)⟩ ⟨rfl, rfl⟩ ⟨(Nat.le_of_ble_eq_true rfl), (Nat.le_of_ble_eq_true rfl)⟩ ?_
      refine V_ireti hC rfl kX6_boatOf_34 ?_
      exact fM_no 2 (by rw [hs1] at h10; rw [K_boatOf, if_pos (b01n.mp h10), if_neg (b01e.mp h26)]) (by decide) (by rw [e_sg0, ups_ups])
  · refine V_aload_n hC kX6_boatOf_13 rfl ?_
    refine V_iconst hC (1) kX6_boatOf_14 (by decide) ?_
    refine V_cV_fI hC (ct_fails hWr 1) mkX6_fails lmX6_127 kX6_boatOf_15 (Nat.le_of_ble_eq_true rfl) rfl rfl rfl (Nat.le_of_ble_eq_true rfl) ⟨(Nat.le_of_ble_eq_true rfl), (Nat.le_of_ble_eq_true rfl)⟩ ⟨rfl, rfl⟩ ⟨(Nat.le_of_ble_eq_true rfl), (Nat.le_of_ble_eq_true rfl)⟩ ?_
    refine V_ireti hC rfl kX6_boatOf_18 ?_
    exact fM_no 1 (by rw [hs1] at h10; rw [K_boatOf, if_neg (b01e.mp h10)]) (by decide) (by rw [e_sg0, ups_ups])
def mtX6_brightness : Mt := (yX6_brightness, cX6_brightness, 3, (some .int), 2, 48, 0, 0)
theorem kX6_brightness_0 : Dk mtX6_brightness 0 (.aload_n 0) 1 1 := ⟨by decide +kernel, rfl⟩
theorem kX6_brightness_1 : Dk mtX6_brightness 1 (.iconst 0) 1 2 := ⟨by decide +kernel, rfl⟩
theorem kX6_brightness_2 : Dk mtX6_brightness 2 (.putfield 32) 3 5 := ⟨by decide +kernel, rfl⟩
theorem kX6_brightness_5 : Dk mtX6_brightness 5 (.aload_n 0) 1 6 := ⟨by decide +kernel, rfl⟩
theorem kX6_brightness_6 : Dk mtX6_brightness 6 (.iload_n 1) 1 7 := ⟨by decide +kernel, rfl⟩
theorem kX6_brightness_7 : Dk mtX6_brightness 7 (.invokevirtual 114) 3 10 := ⟨by decide +kernel, rfl⟩
theorem kX6_brightness_10 : Dk mtX6_brightness 10 (.ifCond .eq 19) 3 13 := ⟨by decide +kernel, rfl⟩
theorem kX6_brightness_13 : Dk mtX6_brightness 13 (.iload_n 2) 1 14 := ⟨by decide +kernel, rfl⟩
theorem kX6_brightness_14 : Dk mtX6_brightness 14 (.invokestatic 59) 3 17 := ⟨by decide +kernel, rfl⟩
theorem kX6_brightness_17 : Dk mtX6_brightness 17 (.ifCond .eq 12) 3 20 := ⟨by decide +kernel, rfl⟩
theorem kX6_brightness_20 : Dk mtX6_brightness 20 (.aload_n 0) 1 21 := ⟨by decide +kernel, rfl⟩
theorem kX6_brightness_21 : Dk mtX6_brightness 21 (.iload_n 1) 1 22 := ⟨by decide +kernel, rfl⟩
theorem kX6_brightness_22 : Dk mtX6_brightness 22 (.iload_n 2) 1 23 := ⟨by decide +kernel, rfl⟩
theorem kX6_brightness_23 : Dk mtX6_brightness 23 (.invokevirtual 50) 3 26 := ⟨by decide +kernel, rfl⟩
theorem kX6_brightness_26 : Dk mtX6_brightness 26 (.goto 8) 3 29 := ⟨by decide +kernel, rfl⟩
theorem kX6_brightness_29 : Dk mtX6_brightness 29 (.aload_n 0) 1 30 := ⟨by decide +kernel, rfl⟩
theorem kX6_brightness_30 : Dk mtX6_brightness 30 (.iconst 1) 1 31 := ⟨by decide +kernel, rfl⟩
theorem kX6_brightness_31 : Dk mtX6_brightness 31 (.invokevirtual 127) 3 34 := ⟨by decide +kernel, rfl⟩
theorem kX6_brightness_34 : Dk mtX6_brightness 34 (.ireturn) 1 35 := ⟨by decide +kernel, rfl⟩
set_option maxHeartbeats 4000000 in
set_option maxRecDepth 100000 in
theorem ct_brightness {l : Launch} {w : Wd} {sg : Sg} (hWr : Wr w) {mo : Nat} (a b : Int32) (hI : Inv (sg (mo + 1))) : M l mtX6_brightness w [vR (some (6, 0, mo)), vI a, vI b] sg (fM mo sg (K_brightness (sg (mo + 1)) a b) (F_bright (sg (mo + 1)) a b) sg) := by
  refine M_of [some (vR (some (6, 0, mo))), some (vI a), some (vI b)] rfl (Nat.le_of_ble_eq_true rfl) (by decide +kernel) ?_
  intro p_ e_ s_ m_ args_ below_ meth_ c_ hC hO
  refine V_aload_n hC kX6_brightness_0 rfl ?_
  refine V_iconst hC (0) kX6_brightness_1 (by decide) ?_
  refine V_putI hC 6 0 lfX6_32 kX6_brightness_2 (Nat.le_of_ble_eq_true rfl) (Nat.le_of_ble_eq_true rfl) rfl rfl ⟨rfl, rfl⟩ ?_
  refine V_nameS (fun sg0 e_sg0 => ?_)
  have hs1 : sg0 (mo + 1) = sg (mo + 1) := by rw [e_sg0]; exact upr_ne _ _ (by omega)
  refine V_aload_n hC kX6_brightness_5 rfl ?_
  refine V_iload_n hC kX6_brightness_6 rfl ?_
  refine V_cV_fI hC (ct_isLight hWr a) mkX6_isLight lmX6_114 kX6_brightness_7 (Nat.le_of_ble_eq_true rfl) rfl rfl rfl (Nat.le_of_ble_eq_true rfl) ⟨(Nat.le_of_ble_eq_true rfl), (Nat.le_of_ble_eq_true rfl)⟩ ⟨rfl, rfl⟩ ⟨(Nat.le_of_ble_eq_true rfl), (Nat.le_of_ble_eq_true rfl)⟩ ?_
  refine V_if_eq hC 29 kX6_brightness_10 (by decide) (fun h10 => ?_) (fun h10 => ?_)
  · refine V_aload_n hC kX6_brightness_29 rfl ?_
    refine V_iconst hC (1) kX6_brightness_30 (by decide) ?_
    refine V_cV_fI hC (ct_fails hWr 1) mkX6_fails lmX6_127 kX6_brightness_31 (Nat.le_of_ble_eq_true rfl) rfl rfl rfl (Nat.le_of_ble_eq_true rfl) ⟨(Nat.le_of_ble_eq_true rfl), (Nat.le_of_ble_eq_true rfl)⟩ ⟨rfl, rfl⟩ ⟨(Nat.le_of_ble_eq_true rfl), (Nat.le_of_ble_eq_true rfl)⟩ ?_
    refine V_ireti hC rfl kX6_brightness_34 ?_
    first
      | exact fM_no 1 (by rw [hs1] at h10; rw [K_brightness, if_neg (fun z => b01e.mp h10 z.1)]) (by decide) (by rw [e_sg0, ups_ups])
      | exact fM_no 1 (by rw [K_brightness, if_neg (fun z => b01e.mp h17 z.2)]) (by decide) (by rw [e_sg0, ups_ups])
      | exact fM_ok (by rw [hs1] at h10; rw [K_brightness, if_pos ⟨b01n.mp h10, b01n.mp h17⟩]) (by rw [hs1]) e_sg0
  · refine V_iload_n hC kX6_brightness_13 rfl ?_
    refine V_cS_fI hC (ct_isPlace hWr b) mkX6_isPlace lmX6_59 kX6_brightness_14 rfl rfl (Nat.le_of_ble_eq_true rfl) ⟨(Nat.le_of_ble_eq_true rfl), (Nat.le_of_ble_eq_true rfl)⟩ ⟨rfl, rfl⟩ ⟨(Nat.le_of_ble_eq_true rfl), (Nat.le_of_ble_eq_true rfl)⟩ ?_
    refine V_if_eq hC 29 kX6_brightness_17 (by decide) (fun h17 => ?_) (fun h17 => ?_)
    · refine V_aload_n hC kX6_brightness_29 rfl ?_
      refine V_iconst hC (1) kX6_brightness_30 (by decide) ?_
      refine V_cV_fI hC (ct_fails hWr 1) mkX6_fails lmX6_127 kX6_brightness_31 (Nat.le_of_ble_eq_true rfl) rfl rfl rfl (Nat.le_of_ble_eq_true rfl) ⟨(Nat.le_of_ble_eq_true rfl), (Nat.le_of_ble_eq_true rfl)⟩ ⟨rfl, rfl⟩ ⟨(Nat.le_of_ble_eq_true rfl), (Nat.le_of_ble_eq_true rfl)⟩ ?_
      refine V_ireti hC rfl kX6_brightness_34 ?_
      first
        | exact fM_no 1 (by rw [hs1] at h10; rw [K_brightness, if_neg (fun z => b01e.mp h10 z.1)]) (by decide) (by rw [e_sg0, ups_ups])
        | exact fM_no 1 (by rw [K_brightness, if_neg (fun z => b01e.mp h17 z.2)]) (by decide) (by rw [e_sg0, ups_ups])
        | exact fM_ok (by rw [hs1] at h10; rw [K_brightness, if_pos ⟨b01n.mp h10, b01n.mp h17⟩]) (by rw [hs1]) e_sg0
    · obtain ⟨n, hn, en⟩ := in_L hI.hc4 (show inn a 0 (sg (mo + 1) 4 - 1) by rw [hs1] at h10; exact b01n.mp h10)
      refine V_aload_n hC kX6_brightness_20 rfl ?_
      refine V_iload_n hC kX6_brightness_21 rfl ?_
      refine V_iload_n hC kX6_brightness_22 rfl ?_
      refine V_cV_fI hC (ct_bright hWr a b (vpL hI.hc4 (by rw [hs1] at h10; exact b01n.mp h10)) (fun _ => by rw [hs1, en]; exact hI.ne hn)) mkX6_bright lmX6_50 kX6_brightness_23 (Nat.le_of_ble_eq_true rfl) rfl rfl rfl (Nat.le_of_ble_eq_true rfl) ⟨(Nat.le_of_ble_eq_true rfl), (Nat.le_of_ble_eq_true rfl)⟩ ⟨rfl, rfl⟩ ⟨(Nat.le_of_ble_eq_true rfl), (Nat.le_of_ble_eq_true rfl)⟩ ?_
      refine V_goto hC 34 kX6_brightness_26 (by decide) ?_
      refine V_ireti hC rfl kX6_brightness_34 ?_
      first
        | exact fM_no 1 (by rw [hs1] at h10; rw [K_brightness, if_neg (fun z => b01e.mp h10 z.1)]) (by decide) (by rw [e_sg0, ups_ups])
        | exact fM_no 1 (by rw [K_brightness, if_neg (fun z => b01e.mp h17 z.2)]) (by decide) (by rw [e_sg0, ups_ups])
        | exact fM_ok (by rw [hs1] at h10; rw [K_brightness, if_pos ⟨b01n.mp h10, b01n.mp h17⟩]) (by rw [hs1]) e_sg0
def mtX6_bestAt : Mt := (yX6_bestAt, cX6_bestAt, 4, (some .int), 4, 93, 0, 0)
theorem kX6_bestAt_0 : Dk mtX6_bestAt 0 (.aload_n 0) 1 1 := ⟨by decide +kernel, rfl⟩
theorem kX6_bestAt_1 : Dk mtX6_bestAt 1 (.iconst 0) 1 2 := ⟨by decide +kernel, rfl⟩
theorem kX6_bestAt_2 : Dk mtX6_bestAt 2 (.putfield 32) 3 5 := ⟨by decide +kernel, rfl⟩
theorem kX6_bestAt_5 : Dk mtX6_bestAt 5 (.iload_n 1) 1 6 := ⟨by decide +kernel, rfl⟩
theorem kX6_bestAt_6 : Dk mtX6_bestAt 6 (.invokestatic 59) 3 9 := ⟨by decide +kernel, rfl⟩
theorem kX6_bestAt_9 : Dk mtX6_bestAt 9 (.ifCond .ne 9) 3 12 := ⟨by decide +kernel, rfl⟩
theorem kX6_bestAt_12 : Dk mtX6_bestAt 12 (.aload_n 0) 1 13 := ⟨by decide +kernel, rfl⟩
theorem kX6_bestAt_13 : Dk mtX6_bestAt 13 (.iconst 1) 1 14 := ⟨by decide +kernel, rfl⟩
theorem kX6_bestAt_14 : Dk mtX6_bestAt 14 (.invokevirtual 127) 3 17 := ⟨by decide +kernel, rfl⟩
theorem kX6_bestAt_17 : Dk mtX6_bestAt 17 (.ireturn) 1 18 := ⟨by decide +kernel, rfl⟩
theorem kX6_bestAt_18 : Dk mtX6_bestAt 18 (.iload_n 2) 1 19 := ⟨by decide +kernel, rfl⟩
theorem kX6_bestAt_19 : Dk mtX6_bestAt 19 (.iconst 0) 1 20 := ⟨by decide +kernel, rfl⟩
theorem kX6_bestAt_20 : Dk mtX6_bestAt 20 (.iconst 1) 1 21 := ⟨by decide +kernel, rfl⟩
theorem kX6_bestAt_21 : Dk mtX6_bestAt 21 (.invokestatic 39) 3 24 := ⟨by decide +kernel, rfl⟩
theorem kX6_bestAt_24 : Dk mtX6_bestAt 24 (.ifCond .ne 9) 3 27 := ⟨by decide +kernel, rfl⟩
theorem kX6_bestAt_27 : Dk mtX6_bestAt 27 (.aload_n 0) 1 28 := ⟨by decide +kernel, rfl⟩
theorem kX6_bestAt_28 : Dk mtX6_bestAt 28 (.iconst 2) 1 29 := ⟨by decide +kernel, rfl⟩
theorem kX6_bestAt_29 : Dk mtX6_bestAt 29 (.invokevirtual 127) 3 32 := ⟨by decide +kernel, rfl⟩
theorem kX6_bestAt_32 : Dk mtX6_bestAt 32 (.ireturn) 1 33 := ⟨by decide +kernel, rfl⟩
theorem kX6_bestAt_33 : Dk mtX6_bestAt 33 (.aload_n 0) 1 34 := ⟨by decide +kernel, rfl⟩
theorem kX6_bestAt_34 : Dk mtX6_bestAt 34 (.iload_n 1) 1 35 := ⟨by decide +kernel, rfl⟩
theorem kX6_bestAt_35 : Dk mtX6_bestAt 35 (.invokevirtual 194) 3 38 := ⟨by decide +kernel, rfl⟩
theorem kX6_bestAt_38 : Dk mtX6_bestAt 38 (.istore_n 3) 1 39 := ⟨by decide +kernel, rfl⟩
theorem kX6_bestAt_39 : Dk mtX6_bestAt 39 (.iload_n 2) 1 40 := ⟨by decide +kernel, rfl⟩
theorem kX6_bestAt_40 : Dk mtX6_bestAt 40 (.ifCond .ne 7) 3 43 := ⟨by decide +kernel, rfl⟩
theorem kX6_bestAt_43 : Dk mtX6_bestAt 43 (.iload_n 3) 1 44 := ⟨by decide +kernel, rfl⟩
theorem kX6_bestAt_44 : Dk mtX6_bestAt 44 (.goto 18) 3 47 := ⟨by decide +kernel, rfl⟩
theorem kX6_bestAt_47 : Dk mtX6_bestAt 47 (.iload_n 3) 1 48 := ⟨by decide +kernel, rfl⟩
theorem kX6_bestAt_48 : Dk mtX6_bestAt 48 (.iconst (-1)) 1 49 := ⟨by decide +kernel, rfl⟩
theorem kX6_bestAt_49 : Dk mtX6_bestAt 49 (.if_icmp .ne 7) 3 52 := ⟨by decide +kernel, rfl⟩
theorem kX6_bestAt_52 : Dk mtX6_bestAt 52 (.iconst 0) 1 53 := ⟨by decide +kernel, rfl⟩
theorem kX6_bestAt_53 : Dk mtX6_bestAt 53 (.goto 9) 3 56 := ⟨by decide +kernel, rfl⟩
theorem kX6_bestAt_56 : Dk mtX6_bestAt 56 (.aload_n 0) 1 57 := ⟨by decide +kernel, rfl⟩
theorem kX6_bestAt_57 : Dk mtX6_bestAt 57 (.iload_n 3) 1 58 := ⟨by decide +kernel, rfl⟩
theorem kX6_bestAt_58 : Dk mtX6_bestAt 58 (.iload_n 1) 1 59 := ⟨by decide +kernel, rfl⟩
theorem kX6_bestAt_59 : Dk mtX6_bestAt 59 (.invokevirtual 56) 3 62 := ⟨by decide +kernel, rfl⟩
theorem kX6_bestAt_62 : Dk mtX6_bestAt 62 (.ireturn) 1 63 := ⟨by decide +kernel, rfl⟩
theorem lmX6_194 : LkM RX6 194 mtX6_best := Or.inl (by decide +kernel)
theorem mkX6_best : MkV mtX6_best 1 := ⟨List.mem_of_getElem? (i := 1269) (by decide +kernel), by decide +kernel, by decide +kernel, by decide +kernel, ⟨by decide +kernel, by decide +kernel, by decide +kernel⟩⟩
set_option maxHeartbeats 4000000 in
set_option maxRecDepth 100000 in
theorem ct_bestAt {l : Launch} {w : Wd} {sg : Sg} (hWr : Wr w) {mo : Nat} (a b : Int32) (hI : Inv (sg (mo + 1))) : M l mtX6_bestAt w [vR (some (6, 0, mo)), vI a, vI b] sg (fM mo sg (K_bestAt a b) (R_bestAt (sg (mo + 1)) a b) sg) := by
  refine M_of [some (vR (some (6, 0, mo))), some (vI a), some (vI b), none] rfl (Nat.le_of_ble_eq_true rfl) (by decide +kernel) ?_
  intro p_ e_ s_ m_ args_ below_ meth_ c_ hC hO
  refine V_aload_n hC kX6_bestAt_0 rfl ?_
  refine V_iconst hC (0) kX6_bestAt_1 (by decide) ?_
  refine V_putI hC 6 0 lfX6_32 kX6_bestAt_2 (Nat.le_of_ble_eq_true rfl) (Nat.le_of_ble_eq_true rfl) rfl rfl ⟨rfl, rfl⟩ ?_
  refine V_nameS (fun sg0 e_sg0 => ?_)
  have hs1 : sg0 (mo + 1) = sg (mo + 1) := by rw [e_sg0]; exact upr_ne _ _ (by omega)
  refine V_iload_n hC kX6_bestAt_5 rfl ?_
  refine V_cS_fI hC (ct_isPlace hWr a) mkX6_isPlace lmX6_59 kX6_bestAt_6 rfl rfl (Nat.le_of_ble_eq_true rfl) ⟨(Nat.le_of_ble_eq_true rfl), (Nat.le_of_ble_eq_true rfl)⟩ ⟨rfl, rfl⟩ ⟨(Nat.le_of_ble_eq_true rfl), (Nat.le_of_ble_eq_true rfl)⟩ ?_
  refine V_if_ne hC 18 kX6_bestAt_9 (by decide) (fun h9 => ?_) (fun h9 => ?_)
  · refine V_iload_n hC kX6_bestAt_18 rfl ?_
    refine V_iconst hC (0) kX6_bestAt_19 (by decide) ?_
    refine V_iconst hC (1) kX6_bestAt_20 (by decide) ?_
    refine V_cS_fI hC (ct_in hWr _ _ _) mkX6_in lmX6_39 kX6_bestAt_21 rfl rfl (Nat.le_of_ble_eq_true rfl) ⟨(Nat.le_of_ble_eq_true rfl), (Nat.le_of_ble_eq_true rfl)⟩ ⟨rfl, rfl⟩ ⟨(Nat.le_of_ble_eq_true rfl), (Nat.le_of_ble_eq_true rfl)⟩ ?_
    refine V_if_ne hC 33 kX6_bestAt_24 (by decide) (fun h24 => ?_) (fun h24 => ?_)
    · have hK : K_bestAt a b = 0 := by rw [K_bestAt, if_pos (b01n.mp h9), if_pos (b01n.mp h24)]
      refine V_aload_n hC kX6_bestAt_33 rfl ?_
      refine V_iload_n hC kX6_bestAt_34 rfl ?_
      refine V_cV_fI hC (ct_best hWr a (by rw [hs1]; exact hI.hc4) (fun n hn => by rw [hs1] at hn ⊢; exact hI.ne hn)) mkX6_best lmX6_194 kX6_bestAt_35 (Nat.le_of_ble_eq_true rfl) rfl rfl rfl (Nat.le_of_ble_eq_true rfl) ⟨(Nat.le_of_ble_eq_true rfl), (Nat.le_of_ble_eq_true rfl)⟩ ⟨rfl, rfl⟩ ⟨(Nat.le_of_ble_eq_true rfl), (Nat.le_of_ble_eq_true rfl)⟩ ?_
      refine V_nameI (fun bs e_bs => ?_)
      refine V_istore_n hC [some _, some _, some _, some _] kX6_bestAt_38 rfl (Nat.le_of_ble_eq_true rfl) ?_
      refine V_iload_n hC kX6_bestAt_39 rfl ?_
      refine V_if_ne hC 47 kX6_bestAt_40 (by decide) (fun h40 => ?_) (fun h40 => ?_)
      · refine V_iload_n hC kX6_bestAt_47 rfl ?_
        refine V_iconst hC (-1) kX6_bestAt_48 (by decide) ?_
        refine V_icmp_ne hC 56 kX6_bestAt_49 (by decide) (fun h49 => ?_) (fun h49 => ?_)
        · obtain ⟨j, hj, ej⟩ : ∃ j, j < tn (sg (mo + 1) 4) ∧ bs = nI j := by
            rw [hs1] at e_bs
            rcases F_bestN_in (sg (mo + 1)) a (tn (sg (mo + 1) 4)) with z | z
            · exact absurd (e_bs.trans z) h49
            · obtain ⟨j, h1, h2⟩ := z
              exact ⟨j, h1, e_bs.trans h2⟩
          refine V_aload_n hC kX6_bestAt_56 rfl ?_
          refine V_iload_n hC kX6_bestAt_57 rfl ?_
          refine V_iload_n hC kX6_bestAt_58 rfl ?_
          refine V_cV_fI hC (ct_worth hWr bs a (by rw [ej]; exact vp_in_nI (by have := hI.c4.1; omega) (by decide)) (fun _ => by rw [hs1, ej]; exact hI.ne hj)) mkX6_worth lmX6_56 kX6_bestAt_59 (Nat.le_of_ble_eq_true rfl) rfl rfl rfl (Nat.le_of_ble_eq_true rfl) ⟨(Nat.le_of_ble_eq_true rfl), (Nat.le_of_ble_eq_true rfl)⟩ ⟨rfl, rfl⟩ ⟨(Nat.le_of_ble_eq_true rfl), (Nat.le_of_ble_eq_true rfl)⟩ ?_
          refine V_ireti hC rfl kX6_bestAt_62 ?_
          rw [hs1] at e_bs
          subst e_bs
          first
            | exact fM_ok hK (by rw [R_bestAt, if_pos h40]) e_sg0
            | exact fM_ok hK (by rw [R_bestAt, if_neg h40, if_pos h49]) e_sg0
            | exact fM_ok hK (by rw [hs1, R_bestAt, if_neg h40, if_neg h49]) e_sg0
        · refine V_iconst hC (0) kX6_bestAt_52 (by decide) ?_
          refine V_goto hC 62 kX6_bestAt_53 (by decide) ?_
          refine V_ireti hC rfl kX6_bestAt_62 ?_
          rw [hs1] at e_bs
          subst e_bs
          first
            | exact fM_ok hK (by rw [R_bestAt, if_pos h40]) e_sg0
            | exact fM_ok hK (by rw [R_bestAt, if_neg h40, if_pos h49]) e_sg0
            | exact fM_ok hK (by rw [hs1, R_bestAt, if_neg h40, if_neg h49]) e_sg0
      · refine V_iload_n hC kX6_bestAt_43 rfl ?_
        refine V_goto hC 62 kX6_bestAt_44 (by decide) ?_
        refine V_ireti hC rfl kX6_bestAt_62 ?_
        rw [hs1] at e_bs
        subst e_bs
        first
          | exact fM_ok hK (by rw [R_bestAt, if_pos h40]) e_sg0
          | exact fM_ok hK (by rw [R_bestAt, if_neg h40, if_pos h49]) e_sg0
          | exact fM_ok hK (by rw [hs1, R_bestAt, if_neg h40, if_neg h49]) e_sg0
    · refine V_aload_n hC kX6_bestAt_27 rfl ?_
      refine V_iconst hC (2) kX6_bestAt_28 (by decide) ?_
      refine V_cV_fI hC (ct_fails hWr 2) mkX6_fails lmX6_127 kX6_bestAt_29 (Nat.le_of_ble_eq_true rfl) rfl rfl rfl (Nat.le_of_ble_eq_true rfl) ⟨(Nat.le_of_ble_eq_true rfl), (Nat.le_of_ble_eq_true rfl)⟩ ⟨rfl, rfl⟩ ⟨(Nat.le_of_ble_eq_true rfl), (Nat.le_of_ble_eq_true rfl)⟩ ?_
      refine V_ireti hC rfl kX6_bestAt_32 ?_
      exact fM_no 2 (by rw [K_bestAt, if_pos (b01n.mp h9), if_neg (b01e.mp h24)]) (by decide) (by rw [e_sg0, ups_ups])
  · refine V_aload_n hC kX6_bestAt_12 rfl ?_
    refine V_iconst hC (1) kX6_bestAt_13 (by decide) ?_
    refine V_cV_fI hC (ct_fails hWr 1) mkX6_fails lmX6_127 kX6_bestAt_14 (Nat.le_of_ble_eq_true rfl) rfl rfl rfl (Nat.le_of_ble_eq_true rfl) ⟨(Nat.le_of_ble_eq_true rfl), (Nat.le_of_ble_eq_true rfl)⟩ ⟨rfl, rfl⟩ ⟨(Nat.le_of_ble_eq_true rfl), (Nat.le_of_ble_eq_true rfl)⟩ ?_
    refine V_ireti hC rfl kX6_bestAt_17 ?_
    exact fM_no 1 (by rw [K_bestAt, if_neg (b01e.mp h9)]) (by decide) (by rw [e_sg0, ups_ups])
def mtX6_setting : Mt := (yX6_setting, cX6_setting, 2, (some .int), 1, 22, 0, 0)
theorem kX6_setting_0 : Dk mtX6_setting 0 (.aload_n 0) 1 1 := ⟨by decide +kernel, rfl⟩
theorem kX6_setting_1 : Dk mtX6_setting 1 (.iconst 0) 1 2 := ⟨by decide +kernel, rfl⟩
theorem kX6_setting_2 : Dk mtX6_setting 2 (.putfield 32) 3 5 := ⟨by decide +kernel, rfl⟩
theorem kX6_setting_5 : Dk mtX6_setting 5 (.iload_n 1) 1 6 := ⟨by decide +kernel, rfl⟩
theorem kX6_setting_6 : Dk mtX6_setting 6 (.iconst 0) 1 7 := ⟨by decide +kernel, rfl⟩
theorem kX6_setting_7 : Dk mtX6_setting 7 (.iconst 3) 1 8 := ⟨by decide +kernel, rfl⟩
theorem kX6_setting_8 : Dk mtX6_setting 8 (.invokestatic 39) 3 11 := ⟨by decide +kernel, rfl⟩
theorem kX6_setting_11 : Dk mtX6_setting 11 (.ifCond .eq 12) 3 14 := ⟨by decide +kernel, rfl⟩
theorem kX6_setting_14 : Dk mtX6_setting 14 (.aload_n 0) 1 15 := ⟨by decide +kernel, rfl⟩
theorem kX6_setting_15 : Dk mtX6_setting 15 (.getfield 7) 3 18 := ⟨by decide +kernel, rfl⟩
theorem kX6_setting_18 : Dk mtX6_setting 18 (.iload_n 1) 1 19 := ⟨by decide +kernel, rfl⟩
theorem kX6_setting_19 : Dk mtX6_setting 19 (.iaload) 1 20 := ⟨by decide +kernel, rfl⟩
theorem kX6_setting_20 : Dk mtX6_setting 20 (.goto 8) 3 23 := ⟨by decide +kernel, rfl⟩
theorem kX6_setting_23 : Dk mtX6_setting 23 (.aload_n 0) 1 24 := ⟨by decide +kernel, rfl⟩
theorem kX6_setting_24 : Dk mtX6_setting 24 (.iconst 1) 1 25 := ⟨by decide +kernel, rfl⟩
theorem kX6_setting_25 : Dk mtX6_setting 25 (.invokevirtual 127) 3 28 := ⟨by decide +kernel, rfl⟩
theorem kX6_setting_28 : Dk mtX6_setting 28 (.ireturn) 1 29 := ⟨by decide +kernel, rfl⟩
set_option maxHeartbeats 4000000 in
set_option maxRecDepth 100000 in
theorem ct_setting {l : Launch} {w : Wd} {sg : Sg} (hWr : Wr w) {mo : Nat} (a : Int32) : M l mtX6_setting w [vR (some (6, 0, mo)), vI a] sg (fM mo sg (K_setting a) ((sg (mo + 1)) (tn a)) sg) := by
  refine M_of [some (vR (some (6, 0, mo))), some (vI a)] rfl (Nat.le_of_ble_eq_true rfl) (by decide +kernel) ?_
  intro p_ e_ s_ m_ args_ below_ meth_ c_ hC hO
  refine V_aload_n hC kX6_setting_0 rfl ?_
  refine V_iconst hC (0) kX6_setting_1 (by decide) ?_
  refine V_putI hC 6 0 lfX6_32 kX6_setting_2 (Nat.le_of_ble_eq_true rfl) (Nat.le_of_ble_eq_true rfl) rfl rfl ⟨rfl, rfl⟩ ?_
  refine V_nameS (fun sg0 e_sg0 => ?_)
  have hs1 : sg0 (mo + 1) = sg (mo + 1) := by rw [e_sg0]; exact upr_ne _ _ (by omega)
  refine V_iload_n hC kX6_setting_5 rfl ?_
  refine V_iconst hC (0) kX6_setting_6 (by decide) ?_
  refine V_iconst hC (3) kX6_setting_7 (by decide) ?_
  refine V_cS_fI hC (ct_in hWr _ _ _) mkX6_in lmX6_39 kX6_setting_8 rfl rfl (Nat.le_of_ble_eq_true rfl) ⟨(Nat.le_of_ble_eq_true rfl), (Nat.le_of_ble_eq_true rfl)⟩ ⟨rfl, rfl⟩ ⟨(Nat.le_of_ble_eq_true rfl), (Nat.le_of_ble_eq_true rfl)⟩ ?_
  refine V_if_eq hC 23 kX6_setting_11 (by decide) (fun h11 => ?_) (fun h11 => ?_)
  · refine V_aload_n hC kX6_setting_23 rfl ?_
    refine V_iconst hC (1) kX6_setting_24 (by decide) ?_
    refine V_cV_fI hC (ct_fails hWr 1) mkX6_fails lmX6_127 kX6_setting_25 (Nat.le_of_ble_eq_true rfl) rfl rfl rfl (Nat.le_of_ble_eq_true rfl) ⟨(Nat.le_of_ble_eq_true rfl), (Nat.le_of_ble_eq_true rfl)⟩ ⟨rfl, rfl⟩ ⟨(Nat.le_of_ble_eq_true rfl), (Nat.le_of_ble_eq_true rfl)⟩ ?_
    refine V_ireti hC rfl kX6_setting_28 ?_
    first
      | exact fM_no 1 (by rw [K_setting, if_neg (b01e.mp h11)]) (by decide) (by rw [e_sg0, ups_ups])
      | exact fM_ok (by rw [K_setting, if_pos (b01n.mp h11)]) (by rw [hs1]) e_sg0
  · refine V_aload_n hC kX6_setting_14 rfl ?_
    refine V_getR hC hWr 6 1 lfX6_7 kX6_setting_15 (Nat.le_of_ble_eq_true rfl) (Nat.le_of_ble_eq_true rfl) rfl ?_
    refine V_iload_n hC kX6_setting_18 rfl ?_
    refine V_iald hC _ rfl kX6_setting_19 (inn_vp (by decide) (b01n.mp h11)) ?_
    refine V_goto hC 28 kX6_setting_20 (by decide) ?_
    refine V_ireti hC rfl kX6_setting_28 ?_
    first
      | exact fM_no 1 (by rw [K_setting, if_neg (b01e.mp h11)]) (by decide) (by rw [e_sg0, ups_ups])
      | exact fM_ok (by rw [K_setting, if_pos (b01n.mp h11)]) (by rw [hs1]) e_sg0
end
section
-- HOW ct_in fI
-- HOW ct_fails fI
-- HOW ct_of fI
-- HOW ct_ofBoat fI
-- HOW ct_layBoat fV
-- HOW ct_isLight fI
-- HOW ct_isBoat fI
-- HOW ct_isPlace fI
-- HOW ct_bright fI
-- HOW ct_worth fI
-- HOW ct_serves fI
-- HOW ct_best fI
-- HOW ct_sails fV
-- HOW ct_drops fV
-- HOW ct_wished fI
-- HOW ct_hands fV
-- HOW ct_wishes fV
-- HOW ct_finds fV
-- HOW ct_goesOn fV
-- HOW ct_goesTick fV
-- HOW ct_goesBy fI
-- HOW ct_putAside fV
-- HOW ct_takeBack fV
-- HOW ct_isLamp fI
-- HOW ct_addsLight fI
-- HOW ct_actsLight fI
-- HOW ct_addsBoat fI
-- HOW ct_actsBoat fI
-- HOW ct_actsSteer fI
-- HOW ct_canTalk fI
-- HOW ct_actsTalk fI
-- HOW ct_actsLean fI
-- HOW ct_actsDim fI
-- HOW ct_mostOf fI
-- HOW ct_isSetting fI
-- HOW ct_actsSet fI
-- HOW ct_actsTicks fI
-- HOW ct_boatsThat fI
-- HOW ct_servedBy fI
-- HOW ct_begins fV
-- HOW ct_tellsAbout fI
-- HOW ct_about fM
-- HOW ct_lightOf fM
-- HOW ct_boatOf fM
-- HOW ct_brightness fM
-- HOW ct_bestAt fM
-- HOW ct_setting fM
-- HOW ct_saves fV
-- HOW ct_light fM
-- HOW ct_boat fM
-- HOW ct_steer fM
-- HOW ct_talk fM
-- HOW ct_lean fM
-- HOW ct_dim fM
-- HOW ct_set fM
-- HOW ct_ticks fM
-- HOW ct_undo fM
-- HOW ct_save fM
-- HOW ct_restore fM
/-! the reference: actions of the face, undo, slots -/
def mtX6_saves : Mt := (yX6_saves, cX6_saves, 2, none, 0, 0, 0, 0)
theorem kX6_saves_0 : Dk mtX6_saves 0 (.aload_n 0) 1 1 := ⟨by decide +kernel, rfl⟩
theorem kX6_saves_1 : Dk mtX6_saves 1 (.getfield 43) 3 4 := ⟨by decide +kernel, rfl⟩
theorem kX6_saves_4 : Dk mtX6_saves 4 (.bipush 14) 2 6 := ⟨by decide +kernel, rfl⟩
theorem kX6_saves_6 : Dk mtX6_saves 6 (.if_icmp .ne 44) 3 9 := ⟨by decide +kernel, rfl⟩
theorem kX6_saves_9 : Dk mtX6_saves 9 (.iconst 0) 1 10 := ⟨by decide +kernel, rfl⟩
theorem kX6_saves_10 : Dk mtX6_saves 10 (.istore_n 1) 1 11 := ⟨by decide +kernel, rfl⟩
theorem kX6_saves_11 : Dk mtX6_saves 11 (.iload_n 1) 1 12 := ⟨by decide +kernel, rfl⟩
theorem kX6_saves_12 : Dk mtX6_saves 12 (.sipush 1820) 3 15 := ⟨by decide +kernel, rfl⟩
theorem kX6_saves_15 : Dk mtX6_saves 15 (.if_icmp .ge 25) 3 18 := ⟨by decide +kernel, rfl⟩
theorem kX6_saves_18 : Dk mtX6_saves 18 (.aload_n 0) 1 19 := ⟨by decide +kernel, rfl⟩
theorem kX6_saves_19 : Dk mtX6_saves 19 (.getfield 16) 3 22 := ⟨by decide +kernel, rfl⟩
theorem kX6_saves_22 : Dk mtX6_saves 22 (.iload_n 1) 1 23 := ⟨by decide +kernel, rfl⟩
theorem kX6_saves_23 : Dk mtX6_saves 23 (.aload_n 0) 1 24 := ⟨by decide +kernel, rfl⟩
theorem kX6_saves_24 : Dk mtX6_saves 24 (.getfield 16) 3 27 := ⟨by decide +kernel, rfl⟩
theorem kX6_saves_27 : Dk mtX6_saves 27 (.iload_n 1) 1 28 := ⟨by decide +kernel, rfl⟩
theorem kX6_saves_28 : Dk mtX6_saves 28 (.sipush 140) 3 31 := ⟨by decide +kernel, rfl⟩
theorem kX6_saves_31 : Dk mtX6_saves 31 (.iadd) 1 32 := ⟨by decide +kernel, rfl⟩
theorem kX6_saves_32 : Dk mtX6_saves 32 (.iaload) 1 33 := ⟨by decide +kernel, rfl⟩
theorem kX6_saves_33 : Dk mtX6_saves 33 (.iastore) 1 34 := ⟨by decide +kernel, rfl⟩
theorem kX6_saves_34 : Dk mtX6_saves 34 (.iinc 1 1) 3 37 := ⟨by decide +kernel, rfl⟩
theorem kX6_saves_37 : Dk mtX6_saves 37 (.goto (-26)) 3 40 := ⟨by decide +kernel, rfl⟩
theorem kX6_saves_40 : Dk mtX6_saves 40 (.aload_n 0) 1 41 := ⟨by decide +kernel, rfl⟩
theorem kX6_saves_41 : Dk mtX6_saves 41 (.dup) 1 42 := ⟨by decide +kernel, rfl⟩
theorem kX6_saves_42 : Dk mtX6_saves 42 (.getfield 43) 3 45 := ⟨by decide +kernel, rfl⟩
theorem kX6_saves_45 : Dk mtX6_saves 45 (.iconst 1) 1 46 := ⟨by decide +kernel, rfl⟩
theorem kX6_saves_46 : Dk mtX6_saves 46 (.isub) 1 47 := ⟨by decide +kernel, rfl⟩
theorem kX6_saves_47 : Dk mtX6_saves 47 (.putfield 43) 3 50 := ⟨by decide +kernel, rfl⟩
theorem kX6_saves_50 : Dk mtX6_saves 50 (.iconst 0) 1 51 := ⟨by decide +kernel, rfl⟩
theorem kX6_saves_51 : Dk mtX6_saves 51 (.istore_n 1) 1 52 := ⟨by decide +kernel, rfl⟩
theorem kX6_saves_52 : Dk mtX6_saves 52 (.iload_n 1) 1 53 := ⟨by decide +kernel, rfl⟩
theorem kX6_saves_53 : Dk mtX6_saves 53 (.sipush 140) 3 56 := ⟨by decide +kernel, rfl⟩
theorem kX6_saves_56 : Dk mtX6_saves 56 (.if_icmp .ge 30) 3 59 := ⟨by decide +kernel, rfl⟩
theorem kX6_saves_59 : Dk mtX6_saves 59 (.aload_n 0) 1 60 := ⟨by decide +kernel, rfl⟩
theorem kX6_saves_60 : Dk mtX6_saves 60 (.getfield 16) 3 63 := ⟨by decide +kernel, rfl⟩
theorem kX6_saves_63 : Dk mtX6_saves 63 (.sipush 140) 3 66 := ⟨by decide +kernel, rfl⟩
theorem kX6_saves_66 : Dk mtX6_saves 66 (.aload_n 0) 1 67 := ⟨by decide +kernel, rfl⟩
theorem kX6_saves_67 : Dk mtX6_saves 67 (.getfield 43) 3 70 := ⟨by decide +kernel, rfl⟩
theorem kX6_saves_70 : Dk mtX6_saves 70 (.imul) 1 71 := ⟨by decide +kernel, rfl⟩
theorem kX6_saves_71 : Dk mtX6_saves 71 (.iload_n 1) 1 72 := ⟨by decide +kernel, rfl⟩
theorem kX6_saves_72 : Dk mtX6_saves 72 (.iadd) 1 73 := ⟨by decide +kernel, rfl⟩
theorem kX6_saves_73 : Dk mtX6_saves 73 (.aload_n 0) 1 74 := ⟨by decide +kernel, rfl⟩
theorem kX6_saves_74 : Dk mtX6_saves 74 (.getfield 7) 3 77 := ⟨by decide +kernel, rfl⟩
theorem kX6_saves_77 : Dk mtX6_saves 77 (.iload_n 1) 1 78 := ⟨by decide +kernel, rfl⟩
theorem kX6_saves_78 : Dk mtX6_saves 78 (.iaload) 1 79 := ⟨by decide +kernel, rfl⟩
theorem kX6_saves_79 : Dk mtX6_saves 79 (.iastore) 1 80 := ⟨by decide +kernel, rfl⟩
theorem kX6_saves_80 : Dk mtX6_saves 80 (.iinc 1 1) 3 83 := ⟨by decide +kernel, rfl⟩
theorem kX6_saves_83 : Dk mtX6_saves 83 (.goto (-31)) 3 86 := ⟨by decide +kernel, rfl⟩
theorem kX6_saves_86 : Dk mtX6_saves 86 (.aload_n 0) 1 87 := ⟨by decide +kernel, rfl⟩
theorem kX6_saves_87 : Dk mtX6_saves 87 (.dup) 1 88 := ⟨by decide +kernel, rfl⟩
theorem kX6_saves_88 : Dk mtX6_saves 88 (.getfield 43) 3 91 := ⟨by decide +kernel, rfl⟩
theorem kX6_saves_91 : Dk mtX6_saves 91 (.iconst 1) 1 92 := ⟨by decide +kernel, rfl⟩
theorem kX6_saves_92 : Dk mtX6_saves 92 (.iadd) 1 93 := ⟨by decide +kernel, rfl⟩
theorem kX6_saves_93 : Dk mtX6_saves 93 (.putfield 43) 3 96 := ⟨by decide +kernel, rfl⟩
theorem kX6_saves_96 : Dk mtX6_saves 96 (.return_) 1 97 := ⟨by decide +kernel, rfl⟩
theorem lfX6_43 : LkF RX6 43 6 4 := Or.inl (by decide +kernel)
theorem lfX6_16 : LkF RX6 16 6 3 := Or.inl (by decide +kernel)
set_option maxHeartbeats 4000000 in
set_option maxRecDepth 100000 in
theorem ct_saves {l : Launch} {w : Wd} {sg : Sg} (hWr : Wr w) {mo c : Nat} (hc : c ≤ 14) (ec : sg mo 4 = nI c) : M l mtX6_saves w [vR (some (6, 0, mo))] sg (fV0 (G_saves sg mo c)) := by
  refine M_of [some (vR (some (6, 0, mo))), none] rfl (Nat.le_of_ble_eq_true rfl) (by decide +kernel) ?_
  intro p_ e_ s_ m_ args_ below_ meth_ c_ hC hO
  refine V_joinS 50 (if c = 14 then ups (upr sg (mo + 3) (cpy (fun z => sg (mo + 3) (z + 140)) (sg (mo + 3)) 1820)) mo 4 13 else sg) ?_ (fun j50 => ?_)
  · generalize hg1 : (if c = 14 then ups (upr sg (mo + 3) (cpy (fun z => sg (mo + 3) (z + 140)) (sg (mo + 3)) 1820)) mo 4 13 else sg) = sg1
    have hs4 : sg1 mo 4 = nI (csv c) := by
      rw [← hg1]
      unfold csv
      split
      · rw [ups_at]; exact pk_us
      · exact ec
    have hs1 : sg1 (mo + 1) = sg (mo + 1) := by
      rw [← hg1]
      split
      · rw [ups_ne _ _ _ (by omega), upr_ne _ _ (by omega)]
      · rfl
    have hs3 : sg1 (mo + 3) = (if c = 14 then cpy (fun z => sg (mo + 3) (z + 140)) (sg (mo + 3)) 1820 else sg (mo + 3)) := by
      rw [← hg1]
      split
      · rw [ups_ne _ _ _ (by omega), upr_at]
      · rfl
    have hc13 := csv_le hc
    refine V_iconst hC (0) kX6_saves_50 (by decide) ?_
    refine V_istore_n hC [some _, some _] kX6_saves_51 rfl (Nat.le_of_ble_eq_true rfl) ?_
    refine V_canon (upr sg1 (mo + 3) (fb_put (sg1 (mo + 3)) (sg (mo + 1)) (140 * csv c) 0)) (by rw [fb_put_0, upr_self]) ?_
    refine V_loop 140 (fun i => [some (vR (some (6, 0, mo))), some (vI (nI i))]) (fun i => upr sg1 (mo + 3) (fb_put (sg1 (mo + 3)) (sg (mo + 1)) (140 * csv c) i)) rfl rfl ?_ (fun i hi ihi => ?_)
    · refine V_iload_n hC kX6_saves_52 rfl ?_
      refine V_sipush hC (140) kX6_saves_53 (by decide) ?_
      refine V_icmp_ge hC 86 kX6_saves_56 (by decide) (fun h56 => ?_) (fun h56 => absurd h56 (not_not_intro (nI_lit rfl)))
      refine V_aload_n hC kX6_saves_86 rfl ?_
      refine V_dup hC kX6_saves_87 rfl ?_
      refine V_getI hC 6 4 lfX6_43 kX6_saves_88 (Nat.le_of_ble_eq_true rfl) (Nat.le_of_ble_eq_true rfl) rfl ?_
      refine V_iconst hC (1) kX6_saves_91 (by decide) ?_
      refine V_iadd hC kX6_saves_92 ?_
      refine V_putI hC 6 4 lfX6_43 kX6_saves_93 (Nat.le_of_ble_eq_true rfl) (Nat.le_of_ble_eq_true rfl) rfl rfl ⟨rfl, rfl⟩ ?_
      refine V_vret hC rfl kX6_saves_96 ?_
      refine ⟨by with_reducible rfl, ?_⟩
      rw [upr_ne _ _ (by omega), hs4, nI_1, hs3]
      unfold G_saves F_sv
      rw [← hg1]
      unfold csv
      split
      · rw [← ups_upr (upr sg (mo + 3) _) (k := mo + 3) (k' := mo) 4 13 _ (by omega), upr_upr, ups_ups]
      · rfl
    · have he4 : upr sg1 (mo + 3) (fb_put (sg1 (mo + 3)) (sg (mo + 1)) (140 * csv c) i) mo 4 = nI (csv c) := by rw [upr_ne _ _ (by omega)]; exact hs4
      refine V_iload_n hC kX6_saves_52 rfl ?_
      refine V_sipush hC (140) kX6_saves_53 (by decide) ?_
      refine V_icmp_ge hC 86 kX6_saves_56 (by decide) (fun h56 => absurd h56 (by exact nI_ge (b := 140) hi (by decide))) (fun h56 => ?_)
      refine V_aload_n hC kX6_saves_59 rfl ?_
      refine V_getR hC hWr 6 3 lfX6_16 kX6_saves_60 (Nat.le_of_ble_eq_true rfl) (Nat.le_of_ble_eq_true rfl) rfl ?_
      refine V_sipush hC (140) kX6_saves_63 (by decide) ?_
      refine V_aload_n hC kX6_saves_66 rfl ?_
      refine V_getI hC 6 4 lfX6_43 kX6_saves_67 (Nat.le_of_ble_eq_true rfl) (Nat.le_of_ble_eq_true rfl) rfl ?_
      refine V_imul hC kX6_saves_70 ?_
      refine V_iload_n hC kX6_saves_71 rfl ?_
      refine V_iadd hC kX6_saves_72 ?_
      refine V_aload_n hC kX6_saves_73 rfl ?_
      refine V_getR hC hWr 6 1 lfX6_7 kX6_saves_74 (Nat.le_of_ble_eq_true rfl) (Nat.le_of_ble_eq_true rfl) rfl ?_
      refine V_iload_n hC kX6_saves_77 rfl ?_
      refine V_iald hC i (nI_clamp (by omega)) kX6_saves_78 (vp_in_nI hi (by decide)) ?_
      refine V_iast hC (140 * csv c + i) (ix_eq (a := 140) (by omega) rfl he4) kX6_saves_79 (ix_in (a := 140) (by omega) (by decide) rfl he4) ?_
      refine V_iinc hC (_ + 1) [some _, some _] kX6_saves_80 rfl rfl rfl (Nat.le_of_ble_eq_true rfl) ?_
      refine V_goto hC 52 kX6_saves_83 (by decide) ?_
      refine V_eq (by rw [nI_succ]) ?_ ihi
      unfold ups
      rw [upr_at, upr_upr, upr_ne _ _ (by omega), hs1, fb_put_succ]
  · refine V_aload_n hC kX6_saves_0 rfl ?_
    refine V_getI hC 6 4 lfX6_43 kX6_saves_1 (Nat.le_of_ble_eq_true rfl) (Nat.le_of_ble_eq_true rfl) rfl ?_
    refine V_bipush hC (14) kX6_saves_4 (by decide) ?_
    refine V_icmp_ne hC 50 kX6_saves_6 (by decide) (fun h6 => ?_) (fun h6 => ?_)
    · exact j50 _ (by rw [if_neg (fun z => h6 (by rw [ec, z]; rfl))])
    · have hc14 : c = 14 := by
        rw [ec] at h6
        exact (nI_eq (by omega) (by decide)).mp (h6.trans (show (14 : Int32) = nI 14 from rfl))
      refine V_iconst hC (0) kX6_saves_9 (by decide) ?_
      refine V_istore_n hC [some _, some _] kX6_saves_10 rfl (Nat.le_of_ble_eq_true rfl) ?_
      refine V_canon (upr sg (mo + 3) (cpy (fun z => sg (mo + 3) (z + 140)) (sg (mo + 3)) 0)) (by rw [cpy_0, upr_self]) ?_
      refine V_loop 1820 (fun i => [some (vR (some (6, 0, mo))), some (vI (nI i))]) (fun i => upr sg (mo + 3) (cpy (fun z => sg (mo + 3) (z + 140)) (sg (mo + 3)) i)) rfl rfl ?_ (fun i hi ihi => ?_)
      · refine V_iload_n hC kX6_saves_11 rfl ?_
        refine V_sipush hC (1820) kX6_saves_12 (by decide) ?_
        refine V_icmp_ge hC 40 kX6_saves_15 (by decide) (fun h15 => ?_) (fun h15 => absurd h15 (not_not_intro (nI_lit rfl)))
        refine V_aload_n hC kX6_saves_40 rfl ?_
        refine V_dup hC kX6_saves_41 rfl ?_
        refine V_getI hC 6 4 lfX6_43 kX6_saves_42 (Nat.le_of_ble_eq_true rfl) (Nat.le_of_ble_eq_true rfl) rfl ?_
        refine V_iconst hC (1) kX6_saves_45 (by decide) ?_
        refine V_isub hC kX6_saves_46 ?_
        refine V_putI hC 6 4 lfX6_43 kX6_saves_47 (Nat.le_of_ble_eq_true rfl) (Nat.le_of_ble_eq_true rfl) rfl rfl ⟨rfl, rfl⟩ ?_
        refine V_drop 1 [_, none] rfl ?_
        exact j50 _ (by rw [if_pos hc14, upr_ne _ _ (by omega), ec, hc14]; rfl)
      · refine V_iload_n hC kX6_saves_11 rfl ?_
        refine V_sipush hC (1820) kX6_saves_12 (by decide) ?_
        refine V_icmp_ge hC 40 kX6_saves_15 (by decide) (fun h15 => absurd h15 (by exact nI_ge (b := 1820) hi (by decide))) (fun h15 => ?_)
        refine V_aload_n hC kX6_saves_18 rfl ?_
        refine V_getR hC hWr 6 3 lfX6_16 kX6_saves_19 (Nat.le_of_ble_eq_true rfl) (Nat.le_of_ble_eq_true rfl) rfl ?_
        refine V_iload_n hC kX6_saves_22 rfl ?_
        refine V_aload_n hC kX6_saves_23 rfl ?_
        refine V_getR hC hWr 6 3 lfX6_16 kX6_saves_24 (Nat.le_of_ble_eq_true rfl) (Nat.le_of_ble_eq_true rfl) rfl ?_
        refine V_iload_n hC kX6_saves_27 rfl ?_
        refine V_sipush hC (140) kX6_saves_28 (by decide) ?_
        refine V_iadd hC kX6_saves_31 ?_
        refine V_iald hC (i + 140) (by rw [show nI i + 140 = nI (i + 140) from nI_add i 140]; exact nI_clamp (by omega)) kX6_saves_32 (by rw [show nI i + 140 = nI (i + 140) from nI_add i 140]; exact vp_in_nI (by omega) (by decide)) ?_
        refine V_iast hC i (nI_clamp (by omega)) kX6_saves_33 (vp_in_nI (by omega) (by decide)) ?_
        refine V_iinc hC (_ + 1) [some _, some _] kX6_saves_34 rfl rfl rfl (Nat.le_of_ble_eq_true rfl) ?_
        refine V_goto hC 11 kX6_saves_37 (by decide) ?_
        refine V_eq (by rw [nI_succ]) ?_ ihi
        unfold ups
        rw [upr_at, upr_upr, show cpy (fun z => sg (mo + 3) (z + 140)) (sg (mo + 3)) i (i + 140) = sg (mo + 3) (i + 140) from if_neg (by omega)]
        exact congrArg _ (cpy_s (fun z => sg (mo + 3) (z + 140)) _ i)
def mtX6_light : Mt := (yX6_light, cX6_light, 7, (some .int), 2, 47, 0, 0)
theorem kX6_light_0 : Dk mtX6_light 0 (.aload_n 0) 1 1 := ⟨by decide +kernel, rfl⟩
theorem kX6_light_1 : Dk mtX6_light 1 (.iconst 0) 1 2 := ⟨by decide +kernel, rfl⟩
theorem kX6_light_2 : Dk mtX6_light 2 (.putfield 32) 3 5 := ⟨by decide +kernel, rfl⟩
theorem kX6_light_5 : Dk mtX6_light 5 (.iload_n 1) 1 6 := ⟨by decide +kernel, rfl⟩
theorem kX6_light_6 : Dk mtX6_light 6 (.invokestatic 59) 3 9 := ⟨by decide +kernel, rfl⟩
theorem kX6_light_9 : Dk mtX6_light 9 (.ifCond .ne 9) 3 12 := ⟨by decide +kernel, rfl⟩
theorem kX6_light_12 : Dk mtX6_light 12 (.aload_n 0) 1 13 := ⟨by decide +kernel, rfl⟩
theorem kX6_light_13 : Dk mtX6_light 13 (.iconst 1) 1 14 := ⟨by decide +kernel, rfl⟩
theorem kX6_light_14 : Dk mtX6_light 14 (.invokevirtual 127) 3 17 := ⟨by decide +kernel, rfl⟩
theorem kX6_light_17 : Dk mtX6_light 17 (.ireturn) 1 18 := ⟨by decide +kernel, rfl⟩
theorem kX6_light_18 : Dk mtX6_light 18 (.iload_n 2) 1 19 := ⟨by decide +kernel, rfl⟩
theorem kX6_light_19 : Dk mtX6_light 19 (.iload_n 3) 1 20 := ⟨by decide +kernel, rfl⟩
theorem kX6_light_20 : Dk mtX6_light 20 (.iload 4) 2 22 := ⟨by decide +kernel, rfl⟩
theorem kX6_light_22 : Dk mtX6_light 22 (.iload 5) 2 24 := ⟨by decide +kernel, rfl⟩
theorem kX6_light_24 : Dk mtX6_light 24 (.iload 6) 2 26 := ⟨by decide +kernel, rfl⟩
theorem kX6_light_26 : Dk mtX6_light 26 (.invokestatic 97) 3 29 := ⟨by decide +kernel, rfl⟩
theorem kX6_light_29 : Dk mtX6_light 29 (.ifCond .ne 9) 3 32 := ⟨by decide +kernel, rfl⟩
theorem kX6_light_32 : Dk mtX6_light 32 (.aload_n 0) 1 33 := ⟨by decide +kernel, rfl⟩
theorem kX6_light_33 : Dk mtX6_light 33 (.iconst 2) 1 34 := ⟨by decide +kernel, rfl⟩
theorem kX6_light_34 : Dk mtX6_light 34 (.invokevirtual 127) 3 37 := ⟨by decide +kernel, rfl⟩
theorem kX6_light_37 : Dk mtX6_light 37 (.ireturn) 1 38 := ⟨by decide +kernel, rfl⟩
theorem kX6_light_38 : Dk mtX6_light 38 (.aload_n 0) 1 39 := ⟨by decide +kernel, rfl⟩
theorem kX6_light_39 : Dk mtX6_light 39 (.getfield 7) 3 42 := ⟨by decide +kernel, rfl⟩
theorem kX6_light_42 : Dk mtX6_light 42 (.iconst 4) 1 43 := ⟨by decide +kernel, rfl⟩
theorem kX6_light_43 : Dk mtX6_light 43 (.iaload) 1 44 := ⟨by decide +kernel, rfl⟩
theorem kX6_light_44 : Dk mtX6_light 44 (.bipush 6) 2 46 := ⟨by decide +kernel, rfl⟩
theorem kX6_light_46 : Dk mtX6_light 46 (.if_icmp .ne 9) 3 49 := ⟨by decide +kernel, rfl⟩
theorem kX6_light_49 : Dk mtX6_light 49 (.aload_n 0) 1 50 := ⟨by decide +kernel, rfl⟩
theorem kX6_light_50 : Dk mtX6_light 50 (.iconst 3) 1 51 := ⟨by decide +kernel, rfl⟩
theorem kX6_light_51 : Dk mtX6_light 51 (.invokevirtual 127) 3 54 := ⟨by decide +kernel, rfl⟩
theorem kX6_light_54 : Dk mtX6_light 54 (.ireturn) 1 55 := ⟨by decide +kernel, rfl⟩
theorem kX6_light_55 : Dk mtX6_light 55 (.aload_n 0) 1 56 := ⟨by decide +kernel, rfl⟩
theorem kX6_light_56 : Dk mtX6_light 56 (.invokevirtual 197) 3 59 := ⟨by decide +kernel, rfl⟩
theorem kX6_light_59 : Dk mtX6_light 59 (.aload_n 0) 1 60 := ⟨by decide +kernel, rfl⟩
theorem kX6_light_60 : Dk mtX6_light 60 (.iload_n 1) 1 61 := ⟨by decide +kernel, rfl⟩
theorem kX6_light_61 : Dk mtX6_light 61 (.iload_n 2) 1 62 := ⟨by decide +kernel, rfl⟩
theorem kX6_light_62 : Dk mtX6_light 62 (.iload_n 3) 1 63 := ⟨by decide +kernel, rfl⟩
theorem kX6_light_63 : Dk mtX6_light 63 (.iload 4) 2 65 := ⟨by decide +kernel, rfl⟩
theorem kX6_light_65 : Dk mtX6_light 65 (.iload 5) 2 67 := ⟨by decide +kernel, rfl⟩
theorem kX6_light_67 : Dk mtX6_light 67 (.iload 6) 2 69 := ⟨by decide +kernel, rfl⟩
theorem kX6_light_69 : Dk mtX6_light 69 (.invokevirtual 101) 3 72 := ⟨by decide +kernel, rfl⟩
theorem kX6_light_72 : Dk mtX6_light 72 (.ireturn) 1 73 := ⟨by decide +kernel, rfl⟩
theorem lmX6_197 : LkM RX6 197 mtX6_saves := Or.inl (by decide +kernel)
theorem mkX6_saves : MkV mtX6_saves 0 := ⟨List.mem_of_getElem? (i := 1281) (by decide +kernel), by decide +kernel, by decide +kernel, by decide +kernel, ⟨by decide +kernel, by decide +kernel, by decide +kernel⟩⟩
set_option maxHeartbeats 4000000 in
set_option maxRecDepth 100000 in
theorem ct_light {l : Launch} {w : Wd} {sg : Sg} (hWr : Wr w) {mo : Nat} (q st k n bo re : Int32) {c : Nat} (hc : c ≤ 14) (ec : sg mo 4 = nI c) (hI : Inv (sg (mo + 1))) : M l mtX6_light w [vR (some (6, 0, mo)), vI q, vI st, vI k, vI n, vI bo, vI re] sg (fM mo sg (K_light (sg (mo + 1)) q st k n bo re) (F_addLight (sg (mo + 1)) q st k n bo re 4 - 1) (upr (G_saves sg mo c) (mo + 1) (F_addLight (sg (mo + 1)) q st k n bo re))) := by
  refine M_of [some (vR (some (6, 0, mo))), some (vI q), some (vI st), some (vI k), some (vI n), some (vI bo), some (vI re)] rfl (Nat.le_of_ble_eq_true rfl) (by decide +kernel) ?_
  intro p_ e_ s_ m_ args_ below_ meth_ c_ hC hO
  refine V_aload_n hC kX6_light_0 rfl ?_
  refine V_iconst hC (0) kX6_light_1 (by decide) ?_
  refine V_putI hC 6 0 lfX6_32 kX6_light_2 (Nat.le_of_ble_eq_true rfl) (Nat.le_of_ble_eq_true rfl) rfl rfl ⟨rfl, rfl⟩ ?_
  refine V_nameS (fun sg0 e_sg0 => ?_)
  have hs1 : sg0 (mo + 1) = sg (mo + 1) := by rw [e_sg0]; exact upr_ne _ _ (by omega)
  have hs4 : sg0 mo 4 = sg mo 4 := by rw [e_sg0, ups_at]; exact pk_un (by decide)
  refine V_iload_n hC kX6_light_5 rfl ?_
  refine V_cS_fI hC (ct_isPlace hWr q) mkX6_isPlace lmX6_59 kX6_light_6 rfl rfl (Nat.le_of_ble_eq_true rfl) ⟨(Nat.le_of_ble_eq_true rfl), (Nat.le_of_ble_eq_true rfl)⟩ ⟨rfl, rfl⟩ ⟨(Nat.le_of_ble_eq_true rfl), (Nat.le_of_ble_eq_true rfl)⟩ ?_
  refine V_if_ne hC 18 kX6_light_9 (by decide) (fun h9 => ?_) (fun h9 => ?_)
  · refine V_iload_n hC kX6_light_18 rfl ?_
    refine V_iload_n hC kX6_light_19 rfl ?_
    refine V_iload hC kX6_light_20 rfl ?_
    refine V_iload hC kX6_light_22 rfl ?_
    refine V_iload hC kX6_light_24 rfl ?_
    refine V_cS_fI hC (ct_isLamp hWr _ _ _ _ _) mkX6_isLamp lmX6_97 kX6_light_26 rfl rfl (Nat.le_of_ble_eq_true rfl) ⟨(Nat.le_of_ble_eq_true rfl), (Nat.le_of_ble_eq_true rfl)⟩ ⟨rfl, rfl⟩ ⟨(Nat.le_of_ble_eq_true rfl), (Nat.le_of_ble_eq_true rfl)⟩ ?_
    refine V_if_ne hC 38 kX6_light_29 (by decide) (fun h29 => ?_) (fun h29 => ?_)
    · refine V_aload_n hC kX6_light_38 rfl ?_
      refine V_getR hC hWr 6 1 lfX6_7 kX6_light_39 (Nat.le_of_ble_eq_true rfl) (Nat.le_of_ble_eq_true rfl) rfl ?_
      refine V_iconst hC (4) kX6_light_42 (by decide) ?_
      refine V_iald hC 4 rfl kX6_light_43 (vp_lit rfl) ?_
      refine V_bipush hC (6) kX6_light_44 (by decide) ?_
      refine V_icmp_ne hC 55 kX6_light_46 (by decide) (fun h46 => ?_) (fun h46 => ?_)
      · refine V_aload_n hC kX6_light_55 rfl ?_
        refine V_cV_fV hC (ct_saves hWr hc (by rw [hs4]; exact ec)) mkX6_saves lmX6_197 kX6_light_56 (Nat.le_of_ble_eq_true rfl) rfl rfl rfl (Nat.le_of_ble_eq_true rfl) ⟨(Nat.le_of_ble_eq_true rfl), (Nat.le_of_ble_eq_true rfl)⟩ ⟨rfl, rfl⟩ ⟨(Nat.le_of_ble_eq_true rfl), (Nat.le_of_ble_eq_true rfl)⟩ ?_
        refine V_aload_n hC kX6_light_59 rfl ?_
        refine V_iload_n hC kX6_light_60 rfl ?_
        refine V_iload_n hC kX6_light_61 rfl ?_
        refine V_iload_n hC kX6_light_62 rfl ?_
        refine V_iload hC kX6_light_63 rfl ?_
        refine V_iload hC kX6_light_65 rfl ?_
        refine V_iload hC kX6_light_67 rfl ?_
        refine V_cV_fI hC (ct_addsLight hWr _ _ _ _ _ _ (by rw [saves_1, hs1]; exact nlt6 hI.hc4 (by rw [hs1] at h46; exact h46))) mkX6_addsLight lmX6_101 kX6_light_69 (Nat.le_of_ble_eq_true rfl) rfl rfl rfl (Nat.le_of_ble_eq_true rfl) ⟨(Nat.le_of_ble_eq_true rfl), (Nat.le_of_ble_eq_true rfl)⟩ ⟨rfl, rfl⟩ ⟨(Nat.le_of_ble_eq_true rfl), (Nat.le_of_ble_eq_true rfl)⟩ ?_
        refine V_ireti hC rfl kX6_light_72 ?_
        exact fM_ok (by rw [hs1] at h46; rw [K_light, if_pos (b01n.mp h9), if_pos (b01n.mp h29), if_neg h46]) (by rw [saves_1, hs1]) (by rw [saves_1, hs1, e_sg0, saves_thr, ups_upr _ _ _ _ (by omega)])
      · refine V_aload_n hC kX6_light_49 rfl ?_
        refine V_iconst hC (3) kX6_light_50 (by decide) ?_
        refine V_cV_fI hC (ct_fails hWr 3) mkX6_fails lmX6_127 kX6_light_51 (Nat.le_of_ble_eq_true rfl) rfl rfl rfl (Nat.le_of_ble_eq_true rfl) ⟨(Nat.le_of_ble_eq_true rfl), (Nat.le_of_ble_eq_true rfl)⟩ ⟨rfl, rfl⟩ ⟨(Nat.le_of_ble_eq_true rfl), (Nat.le_of_ble_eq_true rfl)⟩ ?_
        refine V_ireti hC rfl kX6_light_54 ?_
        exact fM_no 3 (by rw [hs1] at h46; rw [K_light, if_pos (b01n.mp h9), if_pos (b01n.mp h29), if_pos h46]) (by decide) (by rw [e_sg0, ups_ups])
    · refine V_aload_n hC kX6_light_32 rfl ?_
      refine V_iconst hC (2) kX6_light_33 (by decide) ?_
      refine V_cV_fI hC (ct_fails hWr 2) mkX6_fails lmX6_127 kX6_light_34 (Nat.le_of_ble_eq_true rfl) rfl rfl rfl (Nat.le_of_ble_eq_true rfl) ⟨(Nat.le_of_ble_eq_true rfl), (Nat.le_of_ble_eq_true rfl)⟩ ⟨rfl, rfl⟩ ⟨(Nat.le_of_ble_eq_true rfl), (Nat.le_of_ble_eq_true rfl)⟩ ?_
      refine V_ireti hC rfl kX6_light_37 ?_
      exact fM_no 2 (by rw [K_light, if_pos (b01n.mp h9), if_neg (b01e.mp h29)]) (by decide) (by rw [e_sg0, ups_ups])
  · refine V_aload_n hC kX6_light_12 rfl ?_
    refine V_iconst hC (1) kX6_light_13 (by decide) ?_
    refine V_cV_fI hC (ct_fails hWr 1) mkX6_fails lmX6_127 kX6_light_14 (Nat.le_of_ble_eq_true rfl) rfl rfl rfl (Nat.le_of_ble_eq_true rfl) ⟨(Nat.le_of_ble_eq_true rfl), (Nat.le_of_ble_eq_true rfl)⟩ ⟨rfl, rfl⟩ ⟨(Nat.le_of_ble_eq_true rfl), (Nat.le_of_ble_eq_true rfl)⟩ ?_
    refine V_ireti hC rfl kX6_light_17 ?_
    exact fM_no 1 (by rw [K_light, if_neg (b01e.mp h9)]) (by decide) (by rw [e_sg0, ups_ups])
def mtX6_boat : Mt := (yX6_boat, cX6_boat, 3, (some .int), 2, 46, 0, 0)
theorem kX6_boat_0 : Dk mtX6_boat 0 (.aload_n 0) 1 1 := ⟨by decide +kernel, rfl⟩
theorem kX6_boat_1 : Dk mtX6_boat 1 (.iconst 0) 1 2 := ⟨by decide +kernel, rfl⟩
theorem kX6_boat_2 : Dk mtX6_boat 2 (.putfield 32) 3 5 := ⟨by decide +kernel, rfl⟩
theorem kX6_boat_5 : Dk mtX6_boat 5 (.iload_n 1) 1 6 := ⟨by decide +kernel, rfl⟩
theorem kX6_boat_6 : Dk mtX6_boat 6 (.invokestatic 59) 3 9 := ⟨by decide +kernel, rfl⟩
theorem kX6_boat_9 : Dk mtX6_boat 9 (.ifCond .ne 9) 3 12 := ⟨by decide +kernel, rfl⟩
theorem kX6_boat_12 : Dk mtX6_boat 12 (.aload_n 0) 1 13 := ⟨by decide +kernel, rfl⟩
theorem kX6_boat_13 : Dk mtX6_boat 13 (.iconst 1) 1 14 := ⟨by decide +kernel, rfl⟩
theorem kX6_boat_14 : Dk mtX6_boat 14 (.invokevirtual 127) 3 17 := ⟨by decide +kernel, rfl⟩
theorem kX6_boat_17 : Dk mtX6_boat 17 (.ireturn) 1 18 := ⟨by decide +kernel, rfl⟩
theorem kX6_boat_18 : Dk mtX6_boat 18 (.iload_n 2) 1 19 := ⟨by decide +kernel, rfl⟩
theorem kX6_boat_19 : Dk mtX6_boat 19 (.bipush (-6)) 2 21 := ⟨by decide +kernel, rfl⟩
theorem kX6_boat_21 : Dk mtX6_boat 21 (.bipush 6) 2 23 := ⟨by decide +kernel, rfl⟩
theorem kX6_boat_23 : Dk mtX6_boat 23 (.invokestatic 39) 3 26 := ⟨by decide +kernel, rfl⟩
theorem kX6_boat_26 : Dk mtX6_boat 26 (.ifCond .ne 9) 3 29 := ⟨by decide +kernel, rfl⟩
theorem kX6_boat_29 : Dk mtX6_boat 29 (.aload_n 0) 1 30 := ⟨by decide +kernel, rfl⟩
theorem kX6_boat_30 : Dk mtX6_boat 30 (.iconst 2) 1 31 := ⟨by decide +kernel, rfl⟩
theorem kX6_boat_31 : Dk mtX6_boat 31 (.invokevirtual 127) 3 34 := ⟨by decide +kernel, rfl⟩
theorem kX6_boat_34 : Dk mtX6_boat 34 (.ireturn) 1 35 := ⟨by decide +kernel, rfl⟩
theorem kX6_boat_35 : Dk mtX6_boat 35 (.aload_n 0) 1 36 := ⟨by decide +kernel, rfl⟩
theorem kX6_boat_36 : Dk mtX6_boat 36 (.getfield 7) 3 39 := ⟨by decide +kernel, rfl⟩
theorem kX6_boat_39 : Dk mtX6_boat 39 (.iconst 5) 1 40 := ⟨by decide +kernel, rfl⟩
theorem kX6_boat_40 : Dk mtX6_boat 40 (.iaload) 1 41 := ⟨by decide +kernel, rfl⟩
theorem kX6_boat_41 : Dk mtX6_boat 41 (.bipush 8) 2 43 := ⟨by decide +kernel, rfl⟩
theorem kX6_boat_43 : Dk mtX6_boat 43 (.if_icmp .ne 9) 3 46 := ⟨by decide +kernel, rfl⟩
theorem kX6_boat_46 : Dk mtX6_boat 46 (.aload_n 0) 1 47 := ⟨by decide +kernel, rfl⟩
theorem kX6_boat_47 : Dk mtX6_boat 47 (.iconst 3) 1 48 := ⟨by decide +kernel, rfl⟩
theorem kX6_boat_48 : Dk mtX6_boat 48 (.invokevirtual 127) 3 51 := ⟨by decide +kernel, rfl⟩
theorem kX6_boat_51 : Dk mtX6_boat 51 (.ireturn) 1 52 := ⟨by decide +kernel, rfl⟩
theorem kX6_boat_52 : Dk mtX6_boat 52 (.aload_n 0) 1 53 := ⟨by decide +kernel, rfl⟩
theorem kX6_boat_53 : Dk mtX6_boat 53 (.invokevirtual 197) 3 56 := ⟨by decide +kernel, rfl⟩
theorem kX6_boat_56 : Dk mtX6_boat 56 (.aload_n 0) 1 57 := ⟨by decide +kernel, rfl⟩
theorem kX6_boat_57 : Dk mtX6_boat 57 (.iload_n 1) 1 58 := ⟨by decide +kernel, rfl⟩
theorem kX6_boat_58 : Dk mtX6_boat 58 (.iload_n 2) 1 59 := ⟨by decide +kernel, rfl⟩
theorem kX6_boat_59 : Dk mtX6_boat 59 (.invokevirtual 105) 3 62 := ⟨by decide +kernel, rfl⟩
theorem kX6_boat_62 : Dk mtX6_boat 62 (.ireturn) 1 63 := ⟨by decide +kernel, rfl⟩
set_option maxHeartbeats 4000000 in
set_option maxRecDepth 100000 in
theorem ct_boat {l : Launch} {w : Wd} {sg : Sg} (hWr : Wr w) {mo : Nat} (q v : Int32) {c : Nat} (hc : c ≤ 14) (ec : sg mo 4 = nI c) (hI : Inv (sg (mo + 1))) : M l mtX6_boat w [vR (some (6, 0, mo)), vI q, vI v] sg (fM mo sg (K_boat (sg (mo + 1)) q v) ((sg (mo + 1)) 5) (upr (G_saves sg mo c) (mo + 1) (F_addBoat (sg (mo + 1)) q v))) := by
  refine M_of [some (vR (some (6, 0, mo))), some (vI q), some (vI v)] rfl (Nat.le_of_ble_eq_true rfl) (by decide +kernel) ?_
  intro p_ e_ s_ m_ args_ below_ meth_ c_ hC hO
  refine V_aload_n hC kX6_boat_0 rfl ?_
  refine V_iconst hC (0) kX6_boat_1 (by decide) ?_
  refine V_putI hC 6 0 lfX6_32 kX6_boat_2 (Nat.le_of_ble_eq_true rfl) (Nat.le_of_ble_eq_true rfl) rfl rfl ⟨rfl, rfl⟩ ?_
  refine V_nameS (fun sg0 e_sg0 => ?_)
  have hs1 : sg0 (mo + 1) = sg (mo + 1) := by rw [e_sg0]; exact upr_ne _ _ (by omega)
  have hs4 : sg0 mo 4 = sg mo 4 := by rw [e_sg0, ups_at]; exact pk_un (by decide)
  refine V_iload_n hC kX6_boat_5 rfl ?_
  refine V_cS_fI hC (ct_isPlace hWr q) mkX6_isPlace lmX6_59 kX6_boat_6 rfl rfl (Nat.le_of_ble_eq_true rfl) ⟨(Nat.le_of_ble_eq_true rfl), (Nat.le_of_ble_eq_true rfl)⟩ ⟨rfl, rfl⟩ ⟨(Nat.le_of_ble_eq_true rfl), (Nat.le_of_ble_eq_true rfl)⟩ ?_
  refine V_if_ne hC 18 kX6_boat_9 (by decide) (fun h9 => ?_) (fun h9 => ?_)
  · refine V_iload_n hC kX6_boat_18 rfl ?_
    refine V_bipush hC (-6) kX6_boat_19 (by decide) ?_
    refine V_bipush hC (6) kX6_boat_21 (by decide) ?_
    refine V_cS_fI hC (ct_in hWr _ _ _) mkX6_in lmX6_39 kX6_boat_23 rfl rfl (Nat.le_of_ble_eq_true rfl) ⟨(Nat.le_of_ble_eq_true rfl), (Nat.le_of_ble_eq_true rfl)⟩ ⟨rfl, rfl⟩ ⟨(Nat.le_of_ble_eq_true rfl), (Nat.le_of_ble_eq_true rfl)⟩ ?_
    refine V_if_ne hC 35 kX6_boat_26 (by decide) (fun h26 => ?_) (fun h26 => ?_)
    · refine V_aload_n hC kX6_boat_35 rfl ?_
      refine V_getR hC hWr 6 1 lfX6_7 kX6_boat_36 (Nat.le_of_ble_eq_true rfl) (Nat.le_of_ble_eq_true rfl) rfl ?_
      refine V_iconst hC (5) kX6_boat_39 (by decide) ?_
      refine V_iald hC 5 rfl kX6_boat_40 (vp_lit rfl) ?_
      refine V_bipush hC (8) kX6_boat_41 (by decide) ?_
      refine V_icmp_ne hC 52 kX6_boat_43 (by decide) (fun h43 => ?_) (fun h43 => ?_)
      · refine V_aload_n hC kX6_boat_52 rfl ?_
        refine V_cV_fV hC (ct_saves hWr hc (by rw [hs4]; exact ec)) mkX6_saves lmX6_197 kX6_boat_53 (Nat.le_of_ble_eq_true rfl) rfl rfl rfl (Nat.le_of_ble_eq_true rfl) ⟨(Nat.le_of_ble_eq_true rfl), (Nat.le_of_ble_eq_true rfl)⟩ ⟨rfl, rfl⟩ ⟨(Nat.le_of_ble_eq_true rfl), (Nat.le_of_ble_eq_true rfl)⟩ ?_
        refine V_aload_n hC kX6_boat_56 rfl ?_
        refine V_iload_n hC kX6_boat_57 rfl ?_
        refine V_iload_n hC kX6_boat_58 rfl ?_
        refine V_cV_fI hC (ct_addsBoat hWr _ _ (by rw [saves_1, hs1]; exact nlt8 hI.hc5 (by rw [hs1] at h43; exact h43))) mkX6_addsBoat lmX6_105 kX6_boat_59 (Nat.le_of_ble_eq_true rfl) rfl rfl rfl (Nat.le_of_ble_eq_true rfl) ⟨(Nat.le_of_ble_eq_true rfl), (Nat.le_of_ble_eq_true rfl)⟩ ⟨rfl, rfl⟩ ⟨(Nat.le_of_ble_eq_true rfl), (Nat.le_of_ble_eq_true rfl)⟩ ?_
        refine V_ireti hC rfl kX6_boat_62 ?_
        exact fM_ok (by rw [hs1] at h43; rw [K_boat, if_pos (b01n.mp h9), if_pos (b01n.mp h26), if_neg h43]) (by rw [saves_1, hs1]) (by rw [saves_1, hs1, e_sg0, saves_thr, ups_upr _ _ _ _ (by omega)])
      · refine V_aload_n hC kX6_boat_46 rfl ?_
        refine V_iconst hC (3) kX6_boat_47 (by decide) ?_
        refine V_cV_fI hC (ct_fails hWr 3) mkX6_fails lmX6_127 kX6_boat_48 (Nat.le_of_ble_eq_true rfl) rfl rfl rfl (Nat.le_of_ble_eq_true rfl) ⟨(Nat.le_of_ble_eq_true rfl), (Nat.le_of_ble_eq_true rfl)⟩ ⟨rfl, rfl⟩ ⟨(Nat.le_of_ble_eq_true rfl), (Nat.le_of_ble_eq_true rfl)⟩ ?_
        refine V_ireti hC rfl kX6_boat_51 ?_
        exact fM_no 3 (by rw [hs1] at h43; rw [K_boat, if_pos (b01n.mp h9), if_pos (b01n.mp h26), if_pos h43]) (by decide) (by rw [e_sg0, ups_ups])
    · refine V_aload_n hC kX6_boat_29 rfl ?_
      refine V_iconst hC (2) kX6_boat_30 (by decide) ?_
      refine V_cV_fI hC (ct_fails hWr 2) mkX6_fails lmX6_127 kX6_boat_31 (Nat.le_of_ble_eq_true rfl) rfl rfl rfl (Nat.le_of_ble_eq_true rfl) ⟨(Nat.le_of_ble_eq_true rfl), (Nat.le_of_ble_eq_true rfl)⟩ ⟨rfl, rfl⟩ ⟨(Nat.le_of_ble_eq_true rfl), (Nat.le_of_ble_eq_true rfl)⟩ ?_
      refine V_ireti hC rfl kX6_boat_34 ?_
      exact fM_no 2 (by rw [K_boat, if_pos (b01n.mp h9), if_neg (b01e.mp h26)]) (by decide) (by rw [e_sg0, ups_ups])
  · refine V_aload_n hC kX6_boat_12 rfl ?_
    refine V_iconst hC (1) kX6_boat_13 (by decide) ?_
    refine V_cV_fI hC (ct_fails hWr 1) mkX6_fails lmX6_127 kX6_boat_14 (Nat.le_of_ble_eq_true rfl) rfl rfl rfl (Nat.le_of_ble_eq_true rfl) ⟨(Nat.le_of_ble_eq_true rfl), (Nat.le_of_ble_eq_true rfl)⟩ ⟨rfl, rfl⟩ ⟨(Nat.le_of_ble_eq_true rfl), (Nat.le_of_ble_eq_true rfl)⟩ ?_
    refine V_ireti hC rfl kX6_boat_17 ?_
    exact fM_no 1 (by rw [K_boat, if_neg (b01e.mp h9)]) (by decide) (by rw [e_sg0, ups_ups])
def mtX6_steer : Mt := (yX6_steer, cX6_steer, 4, (some .int), 3, 66, 0, 0)
theorem kX6_steer_0 : Dk mtX6_steer 0 (.aload_n 0) 1 1 := ⟨by decide +kernel, rfl⟩
theorem kX6_steer_1 : Dk mtX6_steer 1 (.iconst 0) 1 2 := ⟨by decide +kernel, rfl⟩
theorem kX6_steer_2 : Dk mtX6_steer 2 (.putfield 32) 3 5 := ⟨by decide +kernel, rfl⟩
theorem kX6_steer_5 : Dk mtX6_steer 5 (.aload_n 0) 1 6 := ⟨by decide +kernel, rfl⟩
theorem kX6_steer_6 : Dk mtX6_steer 6 (.iload_n 1) 1 7 := ⟨by decide +kernel, rfl⟩
theorem kX6_steer_7 : Dk mtX6_steer 7 (.invokevirtual 108) 3 10 := ⟨by decide +kernel, rfl⟩
theorem kX6_steer_10 : Dk mtX6_steer 10 (.ifCond .ne 9) 3 13 := ⟨by decide +kernel, rfl⟩
theorem kX6_steer_13 : Dk mtX6_steer 13 (.aload_n 0) 1 14 := ⟨by decide +kernel, rfl⟩
theorem kX6_steer_14 : Dk mtX6_steer 14 (.iconst 1) 1 15 := ⟨by decide +kernel, rfl⟩
theorem kX6_steer_15 : Dk mtX6_steer 15 (.invokevirtual 127) 3 18 := ⟨by decide +kernel, rfl⟩
theorem kX6_steer_18 : Dk mtX6_steer 18 (.ireturn) 1 19 := ⟨by decide +kernel, rfl⟩
theorem kX6_steer_19 : Dk mtX6_steer 19 (.iload_n 2) 1 20 := ⟨by decide +kernel, rfl⟩
theorem kX6_steer_20 : Dk mtX6_steer 20 (.bipush (-6)) 2 22 := ⟨by decide +kernel, rfl⟩
theorem kX6_steer_22 : Dk mtX6_steer 22 (.bipush 6) 2 24 := ⟨by decide +kernel, rfl⟩
theorem kX6_steer_24 : Dk mtX6_steer 24 (.invokestatic 39) 3 27 := ⟨by decide +kernel, rfl⟩
theorem kX6_steer_27 : Dk mtX6_steer 27 (.ifCond .ne 9) 3 30 := ⟨by decide +kernel, rfl⟩
theorem kX6_steer_30 : Dk mtX6_steer 30 (.aload_n 0) 1 31 := ⟨by decide +kernel, rfl⟩
theorem kX6_steer_31 : Dk mtX6_steer 31 (.iconst 2) 1 32 := ⟨by decide +kernel, rfl⟩
theorem kX6_steer_32 : Dk mtX6_steer 32 (.invokevirtual 127) 3 35 := ⟨by decide +kernel, rfl⟩
theorem kX6_steer_35 : Dk mtX6_steer 35 (.ireturn) 1 36 := ⟨by decide +kernel, rfl⟩
theorem kX6_steer_36 : Dk mtX6_steer 36 (.aload_n 0) 1 37 := ⟨by decide +kernel, rfl⟩
theorem kX6_steer_37 : Dk mtX6_steer 37 (.invokevirtual 197) 3 40 := ⟨by decide +kernel, rfl⟩
theorem kX6_steer_40 : Dk mtX6_steer 40 (.aload_n 0) 1 41 := ⟨by decide +kernel, rfl⟩
theorem kX6_steer_41 : Dk mtX6_steer 41 (.iload_n 1) 1 42 := ⟨by decide +kernel, rfl⟩
theorem kX6_steer_42 : Dk mtX6_steer 42 (.iconst 1) 1 43 := ⟨by decide +kernel, rfl⟩
theorem kX6_steer_43 : Dk mtX6_steer 43 (.invokevirtual 53) 3 46 := ⟨by decide +kernel, rfl⟩
theorem kX6_steer_46 : Dk mtX6_steer 46 (.istore_n 3) 1 47 := ⟨by decide +kernel, rfl⟩
theorem kX6_steer_47 : Dk mtX6_steer 47 (.aload_n 0) 1 48 := ⟨by decide +kernel, rfl⟩
theorem kX6_steer_48 : Dk mtX6_steer 48 (.iload_n 1) 1 49 := ⟨by decide +kernel, rfl⟩
theorem kX6_steer_49 : Dk mtX6_steer 49 (.iload_n 2) 1 50 := ⟨by decide +kernel, rfl⟩
theorem kX6_steer_50 : Dk mtX6_steer 50 (.invokevirtual 157) 3 53 := ⟨by decide +kernel, rfl⟩
theorem kX6_steer_53 : Dk mtX6_steer 53 (.pop) 1 54 := ⟨by decide +kernel, rfl⟩
theorem kX6_steer_54 : Dk mtX6_steer 54 (.iload_n 3) 1 55 := ⟨by decide +kernel, rfl⟩
theorem kX6_steer_55 : Dk mtX6_steer 55 (.ireturn) 1 56 := ⟨by decide +kernel, rfl⟩
theorem lmX6_157 : LkM RX6 157 mtX6_actsSteer := Or.inl (by decide +kernel)
theorem mkX6_actsSteer : MkV mtX6_actsSteer 2 := ⟨List.mem_of_getElem? (i := 1143) (by decide +kernel), by decide +kernel, by decide +kernel, by decide +kernel, ⟨by decide +kernel, by decide +kernel, by decide +kernel⟩⟩
set_option maxHeartbeats 4000000 in
set_option maxRecDepth 100000 in
theorem ct_steer {l : Launch} {w : Wd} {sg : Sg} (hWr : Wr w) {mo : Nat} (b v : Int32) {c : Nat} (hc : c ≤ 14) (ec : sg mo 4 = nI c) (hI : Inv (sg (mo + 1))) : M l mtX6_steer w [vR (some (6, 0, mo)), vI b, vI v] sg (fM mo sg (K_steer (sg (mo + 1)) b v) (gB (sg (mo + 1)) b 1) (upr (G_saves sg mo c) (mo + 1) (pB (sg (mo + 1)) b 1 v))) := by
  refine M_of [some (vR (some (6, 0, mo))), some (vI b), some (vI v), none] rfl (Nat.le_of_ble_eq_true rfl) (by decide +kernel) ?_
  intro p_ e_ s_ m_ args_ below_ meth_ c_ hC hO
  refine V_aload_n hC kX6_steer_0 rfl ?_
  refine V_iconst hC (0) kX6_steer_1 (by decide) ?_
  refine V_putI hC 6 0 lfX6_32 kX6_steer_2 (Nat.le_of_ble_eq_true rfl) (Nat.le_of_ble_eq_true rfl) rfl rfl ⟨rfl, rfl⟩ ?_
  refine V_nameS (fun sg0 e_sg0 => ?_)
  have hs1 : sg0 (mo + 1) = sg (mo + 1) := by rw [e_sg0]; exact upr_ne _ _ (by omega)
  have hs4 : sg0 mo 4 = sg mo 4 := by rw [e_sg0, ups_at]; exact pk_un (by decide)
  refine V_aload_n hC kX6_steer_5 rfl ?_
  refine V_iload_n hC kX6_steer_6 rfl ?_
  refine V_cV_fI hC (ct_isBoat hWr b) mkX6_isBoat lmX6_108 kX6_steer_7 (Nat.le_of_ble_eq_true rfl) rfl rfl rfl (Nat.le_of_ble_eq_true rfl) ⟨(Nat.le_of_ble_eq_true rfl), (Nat.le_of_ble_eq_true rfl)⟩ ⟨rfl, rfl⟩ ⟨(Nat.le_of_ble_eq_true rfl), (Nat.le_of_ble_eq_true rfl)⟩ ?_
  refine V_if_ne hC 19 kX6_steer_10 (by decide) (fun h10 => ?_) (fun h10 => ?_)
  · refine V_iload_n hC kX6_steer_19 rfl ?_
    refine V_bipush hC (-6) kX6_steer_20 (by decide) ?_
    refine V_bipush hC (6) kX6_steer_22 (by decide) ?_
    refine V_cS_fI hC (ct_in hWr _ _ _) mkX6_in lmX6_39 kX6_steer_24 rfl rfl (Nat.le_of_ble_eq_true rfl) ⟨(Nat.le_of_ble_eq_true rfl), (Nat.le_of_ble_eq_true rfl)⟩ ⟨rfl, rfl⟩ ⟨(Nat.le_of_ble_eq_true rfl), (Nat.le_of_ble_eq_true rfl)⟩ ?_
    refine V_if_ne hC 36 kX6_steer_27 (by decide) (fun h27 => ?_) (fun h27 => ?_)
    · refine V_aload_n hC kX6_steer_36 rfl ?_
      refine V_cV_fV hC (ct_saves hWr hc (by rw [hs4]; exact ec)) mkX6_saves lmX6_197 kX6_steer_37 (Nat.le_of_ble_eq_true rfl) rfl rfl rfl (Nat.le_of_ble_eq_true rfl) ⟨(Nat.le_of_ble_eq_true rfl), (Nat.le_of_ble_eq_true rfl)⟩ ⟨rfl, rfl⟩ ⟨(Nat.le_of_ble_eq_true rfl), (Nat.le_of_ble_eq_true rfl)⟩ ?_
      have hb := b01n.mp (hs1 ▸ h10)
      have hcc : cSteer (sg (mo + 1)) b v := ⟨hb, b01n.mp h27⟩
      refine V_aload_n hC kX6_steer_40 rfl ?_
      refine V_iload_n hC kX6_steer_41 rfl ?_
      refine V_iconst hC (1) kX6_steer_42 (by decide) ?_
      refine V_cV_fI hC (ct_ofBoat hWr b 1 (vpB hI.hc5 hb) (vp_lit rfl)) mkX6_ofBoat lmX6_53 kX6_steer_43 (Nat.le_of_ble_eq_true rfl) rfl rfl rfl (Nat.le_of_ble_eq_true rfl) ⟨(Nat.le_of_ble_eq_true rfl), (Nat.le_of_ble_eq_true rfl)⟩ ⟨rfl, rfl⟩ ⟨(Nat.le_of_ble_eq_true rfl), (Nat.le_of_ble_eq_true rfl)⟩ ?_
      refine V_nameI (fun had e_had => ?_)
      refine V_istore_n hC [some _, some _, some _, some _] kX6_steer_46 rfl (Nat.le_of_ble_eq_true rfl) ?_
      refine V_aload_n hC kX6_steer_47 rfl ?_
      refine V_iload_n hC kX6_steer_48 rfl ?_
      refine V_iload_n hC kX6_steer_49 rfl ?_
      refine V_cV_fI hC (ct_actsSteer hWr b v (by rw [saves_1, hs1]; exact hI.hc5)) mkX6_actsSteer lmX6_157 kX6_steer_50 (Nat.le_of_ble_eq_true rfl) rfl rfl rfl (Nat.le_of_ble_eq_true rfl) ⟨(Nat.le_of_ble_eq_true rfl), (Nat.le_of_ble_eq_true rfl)⟩ ⟨rfl, rfl⟩ ⟨(Nat.le_of_ble_eq_true rfl), (Nat.le_of_ble_eq_true rfl)⟩ ?_
      refine V_pop hC kX6_steer_53 rfl ?_
      refine V_iload_n hC kX6_steer_54 rfl ?_
      refine V_ireti hC rfl kX6_steer_55 ?_
      rw [saves_1, hs1] at e_had ⊢
      rw [if_pos hcc]
      exact fM_ok (by rw [K_steer, if_pos hb, if_pos hcc.2]) e_had (by rw [e_sg0, saves_thr, ups_upr _ _ _ _ (by omega)])
    · refine V_aload_n hC kX6_steer_30 rfl ?_
      refine V_iconst hC (2) kX6_steer_31 (by decide) ?_
      refine V_cV_fI hC (ct_fails hWr 2) mkX6_fails lmX6_127 kX6_steer_32 (Nat.le_of_ble_eq_true rfl) rfl rfl rfl (Nat.le_of_ble_eq_true rfl) ⟨(Nat.le_of_ble_eq_true rfl), (Nat.le_of_ble_eq_true rfl)⟩ ⟨rfl, rfl⟩ ⟨(Nat.le_of_ble_eq_true rfl), (Nat.le_of_ble_eq_true rfl)⟩ ?_
      refine V_ireti hC rfl kX6_steer_35 ?_
      exact fM_no 2 (by rw [hs1] at h10; rw [K_steer, if_pos (b01n.mp h10), if_neg (b01e.mp h27)]) (by decide) (by rw [e_sg0, ups_ups])
  · refine V_aload_n hC kX6_steer_13 rfl ?_
    refine V_iconst hC (1) kX6_steer_14 (by decide) ?_
    refine V_cV_fI hC (ct_fails hWr 1) mkX6_fails lmX6_127 kX6_steer_15 (Nat.le_of_ble_eq_true rfl) rfl rfl rfl (Nat.le_of_ble_eq_true rfl) ⟨(Nat.le_of_ble_eq_true rfl), (Nat.le_of_ble_eq_true rfl)⟩ ⟨rfl, rfl⟩ ⟨(Nat.le_of_ble_eq_true rfl), (Nat.le_of_ble_eq_true rfl)⟩ ?_
    refine V_ireti hC rfl kX6_steer_18 ?_
    exact fM_no 1 (by rw [hs1] at h10; rw [K_steer, if_neg (b01e.mp h10)]) (by decide) (by rw [e_sg0, ups_ups])
def mtX6_talk : Mt := (yX6_talk, cX6_talk, 4, (some .int), 3, 66, 0, 0)
theorem kX6_talk_0 : Dk mtX6_talk 0 (.aload_n 0) 1 1 := ⟨by decide +kernel, rfl⟩
theorem kX6_talk_1 : Dk mtX6_talk 1 (.iconst 0) 1 2 := ⟨by decide +kernel, rfl⟩
theorem kX6_talk_2 : Dk mtX6_talk 2 (.putfield 32) 3 5 := ⟨by decide +kernel, rfl⟩
theorem kX6_talk_5 : Dk mtX6_talk 5 (.aload_n 0) 1 6 := ⟨by decide +kernel, rfl⟩
theorem kX6_talk_6 : Dk mtX6_talk 6 (.iload_n 1) 1 7 := ⟨by decide +kernel, rfl⟩
theorem kX6_talk_7 : Dk mtX6_talk 7 (.invokevirtual 108) 3 10 := ⟨by decide +kernel, rfl⟩
theorem kX6_talk_10 : Dk mtX6_talk 10 (.ifCond .ne 9) 3 13 := ⟨by decide +kernel, rfl⟩
theorem kX6_talk_13 : Dk mtX6_talk 13 (.aload_n 0) 1 14 := ⟨by decide +kernel, rfl⟩
theorem kX6_talk_14 : Dk mtX6_talk 14 (.iconst 1) 1 15 := ⟨by decide +kernel, rfl⟩
theorem kX6_talk_15 : Dk mtX6_talk 15 (.invokevirtual 127) 3 18 := ⟨by decide +kernel, rfl⟩
theorem kX6_talk_18 : Dk mtX6_talk 18 (.ireturn) 1 19 := ⟨by decide +kernel, rfl⟩
theorem kX6_talk_19 : Dk mtX6_talk 19 (.iload_n 2) 1 20 := ⟨by decide +kernel, rfl⟩
theorem kX6_talk_20 : Dk mtX6_talk 20 (.iconst 1) 1 21 := ⟨by decide +kernel, rfl⟩
theorem kX6_talk_21 : Dk mtX6_talk 21 (.bipush 99) 2 23 := ⟨by decide +kernel, rfl⟩
theorem kX6_talk_23 : Dk mtX6_talk 23 (.invokestatic 39) 3 26 := ⟨by decide +kernel, rfl⟩
theorem kX6_talk_26 : Dk mtX6_talk 26 (.ifCond .ne 9) 3 29 := ⟨by decide +kernel, rfl⟩
theorem kX6_talk_29 : Dk mtX6_talk 29 (.aload_n 0) 1 30 := ⟨by decide +kernel, rfl⟩
theorem kX6_talk_30 : Dk mtX6_talk 30 (.iconst 2) 1 31 := ⟨by decide +kernel, rfl⟩
theorem kX6_talk_31 : Dk mtX6_talk 31 (.invokevirtual 127) 3 34 := ⟨by decide +kernel, rfl⟩
theorem kX6_talk_34 : Dk mtX6_talk 34 (.ireturn) 1 35 := ⟨by decide +kernel, rfl⟩
theorem kX6_talk_35 : Dk mtX6_talk 35 (.aload_n 0) 1 36 := ⟨by decide +kernel, rfl⟩
theorem kX6_talk_36 : Dk mtX6_talk 36 (.iload_n 1) 1 37 := ⟨by decide +kernel, rfl⟩
theorem kX6_talk_37 : Dk mtX6_talk 37 (.invokevirtual 111) 3 40 := ⟨by decide +kernel, rfl⟩
theorem kX6_talk_40 : Dk mtX6_talk 40 (.ifCond .ne 9) 3 43 := ⟨by decide +kernel, rfl⟩
theorem kX6_talk_43 : Dk mtX6_talk 43 (.aload_n 0) 1 44 := ⟨by decide +kernel, rfl⟩
theorem kX6_talk_44 : Dk mtX6_talk 44 (.iconst 3) 1 45 := ⟨by decide +kernel, rfl⟩
theorem kX6_talk_45 : Dk mtX6_talk 45 (.invokevirtual 127) 3 48 := ⟨by decide +kernel, rfl⟩
theorem kX6_talk_48 : Dk mtX6_talk 48 (.ireturn) 1 49 := ⟨by decide +kernel, rfl⟩
theorem kX6_talk_49 : Dk mtX6_talk 49 (.aload_n 0) 1 50 := ⟨by decide +kernel, rfl⟩
theorem kX6_talk_50 : Dk mtX6_talk 50 (.invokevirtual 197) 3 53 := ⟨by decide +kernel, rfl⟩
theorem kX6_talk_53 : Dk mtX6_talk 53 (.aload_n 0) 1 54 := ⟨by decide +kernel, rfl⟩
theorem kX6_talk_54 : Dk mtX6_talk 54 (.iload_n 1) 1 55 := ⟨by decide +kernel, rfl⟩
theorem kX6_talk_55 : Dk mtX6_talk 55 (.iconst 3) 1 56 := ⟨by decide +kernel, rfl⟩
theorem kX6_talk_56 : Dk mtX6_talk 56 (.invokevirtual 53) 3 59 := ⟨by decide +kernel, rfl⟩
theorem kX6_talk_59 : Dk mtX6_talk 59 (.istore_n 3) 1 60 := ⟨by decide +kernel, rfl⟩
theorem kX6_talk_60 : Dk mtX6_talk 60 (.aload_n 0) 1 61 := ⟨by decide +kernel, rfl⟩
theorem kX6_talk_61 : Dk mtX6_talk 61 (.iload_n 1) 1 62 := ⟨by decide +kernel, rfl⟩
theorem kX6_talk_62 : Dk mtX6_talk 62 (.iload_n 2) 1 63 := ⟨by decide +kernel, rfl⟩
theorem kX6_talk_63 : Dk mtX6_talk 63 (.invokevirtual 160) 3 66 := ⟨by decide +kernel, rfl⟩
theorem kX6_talk_66 : Dk mtX6_talk 66 (.pop) 1 67 := ⟨by decide +kernel, rfl⟩
theorem kX6_talk_67 : Dk mtX6_talk 67 (.iload_n 3) 1 68 := ⟨by decide +kernel, rfl⟩
theorem kX6_talk_68 : Dk mtX6_talk 68 (.ireturn) 1 69 := ⟨by decide +kernel, rfl⟩
theorem lmX6_160 : LkM RX6 160 mtX6_actsTalk := Or.inl (by decide +kernel)
theorem mkX6_actsTalk : MkV mtX6_actsTalk 2 := ⟨List.mem_of_getElem? (i := 1151) (by decide +kernel), by decide +kernel, by decide +kernel, by decide +kernel, ⟨by decide +kernel, by decide +kernel, by decide +kernel⟩⟩
set_option maxHeartbeats 4000000 in
set_option maxRecDepth 100000 in
theorem ct_talk {l : Launch} {w : Wd} {sg : Sg} (hWr : Wr w) {mo : Nat} (b v : Int32) {c : Nat} (hc : c ≤ 14) (ec : sg mo 4 = nI c) (hI : Inv (sg (mo + 1))) : M l mtX6_talk w [vR (some (6, 0, mo)), vI b, vI v] sg (fM mo sg (K_talk (sg (mo + 1)) b v) (gB (sg (mo + 1)) b 3) (upr (G_saves sg mo c) (mo + 1) (pB (sg (mo + 1)) b 3 v))) := by
  refine M_of [some (vR (some (6, 0, mo))), some (vI b), some (vI v), none] rfl (Nat.le_of_ble_eq_true rfl) (by decide +kernel) ?_
  intro p_ e_ s_ m_ args_ below_ meth_ c_ hC hO
  refine V_aload_n hC kX6_talk_0 rfl ?_
  refine V_iconst hC (0) kX6_talk_1 (by decide) ?_
  refine V_putI hC 6 0 lfX6_32 kX6_talk_2 (Nat.le_of_ble_eq_true rfl) (Nat.le_of_ble_eq_true rfl) rfl rfl ⟨rfl, rfl⟩ ?_
  refine V_nameS (fun sg0 e_sg0 => ?_)
  have hs1 : sg0 (mo + 1) = sg (mo + 1) := by rw [e_sg0]; exact upr_ne _ _ (by omega)
  have hs4 : sg0 mo 4 = sg mo 4 := by rw [e_sg0, ups_at]; exact pk_un (by decide)
  refine V_aload_n hC kX6_talk_5 rfl ?_
  refine V_iload_n hC kX6_talk_6 rfl ?_
  refine V_cV_fI hC (ct_isBoat hWr b) mkX6_isBoat lmX6_108 kX6_talk_7 (Nat.le_of_ble_eq_true rfl) rfl rfl rfl (Nat.le_of_ble_eq_true rfl) ⟨(Nat.le_of_ble_eq_true rfl), (Nat.le_of_ble_eq_true rfl)⟩ ⟨rfl, rfl⟩ ⟨(Nat.le_of_ble_eq_true rfl), (Nat.le_of_ble_eq_true rfl)⟩ ?_
  refine V_if_ne hC 19 kX6_talk_10 (by decide) (fun h10 => ?_) (fun h10 => ?_)
  · refine V_iload_n hC kX6_talk_19 rfl ?_
    refine V_iconst hC (1) kX6_talk_20 (by decide) ?_
    refine V_bipush hC (99) kX6_talk_21 (by decide) ?_
    refine V_cS_fI hC (ct_in hWr _ _ _) mkX6_in lmX6_39 kX6_talk_23 rfl rfl (Nat.le_of_ble_eq_true rfl) ⟨(Nat.le_of_ble_eq_true rfl), (Nat.le_of_ble_eq_true rfl)⟩ ⟨rfl, rfl⟩ ⟨(Nat.le_of_ble_eq_true rfl), (Nat.le_of_ble_eq_true rfl)⟩ ?_
    refine V_if_ne hC 35 kX6_talk_26 (by decide) (fun h26 => ?_) (fun h26 => ?_)
    · have hb := b01n.mp (hs1 ▸ h10)
      refine V_aload_n hC kX6_talk_35 rfl ?_
      refine V_iload_n hC kX6_talk_36 rfl ?_
      refine V_cV_fI hC (ct_canTalk hWr b (vpB hI.hc5 hb)) mkX6_canTalk lmX6_111 kX6_talk_37 (Nat.le_of_ble_eq_true rfl) rfl rfl rfl (Nat.le_of_ble_eq_true rfl) ⟨(Nat.le_of_ble_eq_true rfl), (Nat.le_of_ble_eq_true rfl)⟩ ⟨rfl, rfl⟩ ⟨(Nat.le_of_ble_eq_true rfl), (Nat.le_of_ble_eq_true rfl)⟩ ?_
      refine V_if_ne hC 49 kX6_talk_40 (by decide) (fun h40 => ?_) (fun h40 => ?_)
      · refine V_aload_n hC kX6_talk_49 rfl ?_
        refine V_cV_fV hC (ct_saves hWr hc (by rw [hs4]; exact ec)) mkX6_saves lmX6_197 kX6_talk_50 (Nat.le_of_ble_eq_true rfl) rfl rfl rfl (Nat.le_of_ble_eq_true rfl) ⟨(Nat.le_of_ble_eq_true rfl), (Nat.le_of_ble_eq_true rfl)⟩ ⟨rfl, rfl⟩ ⟨(Nat.le_of_ble_eq_true rfl), (Nat.le_of_ble_eq_true rfl)⟩ ?_
        have hcc : cTalk (sg (mo + 1)) b v := ⟨hb, b01n.mp h26, b01n.mp (hs1 ▸ h40)⟩
        refine V_aload_n hC kX6_talk_53 rfl ?_
        refine V_iload_n hC kX6_talk_54 rfl ?_
        refine V_iconst hC (3) kX6_talk_55 (by decide) ?_
        refine V_cV_fI hC (ct_ofBoat hWr b 3 (vpB hI.hc5 hb) (vp_lit rfl)) mkX6_ofBoat lmX6_53 kX6_talk_56 (Nat.le_of_ble_eq_true rfl) rfl rfl rfl (Nat.le_of_ble_eq_true rfl) ⟨(Nat.le_of_ble_eq_true rfl), (Nat.le_of_ble_eq_true rfl)⟩ ⟨rfl, rfl⟩ ⟨(Nat.le_of_ble_eq_true rfl), (Nat.le_of_ble_eq_true rfl)⟩ ?_
        refine V_nameI (fun had e_had => ?_)
        refine V_istore_n hC [some _, some _, some _, some _] kX6_talk_59 rfl (Nat.le_of_ble_eq_true rfl) ?_
        refine V_aload_n hC kX6_talk_60 rfl ?_
        refine V_iload_n hC kX6_talk_61 rfl ?_
        refine V_iload_n hC kX6_talk_62 rfl ?_
        refine V_cV_fI hC (ct_actsTalk hWr b v (by rw [saves_1, hs1]; exact hI.hc5)) mkX6_actsTalk lmX6_160 kX6_talk_63 (Nat.le_of_ble_eq_true rfl) rfl rfl rfl (Nat.le_of_ble_eq_true rfl) ⟨(Nat.le_of_ble_eq_true rfl), (Nat.le_of_ble_eq_true rfl)⟩ ⟨rfl, rfl⟩ ⟨(Nat.le_of_ble_eq_true rfl), (Nat.le_of_ble_eq_true rfl)⟩ ?_
        refine V_pop hC kX6_talk_66 rfl ?_
        refine V_iload_n hC kX6_talk_67 rfl ?_
        refine V_ireti hC rfl kX6_talk_68 ?_
        rw [saves_1, hs1] at e_had ⊢
        rw [if_pos hcc]
        exact fM_ok (by rw [K_talk, if_pos hb, if_pos hcc.2.1, if_pos hcc.2.2]) e_had (by rw [e_sg0, saves_thr, ups_upr _ _ _ _ (by omega)])
      · refine V_aload_n hC kX6_talk_43 rfl ?_
        refine V_iconst hC (3) kX6_talk_44 (by decide) ?_
        refine V_cV_fI hC (ct_fails hWr 3) mkX6_fails lmX6_127 kX6_talk_45 (Nat.le_of_ble_eq_true rfl) rfl rfl rfl (Nat.le_of_ble_eq_true rfl) ⟨(Nat.le_of_ble_eq_true rfl), (Nat.le_of_ble_eq_true rfl)⟩ ⟨rfl, rfl⟩ ⟨(Nat.le_of_ble_eq_true rfl), (Nat.le_of_ble_eq_true rfl)⟩ ?_
        refine V_ireti hC rfl kX6_talk_48 ?_
        exact fM_no 3 (by rw [hs1] at h40; rw [K_talk, if_pos hb, if_pos (b01n.mp h26), if_neg (b01e.mp h40)]) (by decide) (by rw [e_sg0, ups_ups])
    · refine V_aload_n hC kX6_talk_29 rfl ?_
      refine V_iconst hC (2) kX6_talk_30 (by decide) ?_
      refine V_cV_fI hC (ct_fails hWr 2) mkX6_fails lmX6_127 kX6_talk_31 (Nat.le_of_ble_eq_true rfl) rfl rfl rfl (Nat.le_of_ble_eq_true rfl) ⟨(Nat.le_of_ble_eq_true rfl), (Nat.le_of_ble_eq_true rfl)⟩ ⟨rfl, rfl⟩ ⟨(Nat.le_of_ble_eq_true rfl), (Nat.le_of_ble_eq_true rfl)⟩ ?_
      refine V_ireti hC rfl kX6_talk_34 ?_
      exact fM_no 2 (by rw [hs1] at h10; rw [K_talk, if_pos (b01n.mp h10), if_neg (b01e.mp h26)]) (by decide) (by rw [e_sg0, ups_ups])
  · refine V_aload_n hC kX6_talk_13 rfl ?_
    refine V_iconst hC (1) kX6_talk_14 (by decide) ?_
    refine V_cV_fI hC (ct_fails hWr 1) mkX6_fails lmX6_127 kX6_talk_15 (Nat.le_of_ble_eq_true rfl) rfl rfl rfl (Nat.le_of_ble_eq_true rfl) ⟨(Nat.le_of_ble_eq_true rfl), (Nat.le_of_ble_eq_true rfl)⟩ ⟨rfl, rfl⟩ ⟨(Nat.le_of_ble_eq_true rfl), (Nat.le_of_ble_eq_true rfl)⟩ ?_
    refine V_ireti hC rfl kX6_talk_18 ?_
    exact fM_no 1 (by rw [hs1] at h10; rw [K_talk, if_neg (b01e.mp h10)]) (by decide) (by rw [e_sg0, ups_ups])
def mtX6_lean : Mt := (yX6_lean, cX6_lean, 4, (some .int), 3, 66, 0, 0)
theorem kX6_lean_0 : Dk mtX6_lean 0 (.aload_n 0) 1 1 := ⟨by decide +kernel, rfl⟩
theorem kX6_lean_1 : Dk mtX6_lean 1 (.iconst 0) 1 2 := ⟨by decide +kernel, rfl⟩
theorem kX6_lean_2 : Dk mtX6_lean 2 (.putfield 32) 3 5 := ⟨by decide +kernel, rfl⟩
theorem kX6_lean_5 : Dk mtX6_lean 5 (.aload_n 0) 1 6 := ⟨by decide +kernel, rfl⟩
theorem kX6_lean_6 : Dk mtX6_lean 6 (.iload_n 1) 1 7 := ⟨by decide +kernel, rfl⟩
theorem kX6_lean_7 : Dk mtX6_lean 7 (.invokevirtual 114) 3 10 := ⟨by decide +kernel, rfl⟩
theorem kX6_lean_10 : Dk mtX6_lean 10 (.ifCond .ne 9) 3 13 := ⟨by decide +kernel, rfl⟩
theorem kX6_lean_13 : Dk mtX6_lean 13 (.aload_n 0) 1 14 := ⟨by decide +kernel, rfl⟩
theorem kX6_lean_14 : Dk mtX6_lean 14 (.iconst 1) 1 15 := ⟨by decide +kernel, rfl⟩
theorem kX6_lean_15 : Dk mtX6_lean 15 (.invokevirtual 127) 3 18 := ⟨by decide +kernel, rfl⟩
theorem kX6_lean_18 : Dk mtX6_lean 18 (.ireturn) 1 19 := ⟨by decide +kernel, rfl⟩
theorem kX6_lean_19 : Dk mtX6_lean 19 (.iload_n 2) 1 20 := ⟨by decide +kernel, rfl⟩
theorem kX6_lean_20 : Dk mtX6_lean 20 (.bipush (-30)) 2 22 := ⟨by decide +kernel, rfl⟩
theorem kX6_lean_22 : Dk mtX6_lean 22 (.bipush 30) 2 24 := ⟨by decide +kernel, rfl⟩
theorem kX6_lean_24 : Dk mtX6_lean 24 (.invokestatic 39) 3 27 := ⟨by decide +kernel, rfl⟩
theorem kX6_lean_27 : Dk mtX6_lean 27 (.ifCond .ne 9) 3 30 := ⟨by decide +kernel, rfl⟩
theorem kX6_lean_30 : Dk mtX6_lean 30 (.aload_n 0) 1 31 := ⟨by decide +kernel, rfl⟩
theorem kX6_lean_31 : Dk mtX6_lean 31 (.iconst 2) 1 32 := ⟨by decide +kernel, rfl⟩
theorem kX6_lean_32 : Dk mtX6_lean 32 (.invokevirtual 127) 3 35 := ⟨by decide +kernel, rfl⟩
theorem kX6_lean_35 : Dk mtX6_lean 35 (.ireturn) 1 36 := ⟨by decide +kernel, rfl⟩
theorem kX6_lean_36 : Dk mtX6_lean 36 (.aload_n 0) 1 37 := ⟨by decide +kernel, rfl⟩
theorem kX6_lean_37 : Dk mtX6_lean 37 (.invokevirtual 197) 3 40 := ⟨by decide +kernel, rfl⟩
theorem kX6_lean_40 : Dk mtX6_lean 40 (.aload_n 0) 1 41 := ⟨by decide +kernel, rfl⟩
theorem kX6_lean_41 : Dk mtX6_lean 41 (.iload_n 1) 1 42 := ⟨by decide +kernel, rfl⟩
theorem kX6_lean_42 : Dk mtX6_lean 42 (.bipush 6) 2 44 := ⟨by decide +kernel, rfl⟩
theorem kX6_lean_44 : Dk mtX6_lean 44 (.invokevirtual 46) 3 47 := ⟨by decide +kernel, rfl⟩
theorem kX6_lean_47 : Dk mtX6_lean 47 (.istore_n 3) 1 48 := ⟨by decide +kernel, rfl⟩
theorem kX6_lean_48 : Dk mtX6_lean 48 (.aload_n 0) 1 49 := ⟨by decide +kernel, rfl⟩
theorem kX6_lean_49 : Dk mtX6_lean 49 (.iload_n 1) 1 50 := ⟨by decide +kernel, rfl⟩
theorem kX6_lean_50 : Dk mtX6_lean 50 (.iload_n 2) 1 51 := ⟨by decide +kernel, rfl⟩
theorem kX6_lean_51 : Dk mtX6_lean 51 (.invokevirtual 200) 3 54 := ⟨by decide +kernel, rfl⟩
theorem kX6_lean_54 : Dk mtX6_lean 54 (.pop) 1 55 := ⟨by decide +kernel, rfl⟩
theorem kX6_lean_55 : Dk mtX6_lean 55 (.iload_n 3) 1 56 := ⟨by decide +kernel, rfl⟩
theorem kX6_lean_56 : Dk mtX6_lean 56 (.ireturn) 1 57 := ⟨by decide +kernel, rfl⟩
theorem lmX6_200 : LkM RX6 200 mtX6_actsLean := Or.inl (by decide +kernel)
theorem mkX6_actsLean : MkV mtX6_actsLean 2 := ⟨List.mem_of_getElem? (i := 1301) (by decide +kernel), by decide +kernel, by decide +kernel, by decide +kernel, ⟨by decide +kernel, by decide +kernel, by decide +kernel⟩⟩
set_option maxHeartbeats 4000000 in
set_option maxRecDepth 100000 in
theorem ct_lean {l : Launch} {w : Wd} {sg : Sg} (hWr : Wr w) {mo : Nat} (a v : Int32) {c : Nat} (hc : c ≤ 14) (ec : sg mo 4 = nI c) (hI : Inv (sg (mo + 1))) : M l mtX6_lean w [vR (some (6, 0, mo)), vI a, vI v] sg (fM mo sg (K_lean (sg (mo + 1)) a v) (gL (sg (mo + 1)) a 6) (upr (G_saves sg mo c) (mo + 1) (F_lean (sg (mo + 1)) a v))) := by
  refine M_of [some (vR (some (6, 0, mo))), some (vI a), some (vI v), none] rfl (Nat.le_of_ble_eq_true rfl) (by decide +kernel) ?_
  intro p_ e_ s_ m_ args_ below_ meth_ c_ hC hO
  refine V_aload_n hC kX6_lean_0 rfl ?_
  refine V_iconst hC (0) kX6_lean_1 (by decide) ?_
  refine V_putI hC 6 0 lfX6_32 kX6_lean_2 (Nat.le_of_ble_eq_true rfl) (Nat.le_of_ble_eq_true rfl) rfl rfl ⟨rfl, rfl⟩ ?_
  refine V_nameS (fun sg0 e_sg0 => ?_)
  have hs1 : sg0 (mo + 1) = sg (mo + 1) := by rw [e_sg0]; exact upr_ne _ _ (by omega)
  have hs4 : sg0 mo 4 = sg mo 4 := by rw [e_sg0, ups_at]; exact pk_un (by decide)
  refine V_aload_n hC kX6_lean_5 rfl ?_
  refine V_iload_n hC kX6_lean_6 rfl ?_
  refine V_cV_fI hC (ct_isLight hWr a) mkX6_isLight lmX6_114 kX6_lean_7 (Nat.le_of_ble_eq_true rfl) rfl rfl rfl (Nat.le_of_ble_eq_true rfl) ⟨(Nat.le_of_ble_eq_true rfl), (Nat.le_of_ble_eq_true rfl)⟩ ⟨rfl, rfl⟩ ⟨(Nat.le_of_ble_eq_true rfl), (Nat.le_of_ble_eq_true rfl)⟩ ?_
  refine V_if_ne hC 19 kX6_lean_10 (by decide) (fun h10 => ?_) (fun h10 => ?_)
  · refine V_iload_n hC kX6_lean_19 rfl ?_
    refine V_bipush hC (-30) kX6_lean_20 (by decide) ?_
    refine V_bipush hC (30) kX6_lean_22 (by decide) ?_
    refine V_cS_fI hC (ct_in hWr _ _ _) mkX6_in lmX6_39 kX6_lean_24 rfl rfl (Nat.le_of_ble_eq_true rfl) ⟨(Nat.le_of_ble_eq_true rfl), (Nat.le_of_ble_eq_true rfl)⟩ ⟨rfl, rfl⟩ ⟨(Nat.le_of_ble_eq_true rfl), (Nat.le_of_ble_eq_true rfl)⟩ ?_
    refine V_if_ne hC 36 kX6_lean_27 (by decide) (fun h27 => ?_) (fun h27 => ?_)
    · refine V_aload_n hC kX6_lean_36 rfl ?_
      refine V_cV_fV hC (ct_saves hWr hc (by rw [hs4]; exact ec)) mkX6_saves lmX6_197 kX6_lean_37 (Nat.le_of_ble_eq_true rfl) rfl rfl rfl (Nat.le_of_ble_eq_true rfl) ⟨(Nat.le_of_ble_eq_true rfl), (Nat.le_of_ble_eq_true rfl)⟩ ⟨rfl, rfl⟩ ⟨(Nat.le_of_ble_eq_true rfl), (Nat.le_of_ble_eq_true rfl)⟩ ?_
      have hb := b01n.mp (hs1 ▸ h10)
      have hcc : cLean (sg (mo + 1)) a v := ⟨hb, b01n.mp h27⟩
      refine V_aload_n hC kX6_lean_40 rfl ?_
      refine V_iload_n hC kX6_lean_41 rfl ?_
      refine V_bipush hC (6) kX6_lean_42 (by decide) ?_
      refine V_cV_fI hC (ct_of hWr a 6 (vpL hI.hc4 hb) (vp_lit rfl)) mkX6_of lmX6_46 kX6_lean_44 (Nat.le_of_ble_eq_true rfl) rfl rfl rfl (Nat.le_of_ble_eq_true rfl) ⟨(Nat.le_of_ble_eq_true rfl), (Nat.le_of_ble_eq_true rfl)⟩ ⟨rfl, rfl⟩ ⟨(Nat.le_of_ble_eq_true rfl), (Nat.le_of_ble_eq_true rfl)⟩ ?_
      refine V_nameI (fun had e_had => ?_)
      refine V_istore_n hC [some _, some _, some _, some _] kX6_lean_47 rfl (Nat.le_of_ble_eq_true rfl) ?_
      refine V_aload_n hC kX6_lean_48 rfl ?_
      refine V_iload_n hC kX6_lean_49 rfl ?_
      refine V_iload_n hC kX6_lean_50 rfl ?_
      refine V_cV_fI hC (ct_actsLean hWr a v (by rw [saves_1, hs1]; exact hI.hc4)) mkX6_actsLean lmX6_200 kX6_lean_51 (Nat.le_of_ble_eq_true rfl) rfl rfl rfl (Nat.le_of_ble_eq_true rfl) ⟨(Nat.le_of_ble_eq_true rfl), (Nat.le_of_ble_eq_true rfl)⟩ ⟨rfl, rfl⟩ ⟨(Nat.le_of_ble_eq_true rfl), (Nat.le_of_ble_eq_true rfl)⟩ ?_
      refine V_pop hC kX6_lean_54 rfl ?_
      refine V_iload_n hC kX6_lean_55 rfl ?_
      refine V_ireti hC rfl kX6_lean_56 ?_
      rw [saves_1, hs1] at e_had ⊢
      rw [if_pos hcc]
      exact fM_ok (by rw [K_lean, if_pos hb, if_pos hcc.2]) e_had (by rw [e_sg0, saves_thr, ups_upr _ _ _ _ (by omega)])
    · refine V_aload_n hC kX6_lean_30 rfl ?_
      refine V_iconst hC (2) kX6_lean_31 (by decide) ?_
      refine V_cV_fI hC (ct_fails hWr 2) mkX6_fails lmX6_127 kX6_lean_32 (Nat.le_of_ble_eq_true rfl) rfl rfl rfl (Nat.le_of_ble_eq_true rfl) ⟨(Nat.le_of_ble_eq_true rfl), (Nat.le_of_ble_eq_true rfl)⟩ ⟨rfl, rfl⟩ ⟨(Nat.le_of_ble_eq_true rfl), (Nat.le_of_ble_eq_true rfl)⟩ ?_
      refine V_ireti hC rfl kX6_lean_35 ?_
      exact fM_no 2 (by rw [hs1] at h10; rw [K_lean, if_pos (b01n.mp h10), if_neg (b01e.mp h27)]) (by decide) (by rw [e_sg0, ups_ups])
  · refine V_aload_n hC kX6_lean_13 rfl ?_
    refine V_iconst hC (1) kX6_lean_14 (by decide) ?_
    refine V_cV_fI hC (ct_fails hWr 1) mkX6_fails lmX6_127 kX6_lean_15 (Nat.le_of_ble_eq_true rfl) rfl rfl rfl (Nat.le_of_ble_eq_true rfl) ⟨(Nat.le_of_ble_eq_true rfl), (Nat.le_of_ble_eq_true rfl)⟩ ⟨rfl, rfl⟩ ⟨(Nat.le_of_ble_eq_true rfl), (Nat.le_of_ble_eq_true rfl)⟩ ?_
    refine V_ireti hC rfl kX6_lean_18 ?_
    exact fM_no 1 (by rw [hs1] at h10; rw [K_lean, if_neg (b01e.mp h10)]) (by decide) (by rw [e_sg0, ups_ups])
def mtX6_dim : Mt := (yX6_dim, cX6_dim, 4, (some .int), 3, 66, 0, 0)
theorem kX6_dim_0 : Dk mtX6_dim 0 (.aload_n 0) 1 1 := ⟨by decide +kernel, rfl⟩
theorem kX6_dim_1 : Dk mtX6_dim 1 (.iconst 0) 1 2 := ⟨by decide +kernel, rfl⟩
theorem kX6_dim_2 : Dk mtX6_dim 2 (.putfield 32) 3 5 := ⟨by decide +kernel, rfl⟩
theorem kX6_dim_5 : Dk mtX6_dim 5 (.aload_n 0) 1 6 := ⟨by decide +kernel, rfl⟩
theorem kX6_dim_6 : Dk mtX6_dim 6 (.iload_n 1) 1 7 := ⟨by decide +kernel, rfl⟩
theorem kX6_dim_7 : Dk mtX6_dim 7 (.invokevirtual 114) 3 10 := ⟨by decide +kernel, rfl⟩
theorem kX6_dim_10 : Dk mtX6_dim 10 (.ifCond .ne 9) 3 13 := ⟨by decide +kernel, rfl⟩
theorem kX6_dim_13 : Dk mtX6_dim 13 (.aload_n 0) 1 14 := ⟨by decide +kernel, rfl⟩
theorem kX6_dim_14 : Dk mtX6_dim 14 (.iconst 1) 1 15 := ⟨by decide +kernel, rfl⟩
theorem kX6_dim_15 : Dk mtX6_dim 15 (.invokevirtual 127) 3 18 := ⟨by decide +kernel, rfl⟩
theorem kX6_dim_18 : Dk mtX6_dim 18 (.ireturn) 1 19 := ⟨by decide +kernel, rfl⟩
theorem kX6_dim_19 : Dk mtX6_dim 19 (.iload_n 2) 1 20 := ⟨by decide +kernel, rfl⟩
theorem kX6_dim_20 : Dk mtX6_dim 20 (.bipush 10) 2 22 := ⟨by decide +kernel, rfl⟩
theorem kX6_dim_22 : Dk mtX6_dim 22 (.bipush 99) 2 24 := ⟨by decide +kernel, rfl⟩
theorem kX6_dim_24 : Dk mtX6_dim 24 (.invokestatic 39) 3 27 := ⟨by decide +kernel, rfl⟩
theorem kX6_dim_27 : Dk mtX6_dim 27 (.ifCond .ne 9) 3 30 := ⟨by decide +kernel, rfl⟩
theorem kX6_dim_30 : Dk mtX6_dim 30 (.aload_n 0) 1 31 := ⟨by decide +kernel, rfl⟩
theorem kX6_dim_31 : Dk mtX6_dim 31 (.iconst 2) 1 32 := ⟨by decide +kernel, rfl⟩
theorem kX6_dim_32 : Dk mtX6_dim 32 (.invokevirtual 127) 3 35 := ⟨by decide +kernel, rfl⟩
theorem kX6_dim_35 : Dk mtX6_dim 35 (.ireturn) 1 36 := ⟨by decide +kernel, rfl⟩
theorem kX6_dim_36 : Dk mtX6_dim 36 (.aload_n 0) 1 37 := ⟨by decide +kernel, rfl⟩
theorem kX6_dim_37 : Dk mtX6_dim 37 (.invokevirtual 197) 3 40 := ⟨by decide +kernel, rfl⟩
theorem kX6_dim_40 : Dk mtX6_dim 40 (.aload_n 0) 1 41 := ⟨by decide +kernel, rfl⟩
theorem kX6_dim_41 : Dk mtX6_dim 41 (.iload_n 1) 1 42 := ⟨by decide +kernel, rfl⟩
theorem kX6_dim_42 : Dk mtX6_dim 42 (.iconst 1) 1 43 := ⟨by decide +kernel, rfl⟩
theorem kX6_dim_43 : Dk mtX6_dim 43 (.invokevirtual 46) 3 46 := ⟨by decide +kernel, rfl⟩
theorem kX6_dim_46 : Dk mtX6_dim 46 (.istore_n 3) 1 47 := ⟨by decide +kernel, rfl⟩
theorem kX6_dim_47 : Dk mtX6_dim 47 (.aload_n 0) 1 48 := ⟨by decide +kernel, rfl⟩
theorem kX6_dim_48 : Dk mtX6_dim 48 (.iload_n 1) 1 49 := ⟨by decide +kernel, rfl⟩
theorem kX6_dim_49 : Dk mtX6_dim 49 (.iload_n 2) 1 50 := ⟨by decide +kernel, rfl⟩
theorem kX6_dim_50 : Dk mtX6_dim 50 (.invokevirtual 203) 3 53 := ⟨by decide +kernel, rfl⟩
theorem kX6_dim_53 : Dk mtX6_dim 53 (.pop) 1 54 := ⟨by decide +kernel, rfl⟩
theorem kX6_dim_54 : Dk mtX6_dim 54 (.iload_n 3) 1 55 := ⟨by decide +kernel, rfl⟩
theorem kX6_dim_55 : Dk mtX6_dim 55 (.ireturn) 1 56 := ⟨by decide +kernel, rfl⟩
theorem lmX6_203 : LkM RX6 203 mtX6_actsDim := Or.inl (by decide +kernel)
theorem mkX6_actsDim : MkV mtX6_actsDim 2 := ⟨List.mem_of_getElem? (i := 1309) (by decide +kernel), by decide +kernel, by decide +kernel, by decide +kernel, ⟨by decide +kernel, by decide +kernel, by decide +kernel⟩⟩
set_option maxHeartbeats 4000000 in
set_option maxRecDepth 100000 in
theorem ct_dim {l : Launch} {w : Wd} {sg : Sg} (hWr : Wr w) {mo : Nat} (a v : Int32) {c : Nat} (hc : c ≤ 14) (ec : sg mo 4 = nI c) (hI : Inv (sg (mo + 1))) : M l mtX6_dim w [vR (some (6, 0, mo)), vI a, vI v] sg (fM mo sg (K_dim (sg (mo + 1)) a v) (gL (sg (mo + 1)) a 1) (upr (G_saves sg mo c) (mo + 1) (F_dim (sg (mo + 1)) a v))) := by
  refine M_of [some (vR (some (6, 0, mo))), some (vI a), some (vI v), none] rfl (Nat.le_of_ble_eq_true rfl) (by decide +kernel) ?_
  intro p_ e_ s_ m_ args_ below_ meth_ c_ hC hO
  refine V_aload_n hC kX6_dim_0 rfl ?_
  refine V_iconst hC (0) kX6_dim_1 (by decide) ?_
  refine V_putI hC 6 0 lfX6_32 kX6_dim_2 (Nat.le_of_ble_eq_true rfl) (Nat.le_of_ble_eq_true rfl) rfl rfl ⟨rfl, rfl⟩ ?_
  refine V_nameS (fun sg0 e_sg0 => ?_)
  have hs1 : sg0 (mo + 1) = sg (mo + 1) := by rw [e_sg0]; exact upr_ne _ _ (by omega)
  have hs4 : sg0 mo 4 = sg mo 4 := by rw [e_sg0, ups_at]; exact pk_un (by decide)
  refine V_aload_n hC kX6_dim_5 rfl ?_
  refine V_iload_n hC kX6_dim_6 rfl ?_
  refine V_cV_fI hC (ct_isLight hWr a) mkX6_isLight lmX6_114 kX6_dim_7 (Nat.le_of_ble_eq_true rfl) rfl rfl rfl (Nat.le_of_ble_eq_true rfl) ⟨(Nat.le_of_ble_eq_true rfl), (Nat.le_of_ble_eq_true rfl)⟩ ⟨rfl, rfl⟩ ⟨(Nat.le_of_ble_eq_true rfl), (Nat.le_of_ble_eq_true rfl)⟩ ?_
  refine V_if_ne hC 19 kX6_dim_10 (by decide) (fun h10 => ?_) (fun h10 => ?_)
  · refine V_iload_n hC kX6_dim_19 rfl ?_
    refine V_bipush hC (10) kX6_dim_20 (by decide) ?_
    refine V_bipush hC (99) kX6_dim_22 (by decide) ?_
    refine V_cS_fI hC (ct_in hWr _ _ _) mkX6_in lmX6_39 kX6_dim_24 rfl rfl (Nat.le_of_ble_eq_true rfl) ⟨(Nat.le_of_ble_eq_true rfl), (Nat.le_of_ble_eq_true rfl)⟩ ⟨rfl, rfl⟩ ⟨(Nat.le_of_ble_eq_true rfl), (Nat.le_of_ble_eq_true rfl)⟩ ?_
    refine V_if_ne hC 36 kX6_dim_27 (by decide) (fun h27 => ?_) (fun h27 => ?_)
    · refine V_aload_n hC kX6_dim_36 rfl ?_
      refine V_cV_fV hC (ct_saves hWr hc (by rw [hs4]; exact ec)) mkX6_saves lmX6_197 kX6_dim_37 (Nat.le_of_ble_eq_true rfl) rfl rfl rfl (Nat.le_of_ble_eq_true rfl) ⟨(Nat.le_of_ble_eq_true rfl), (Nat.le_of_ble_eq_true rfl)⟩ ⟨rfl, rfl⟩ ⟨(Nat.le_of_ble_eq_true rfl), (Nat.le_of_ble_eq_true rfl)⟩ ?_
      have hb := b01n.mp (hs1 ▸ h10)
      have hcc : cDim (sg (mo + 1)) a v := ⟨hb, b01n.mp h27⟩
      refine V_aload_n hC kX6_dim_40 rfl ?_
      refine V_iload_n hC kX6_dim_41 rfl ?_
      refine V_iconst hC (1) kX6_dim_42 (by decide) ?_
      refine V_cV_fI hC (ct_of hWr a 1 (vpL hI.hc4 hb) (vp_lit rfl)) mkX6_of lmX6_46 kX6_dim_43 (Nat.le_of_ble_eq_true rfl) rfl rfl rfl (Nat.le_of_ble_eq_true rfl) ⟨(Nat.le_of_ble_eq_true rfl), (Nat.le_of_ble_eq_true rfl)⟩ ⟨rfl, rfl⟩ ⟨(Nat.le_of_ble_eq_true rfl), (Nat.le_of_ble_eq_true rfl)⟩ ?_
      refine V_nameI (fun had e_had => ?_)
      refine V_istore_n hC [some _, some _, some _, some _] kX6_dim_46 rfl (Nat.le_of_ble_eq_true rfl) ?_
      refine V_aload_n hC kX6_dim_47 rfl ?_
      refine V_iload_n hC kX6_dim_48 rfl ?_
      refine V_iload_n hC kX6_dim_49 rfl ?_
      refine V_cV_fI hC (ct_actsDim hWr a v (by rw [saves_1, hs1]; exact hI.hc4)) mkX6_actsDim lmX6_203 kX6_dim_50 (Nat.le_of_ble_eq_true rfl) rfl rfl rfl (Nat.le_of_ble_eq_true rfl) ⟨(Nat.le_of_ble_eq_true rfl), (Nat.le_of_ble_eq_true rfl)⟩ ⟨rfl, rfl⟩ ⟨(Nat.le_of_ble_eq_true rfl), (Nat.le_of_ble_eq_true rfl)⟩ ?_
      refine V_pop hC kX6_dim_53 rfl ?_
      refine V_iload_n hC kX6_dim_54 rfl ?_
      refine V_ireti hC rfl kX6_dim_55 ?_
      rw [saves_1, hs1] at e_had ⊢
      rw [if_pos hcc]
      exact fM_ok (by rw [K_dim, if_pos hb, if_pos hcc.2]) e_had (by rw [e_sg0, saves_thr, ups_upr _ _ _ _ (by omega)])
    · refine V_aload_n hC kX6_dim_30 rfl ?_
      refine V_iconst hC (2) kX6_dim_31 (by decide) ?_
      refine V_cV_fI hC (ct_fails hWr 2) mkX6_fails lmX6_127 kX6_dim_32 (Nat.le_of_ble_eq_true rfl) rfl rfl rfl (Nat.le_of_ble_eq_true rfl) ⟨(Nat.le_of_ble_eq_true rfl), (Nat.le_of_ble_eq_true rfl)⟩ ⟨rfl, rfl⟩ ⟨(Nat.le_of_ble_eq_true rfl), (Nat.le_of_ble_eq_true rfl)⟩ ?_
      refine V_ireti hC rfl kX6_dim_35 ?_
      exact fM_no 2 (by rw [hs1] at h10; rw [K_dim, if_pos (b01n.mp h10), if_neg (b01e.mp h27)]) (by decide) (by rw [e_sg0, ups_ups])
  · refine V_aload_n hC kX6_dim_13 rfl ?_
    refine V_iconst hC (1) kX6_dim_14 (by decide) ?_
    refine V_cV_fI hC (ct_fails hWr 1) mkX6_fails lmX6_127 kX6_dim_15 (Nat.le_of_ble_eq_true rfl) rfl rfl rfl (Nat.le_of_ble_eq_true rfl) ⟨(Nat.le_of_ble_eq_true rfl), (Nat.le_of_ble_eq_true rfl)⟩ ⟨rfl, rfl⟩ ⟨(Nat.le_of_ble_eq_true rfl), (Nat.le_of_ble_eq_true rfl)⟩ ?_
    refine V_ireti hC rfl kX6_dim_18 ?_
    exact fM_no 1 (by rw [hs1] at h10; rw [K_dim, if_neg (b01e.mp h10)]) (by decide) (by rw [e_sg0, ups_ups])
def mtX6_set : Mt := (yX6_set, cX6_set, 4, (some .int), 2, 43, 0, 0)
theorem kX6_set_0 : Dk mtX6_set 0 (.aload_n 0) 1 1 := ⟨by decide +kernel, rfl⟩
theorem kX6_set_1 : Dk mtX6_set 1 (.iconst 0) 1 2 := ⟨by decide +kernel, rfl⟩
theorem kX6_set_2 : Dk mtX6_set 2 (.putfield 32) 3 5 := ⟨by decide +kernel, rfl⟩
theorem kX6_set_5 : Dk mtX6_set 5 (.iload_n 1) 1 6 := ⟨by decide +kernel, rfl⟩
theorem kX6_set_6 : Dk mtX6_set 6 (.iload_n 2) 1 7 := ⟨by decide +kernel, rfl⟩
theorem kX6_set_7 : Dk mtX6_set 7 (.invokestatic 120) 3 10 := ⟨by decide +kernel, rfl⟩
theorem kX6_set_10 : Dk mtX6_set 10 (.ifCond .ne 9) 3 13 := ⟨by decide +kernel, rfl⟩
theorem kX6_set_13 : Dk mtX6_set 13 (.aload_n 0) 1 14 := ⟨by decide +kernel, rfl⟩
theorem kX6_set_14 : Dk mtX6_set 14 (.iconst 1) 1 15 := ⟨by decide +kernel, rfl⟩
theorem kX6_set_15 : Dk mtX6_set 15 (.invokevirtual 127) 3 18 := ⟨by decide +kernel, rfl⟩
theorem kX6_set_18 : Dk mtX6_set 18 (.ireturn) 1 19 := ⟨by decide +kernel, rfl⟩
theorem kX6_set_19 : Dk mtX6_set 19 (.aload_n 0) 1 20 := ⟨by decide +kernel, rfl⟩
theorem kX6_set_20 : Dk mtX6_set 20 (.invokevirtual 197) 3 23 := ⟨by decide +kernel, rfl⟩
theorem kX6_set_23 : Dk mtX6_set 23 (.aload_n 0) 1 24 := ⟨by decide +kernel, rfl⟩
theorem kX6_set_24 : Dk mtX6_set 24 (.getfield 7) 3 27 := ⟨by decide +kernel, rfl⟩
theorem kX6_set_27 : Dk mtX6_set 27 (.iload_n 1) 1 28 := ⟨by decide +kernel, rfl⟩
theorem kX6_set_28 : Dk mtX6_set 28 (.iaload) 1 29 := ⟨by decide +kernel, rfl⟩
theorem kX6_set_29 : Dk mtX6_set 29 (.istore_n 3) 1 30 := ⟨by decide +kernel, rfl⟩
theorem kX6_set_30 : Dk mtX6_set 30 (.aload_n 0) 1 31 := ⟨by decide +kernel, rfl⟩
theorem kX6_set_31 : Dk mtX6_set 31 (.getfield 7) 3 34 := ⟨by decide +kernel, rfl⟩
theorem kX6_set_34 : Dk mtX6_set 34 (.iload_n 1) 1 35 := ⟨by decide +kernel, rfl⟩
theorem kX6_set_35 : Dk mtX6_set 35 (.iload_n 2) 1 36 := ⟨by decide +kernel, rfl⟩
theorem kX6_set_36 : Dk mtX6_set 36 (.iastore) 1 37 := ⟨by decide +kernel, rfl⟩
theorem kX6_set_37 : Dk mtX6_set 37 (.iload_n 3) 1 38 := ⟨by decide +kernel, rfl⟩
theorem kX6_set_38 : Dk mtX6_set 38 (.ireturn) 1 39 := ⟨by decide +kernel, rfl⟩
set_option maxHeartbeats 4000000 in
set_option maxRecDepth 100000 in
theorem ct_set {l : Launch} {w : Wd} {sg : Sg} (hWr : Wr w) {mo : Nat} (a v : Int32) {c : Nat} (hc : c ≤ 14) (ec : sg mo 4 = nI c) : M l mtX6_set w [vR (some (6, 0, mo)), vI a, vI v] sg (fM mo sg (K_set a v) ((sg (mo + 1)) (tn a)) (upr (G_saves sg mo c) (mo + 1) (upd (sg (mo + 1)) (tn a) v))) := by
  refine M_of [some (vR (some (6, 0, mo))), some (vI a), some (vI v), none] rfl (Nat.le_of_ble_eq_true rfl) (by decide +kernel) ?_
  intro p_ e_ s_ m_ args_ below_ meth_ c_ hC hO
  refine V_aload_n hC kX6_set_0 rfl ?_
  refine V_iconst hC (0) kX6_set_1 (by decide) ?_
  refine V_putI hC 6 0 lfX6_32 kX6_set_2 (Nat.le_of_ble_eq_true rfl) (Nat.le_of_ble_eq_true rfl) rfl rfl ⟨rfl, rfl⟩ ?_
  refine V_nameS (fun sg0 e_sg0 => ?_)
  have hs1 : sg0 (mo + 1) = sg (mo + 1) := by rw [e_sg0]; exact upr_ne _ _ (by omega)
  have hs4 : sg0 mo 4 = sg mo 4 := by rw [e_sg0, ups_at]; exact pk_un (by decide)
  refine V_iload_n hC kX6_set_5 rfl ?_
  refine V_iload_n hC kX6_set_6 rfl ?_
  refine V_cS_fI hC (ct_isSetting hWr _ _) mkX6_isSetting lmX6_120 kX6_set_7 rfl rfl (Nat.le_of_ble_eq_true rfl) ⟨(Nat.le_of_ble_eq_true rfl), (Nat.le_of_ble_eq_true rfl)⟩ ⟨rfl, rfl⟩ ⟨(Nat.le_of_ble_eq_true rfl), (Nat.le_of_ble_eq_true rfl)⟩ ?_
  refine V_if_ne hC 19 kX6_set_10 (by decide) (fun h10 => ?_) (fun h10 => ?_)
  · refine V_aload_n hC kX6_set_19 rfl ?_
    refine V_cV_fV hC (ct_saves hWr hc (by rw [hs4]; exact ec)) mkX6_saves lmX6_197 kX6_set_20 (Nat.le_of_ble_eq_true rfl) rfl rfl rfl (Nat.le_of_ble_eq_true rfl) ⟨(Nat.le_of_ble_eq_true rfl), (Nat.le_of_ble_eq_true rfl)⟩ ⟨rfl, rfl⟩ ⟨(Nat.le_of_ble_eq_true rfl), (Nat.le_of_ble_eq_true rfl)⟩ ?_
    have hcc := b01n.mp h10
    refine V_aload_n hC kX6_set_23 rfl ?_
    refine V_getR hC hWr 6 1 lfX6_7 kX6_set_24 (Nat.le_of_ble_eq_true rfl) (Nat.le_of_ble_eq_true rfl) rfl ?_
    refine V_iload_n hC kX6_set_27 rfl ?_
    refine V_iald hC _ rfl kX6_set_28 (inn_vp (by decide) hcc.1) ?_
    refine V_nameI (fun had e_had => ?_)
    refine V_istore_n hC [some _, some _, some _, some _] kX6_set_29 rfl (Nat.le_of_ble_eq_true rfl) ?_
    refine V_aload_n hC kX6_set_30 rfl ?_
    refine V_getR hC hWr 6 1 lfX6_7 kX6_set_31 (Nat.le_of_ble_eq_true rfl) (Nat.le_of_ble_eq_true rfl) rfl ?_
    refine V_iload_n hC kX6_set_34 rfl ?_
    refine V_iload_n hC kX6_set_35 rfl ?_
    refine V_iast hC _ rfl kX6_set_36 (inn_vp (by decide) hcc.1) ?_
    refine V_iload_n hC kX6_set_37 rfl ?_
    refine V_ireti hC rfl kX6_set_38 ?_
    rw [saves_1, hs1] at e_had
    unfold ups
    rw [saves_1, hs1]
    exact fM_ok (by rw [K_set, if_pos hcc]) e_had (by rw [e_sg0, saves_thr]; exact (ups_upr (G_saves sg mo c) (k := mo + 1) (k' := mo) 0 0 _ (by omega)).symm)
  · refine V_aload_n hC kX6_set_13 rfl ?_
    refine V_iconst hC (1) kX6_set_14 (by decide) ?_
    refine V_cV_fI hC (ct_fails hWr 1) mkX6_fails lmX6_127 kX6_set_15 (Nat.le_of_ble_eq_true rfl) rfl rfl rfl (Nat.le_of_ble_eq_true rfl) ⟨(Nat.le_of_ble_eq_true rfl), (Nat.le_of_ble_eq_true rfl)⟩ ⟨rfl, rfl⟩ ⟨(Nat.le_of_ble_eq_true rfl), (Nat.le_of_ble_eq_true rfl)⟩ ?_
    refine V_ireti hC rfl kX6_set_18 ?_
    exact fM_no 1 (by rw [K_set, if_neg (b01e.mp h10)]) (by decide) (by rw [e_sg0, ups_ups])
def mtX6_ticks : Mt := (yX6_ticks, cX6_ticks, 2, (some .int), 9, 207, 0, 0)
theorem kX6_ticks_0 : Dk mtX6_ticks 0 (.aload_n 0) 1 1 := ⟨by decide +kernel, rfl⟩
theorem kX6_ticks_1 : Dk mtX6_ticks 1 (.iconst 0) 1 2 := ⟨by decide +kernel, rfl⟩
theorem kX6_ticks_2 : Dk mtX6_ticks 2 (.putfield 32) 3 5 := ⟨by decide +kernel, rfl⟩
theorem kX6_ticks_5 : Dk mtX6_ticks 5 (.iload_n 1) 1 6 := ⟨by decide +kernel, rfl⟩
theorem kX6_ticks_6 : Dk mtX6_ticks 6 (.iconst 1) 1 7 := ⟨by decide +kernel, rfl⟩
theorem kX6_ticks_7 : Dk mtX6_ticks 7 (.bipush 60) 2 9 := ⟨by decide +kernel, rfl⟩
theorem kX6_ticks_9 : Dk mtX6_ticks 9 (.invokestatic 39) 3 12 := ⟨by decide +kernel, rfl⟩
theorem kX6_ticks_12 : Dk mtX6_ticks 12 (.ifCond .ne 9) 3 15 := ⟨by decide +kernel, rfl⟩
theorem kX6_ticks_15 : Dk mtX6_ticks 15 (.aload_n 0) 1 16 := ⟨by decide +kernel, rfl⟩
theorem kX6_ticks_16 : Dk mtX6_ticks 16 (.iconst 1) 1 17 := ⟨by decide +kernel, rfl⟩
theorem kX6_ticks_17 : Dk mtX6_ticks 17 (.invokevirtual 127) 3 20 := ⟨by decide +kernel, rfl⟩
theorem kX6_ticks_20 : Dk mtX6_ticks 20 (.ireturn) 1 21 := ⟨by decide +kernel, rfl⟩
theorem kX6_ticks_21 : Dk mtX6_ticks 21 (.aload_n 0) 1 22 := ⟨by decide +kernel, rfl⟩
theorem kX6_ticks_22 : Dk mtX6_ticks 22 (.invokevirtual 197) 3 25 := ⟨by decide +kernel, rfl⟩
theorem kX6_ticks_25 : Dk mtX6_ticks 25 (.aload_n 0) 1 26 := ⟨by decide +kernel, rfl⟩
theorem kX6_ticks_26 : Dk mtX6_ticks 26 (.iload_n 1) 1 27 := ⟨by decide +kernel, rfl⟩
theorem kX6_ticks_27 : Dk mtX6_ticks 27 (.invokevirtual 166) 3 30 := ⟨by decide +kernel, rfl⟩
theorem kX6_ticks_30 : Dk mtX6_ticks 30 (.ireturn) 1 31 := ⟨by decide +kernel, rfl⟩
theorem lmX6_166 : LkM RX6 166 mtX6_actsTicks := Or.inl (by decide +kernel)
theorem mkX6_actsTicks : MkV mtX6_actsTicks 1 := ⟨List.mem_of_getElem? (i := 1173) (by decide +kernel), by decide +kernel, by decide +kernel, by decide +kernel, ⟨by decide +kernel, by decide +kernel, by decide +kernel⟩⟩
set_option maxHeartbeats 4000000 in
set_option maxRecDepth 100000 in
theorem ct_ticks {l : Launch} {w : Wd} {sg : Sg} (hWr : Wr w) {mo : Nat} (a : Int32) {c : Nat} (hc : c ≤ 14) (ec : sg mo 4 = nI c) (hI : Inv (sg (mo + 1))) : M l mtX6_ticks w [vR (some (6, 0, mo)), vI a] sg (fM mo sg (K_ticks a) (F_ticks (sg (mo + 1)) (tn a) 7 - (sg (mo + 1)) 7) (upr (G_saves sg mo c) (mo + 1) (F_ticks (sg (mo + 1)) (tn a)))) := by
  refine M_of [some (vR (some (6, 0, mo))), some (vI a)] rfl (Nat.le_of_ble_eq_true rfl) (by decide +kernel) ?_
  intro p_ e_ s_ m_ args_ below_ meth_ c_ hC hO
  refine V_aload_n hC kX6_ticks_0 rfl ?_
  refine V_iconst hC (0) kX6_ticks_1 (by decide) ?_
  refine V_putI hC 6 0 lfX6_32 kX6_ticks_2 (Nat.le_of_ble_eq_true rfl) (Nat.le_of_ble_eq_true rfl) rfl rfl ⟨rfl, rfl⟩ ?_
  refine V_nameS (fun sg0 e_sg0 => ?_)
  have hs1 : sg0 (mo + 1) = sg (mo + 1) := by rw [e_sg0]; exact upr_ne _ _ (by omega)
  have hs4 : sg0 mo 4 = sg mo 4 := by rw [e_sg0, ups_at]; exact pk_un (by decide)
  refine V_iload_n hC kX6_ticks_5 rfl ?_
  refine V_iconst hC (1) kX6_ticks_6 (by decide) ?_
  refine V_bipush hC (60) kX6_ticks_7 (by decide) ?_
  refine V_cS_fI hC (ct_in hWr _ _ _) mkX6_in lmX6_39 kX6_ticks_9 rfl rfl (Nat.le_of_ble_eq_true rfl) ⟨(Nat.le_of_ble_eq_true rfl), (Nat.le_of_ble_eq_true rfl)⟩ ⟨rfl, rfl⟩ ⟨(Nat.le_of_ble_eq_true rfl), (Nat.le_of_ble_eq_true rfl)⟩ ?_
  refine V_if_ne hC 21 kX6_ticks_12 (by decide) (fun h12 => ?_) (fun h12 => ?_)
  · refine V_aload_n hC kX6_ticks_21 rfl ?_
    refine V_cV_fV hC (ct_saves hWr hc (by rw [hs4]; exact ec)) mkX6_saves lmX6_197 kX6_ticks_22 (Nat.le_of_ble_eq_true rfl) rfl rfl rfl (Nat.le_of_ble_eq_true rfl) ⟨(Nat.le_of_ble_eq_true rfl), (Nat.le_of_ble_eq_true rfl)⟩ ⟨rfl, rfl⟩ ⟨(Nat.le_of_ble_eq_true rfl), (Nat.le_of_ble_eq_true rfl)⟩ ?_
    have hcc := b01n.mp h12
    refine V_aload_n hC kX6_ticks_25 rfl ?_
    refine V_iload_n hC kX6_ticks_26 rfl ?_
    refine V_cV_fI hC (ct_actsTicks hWr a (by rw [saves_1, hs1]; exact hI)) mkX6_actsTicks lmX6_166 kX6_ticks_27 (Nat.le_of_ble_eq_true rfl) rfl rfl rfl (Nat.le_of_ble_eq_true rfl) ⟨(Nat.le_of_ble_eq_true rfl), (Nat.le_of_ble_eq_true rfl)⟩ ⟨rfl, rfl⟩ ⟨(Nat.le_of_ble_eq_true rfl), (Nat.le_of_ble_eq_true rfl)⟩ ?_
    refine V_ireti hC rfl kX6_ticks_30 ?_
    rw [if_pos hcc, if_pos hcc, saves_1, hs1]
    exact fM_ok (by rw [K_ticks, if_pos hcc]) rfl (by rw [e_sg0, saves_thr, ups_upr _ _ _ _ (by omega)])
  · refine V_aload_n hC kX6_ticks_15 rfl ?_
    refine V_iconst hC (1) kX6_ticks_16 (by decide) ?_
    refine V_cV_fI hC (ct_fails hWr 1) mkX6_fails lmX6_127 kX6_ticks_17 (Nat.le_of_ble_eq_true rfl) rfl rfl rfl (Nat.le_of_ble_eq_true rfl) ⟨(Nat.le_of_ble_eq_true rfl), (Nat.le_of_ble_eq_true rfl)⟩ ⟨rfl, rfl⟩ ⟨(Nat.le_of_ble_eq_true rfl), (Nat.le_of_ble_eq_true rfl)⟩ ?_
    refine V_ireti hC rfl kX6_ticks_20 ?_
    exact fM_no 1 (by rw [K_ticks, if_neg (b01e.mp h12)]) (by decide) (by rw [e_sg0, ups_ups])
def mtX6_undo : Mt := (yX6_undo, cX6_undo, 2, (some .int), 1, 21, 0, 0)
theorem kX6_undo_0 : Dk mtX6_undo 0 (.aload_n 0) 1 1 := ⟨by decide +kernel, rfl⟩
theorem kX6_undo_1 : Dk mtX6_undo 1 (.iconst 0) 1 2 := ⟨by decide +kernel, rfl⟩
theorem kX6_undo_2 : Dk mtX6_undo 2 (.putfield 32) 3 5 := ⟨by decide +kernel, rfl⟩
theorem kX6_undo_5 : Dk mtX6_undo 5 (.aload_n 0) 1 6 := ⟨by decide +kernel, rfl⟩
theorem kX6_undo_6 : Dk mtX6_undo 6 (.getfield 43) 3 9 := ⟨by decide +kernel, rfl⟩
theorem kX6_undo_9 : Dk mtX6_undo 9 (.ifCond .ne 9) 3 12 := ⟨by decide +kernel, rfl⟩
theorem kX6_undo_12 : Dk mtX6_undo 12 (.aload_n 0) 1 13 := ⟨by decide +kernel, rfl⟩
theorem kX6_undo_13 : Dk mtX6_undo 13 (.iconst 1) 1 14 := ⟨by decide +kernel, rfl⟩
theorem kX6_undo_14 : Dk mtX6_undo 14 (.invokevirtual 127) 3 17 := ⟨by decide +kernel, rfl⟩
theorem kX6_undo_17 : Dk mtX6_undo 17 (.ireturn) 1 18 := ⟨by decide +kernel, rfl⟩
theorem kX6_undo_18 : Dk mtX6_undo 18 (.aload_n 0) 1 19 := ⟨by decide +kernel, rfl⟩
theorem kX6_undo_19 : Dk mtX6_undo 19 (.dup) 1 20 := ⟨by decide +kernel, rfl⟩
theorem kX6_undo_20 : Dk mtX6_undo 20 (.getfield 43) 3 23 := ⟨by decide +kernel, rfl⟩
theorem kX6_undo_23 : Dk mtX6_undo 23 (.iconst 1) 1 24 := ⟨by decide +kernel, rfl⟩
theorem kX6_undo_24 : Dk mtX6_undo 24 (.isub) 1 25 := ⟨by decide +kernel, rfl⟩
theorem kX6_undo_25 : Dk mtX6_undo 25 (.putfield 43) 3 28 := ⟨by decide +kernel, rfl⟩
theorem kX6_undo_28 : Dk mtX6_undo 28 (.iconst 0) 1 29 := ⟨by decide +kernel, rfl⟩
theorem kX6_undo_29 : Dk mtX6_undo 29 (.istore_n 1) 1 30 := ⟨by decide +kernel, rfl⟩
theorem kX6_undo_30 : Dk mtX6_undo 30 (.iload_n 1) 1 31 := ⟨by decide +kernel, rfl⟩
theorem kX6_undo_31 : Dk mtX6_undo 31 (.sipush 140) 3 34 := ⟨by decide +kernel, rfl⟩
theorem kX6_undo_34 : Dk mtX6_undo 34 (.if_icmp .ge 30) 3 37 := ⟨by decide +kernel, rfl⟩
theorem kX6_undo_37 : Dk mtX6_undo 37 (.aload_n 0) 1 38 := ⟨by decide +kernel, rfl⟩
theorem kX6_undo_38 : Dk mtX6_undo 38 (.getfield 7) 3 41 := ⟨by decide +kernel, rfl⟩
theorem kX6_undo_41 : Dk mtX6_undo 41 (.iload_n 1) 1 42 := ⟨by decide +kernel, rfl⟩
theorem kX6_undo_42 : Dk mtX6_undo 42 (.aload_n 0) 1 43 := ⟨by decide +kernel, rfl⟩
theorem kX6_undo_43 : Dk mtX6_undo 43 (.getfield 16) 3 46 := ⟨by decide +kernel, rfl⟩
theorem kX6_undo_46 : Dk mtX6_undo 46 (.sipush 140) 3 49 := ⟨by decide +kernel, rfl⟩
theorem kX6_undo_49 : Dk mtX6_undo 49 (.aload_n 0) 1 50 := ⟨by decide +kernel, rfl⟩
theorem kX6_undo_50 : Dk mtX6_undo 50 (.getfield 43) 3 53 := ⟨by decide +kernel, rfl⟩
theorem kX6_undo_53 : Dk mtX6_undo 53 (.imul) 1 54 := ⟨by decide +kernel, rfl⟩
theorem kX6_undo_54 : Dk mtX6_undo 54 (.iload_n 1) 1 55 := ⟨by decide +kernel, rfl⟩
theorem kX6_undo_55 : Dk mtX6_undo 55 (.iadd) 1 56 := ⟨by decide +kernel, rfl⟩
theorem kX6_undo_56 : Dk mtX6_undo 56 (.iaload) 1 57 := ⟨by decide +kernel, rfl⟩
theorem kX6_undo_57 : Dk mtX6_undo 57 (.iastore) 1 58 := ⟨by decide +kernel, rfl⟩
theorem kX6_undo_58 : Dk mtX6_undo 58 (.iinc 1 1) 3 61 := ⟨by decide +kernel, rfl⟩
theorem kX6_undo_61 : Dk mtX6_undo 61 (.goto (-31)) 3 64 := ⟨by decide +kernel, rfl⟩
theorem kX6_undo_64 : Dk mtX6_undo 64 (.aload_n 0) 1 65 := ⟨by decide +kernel, rfl⟩
theorem kX6_undo_65 : Dk mtX6_undo 65 (.getfield 43) 3 68 := ⟨by decide +kernel, rfl⟩
theorem kX6_undo_68 : Dk mtX6_undo 68 (.ireturn) 1 69 := ⟨by decide +kernel, rfl⟩
set_option maxHeartbeats 4000000 in
set_option maxRecDepth 100000 in
theorem ct_undo {l : Launch} {w : Wd} {sg : Sg} (hWr : Wr w) {mo : Nat} {c : Nat} (hc : c ≤ 14) (ec : sg mo 4 = nI c) : M l mtX6_undo w [vR (some (6, 0, mo))] sg (fM mo sg (K_undo c) (nI (c - 1)) (G_undo sg mo c)) := by
  refine M_of [some (vR (some (6, 0, mo))), none] rfl (Nat.le_of_ble_eq_true rfl) (by decide +kernel) ?_
  intro p_ e_ s_ m_ args_ below_ meth_ c_ hC hO
  refine V_aload_n hC kX6_undo_0 rfl ?_
  refine V_iconst hC (0) kX6_undo_1 (by decide) ?_
  refine V_putI hC 6 0 lfX6_32 kX6_undo_2 (Nat.le_of_ble_eq_true rfl) (Nat.le_of_ble_eq_true rfl) rfl rfl ⟨rfl, rfl⟩ ?_
  refine V_nameS (fun sg0 e_sg0 => ?_)
  have hs1 : sg0 (mo + 1) = sg (mo + 1) := by rw [e_sg0]; exact upr_ne _ _ (by omega)
  have hs4 : sg0 mo 4 = sg mo 4 := by rw [e_sg0, ups_at]; exact pk_un (by decide)
  refine V_aload_n hC kX6_undo_5 rfl ?_
  refine V_getI hC 6 4 lfX6_43 kX6_undo_6 (Nat.le_of_ble_eq_true rfl) (Nat.le_of_ble_eq_true rfl) rfl ?_
  refine V_if_ne hC 18 kX6_undo_9 (by decide) (fun h9 => ?_) (fun h9 => ?_)
  · have hc0 : c ≠ 0 := fun z => h9 (by rw [hs4, ec, z]; rfl)
    obtain ⟨d, hd⟩ : ∃ d, c = d + 1 := ⟨c - 1, by omega⟩
    have hs3 : sg0 (mo + 3) = sg (mo + 3) := by rw [e_sg0]; exact ups_ne _ _ _ (by omega)
    refine V_aload_n hC kX6_undo_18 rfl ?_
    refine V_dup hC kX6_undo_19 rfl ?_
    refine V_getI hC 6 4 lfX6_43 kX6_undo_20 (Nat.le_of_ble_eq_true rfl) (Nat.le_of_ble_eq_true rfl) rfl ?_
    refine V_iconst hC (1) kX6_undo_23 (by decide) ?_
    refine V_isub hC kX6_undo_24 ?_
    refine V_putI hC 6 4 lfX6_43 kX6_undo_25 (Nat.le_of_ble_eq_true rfl) (Nat.le_of_ble_eq_true rfl) rfl rfl ⟨rfl, rfl⟩ ?_
    refine V_canon (ups sg0 mo 4 (nI d)) (by rw [hs4, ec, hd, nI_pred]) ?_
    refine V_iconst hC (0) kX6_undo_28 (by decide) ?_
    refine V_istore_n hC [some _, some _] kX6_undo_29 rfl (Nat.le_of_ble_eq_true rfl) ?_
    refine V_canon (upr (ups sg0 mo 4 (nI d)) (mo + 1) (cpy (fun z => sg (mo + 3) (140 * d + z)) (sg (mo + 1)) 0)) (by rw [cpy_0, ← hs1, show sg0 (mo + 1) = ups sg0 mo 4 (nI d) (mo + 1) from (ups_ne _ _ _ (by omega)).symm, upr_self]) ?_
    refine V_loop 140 (fun i => [some (vR (some (6, 0, mo))), some (vI (nI i))]) (fun i => upr (ups sg0 mo 4 (nI d)) (mo + 1) (cpy (fun z => sg (mo + 3) (140 * d + z)) (sg (mo + 1)) i)) rfl rfl ?_ (fun i hi ihi => ?_)
    · refine V_iload_n hC kX6_undo_30 rfl ?_
      refine V_sipush hC (140) kX6_undo_31 (by decide) ?_
      refine V_icmp_ge hC 64 kX6_undo_34 (by decide) (fun h34 => ?_) (fun h34 => absurd h34 (not_not_intro (nI_lit rfl)))
      refine V_aload_n hC kX6_undo_64 rfl ?_
      refine V_getI hC 6 4 lfX6_43 kX6_undo_65 (Nat.le_of_ble_eq_true rfl) (Nat.le_of_ble_eq_true rfl) rfl ?_
      refine V_ireti hC rfl kX6_undo_68 ?_
      exact fM_ok (by rw [K_undo, if_neg hc0]) (by rw [upr_ne _ _ (by omega), ups_at, hd, Nat.add_sub_cancel]; exact pk_us) (by rw [e_sg0, hd]; unfold G_undo; rw [Nat.add_sub_cancel, ups_comm _ _ _ _ (by decide : (0 : Nat) ≠ 4), ← ups_upr _ _ _ _ (by omega), ← ups_upr _ _ _ _ (by omega)])
    · have he4 : upr (ups sg0 mo 4 (nI d)) (mo + 1) (cpy (fun z => sg (mo + 3) (140 * d + z)) (sg (mo + 1)) i) mo 4 = nI d := by rw [upr_ne _ _ (by omega), ups_at]; exact pk_us
      refine V_iload_n hC kX6_undo_30 rfl ?_
      refine V_sipush hC (140) kX6_undo_31 (by decide) ?_
      refine V_icmp_ge hC 64 kX6_undo_34 (by decide) (fun h34 => absurd h34 (by exact nI_ge (b := 140) hi (by decide))) (fun h34 => ?_)
      refine V_aload_n hC kX6_undo_37 rfl ?_
      refine V_getR hC hWr 6 1 lfX6_7 kX6_undo_38 (Nat.le_of_ble_eq_true rfl) (Nat.le_of_ble_eq_true rfl) rfl ?_
      refine V_iload_n hC kX6_undo_41 rfl ?_
      refine V_aload_n hC kX6_undo_42 rfl ?_
      refine V_getR hC hWr 6 3 lfX6_16 kX6_undo_43 (Nat.le_of_ble_eq_true rfl) (Nat.le_of_ble_eq_true rfl) rfl ?_
      refine V_sipush hC (140) kX6_undo_46 (by decide) ?_
      refine V_aload_n hC kX6_undo_49 rfl ?_
      refine V_getI hC 6 4 lfX6_43 kX6_undo_50 (Nat.le_of_ble_eq_true rfl) (Nat.le_of_ble_eq_true rfl) rfl ?_
      refine V_imul hC kX6_undo_53 ?_
      refine V_iload_n hC kX6_undo_54 rfl ?_
      refine V_iadd hC kX6_undo_55 ?_
      refine V_iald hC (140 * d + i) (ix_eq (a := 140) (by omega) rfl he4) kX6_undo_56 (ix_in (a := 140) (by omega) (by decide) rfl he4) ?_
      refine V_iast hC i (nI_clamp (by omega)) kX6_undo_57 (vp_in_nI hi (by decide)) ?_
      refine V_iinc hC (_ + 1) [some _, some _] kX6_undo_58 rfl rfl rfl (Nat.le_of_ble_eq_true rfl) ?_
      refine V_goto hC 30 kX6_undo_61 (by decide) ?_
      refine V_eq (by rw [nI_succ]) ?_ ihi
      unfold ups
      rw [upr_at, upr_upr, upr_ne _ _ (show mo + 3 ≠ mo + 1 by omega), upr_ne _ _ (show mo + 3 ≠ mo by omega), hs3]
      exact congrArg _ (cpy_s (fun z => sg (mo + 3) (140 * d + z)) _ i)
  · refine V_aload_n hC kX6_undo_12 rfl ?_
    refine V_iconst hC (1) kX6_undo_13 (by decide) ?_
    refine V_cV_fI hC (ct_fails hWr 1) mkX6_fails lmX6_127 kX6_undo_14 (Nat.le_of_ble_eq_true rfl) rfl rfl rfl (Nat.le_of_ble_eq_true rfl) ⟨(Nat.le_of_ble_eq_true rfl), (Nat.le_of_ble_eq_true rfl)⟩ ⟨rfl, rfl⟩ ⟨(Nat.le_of_ble_eq_true rfl), (Nat.le_of_ble_eq_true rfl)⟩ ?_
    refine V_ireti hC rfl kX6_undo_17 ?_
    exact fM_no 1 (by rw [hs4, ec] at h9; rw [K_undo, if_pos ((nI_eq (by omega) (by decide)).mp h9)]) (by decide) (by rw [e_sg0, ups_ups])
def mtX6_save : Mt := (yX6_save, cX6_save, 3, (some .int), 1, 22, 0, 0)
theorem kX6_save_0 : Dk mtX6_save 0 (.aload_n 0) 1 1 := ⟨by decide +kernel, rfl⟩
theorem kX6_save_1 : Dk mtX6_save 1 (.iconst 0) 1 2 := ⟨by decide +kernel, rfl⟩
theorem kX6_save_2 : Dk mtX6_save 2 (.putfield 32) 3 5 := ⟨by decide +kernel, rfl⟩
theorem kX6_save_5 : Dk mtX6_save 5 (.iload_n 1) 1 6 := ⟨by decide +kernel, rfl⟩
theorem kX6_save_6 : Dk mtX6_save 6 (.iconst 0) 1 7 := ⟨by decide +kernel, rfl⟩
theorem kX6_save_7 : Dk mtX6_save 7 (.iconst 1) 1 8 := ⟨by decide +kernel, rfl⟩
theorem kX6_save_8 : Dk mtX6_save 8 (.invokestatic 39) 3 11 := ⟨by decide +kernel, rfl⟩
theorem kX6_save_11 : Dk mtX6_save 11 (.ifCond .ne 9) 3 14 := ⟨by decide +kernel, rfl⟩
theorem kX6_save_14 : Dk mtX6_save 14 (.aload_n 0) 1 15 := ⟨by decide +kernel, rfl⟩
theorem kX6_save_15 : Dk mtX6_save 15 (.iconst 1) 1 16 := ⟨by decide +kernel, rfl⟩
theorem kX6_save_16 : Dk mtX6_save 16 (.invokevirtual 127) 3 19 := ⟨by decide +kernel, rfl⟩
theorem kX6_save_19 : Dk mtX6_save 19 (.ireturn) 1 20 := ⟨by decide +kernel, rfl⟩
theorem kX6_save_20 : Dk mtX6_save 20 (.iconst 0) 1 21 := ⟨by decide +kernel, rfl⟩
theorem kX6_save_21 : Dk mtX6_save 21 (.istore_n 2) 1 22 := ⟨by decide +kernel, rfl⟩
theorem kX6_save_22 : Dk mtX6_save 22 (.iload_n 2) 1 23 := ⟨by decide +kernel, rfl⟩
theorem kX6_save_23 : Dk mtX6_save 23 (.sipush 140) 3 26 := ⟨by decide +kernel, rfl⟩
theorem kX6_save_26 : Dk mtX6_save 26 (.if_icmp .ge 27) 3 29 := ⟨by decide +kernel, rfl⟩
theorem kX6_save_29 : Dk mtX6_save 29 (.aload_n 0) 1 30 := ⟨by decide +kernel, rfl⟩
theorem kX6_save_30 : Dk mtX6_save 30 (.getfield 19) 3 33 := ⟨by decide +kernel, rfl⟩
theorem kX6_save_33 : Dk mtX6_save 33 (.sipush 140) 3 36 := ⟨by decide +kernel, rfl⟩
theorem kX6_save_36 : Dk mtX6_save 36 (.iload_n 1) 1 37 := ⟨by decide +kernel, rfl⟩
theorem kX6_save_37 : Dk mtX6_save 37 (.imul) 1 38 := ⟨by decide +kernel, rfl⟩
theorem kX6_save_38 : Dk mtX6_save 38 (.iload_n 2) 1 39 := ⟨by decide +kernel, rfl⟩
theorem kX6_save_39 : Dk mtX6_save 39 (.iadd) 1 40 := ⟨by decide +kernel, rfl⟩
theorem kX6_save_40 : Dk mtX6_save 40 (.aload_n 0) 1 41 := ⟨by decide +kernel, rfl⟩
theorem kX6_save_41 : Dk mtX6_save 41 (.getfield 7) 3 44 := ⟨by decide +kernel, rfl⟩
theorem kX6_save_44 : Dk mtX6_save 44 (.iload_n 2) 1 45 := ⟨by decide +kernel, rfl⟩
theorem kX6_save_45 : Dk mtX6_save 45 (.iaload) 1 46 := ⟨by decide +kernel, rfl⟩
theorem kX6_save_46 : Dk mtX6_save 46 (.iastore) 1 47 := ⟨by decide +kernel, rfl⟩
theorem kX6_save_47 : Dk mtX6_save 47 (.iinc 2 1) 3 50 := ⟨by decide +kernel, rfl⟩
theorem kX6_save_50 : Dk mtX6_save 50 (.goto (-28)) 3 53 := ⟨by decide +kernel, rfl⟩
theorem kX6_save_53 : Dk mtX6_save 53 (.aload_n 0) 1 54 := ⟨by decide +kernel, rfl⟩
theorem kX6_save_54 : Dk mtX6_save 54 (.getfield 22) 3 57 := ⟨by decide +kernel, rfl⟩
theorem kX6_save_57 : Dk mtX6_save 57 (.iload_n 1) 1 58 := ⟨by decide +kernel, rfl⟩
theorem kX6_save_58 : Dk mtX6_save 58 (.iconst 1) 1 59 := ⟨by decide +kernel, rfl⟩
theorem kX6_save_59 : Dk mtX6_save 59 (.bastore) 1 60 := ⟨by decide +kernel, rfl⟩
theorem kX6_save_60 : Dk mtX6_save 60 (.aload_n 0) 1 61 := ⟨by decide +kernel, rfl⟩
theorem kX6_save_61 : Dk mtX6_save 61 (.getfield 7) 3 64 := ⟨by decide +kernel, rfl⟩
theorem kX6_save_64 : Dk mtX6_save 64 (.bipush 6) 2 66 := ⟨by decide +kernel, rfl⟩
theorem kX6_save_66 : Dk mtX6_save 66 (.iaload) 1 67 := ⟨by decide +kernel, rfl⟩
theorem kX6_save_67 : Dk mtX6_save 67 (.ireturn) 1 68 := ⟨by decide +kernel, rfl⟩
theorem lfX6_22 : LkF RX6 22 6 6 := Or.inl (by decide +kernel)
theorem lfX6_19 : LkF RX6 19 6 5 := Or.inl (by decide +kernel)
set_option maxHeartbeats 4000000 in
set_option maxRecDepth 100000 in
theorem ct_save {l : Launch} {w : Wd} {sg : Sg} (hWr : Wr w) {mo : Nat} (a : Int32) : M l mtX6_save w [vR (some (6, 0, mo)), vI a] sg (fM mo sg (K_slot a) ((sg (mo + 1)) 6) (G_save sg mo (tn a))) := by
  refine M_of [some (vR (some (6, 0, mo))), some (vI a), none] rfl (Nat.le_of_ble_eq_true rfl) (by decide +kernel) ?_
  intro p_ e_ s_ m_ args_ below_ meth_ c_ hC hO
  refine V_aload_n hC kX6_save_0 rfl ?_
  refine V_iconst hC (0) kX6_save_1 (by decide) ?_
  refine V_putI hC 6 0 lfX6_32 kX6_save_2 (Nat.le_of_ble_eq_true rfl) (Nat.le_of_ble_eq_true rfl) rfl rfl ⟨rfl, rfl⟩ ?_
  refine V_nameS (fun sg0 e_sg0 => ?_)
  have hs1 : sg0 (mo + 1) = sg (mo + 1) := by rw [e_sg0]; exact upr_ne _ _ (by omega)
  have hs4 : sg0 mo 4 = sg mo 4 := by rw [e_sg0, ups_at]; exact pk_un (by decide)
  refine V_iload_n hC kX6_save_5 rfl ?_
  refine V_iconst hC (0) kX6_save_6 (by decide) ?_
  refine V_iconst hC (1) kX6_save_7 (by decide) ?_
  refine V_cS_fI hC (ct_in hWr _ _ _) mkX6_in lmX6_39 kX6_save_8 rfl rfl (Nat.le_of_ble_eq_true rfl) ⟨(Nat.le_of_ble_eq_true rfl), (Nat.le_of_ble_eq_true rfl)⟩ ⟨rfl, rfl⟩ ⟨(Nat.le_of_ble_eq_true rfl), (Nat.le_of_ble_eq_true rfl)⟩ ?_
  refine V_if_ne hC 20 kX6_save_11 (by decide) (fun h11 => ?_) (fun h11 => ?_)
  · have hcc := b01n.mp h11
    obtain ⟨N, hN, ea⟩ : ∃ N, N < 2 ∧ a = nI N := vp_in_of (inn_vp (by decide) hcc) (by decide)
    subst ea
    have et : tn (nI N) = N := nI_clamp (by omega)
    have hs2 : sg0 (mo + 4) = sg (mo + 4) := by rw [e_sg0]; exact ups_ne _ _ _ (by omega)
    have hs5 : sg0 (mo + 5) = sg (mo + 5) := by rw [e_sg0]; exact ups_ne _ _ _ (by omega)
    refine V_iconst hC (0) kX6_save_20 (by decide) ?_
    refine V_istore_n hC [some _, some _, some _] kX6_save_21 rfl (Nat.le_of_ble_eq_true rfl) ?_
    refine V_canon (upr sg0 (mo + 4) (fb_put (sg (mo + 4)) (sg (mo + 1)) (140 * N) 0)) (by rw [fb_put_0, ← hs2, upr_self]) ?_
    refine V_loop 140 (fun i => [some (vR (some (6, 0, mo))), some (vI (nI N)), some (vI (nI i))]) (fun i => upr sg0 (mo + 4) (fb_put (sg (mo + 4)) (sg (mo + 1)) (140 * N) i)) rfl rfl ?_ (fun i hi ihi => ?_)
    · refine V_iload_n hC kX6_save_22 rfl ?_
      refine V_sipush hC (140) kX6_save_23 (by decide) ?_
      refine V_icmp_ge hC 53 kX6_save_26 (by decide) (fun h26 => ?_) (fun h26 => absurd h26 (not_not_intro (nI_lit rfl)))
      refine V_aload_n hC kX6_save_53 rfl ?_
      refine V_getR hC hWr 6 6 lfX6_22 kX6_save_54 (Nat.le_of_ble_eq_true rfl) (Nat.le_of_ble_eq_true rfl) rfl ?_
      refine V_iload_n hC kX6_save_57 rfl ?_
      refine V_iconst hC (1) kX6_save_58 (by decide) ?_
      refine V_zast hC N et kX6_save_59 (vp_in_nI hN (by decide)) rfl ?_
      refine V_aload_n hC kX6_save_60 rfl ?_
      refine V_getR hC hWr 6 1 lfX6_7 kX6_save_61 (Nat.le_of_ble_eq_true rfl) (Nat.le_of_ble_eq_true rfl) rfl ?_
      refine V_bipush hC (6) kX6_save_64 (by decide) ?_
      refine V_iald hC 6 rfl kX6_save_66 (vp_lit rfl) ?_
      refine V_ireti hC rfl kX6_save_67 ?_
      exact fM_ok (by rw [K_slot, if_pos hcc]) (by rw [ups_ne _ _ _ (by omega), upr_ne _ _ (by omega), hs1]) (by unfold G_save; rw [et]; show upr (upr sg0 (mo + 4) _) (mo + 5) (upd (upr sg0 (mo + 4) _ (mo + 5)) N 1) = _; rw [upr_ne _ _ (by omega), hs5, ups_upr _ _ _ _ (by omega), ups_upr _ _ _ _ (by omega), ← e_sg0])
    · refine V_iload_n hC kX6_save_22 rfl ?_
      refine V_sipush hC (140) kX6_save_23 (by decide) ?_
      refine V_icmp_ge hC 53 kX6_save_26 (by decide) (fun h26 => absurd h26 (by exact nI_ge (b := 140) hi (by decide))) (fun h26 => ?_)
      refine V_aload_n hC kX6_save_29 rfl ?_
      refine V_getR hC hWr 6 5 lfX6_19 kX6_save_30 (Nat.le_of_ble_eq_true rfl) (Nat.le_of_ble_eq_true rfl) rfl ?_
      refine V_sipush hC (140) kX6_save_33 (by decide) ?_
      refine V_iload_n hC kX6_save_36 rfl ?_
      refine V_imul hC kX6_save_37 ?_
      refine V_iload_n hC kX6_save_38 rfl ?_
      refine V_iadd hC kX6_save_39 ?_
      refine V_aload_n hC kX6_save_40 rfl ?_
      refine V_getR hC hWr 6 1 lfX6_7 kX6_save_41 (Nat.le_of_ble_eq_true rfl) (Nat.le_of_ble_eq_true rfl) rfl ?_
      refine V_iload_n hC kX6_save_44 rfl ?_
      refine V_iald hC i (nI_clamp (by omega)) kX6_save_45 (vp_in_nI hi (by decide)) ?_
      refine V_iast hC (140 * N + i) (ix_eq (a := 140) (by omega) rfl rfl) kX6_save_46 (ix_in (a := 140) (by omega) (by decide) rfl rfl) ?_
      refine V_iinc hC (_ + 1) [some _, some _, some _] kX6_save_47 rfl rfl rfl (Nat.le_of_ble_eq_true rfl) ?_
      refine V_goto hC 22 kX6_save_50 (by decide) ?_
      refine V_eq (by rw [nI_succ]) ?_ ihi
      unfold ups
      rw [upr_at, upr_upr, upr_ne _ _ (by omega), hs1, fb_put_succ]
  · refine V_aload_n hC kX6_save_14 rfl ?_
    refine V_iconst hC (1) kX6_save_15 (by decide) ?_
    refine V_cV_fI hC (ct_fails hWr 1) mkX6_fails lmX6_127 kX6_save_16 (Nat.le_of_ble_eq_true rfl) rfl rfl rfl (Nat.le_of_ble_eq_true rfl) ⟨(Nat.le_of_ble_eq_true rfl), (Nat.le_of_ble_eq_true rfl)⟩ ⟨rfl, rfl⟩ ⟨(Nat.le_of_ble_eq_true rfl), (Nat.le_of_ble_eq_true rfl)⟩ ?_
    refine V_ireti hC rfl kX6_save_19 ?_
    exact fM_no 1 (by rw [K_slot, if_neg (b01e.mp h11)]) (by decide) (by rw [e_sg0, ups_ups])
def mtX6_restore : Mt := (yX6_restore, cX6_restore, 3, (some .int), 1, 22, 0, 0)
theorem kX6_restore_0 : Dk mtX6_restore 0 (.aload_n 0) 1 1 := ⟨by decide +kernel, rfl⟩
theorem kX6_restore_1 : Dk mtX6_restore 1 (.iconst 0) 1 2 := ⟨by decide +kernel, rfl⟩
theorem kX6_restore_2 : Dk mtX6_restore 2 (.putfield 32) 3 5 := ⟨by decide +kernel, rfl⟩
theorem kX6_restore_5 : Dk mtX6_restore 5 (.iload_n 1) 1 6 := ⟨by decide +kernel, rfl⟩
theorem kX6_restore_6 : Dk mtX6_restore 6 (.iconst 0) 1 7 := ⟨by decide +kernel, rfl⟩
theorem kX6_restore_7 : Dk mtX6_restore 7 (.iconst 1) 1 8 := ⟨by decide +kernel, rfl⟩
theorem kX6_restore_8 : Dk mtX6_restore 8 (.invokestatic 39) 3 11 := ⟨by decide +kernel, rfl⟩
theorem kX6_restore_11 : Dk mtX6_restore 11 (.ifCond .ne 9) 3 14 := ⟨by decide +kernel, rfl⟩
theorem kX6_restore_14 : Dk mtX6_restore 14 (.aload_n 0) 1 15 := ⟨by decide +kernel, rfl⟩
theorem kX6_restore_15 : Dk mtX6_restore 15 (.iconst 1) 1 16 := ⟨by decide +kernel, rfl⟩
theorem kX6_restore_16 : Dk mtX6_restore 16 (.invokevirtual 127) 3 19 := ⟨by decide +kernel, rfl⟩
theorem kX6_restore_19 : Dk mtX6_restore 19 (.ireturn) 1 20 := ⟨by decide +kernel, rfl⟩
theorem kX6_restore_20 : Dk mtX6_restore 20 (.aload_n 0) 1 21 := ⟨by decide +kernel, rfl⟩
theorem kX6_restore_21 : Dk mtX6_restore 21 (.getfield 22) 3 24 := ⟨by decide +kernel, rfl⟩
theorem kX6_restore_24 : Dk mtX6_restore 24 (.iload_n 1) 1 25 := ⟨by decide +kernel, rfl⟩
theorem kX6_restore_25 : Dk mtX6_restore 25 (.baload) 1 26 := ⟨by decide +kernel, rfl⟩
theorem kX6_restore_26 : Dk mtX6_restore 26 (.ifCond .ne 9) 3 29 := ⟨by decide +kernel, rfl⟩
theorem kX6_restore_29 : Dk mtX6_restore 29 (.aload_n 0) 1 30 := ⟨by decide +kernel, rfl⟩
theorem kX6_restore_30 : Dk mtX6_restore 30 (.iconst 2) 1 31 := ⟨by decide +kernel, rfl⟩
theorem kX6_restore_31 : Dk mtX6_restore 31 (.invokevirtual 127) 3 34 := ⟨by decide +kernel, rfl⟩
theorem kX6_restore_34 : Dk mtX6_restore 34 (.ireturn) 1 35 := ⟨by decide +kernel, rfl⟩
theorem kX6_restore_35 : Dk mtX6_restore 35 (.aload_n 0) 1 36 := ⟨by decide +kernel, rfl⟩
theorem kX6_restore_36 : Dk mtX6_restore 36 (.iconst 0) 1 37 := ⟨by decide +kernel, rfl⟩
theorem kX6_restore_37 : Dk mtX6_restore 37 (.putfield 43) 3 40 := ⟨by decide +kernel, rfl⟩
theorem kX6_restore_40 : Dk mtX6_restore 40 (.iconst 0) 1 41 := ⟨by decide +kernel, rfl⟩
theorem kX6_restore_41 : Dk mtX6_restore 41 (.istore_n 2) 1 42 := ⟨by decide +kernel, rfl⟩
theorem kX6_restore_42 : Dk mtX6_restore 42 (.iload_n 2) 1 43 := ⟨by decide +kernel, rfl⟩
theorem kX6_restore_43 : Dk mtX6_restore 43 (.sipush 140) 3 46 := ⟨by decide +kernel, rfl⟩
theorem kX6_restore_46 : Dk mtX6_restore 46 (.if_icmp .ge 27) 3 49 := ⟨by decide +kernel, rfl⟩
theorem kX6_restore_49 : Dk mtX6_restore 49 (.aload_n 0) 1 50 := ⟨by decide +kernel, rfl⟩
theorem kX6_restore_50 : Dk mtX6_restore 50 (.getfield 7) 3 53 := ⟨by decide +kernel, rfl⟩
theorem kX6_restore_53 : Dk mtX6_restore 53 (.iload_n 2) 1 54 := ⟨by decide +kernel, rfl⟩
theorem kX6_restore_54 : Dk mtX6_restore 54 (.aload_n 0) 1 55 := ⟨by decide +kernel, rfl⟩
theorem kX6_restore_55 : Dk mtX6_restore 55 (.getfield 19) 3 58 := ⟨by decide +kernel, rfl⟩
theorem kX6_restore_58 : Dk mtX6_restore 58 (.sipush 140) 3 61 := ⟨by decide +kernel, rfl⟩
theorem kX6_restore_61 : Dk mtX6_restore 61 (.iload_n 1) 1 62 := ⟨by decide +kernel, rfl⟩
theorem kX6_restore_62 : Dk mtX6_restore 62 (.imul) 1 63 := ⟨by decide +kernel, rfl⟩
theorem kX6_restore_63 : Dk mtX6_restore 63 (.iload_n 2) 1 64 := ⟨by decide +kernel, rfl⟩
theorem kX6_restore_64 : Dk mtX6_restore 64 (.iadd) 1 65 := ⟨by decide +kernel, rfl⟩
theorem kX6_restore_65 : Dk mtX6_restore 65 (.iaload) 1 66 := ⟨by decide +kernel, rfl⟩
theorem kX6_restore_66 : Dk mtX6_restore 66 (.iastore) 1 67 := ⟨by decide +kernel, rfl⟩
theorem kX6_restore_67 : Dk mtX6_restore 67 (.iinc 2 1) 3 70 := ⟨by decide +kernel, rfl⟩
theorem kX6_restore_70 : Dk mtX6_restore 70 (.goto (-28)) 3 73 := ⟨by decide +kernel, rfl⟩
theorem kX6_restore_73 : Dk mtX6_restore 73 (.aload_n 0) 1 74 := ⟨by decide +kernel, rfl⟩
theorem kX6_restore_74 : Dk mtX6_restore 74 (.getfield 7) 3 77 := ⟨by decide +kernel, rfl⟩
theorem kX6_restore_77 : Dk mtX6_restore 77 (.bipush 6) 2 79 := ⟨by decide +kernel, rfl⟩
theorem kX6_restore_79 : Dk mtX6_restore 79 (.iaload) 1 80 := ⟨by decide +kernel, rfl⟩
theorem kX6_restore_80 : Dk mtX6_restore 80 (.ireturn) 1 81 := ⟨by decide +kernel, rfl⟩
set_option maxHeartbeats 4000000 in
set_option maxRecDepth 100000 in
theorem ct_restore {l : Launch} {w : Wd} {sg : Sg} (hWr : Wr w) {mo : Nat} (a : Int32) : M l mtX6_restore w [vR (some (6, 0, mo)), vI a] sg (fM mo sg (K_restore sg mo a) (sg (mo + 4) (140 * tn a + 6)) (G_restore sg mo (tn a))) := by
  refine M_of [some (vR (some (6, 0, mo))), some (vI a), none] rfl (Nat.le_of_ble_eq_true rfl) (by decide +kernel) ?_
  intro p_ e_ s_ m_ args_ below_ meth_ c_ hC hO
  refine V_aload_n hC kX6_restore_0 rfl ?_
  refine V_iconst hC (0) kX6_restore_1 (by decide) ?_
  refine V_putI hC 6 0 lfX6_32 kX6_restore_2 (Nat.le_of_ble_eq_true rfl) (Nat.le_of_ble_eq_true rfl) rfl rfl ⟨rfl, rfl⟩ ?_
  refine V_nameS (fun sg0 e_sg0 => ?_)
  have hs1 : sg0 (mo + 1) = sg (mo + 1) := by rw [e_sg0]; exact upr_ne _ _ (by omega)
  have hs4 : sg0 mo 4 = sg mo 4 := by rw [e_sg0, ups_at]; exact pk_un (by decide)
  refine V_iload_n hC kX6_restore_5 rfl ?_
  refine V_iconst hC (0) kX6_restore_6 (by decide) ?_
  refine V_iconst hC (1) kX6_restore_7 (by decide) ?_
  refine V_cS_fI hC (ct_in hWr _ _ _) mkX6_in lmX6_39 kX6_restore_8 rfl rfl (Nat.le_of_ble_eq_true rfl) ⟨(Nat.le_of_ble_eq_true rfl), (Nat.le_of_ble_eq_true rfl)⟩ ⟨rfl, rfl⟩ ⟨(Nat.le_of_ble_eq_true rfl), (Nat.le_of_ble_eq_true rfl)⟩ ?_
  refine V_if_ne hC 20 kX6_restore_11 (by decide) (fun h11 => ?_) (fun h11 => ?_)
  · have hcc := b01n.mp h11
    have hv : vp_in a 2 := inn_vp (by decide) hcc
    have hs5 : sg0 (mo + 5) = sg (mo + 5) := by rw [e_sg0]; exact ups_ne _ _ _ (by omega)
    have hs2 : sg0 (mo + 4) = sg (mo + 4) := by rw [e_sg0]; exact ups_ne _ _ _ (by omega)
    refine V_aload_n hC kX6_restore_20 rfl ?_
    refine V_getR hC hWr 6 6 lfX6_22 kX6_restore_21 (Nat.le_of_ble_eq_true rfl) (Nat.le_of_ble_eq_true rfl) rfl ?_
    refine V_iload_n hC kX6_restore_24 rfl ?_
    refine V_zald hC _ rfl kX6_restore_25 hv ?_
    refine V_if_ne hC 35 kX6_restore_26 (by decide) (fun h26 => ?_) (fun h26 => ?_)
    · rw [hs5] at h26
      have hK : K_restore sg mo a = 0 := by rw [K_restore, if_pos hcc, if_neg h26]
      obtain ⟨N, hN, ea⟩ : ∃ N, N < 2 ∧ a = nI N := vp_in_of (inn_vp (by decide) hcc) (by decide)
      subst ea
      have et : tn (nI N) = N := nI_clamp (by omega)
      refine V_aload_n hC kX6_restore_35 rfl ?_
      refine V_iconst hC (0) kX6_restore_36 (by decide) ?_
      refine V_putI hC 6 4 lfX6_43 kX6_restore_37 (Nat.le_of_ble_eq_true rfl) (Nat.le_of_ble_eq_true rfl) rfl rfl ⟨rfl, rfl⟩ ?_
      refine V_iconst hC (0) kX6_restore_40 (by decide) ?_
      refine V_istore_n hC [some _, some _, some _] kX6_restore_41 rfl (Nat.le_of_ble_eq_true rfl) ?_
      refine V_canon (upr (ups sg0 mo 4 0) (mo + 1) (cpy (fun z => sg (mo + 4) (140 * N + z)) (sg (mo + 1)) 0)) (by rw [cpy_0, ← hs1, show sg0 (mo + 1) = ups sg0 mo 4 0 (mo + 1) from (ups_ne _ _ _ (by omega)).symm, upr_self]) ?_
      refine V_loop 140 (fun i => [some (vR (some (6, 0, mo))), some (vI (nI N)), some (vI (nI i))]) (fun i => upr (ups sg0 mo 4 0) (mo + 1) (cpy (fun z => sg (mo + 4) (140 * N + z)) (sg (mo + 1)) i)) rfl rfl ?_ (fun i hi ihi => ?_)
      · refine V_iload_n hC kX6_restore_42 rfl ?_
        refine V_sipush hC (140) kX6_restore_43 (by decide) ?_
        refine V_icmp_ge hC 73 kX6_restore_46 (by decide) (fun h46 => ?_) (fun h46 => absurd h46 (not_not_intro (nI_lit rfl)))
        refine V_aload_n hC kX6_restore_73 rfl ?_
        refine V_getR hC hWr 6 1 lfX6_7 kX6_restore_74 (Nat.le_of_ble_eq_true rfl) (Nat.le_of_ble_eq_true rfl) rfl ?_
        refine V_bipush hC (6) kX6_restore_77 (by decide) ?_
        refine V_iald hC 6 rfl kX6_restore_79 (vp_lit rfl) ?_
        refine V_ireti hC rfl kX6_restore_80 ?_
        exact fM_ok hK (by rw [upr_at, et]; exact if_pos (by decide)) (by rw [e_sg0, et]; unfold G_restore; rw [ups_comm _ _ _ _ (by decide : (0 : Nat) ≠ 4), ← ups_upr _ _ _ _ (by omega), ← ups_upr _ _ _ _ (by omega)])
      · refine V_iload_n hC kX6_restore_42 rfl ?_
        refine V_sipush hC (140) kX6_restore_43 (by decide) ?_
        refine V_icmp_ge hC 73 kX6_restore_46 (by decide) (fun h46 => absurd h46 (by exact nI_ge (b := 140) hi (by decide))) (fun h46 => ?_)
        refine V_aload_n hC kX6_restore_49 rfl ?_
        refine V_getR hC hWr 6 1 lfX6_7 kX6_restore_50 (Nat.le_of_ble_eq_true rfl) (Nat.le_of_ble_eq_true rfl) rfl ?_
        refine V_iload_n hC kX6_restore_53 rfl ?_
        refine V_aload_n hC kX6_restore_54 rfl ?_
        refine V_getR hC hWr 6 5 lfX6_19 kX6_restore_55 (Nat.le_of_ble_eq_true rfl) (Nat.le_of_ble_eq_true rfl) rfl ?_
        refine V_sipush hC (140) kX6_restore_58 (by decide) ?_
        refine V_iload_n hC kX6_restore_61 rfl ?_
        refine V_imul hC kX6_restore_62 ?_
        refine V_iload_n hC kX6_restore_63 rfl ?_
        refine V_iadd hC kX6_restore_64 ?_
        refine V_iald hC (140 * N + i) (ix_eq (a := 140) (by omega) rfl rfl) kX6_restore_65 (ix_in (a := 140) (by omega) (by decide) rfl rfl) ?_
        refine V_iast hC i (nI_clamp (by omega)) kX6_restore_66 (vp_in_nI hi (by decide)) ?_
        refine V_iinc hC (_ + 1) [some _, some _, some _] kX6_restore_67 rfl rfl rfl (Nat.le_of_ble_eq_true rfl) ?_
        refine V_goto hC 42 kX6_restore_70 (by decide) ?_
        refine V_eq (by rw [nI_succ]) ?_ ihi
        unfold ups
        rw [upr_at, upr_upr, upr_ne _ _ (show mo + 4 ≠ mo + 1 by omega), upr_ne _ _ (show mo + 4 ≠ mo by omega), hs2]
        exact congrArg _ (cpy_s (fun z => sg (mo + 4) (140 * N + z)) _ i)
    · refine V_aload_n hC kX6_restore_29 rfl ?_
      refine V_iconst hC (2) kX6_restore_30 (by decide) ?_
      refine V_cV_fI hC (ct_fails hWr 2) mkX6_fails lmX6_127 kX6_restore_31 (Nat.le_of_ble_eq_true rfl) rfl rfl rfl (Nat.le_of_ble_eq_true rfl) ⟨(Nat.le_of_ble_eq_true rfl), (Nat.le_of_ble_eq_true rfl)⟩ ⟨rfl, rfl⟩ ⟨(Nat.le_of_ble_eq_true rfl), (Nat.le_of_ble_eq_true rfl)⟩ ?_
      refine V_ireti hC rfl kX6_restore_34 ?_
      exact fM_no 2 (by rw [hs5] at h26; rw [K_restore, if_pos hcc, if_pos h26]) (by decide) (by rw [e_sg0, ups_ups])
  · refine V_aload_n hC kX6_restore_14 rfl ?_
    refine V_iconst hC (1) kX6_restore_15 (by decide) ?_
    refine V_cV_fI hC (ct_fails hWr 1) mkX6_fails lmX6_127 kX6_restore_16 (Nat.le_of_ble_eq_true rfl) rfl rfl rfl (Nat.le_of_ble_eq_true rfl) ⟨(Nat.le_of_ble_eq_true rfl), (Nat.le_of_ble_eq_true rfl)⟩ ⟨rfl, rfl⟩ ⟨(Nat.le_of_ble_eq_true rfl), (Nat.le_of_ble_eq_true rfl)⟩ ?_
    refine V_ireti hC rfl kX6_restore_19 ?_
    exact fM_no 1 (by rw [K_restore, if_neg (b01e.mp h11)]) (by decide) (by rw [e_sg0, ups_ups])
end
section
/-! rows on bits, shifts and unsigned numbers, to paste: each family out of a closed proof of our own, whole with what it rests on; each by itself clean at Lean in its own claim (generation 39, form 5). Take a family whole -/
/-! ===== Int32 by its bits: bt x i ===== -/
def bt (x : Int32) (i : Nat) : Bool := x.toBitVec.getLsbD i
theorem b_ext {x y : Int32} (h : ∀ i, i < 32 → bt x i = bt y i) : x = y := Int32.toBitVec_inj.mp (BitVec.eq_of_getLsbD_eq (fun i hi => h i hi))
theorem b_or (x y : Int32) (i : Nat) : bt (x ||| y) i = (bt x i || bt y i) := by unfold bt; rw [Int32.toBitVec_or, BitVec.getLsbD_or]
theorem b_and (x y : Int32) (i : Nat) : bt (x &&& y) i = (bt x i && bt y i) := by unfold bt; rw [Int32.toBitVec_and, BitVec.getLsbD_and]
theorem b_xor (x y : Int32) (i : Nat) : bt (x ^^^ y) i = (bt x i ^^ bt y i) := by unfold bt; rw [Int32.toBitVec_xor, BitVec.getLsbD_xor]
theorem b_big {x : Int32} {i : Nat} (h : 32 ≤ i) : bt x i = false := BitVec.getLsbD_of_ge _ _ h
theorem b_255 (i : Nat) : bt 255 i = decide (i < 8) := by
  rcases Nat.lt_or_ge i 32 with h | h
  · exact (by decide +kernel : ∀ i, i < 32 → bt 255 i = decide (i < 8)) i h
  · rw [b_big h, decide_eq_false (by omega)]
theorem b_65535 (i : Nat) : bt 65535 i = decide (i < 16) := by
  rcases Nat.lt_or_ge i 32 with h | h
  · exact (by decide +kernel : ∀ i, i < 32 → bt 65535 i = decide (i < 16)) i h
  · rw [b_big h, decide_eq_false (by omega)]
theorem b_m1 : ∀ i, i < 32 → bt (-1) i = true := by decide +kernel
theorem b_0 (i : Nat) : bt 0 i = false := BitVec.getLsbD_zero
theorem s_l : ∀ n, n < 32 → ((nI n &&& 31).toBitVec.smod 32).toNat = n := by decide +kernel
theorem s_u : ∀ n, n < 32 → (((nI n).toUInt32 &&& Int32.toUInt32 31).toBitVec % 32).toNat = n := by decide +kernel
theorem b_shl (n : Nat) (hn : n < 32) (x : Int32) {i : Nat} (hi : i < 32) : bt (x <<< (nI n &&& 31)) i = (decide (n ≤ i) && bt x (i - n)) := by
  unfold bt
  rw [Int32.toBitVec_shiftLeft]
  show (x.toBitVec <<< ((nI n &&& 31).toBitVec.smod 32).toNat).getLsbD i = _
  rw [s_l n hn, BitVec.getLsbD_shiftLeft]
  rcases Nat.lt_or_ge i n with h | h
  · simp [h, Nat.not_le.mpr h]
  · simp [hi, h, Nat.not_lt.mpr h]
theorem b_ushr (n : Nat) (hn : n < 32) (x : Int32) (i : Nat) : bt ((x.toUInt32 >>> ((nI n).toUInt32 &&& Int32.toUInt32 31)).toInt32) i = bt x (n + i) := by
  show (x.toUInt32 >>> ((nI n).toUInt32 &&& Int32.toUInt32 31)).toBitVec.getLsbD i = x.toUInt32.toBitVec.getLsbD (n + i)
  rw [UInt32.toBitVec_shiftRight]
  show (x.toUInt32.toBitVec >>> (((nI n).toUInt32 &&& Int32.toUInt32 31).toBitVec % 32).toNat).getLsbD i = _
  rw [s_u n hn, BitVec.getLsbD_ushiftRight]
theorem b_sshr (n : Nat) (hn : n < 32) (x : Int32) {i : Nat} (hi : i < 32) : bt (x >>> (nI n &&& 31)) i = if n + i < 32 then bt x (n + i) else bt x 31 := by
  unfold bt
  rw [Int32.toBitVec_shiftRight]
  show (x.toBitVec.sshiftRight ((nI n &&& 31).toBitVec.smod 32).toNat).getLsbD i = _
  rw [s_l n hn, BitVec.getLsbD_sshiftRight, BitVec.msb_eq_getLsbD_last]
  simp [hi]
theorem b_shl8 (x : Int32) {i : Nat} (hi : i < 32) : bt (x <<< ((8 : Int32) &&& 31)) i = (decide (8 ≤ i) && bt x (i - 8)) := b_shl 8 (by omega) x hi
theorem b_shl16 (x : Int32) {i : Nat} (hi : i < 32) : bt (x <<< ((16 : Int32) &&& 31)) i = (decide (16 ≤ i) && bt x (i - 16)) := b_shl 16 (by omega) x hi
theorem b_shl24 (x : Int32) {i : Nat} (hi : i < 32) : bt (x <<< ((24 : Int32) &&& 31)) i = (decide (24 ≤ i) && bt x (i - 24)) := b_shl 24 (by omega) x hi
theorem b_sshr8 (x : Int32) {i : Nat} (hi : i < 32) : bt (x >>> ((8 : Int32) &&& 31)) i = if 8 + i < 32 then bt x (8 + i) else bt x 31 := b_sshr 8 (by omega) x hi
/-! ===== nI under and, xor, >>>, one bit, 65535 ===== -/
theorem nx_and (a b : Nat) : nI a &&& nI b = nI (a &&& b) := by
  apply Int32.toBitVec_inj.1
  show BitVec.ofNat 32 a &&& BitVec.ofNat 32 b = BitVec.ofNat 32 (a &&& b)
  apply BitVec.eq_of_getLsbD_eq
  intro i hi
  simp [hi]
theorem nx_xor (a b : Nat) : nI a ^^^ nI b = nI (a ^^^ b) := by
  apply Int32.toBitVec_inj.1
  show BitVec.ofNat 32 a ^^^ BitVec.ofNat 32 b = BitVec.ofNat 32 (a ^^^ b)
  apply BitVec.eq_of_getLsbD_eq
  intro i hi
  simp [hi]
theorem nx_cnt : ∀ j : Fin 32, (UInt32.ofNat j.val &&& Int32.toUInt32 31).toNat % 32 = j.val := by decide +kernel
theorem nx_ush {k j : Nat} (hk : k < 65536) (hj : j < 32) : ((nI k).toUInt32 >>> ((nI j).toUInt32 &&& Int32.toUInt32 31)).toInt32 = nI (k >>> j) := by
  have hs : k >>> j ≤ k := by
    rw [Nat.shiftRight_eq_div_pow]
    exact Nat.div_le_self _ _
  have e2 : UInt32.ofNat k >>> (UInt32.ofNat j &&& Int32.toUInt32 31) = UInt32.ofNat (k >>> j) := by
    apply UInt32.toNat_inj.1
    have h1 : (UInt32.ofNat k).toNat = k := Nat.mod_eq_of_lt (by omega)
    have h2 : (UInt32.ofNat (k >>> j)).toNat = k >>> j := Nat.mod_eq_of_lt (by omega)
    rw [UInt32.toNat_shiftRight, nx_cnt ⟨j, hj⟩, h1, h2]
  show (UInt32.ofNat k >>> (UInt32.ofNat j &&& Int32.toUInt32 31)).toInt32 = _
  rw [e2]
  rfl
theorem nx_bit {k j : Nat} (hk : k < 65536) (hj : j < 16) : (((nI k).toUInt32 >>> ((nI j).toUInt32 &&& Int32.toUInt32 31)).toInt32 &&& 1) = 0 ↔ k.testBit j = false := by
  rw [nx_ush hk (by omega)]
  show nI (k >>> j) &&& nI 1 = 0 ↔ _
  rw [nx_and, Nat.and_one_is_mod, ← nI_0, nI_eq (by omega) (by omega), Nat.testBit_eq_decide_div_mod_eq, Nat.shiftRight_eq_div_pow, decide_eq_false_iff_not]
  generalize k / 2 ^ j = z
  omega
theorem nx_mod (k : Nat) : nI k &&& 65535 = nI (k % 65536) := by
  show nI k &&& nI 65535 = _
  rw [nx_and, show (65535 : Nat) = 2 ^ 16 - 1 from rfl, Nat.and_two_pow_sub_one_eq_mod]
theorem nx_m16 {k : Nat} (h : k < 65536) : nI k &&& 65535 = nI k := by rw [nx_mod, Nat.mod_eq_of_lt h]
theorem nx_mask (x : Int32) : ∃ k, k < 65536 ∧ x &&& 65535 = nI k := by
  have e : x = nI x.toBitVec.toNat := by
    apply Int32.toBitVec_inj.1
    show x.toBitVec = BitVec.ofNat 32 x.toBitVec.toNat
    simp
  refine ⟨x.toBitVec.toNat % 65536, Nat.mod_lt _ (by omega), ?_⟩
  rw [← nx_mod, ← e]
/-! ===== Int32 as a set of bits: test, set ===== -/
def nf_M (m : Int32) : Nat := 4294967296 - m.toBitVec.toNat
theorem nf_sh : ∀ l, l < 32 → ((1 : Int32) <<< (nI l &&& 31)).toBitVec = BitVec.twoPow 32 l := by decide +kernel
theorem nf_sl : ∀ l, l < 32 → (((nI l).toUInt32 &&& Int32.toUInt32 31).toBitVec % 32).toNat = l := by decide +kernel
theorem nf_tp : ∀ l, l < 32 → BitVec.twoPow 32 l ≠ 0#32 := by decide +kernel
theorem nf_bit (m : Int32) (l : Nat) (hl : l < 32) : ((m.toUInt32 >>> ((nI l).toUInt32 &&& Int32.toUInt32 31)).toInt32 &&& 1) = 0 ↔ (m &&& ((1 : Int32) <<< (nI l &&& 31))) = 0 := by
  have e : ((m.toUInt32 >>> ((nI l).toUInt32 &&& Int32.toUInt32 31)).toInt32).toBitVec = m.toBitVec >>> l := by
    show m.toBitVec >>> (((nI l).toUInt32 &&& Int32.toUInt32 31).toBitVec % 32) = m.toBitVec >>> l
    rw [BitVec.ushiftRight_eq', nf_sl l hl]
  rw [← Int32.toBitVec_inj, ← Int32.toBitVec_inj, Int32.toBitVec_and, Int32.toBitVec_and, nf_sh l hl, e, BitVec.and_twoPow]
  show (m.toBitVec >>> l &&& 1#32) = 0#32 ↔ _ = 0#32
  rw [BitVec.and_one_eq_setWidth_ofBool_getLsbD, BitVec.getLsbD_ushiftRight, Nat.add_zero]
  cases hb : m.toBitVec.getLsbD l
  · exact ⟨fun _ => by simp, fun _ => by decide⟩
  · exact ⟨fun z => absurd z (by decide), fun z => absurd ((if_pos rfl).symm.trans z) (nf_tp l hl)⟩
theorem nf_gr (m k : Int32) (h : m &&& k = 0) (hk : k ≠ 0) : nf_M (m ||| k) < nf_M m := by
  have hm := m.toBitVec.isLt
  have hm' := (m ||| k).toBitVec.isLt
  have h1 : m.toBitVec.toNat ≤ (m ||| k).toBitVec.toNat := by
    rw [Int32.toBitVec_or, BitVec.toNat_or]
    exact Nat.left_le_or
  have h2 : m.toBitVec.toNat ≠ (m ||| k).toBitVec.toNat := by
    intro e
    have e2 : m = m ||| k := Int32.toBitVec_inj.mp (BitVec.eq_of_toNat_eq e)
    apply hk
    apply Int32.toBitVec_inj.mp
    show k.toBitVec = 0#32
    apply BitVec.eq_of_getLsbD_eq
    intro i hi
    have a : m.toBitVec.getLsbD i = (m.toBitVec.getLsbD i || k.toBitVec.getLsbD i) := by rw [← BitVec.getLsbD_or, ← Int32.toBitVec_or, ← e2]
    have b : (m.toBitVec.getLsbD i && k.toBitVec.getLsbD i) = false := by
      rw [← BitVec.getLsbD_and, ← Int32.toBitVec_and, h]
      exact BitVec.getLsbD_zero
    rw [BitVec.getLsbD_zero]
    revert a b
    cases m.toBitVec.getLsbD i <;> cases k.toBitVec.getLsbD i <;> simp
  unfold nf_M
  omega
/-! ===== a byte read unsigned ===== -/
theorem bp_b (x : Int32) : x.toInt8.toInt32 &&& 255 = x &&& 255 := by
  apply Int32.toBitVec_inj.mp
  rw [Int32.toBitVec_and, Int32.toBitVec_and, Int8.toBitVec_toInt32, Int32.toBitVec_toInt8]
  apply BitVec.eq_of_getLsbD_eq
  intro i hi
  rw [BitVec.getLsbD_and, BitVec.getLsbD_and]
  have hm : ∀ i < 32, 8 ≤ i → (255 : Int32).toBitVec.getLsbD i = false := by decide
  rcases Nat.lt_or_ge i 8 with z | z
  · rw [BitVec.getLsbD_signExtend, BitVec.getLsbD_signExtend, if_pos z, if_pos hi]
    simp only [z, hi, decide_true, Bool.true_and]
  · rw [hm i hi z]; simp
/-! ===== the char cast and 65535 ===== -/
/-! ===== Int64 as a set of bits: test, set, clear ===== -/
theorem ts_nf {x : Bool} (h : ¬ x = false) : x = true := by cases x <;> first | rfl | exact absurd rfl h
theorem ts_nt {x : Bool} (h : ¬ x = true) : x = false := by cases x <;> first | rfl | exact absurd rfl h
theorem ts_bit {w : Int64} {s : UInt64} {j : Nat} (hj : j < 64) (hs : s.toNat = j) : ((w.toUInt64 >>> s).toInt64 &&& 1) = 0 ↔ w.toBitVec.getLsbD j = false := by
  have e : (w.toUInt64 >>> s).toInt64.toBitVec = w.toBitVec >>> j := by
    apply BitVec.eq_of_toNat_eq
    show (w.toUInt64 >>> s).toNat = _
    rw [UInt64.toNat_shiftRight, hs, Nat.mod_eq_of_lt hj, BitVec.toNat_ushiftRight]
    rfl
  rw [← Int64.toBitVec_inj, Int64.toBitVec_and, e]
  show w.toBitVec >>> j &&& 1#64 = 0#64 ↔ _
  constructor
  · intro h
    have t := congrArg (fun x => x.getLsbD 0) h
    simpa using t
  · intro h
    apply BitVec.eq_of_getLsbD_eq
    intro i hi
    cases i with
    | zero => simp [h]
    | succ i => simp
theorem ts_or {w m : Int64} {j : Nat} (hj : j < 64) (hm : m.toBitVec = BitVec.twoPow 64 j) : (w ||| m) = w ↔ w.toBitVec.getLsbD j = true := by
  rw [← Int64.toBitVec_inj, Int64.toBitVec_or, hm]
  constructor
  · intro h
    have t := congrArg (fun x => x.getLsbD j) h
    simp only [BitVec.getLsbD_or, BitVec.getLsbD_twoPow] at t
    simpa [hj] using t.symm
  · intro h
    apply BitVec.eq_of_getLsbD_eq
    intro i hi
    rw [BitVec.getLsbD_or, BitVec.getLsbD_twoPow]
    by_cases e : j = i
    · subst e; rw [h, Bool.true_or]
    · simp [e]
theorem ts_and {w m : Int64} {j : Nat} (hj : j < 64) (hm : m.toBitVec = BitVec.twoPow 64 j) : (w &&& (m ^^^ (-1))) = w ↔ w.toBitVec.getLsbD j = false := by
  have ha : (-1 : Int64).toBitVec = BitVec.allOnes 64 := by decide
  rw [← Int64.toBitVec_inj, Int64.toBitVec_and, Int64.toBitVec_xor, hm, ha]
  constructor
  · intro h
    have t := congrArg (fun x => x.getLsbD j) h
    simp only [BitVec.getLsbD_and, BitVec.getLsbD_xor, BitVec.getLsbD_twoPow, BitVec.getLsbD_allOnes] at t
    simpa [hj] using t.symm
  · intro h
    apply BitVec.eq_of_getLsbD_eq
    intro i hi
    rw [BitVec.getLsbD_and, BitVec.getLsbD_xor, BitVec.getLsbD_twoPow, BitVec.getLsbD_allOnes]
    by_cases e : j = i
    · subst e; rw [h, Bool.false_and]
    · simp [e, hi]
/-! ===== lN n to 2^64: shifts, and, or, masks, one bit ===== -/
theorem wb_tb (n : Nat) : (lN n).toBitVec = BitVec.ofNat 64 n := rfl
theorem wb_inj {a b : Int64} (h : a.toBitVec = b.toBitVec) : a = b := Int64.toBitVec_inj.mp h
theorem wb_tn {n : Nat} (h : n < 2 ^ 64) : (lN n).toBitVec.toNat = n := by rw [wb_tb, BitVec.toNat_ofNat, Nat.mod_eq_of_lt h]
theorem wb_of (x : Int64) : ∃ n, n < 2 ^ 64 ∧ x = lN n := ⟨x.toBitVec.toNat, x.toBitVec.isLt, wb_inj (by rw [wb_tb]; simp)⟩
theorem wb_of32 (x : Int32) : ∃ n, n < 2 ^ 32 ∧ x = nI n := ⟨x.toBitVec.toNat, x.toBitVec.isLt, Int32.toBitVec_inj.mp (by show _ = BitVec.ofNat 32 _; simp)⟩
theorem wb_c : ∀ k, k < 64 → ((nI k).toInt64 &&& 63) = lN k := by decide +kernel
theorem wb_cu : ∀ k, k < 64 → ((nI k).toInt64.toUInt64 &&& Int64.toUInt64 63) = UInt64.ofNat k := by decide +kernel
theorem wb_sm : ∀ k, k < 64 → (BitVec.ofNat 64 k).smod 64 = BitVec.ofNat 64 k := by decide +kernel
theorem wb_pw {a b : Nat} (h : a ≤ b) : 2 ^ b = 2 ^ a * 2 ^ (b - a) := by rw [← Nat.pow_add]; congr 1; omega
theorem wb_lt2 {a b : Nat} (h : a < b) : 2 ^ a < 2 ^ b := Nat.pow_lt_pow_right (by decide) h
theorem wb_mod (n : Nat) : lN n = lN (n % 2 ^ 64) := wb_inj (by rw [wb_tb, wb_tb]; apply BitVec.eq_of_toNat_eq; rw [BitVec.toNat_ofNat, BitVec.toNat_ofNat, Nat.mod_mod])
theorem wb_shr {n k : Nat} (hn : n < 2 ^ 64) (hk : k < 64) : ((lN n).toUInt64 >>> ((nI k).toInt64.toUInt64 &&& Int64.toUInt64 63)).toInt64 = lN (n / 2 ^ k) := by
  rw [wb_cu k hk]
  apply wb_inj
  apply BitVec.eq_of_toNat_eq
  show ((lN n).toUInt64 >>> UInt64.ofNat k).toNat = (BitVec.ofNat 64 _).toNat
  have h1 : (UInt64.ofNat k).toNat = k := by
    show (BitVec.ofNat 64 k).toNat = k
    rw [BitVec.toNat_ofNat, Nat.mod_eq_of_lt (by omega)]
  have h2 : (lN n).toUInt64.toNat = n := wb_tn hn
  rw [UInt64.toNat_shiftRight, h1, h2, Nat.mod_eq_of_lt hk, Nat.shiftRight_eq_div_pow, BitVec.toNat_ofNat, Nat.mod_eq_of_lt (Nat.lt_of_le_of_lt (Nat.div_le_self _ _) hn)]
theorem wb_shl (n : Nat) {k : Nat} (hk : k < 64) : lN n <<< ((nI k).toInt64 &&& 63) = lN (n * 2 ^ k) := by
  rw [wb_c k hk]
  apply wb_inj
  rw [Int64.toBitVec_shiftLeft, wb_tb, wb_tb, wb_tb, wb_sm k hk]
  apply BitVec.eq_of_toNat_eq
  rw [BitVec.shiftLeft_eq', BitVec.toNat_shiftLeft, BitVec.toNat_ofNat, BitVec.toNat_ofNat, BitVec.toNat_ofNat, Nat.mod_eq_of_lt (show k < 2 ^ 64 by omega), Nat.shiftLeft_eq, Nat.mul_mod, Nat.mod_mod, ← Nat.mul_mod]
theorem wb_and {a b : Nat} (ha : a < 2 ^ 64) (hb : b < 2 ^ 64) : lN a &&& lN b = lN (a &&& b) := by
  apply wb_inj
  rw [Int64.toBitVec_and, wb_tb, wb_tb, wb_tb]
  apply BitVec.eq_of_toNat_eq
  rw [BitVec.toNat_and, BitVec.toNat_ofNat, BitVec.toNat_ofNat, BitVec.toNat_ofNat, Nat.mod_eq_of_lt ha, Nat.mod_eq_of_lt hb, Nat.mod_eq_of_lt (Nat.and_lt_two_pow _ hb)]
theorem wb_or {a b : Nat} (ha : a < 2 ^ 64) (hb : b < 2 ^ 64) : lN a ||| lN b = lN (a ||| b) := by
  apply wb_inj
  rw [Int64.toBitVec_or, wb_tb, wb_tb, wb_tb]
  apply BitVec.eq_of_toNat_eq
  rw [BitVec.toNat_or, BitVec.toNat_ofNat, BitVec.toNat_ofNat, BitVec.toNat_ofNat, Nat.mod_eq_of_lt ha, Nat.mod_eq_of_lt hb, Nat.mod_eq_of_lt (Nat.or_lt_two_pow ha hb)]
theorem wb_mask {n k : Nat} (hn : n < 2 ^ 64) (hk : k < 64) : lN n &&& lN (2 ^ k - 1) = lN (n % 2 ^ k) := by
  rw [wb_and hn (by have := wb_lt2 hk; omega), Nat.and_two_pow_sub_one_eq_mod]
theorem wb_a1 {n : Nat} (hn : n < 2 ^ 64) : lN n &&& 1 = lN (n % 2) := wb_mask (k := 1) hn (by decide)
theorem wb_bit {n k : Nat} (hn : n < 2 ^ 64) (hk : k < 64) : ((lN n).toUInt64 >>> ((nI k).toInt64.toUInt64 &&& Int64.toUInt64 63)).toInt64 &&& 1 = lN (n / 2 ^ k % 2) := by
  rw [wb_shr hn hk, wb_a1 (Nat.lt_of_le_of_lt (Nat.div_le_self _ _) hn)]
theorem wb_xor {q k : Nat} (hk : k < 63) (h : 2 ^ k ≤ q) (h2 : q < 2 ^ (k + 1)) : lN q ^^^ lN (2 ^ k) = lN (q - 2 ^ k) := by
  obtain ⟨r, rfl⟩ : ∃ r, q = 2 ^ k + r := ⟨q - 2 ^ k, by omega⟩
  have hr : r < 2 ^ k := by rw [Nat.pow_succ] at h2; omega
  have hx : (2 ^ k + r) ^^^ 2 ^ k = r := by
    apply Nat.eq_of_testBit_eq
    intro i
    rw [Nat.testBit_xor, Nat.testBit_two_pow]
    rcases Nat.lt_trichotomy i k with h | h | h
    · rw [Nat.testBit_two_pow_add_gt h]
      simp [show ¬ k = i by omega]
    · subst h
      rw [Nat.testBit_two_pow_add_eq]
      simp
    · have a1 : 2 ^ (k + 1) ≤ 2 ^ i := Nat.pow_le_pow_right (by decide) h
      rw [Nat.testBit_lt_two_pow (show 2 ^ k + r < 2 ^ i by omega), Nat.testBit_lt_two_pow (show r < 2 ^ i by omega)]
      simp [show ¬ k = i by omega]
  have b1 := wb_lt2 (show k + 1 < 64 by omega)
  have b2 := wb_lt2 (show k < 64 by omega)
  apply wb_inj
  rw [Int64.toBitVec_xor, wb_tb, wb_tb, wb_tb]
  apply BitVec.eq_of_toNat_eq
  rw [BitVec.toNat_xor, BitVec.toNat_ofNat, BitVec.toNat_ofNat, BitVec.toNat_ofNat, Nat.mod_eq_of_lt (by omega : 2 ^ k + r < 2 ^ 64), Nat.mod_eq_of_lt b2, hx, Nat.add_sub_cancel_left, Nat.mod_eq_of_lt (by omega)]
/-! ===== lN: masks, 'or' of parts that don't overlap is a sum ===== -/
theorem u_tn {n : Nat} (h : n < 2 ^ 64) : (UInt64.ofNat n).toNat = n := Nat.mod_eq_of_lt h
theorem g_and {a b c : Nat} (ha : a < 2 ^ 64) (hb : b < 2 ^ 64) (hc : a &&& b = c) : lN a &&& lN b = lN c := by
  subst hc
  have h : UInt64.ofNat a &&& UInt64.ofNat b = UInt64.ofNat (a &&& b) := UInt64.toNat_inj.mp (by rw [UInt64.toNat_and, u_tn ha, u_tn hb, u_tn (Nat.and_lt_two_pow a hb)])
  have h2 := congrArg UInt64.toInt64 h
  exact h2
theorem g_and1 {a : Nat} (ha : a < 2 ^ 64) : lN a &&& 1 = lN (a % 2) := g_and (b := 1) ha (by decide) (Nat.and_two_pow_sub_one_eq_mod a 1)
theorem g_mask {a s p : Nat} (hp : 2 ^ s = p) (hs : s < 64) (ha : a < 2 ^ 64) : lN a &&& lN (p - 1) = lN (a % p) := by
  subst hp
  have := Nat.pow_lt_pow_right (show 1 < 2 by decide) hs
  exact g_and ha (by omega) (Nat.and_two_pow_sub_one_eq_mod a s)
theorem g_or {k p a b : Nat} (hp : 2 ^ k = p) (ha : a < p) (h : b * p + a < 2 ^ 64) : lN (b * p) ||| lN a = lN (b * p + a) := by
  subst hp
  have h1 : b * 2 ^ k ||| a = b * 2 ^ k + a := by rw [← Nat.shiftLeft_eq, Nat.shiftLeft_add_eq_or_of_lt ha]
  have h3 : UInt64.ofNat (b * 2 ^ k) ||| UInt64.ofNat a = UInt64.ofNat (b * 2 ^ k + a) := UInt64.toNat_inj.mp (by rw [UInt64.toNat_or, u_tn (by omega), u_tn (by omega), u_tn h, h1])
  have h2 := congrArg UInt64.toInt64 h3
  exact h2
theorem g_or' {k p a b : Nat} (hp : 2 ^ k = p) (ha : a < p) (h : a + b * p < 2 ^ 64) : lN a ||| lN (b * p) = lN (a + b * p) := by
  rw [Int64.or_comm, g_or hp ha (by omega), Nat.add_comm]
theorem g_ushr {a k p : Nat} {y : UInt64} (hy : y = UInt64.ofNat k) (hk : k < 64) (hp : 2 ^ k = p) (ha : a < 2 ^ 64) : ((lN a).toUInt64 >>> y).toInt64 = lN (a / p) := by
  subst hy hp
  have h : UInt64.ofNat a >>> UInt64.ofNat k = UInt64.ofNat (a / 2 ^ k) := UInt64.toNat_inj.mp (by rw [UInt64.toNat_shiftRight, u_tn ha, u_tn (by omega), u_tn (Nat.lt_of_le_of_lt (Nat.div_le_self _ _) ha), Nat.mod_eq_of_lt hk, Nat.shiftRight_eq_div_pow])
  have h2 := congrArg UInt64.toInt64 h
  exact h2
theorem g_shl {a k p : Nat} {y : Int64} (hy : y.toBitVec.smod 64 = BitVec.ofNat 64 k) (hk : k < 64) (hp : 2 ^ k = p) (ha : a < 2 ^ 64) : lN a <<< y = lN (a * p) := by
  subst hp
  apply Int64.toBitVec_inj.mp
  rw [Int64.toBitVec_shiftLeft, hy]
  apply BitVec.eq_of_toNat_eq
  have hb : (lN a).toBitVec.toNat = a := Nat.mod_eq_of_lt ha
  have hk' : (BitVec.ofNat 64 k).toNat = k := Nat.mod_eq_of_lt (by omega)
  have h : ((lN a).toBitVec <<< BitVec.ofNat 64 k).toNat = (a * 2 ^ k) % 2 ^ 64 := by simp only [BitVec.shiftLeft_eq', BitVec.toNat_shiftLeft, hb, hk', Nat.shiftLeft_eq]
  exact h
/-! ===== lN to 2^62 under >> and >>> ===== -/
theorem pf_lI {a : Nat} (h : a < 2 ^ 63) : (lN a).toInt = (a : Int) := lg_ofNat_toInt h
theorem pf_shr {a d : Nat} {D : Int64} (hD : (D.toBitVec.smod 64).toNat = d) (h : a < 2 ^ 62) : lN a >>> D = lN (a / 2 ^ d) := by
  have hd : a / 2 ^ d ≤ a := Nat.div_le_self _ _
  apply Int64.toInt_inj.mp
  have e : (lN a >>> D).toInt = (lN a).toInt >>> d := by
    rw [← hD]
    exact BitVec.toInt_sshiftRight ..
  rw [e, Int.shiftRight_eq_div_pow, pf_lI (by omega), pf_lI (by omega)]
  rfl
theorem pf_ushr {a d : Nat} {D : UInt64} (hD : D.toNat % 64 = d) (h : a < 2 ^ 62) : ((lN a).toUInt64 >>> D).toInt64 = lN (a / 2 ^ d) := by
  have hd : a / 2 ^ d ≤ a := Nat.div_le_self _ _
  have e : (lN a).toUInt64 >>> D = UInt64.ofNat (a / 2 ^ d) := UInt64.toNat_inj.mp (by
    rw [UInt64.toNat_shiftRight, hD, Nat.shiftRight_eq_div_pow, UInt64.toNat_ofNat']
    show (UInt64.ofNat a).toNat / 2 ^ d = _
    rw [UInt64.toNat_ofNat', Nat.mod_eq_of_lt (by omega), Nat.mod_eq_of_lt (by omega)])
  rw [e]
  rfl
theorem pf_andw (x : Int64) : ∃ m, m < 2 ^ 32 ∧ x &&& 4294967295 = lN m := ⟨x.toBitVec.toNat % 2 ^ 32, Nat.mod_lt _ (by decide), Int64.toBitVec_inj.mp (BitVec.eq_of_toNat_eq (by
  show (x.toBitVec &&& 4294967295#64).toNat = (BitVec.ofNat 64 (x.toBitVec.toNat % 2 ^ 32)).toNat
  rw [BitVec.toNat_and, show (4294967295#64).toNat = 2 ^ 32 - 1 from by decide, Nat.and_two_pow_sub_one_eq_mod, BitVec.toNat_ofNat]
  omega))⟩
/-! ===== Int64 as an unsigned number: uN x ===== -/
def uN (x : Int64) : Nat := x.toUInt64.toNat
theorem uN_lt (x : Int64) : uN x < 18446744073709551616 := x.toUInt64.toNat_lt
theorem uN_inj {x y : Int64} (h : uN x = uN y) : x = y := congrArg UInt64.toInt64 (UInt64.toNat_inj.mp h)
theorem uN_add (x y : Int64) : uN (x + y) = (uN x + uN y) % 18446744073709551616 := by
  show (x.toUInt64 + y.toUInt64).toNat = _
  exact UInt64.toNat_add _ _
theorem uN_mul (x y : Int64) : uN (x * y) = (uN x * uN y) % 18446744073709551616 := by
  show (x.toUInt64 * y.toUInt64).toNat = _
  exact UInt64.toNat_mul _ _
theorem uN_shl (x : Int64) : uN (x <<< ((1 : Int32).toInt64 &&& 63)) = (2 * uN x) % 18446744073709551616 := by
  have h : (((1 : Int32).toInt64 &&& 63).toBitVec.smod 64).toNat = 1 := by decide
  show (x.toBitVec <<< (((1 : Int32).toInt64 &&& 63).toBitVec.smod 64).toNat).toNat = _
  rw [h, BitVec.toNat_shiftLeft, Nat.shiftLeft_eq, Nat.mul_comm]
  rfl
theorem uN_shr (x : Int64) (s : UInt64) : uN (x.toUInt64 >>> s).toInt64 = uN x / 2 ^ (s.toNat % 64) := by
  show (x.toUInt64 >>> s).toNat = _
  rw [UInt64.toNat_shiftRight, Nat.shiftRight_eq_div_pow]
  rfl
theorem uN_s32 (x : Int64) : uN (x.toUInt64 >>> ((32 : Int32).toInt64.toUInt64 &&& Int64.toUInt64 63)).toInt64 = uN x / 4294967296 := by
  have h : ((32 : Int32).toInt64.toUInt64 &&& Int64.toUInt64 63).toNat % 64 = 32 := by decide
  rw [uN_shr, h]
theorem uN_s63 (x : Int64) : uN (x.toUInt64 >>> ((63 : Int32).toInt64.toUInt64 &&& Int64.toUInt64 63)).toInt64 = uN x / 9223372036854775808 := by
  have h : ((63 : Int32).toInt64.toUInt64 &&& Int64.toUInt64 63).toNat % 64 = 63 := by decide
  rw [uN_shr, h]
theorem uN_lo (x : Int64) : uN (x &&& 4294967295) = uN x % 4294967296 := by
  show (x.toUInt64 &&& Int64.toUInt64 4294967295).toNat = _
  rw [UInt64.toNat_and]
  exact Nat.and_two_pow_sub_one_eq_mod _ 32
theorem uN_bit (x : Int64) : (x &&& 1) = 0 ↔ uN x % 2 = 0 := by
  have h : uN (x &&& 1) = uN x % 2 := by
    show (x.toUInt64 &&& Int64.toUInt64 1).toNat = _
    rw [UInt64.toNat_and]
    exact Nat.and_two_pow_sub_one_eq_mod _ 1
  rw [← h]
  exact ⟨fun z => by rw [z]; rfl, fun z => uN_inj (z.trans rfl)⟩
theorem uN_or {x y : Int64} (hy : uN y < 2) : uN ((x <<< ((1 : Int32).toInt64 &&& 63)) ||| y) = (2 * uN x) % 18446744073709551616 + uN y := by
  have h1 : uN ((x <<< ((1 : Int32).toInt64 &&& 63)) ||| y) = uN (x <<< ((1 : Int32).toInt64 &&& 63)) ||| uN y := UInt64.toNat_or _ _
  have h2 : (2 * uN x) % 18446744073709551616 = 2 ^ 1 * (uN x % 9223372036854775808) := by omega
  rw [h1, uN_shl, h2]
  exact (Nat.two_pow_add_eq_or_of_lt (i := 1) hy _).symm
theorem nat_xor {a : Nat} (h : a < 18446744073709551616) : a ^^^ 2 ^ 63 = (a + 9223372036854775808) % 18446744073709551616 := by
  have h1 : (a ^^^ 2 ^ 63) % 2 ^ 63 = a % 2 ^ 63 := by rw [Nat.xor_mod_two_pow, Nat.mod_self, Nat.xor_zero]
  have h2 : (a ^^^ 2 ^ 63) / 2 ^ 63 = (a / 2 ^ 63) ^^^ 1 := by rw [Nat.xor_div_two_pow, Nat.div_self (Nat.two_pow_pos 63)]
  have h3 : a / 2 ^ 63 = 0 ∨ a / 2 ^ 63 = 1 := by omega
  generalize a ^^^ 2 ^ 63 = t at h1 h2
  rcases h3 with h3 | h3
  · rw [h3] at h2
    have h2 : t / 2 ^ 63 = 1 := h2
    omega
  · rw [h3] at h2
    have h2 : t / 2 ^ 63 = 0 := h2
    omega
theorem uN_xor (x : Int64) : uN (x ^^^ (-9223372036854775808)) = (uN x + 9223372036854775808) % 18446744073709551616 := by
  rw [← nat_xor (uN_lt x)]
  exact UInt64.toNat_xor _ _
theorem uN_int (x : Int64) : x.toInt = if 2 * uN x < 18446744073709551616 then (uN x : Int) else (uN x : Int) - 18446744073709551616 := BitVec.toInt_eq_toNat_cond _
theorem uN_le (x y : Int64) : (x ^^^ (-9223372036854775808)) ≤ (y ^^^ (-9223372036854775808)) ↔ uN x ≤ uN y := by
  have hx := uN_lt x
  have hy := uN_lt y
  rw [Int64.le_iff_toInt_le, uN_int, uN_int, uN_xor, uN_xor]
  omega
theorem uN_sk (x : Int64) {k : Nat} (hk : k < 64) : uN (x.toUInt64 >>> ((nI k).toInt64.toUInt64 &&& Int64.toUInt64 63)).toInt64 = uN x / 2 ^ k := by
  have h : ((nI k).toInt64.toUInt64 &&& Int64.toUInt64 63).toNat % 64 = k := by
    rw [nI_l (by omega), UInt64.toNat_and]
    have e : (lN k).toUInt64.toNat = k % 2 ^ 64 := rfl
    have e2 : (Int64.toUInt64 63).toNat = 2 ^ 6 - 1 := by decide
    rw [e, e2, Nat.and_two_pow_sub_one_eq_mod]
    omega
  rw [uN_shr, h]
/-! ===== unsigned comparison by xor with the least ===== -/
theorem lN_bv (n : Nat) : (lN n).toBitVec = BitVec.ofNat 64 n := rfl
theorem lN_nat {n : Nat} (h : n < 2 ^ 64) : (lN n).toBitVec.toNat = n := by rw [lN_bv, BitVec.toNat_ofNat]; exact Nat.mod_eq_of_lt h
theorem lN_xor (a b : Nat) : lN a ^^^ lN b = lN (a ^^^ b) := by
  apply Int64.toBitVec_inj.mp; rw [Int64.toBitVec_xor, lN_bv, lN_bv, lN_bv]; apply BitVec.eq_of_getLsbD_eq; intro i hi; simp [BitVec.getLsbD_ofNat, Nat.testBit_xor, hi]
theorem lN_ti {m : Nat} (h : m < 2 ^ 64) : (lN m).toInt = if m < 2 ^ 63 then (m : Int) else (m : Int) - 2 ^ 64 := by
  have c := BitVec.toInt_eq_toNat_cond (lN m).toBitVec
  rw [lN_nat h] at c
  show (lN m).toBitVec.toInt = _
  rw [c]
  split <;> split <;> omega
theorem xor63 {x : Nat} (h : x < 2 ^ 63) : x ^^^ 2 ^ 63 = 2 ^ 63 + x := by
  apply Nat.eq_of_testBit_eq
  intro i
  rw [Nat.testBit_xor, Nat.testBit_two_pow]
  rcases Nat.lt_trichotomy i 63 with z | z | z
  · rw [Nat.testBit_two_pow_add_gt z, decide_eq_false (by omega)]; simp
  · subst z; rw [Nat.testBit_two_pow_add_eq]; simp
  · have hp : 2 ^ 64 ≤ 2 ^ i := Nat.pow_le_pow_right (by decide) z
    rw [Nat.testBit_lt_two_pow (show x < 2 ^ i by omega), Nat.testBit_lt_two_pow (show 2 ^ 63 + x < 2 ^ i by omega), decide_eq_false (by omega)]; rfl
theorem xorS {a : Nat} (h : a < 2 ^ 64) : (lN a ^^^ (-9223372036854775808)).toInt = (a : Int) - 2 ^ 63 := by
  rw [show (-9223372036854775808 : Int64) = lN (2 ^ 63) from by decide +kernel, lN_xor]
  rcases Nat.lt_or_ge a (2 ^ 63) with z | z
  · rw [xor63 z, lN_ti (by omega), if_neg (by omega)]; omega
  · obtain ⟨x, rfl⟩ : ∃ x, a = 2 ^ 63 + x := ⟨a - 2 ^ 63, by omega⟩
    rw [← xor63 (by omega), Nat.xor_assoc, Nat.xor_self, Nat.xor_zero, lN_ti (by omega), if_pos (by omega), xor63 (by omega)]; omega
theorem ultL {a b : Nat} (ha : a < 2 ^ 64) (hb : b < 2 ^ 64) : ((lN b ^^^ (-9223372036854775808)) ≤ (lN a ^^^ (-9223372036854775808))) ↔ b ≤ a := by
  rw [Int64.le_iff_toInt_le, xorS ha, xorS hb]; omega
/-! ===== Int64 masks of n low bits ===== -/
theorem cr_bits (W U M : BitVec 64) : ((W &&& U) &&& (U &&& (M ^^^ BitVec.allOnes 64))) = 0#64 ↔ (W &&& U) &&& M = W &&& U := by
  constructor
  · intro h
    apply BitVec.eq_of_getLsbD_eq
    intro i hi
    have e := congrArg (fun x => BitVec.getLsbD x i) h
    simp only [BitVec.getLsbD_and, BitVec.getLsbD_xor, BitVec.getLsbD_allOnes, BitVec.getLsbD_zero, hi, decide_true] at e ⊢
    revert e
    cases W.getLsbD i <;> cases U.getLsbD i <;> cases M.getLsbD i <;> decide
  · intro h
    apply BitVec.eq_of_getLsbD_eq
    intro i hi
    have e := congrArg (fun x => BitVec.getLsbD x i) h
    simp only [BitVec.getLsbD_and, BitVec.getLsbD_xor, BitVec.getLsbD_allOnes, BitVec.getLsbD_zero, hi, decide_true] at e ⊢
    revert e
    cases W.getLsbD i <;> cases U.getLsbD i <;> cases M.getLsbD i <;> decide
theorem cr_mask (w U m : Int64) (n : Nat) (hm : m.toBitVec.toNat = 2 ^ n - 1) : ((w &&& U) &&& (U &&& (m ^^^ (-1)))) = 0 ↔ (w &&& U).toBitVec.toNat < 2 ^ n := by
  have e0 : (-1 : Int64).toBitVec = BitVec.allOnes 64 := by decide
  have z0 : (0 : Int64).toBitVec = 0#64 := by decide
  rw [← Int64.toBitVec_inj, z0, Int64.toBitVec_and, Int64.toBitVec_and, Int64.toBitVec_and, Int64.toBitVec_xor, e0, cr_bits]
  generalize w.toBitVec &&& U.toBitVec = T
  rw [← BitVec.toNat_inj, BitVec.toNat_and, hm, Nat.and_two_pow_sub_one_eq_mod]
  constructor
  · intro h
    have t := Nat.mod_lt T.toNat (Nat.two_pow_pos n)
    rw [h] at t
    exact t
  · exact Nat.mod_eq_of_lt
theorem cr_shr (t : Int64) (x : UInt64) (n : Nat) (hx : x.toNat % 64 = n) : (t.toUInt64 >>> x).toInt64 = 0 ↔ t.toBitVec.toNat < 2 ^ n := by
  rw [← Int64.toBitVec_inj, ← BitVec.toNat_inj]
  show (t.toUInt64 >>> x).toNat = 0 ↔ t.toUInt64.toNat < 2 ^ n
  rw [UInt64.toNat_shiftRight, hx, Nat.shiftRight_eq_div_pow]
  constructor
  · intro h
    have d : t.toUInt64.toNat / 2 ^ n < 1 := by
      rw [h]
      decide
    have e := (Nat.div_lt_iff_lt_mul (Nat.two_pow_pos n)).mp d
    rw [Nat.one_mul] at e
    exact e
  · exact Nat.div_eq_of_lt
theorem cr_amt (s : Int64) : ∃ n, n < 64 ∧ s &&& 63 = lN n ∧ (s.toUInt64 &&& Int64.toUInt64 63).toNat % 64 = n := by
  have e : (s.toUInt64 &&& Int64.toUInt64 63).toNat = s.toUInt64.toNat % 2 ^ 6 := by
    rw [UInt64.toNat_and, show (Int64.toUInt64 63).toNat = 2 ^ 6 - 1 from by decide, Nat.and_two_pow_sub_one_eq_mod]
  refine ⟨s.toUInt64.toNat % 2 ^ 6, by omega, ?_, by omega⟩
  rw [← Int64.toBitVec_inj, ← BitVec.toNat_inj]
  show (s.toUInt64 &&& Int64.toUInt64 63).toNat = (BitVec.ofNat 64 (s.toUInt64.toNat % 2 ^ 6)).toNat
  rw [e, BitVec.toNat_ofNat]
  omega
end
section
/-! the reference: its actions keep the invariant -/
theorem cnt_up {x : Int32} {n : Nat} (h : 0 ≤ x.toInt ∧ x.toInt < n) (hn : n < 2 ^ 30) : (x + 1).toInt = x.toInt + 1 ∧ tn (x + 1) = tn x + 1 := by
  obtain ⟨h1, h2⟩ := cnt_in (x := x) (n := n) h.1 (by omega)
  have e : x + 1 = nI (tn x + 1) := by
    have := nI_1 (tn x)
    rw [← h2] at this
    exact this
  have e2 : (tn x : Int) = x.toInt := by
    have := nI_toInt (n := tn x) (by omega)
    rw [← h2] at this
    exact this.symm
  rw [e]
  refine ⟨by rw [nI_toInt (by omega)]; omega, nI_clamp (by omega)⟩
theorem servesN_same {g g' : Gs} (l : Int32) : ∀ n, n ≤ 8 → (∀ b, b < n → g' (60 + 10 * b + 2) = g (60 + 10 * b + 2)) → F_servesN g' l n = F_servesN g l n
  | 0, _, _ => rfl
  | n + 1, h8, h => by
    rw [F_servesN, F_servesN, servesN_same l n (by omega) (fun b hb => h b (by omega)), gB_2 _ (by omega), gB_2 _ (by omega), h n (by omega)]
theorem servesN_none {g : Gs} {l : Nat} (hl : tn (g 4) ≤ l) (h6 : l < 6) (h : Inv g) : ∀ n, n ≤ tn (g 5) → F_servesN g (nI l) n = 0
  | 0, _ => rfl
  | n + 1, hn => by
    have h5 := h.c5.1
    have hb := (h.2.2.2.1 n (by omega)).2.2.1
    have e4 := e4int h
    rw [F_servesN, servesN_none hl h6 h n (by omega), gB_2 _ (by omega), b01_f]
    · rfl
    · intro z
      rw [z, nI_1] at hb
      have := hb.2
      rw [nI_toInt (by omega)] at this
      omega
theorem inn_I {x a b : Int32} (h : inn x a b) : inI x a.toInt b.toInt := ⟨Int32.le_iff_toInt_le.mp h.1, Int32.le_iff_toInt_le.mp h.2⟩
/-- an action changes settings, a lighthouse that is there but not its capacity, or a boat that is there but not who serves it -/
theorem Inv.keep {g g' : Gs} (h : Inv g) (e4 : g' 4 = g 4) (e5 : g' 5 = g 5) (hs : inI (g' 0) 0 100 ∧ inI (g' 1) 1 10 ∧ inI (g' 2) 1 300 ∧ inI (g' 3) 0 50) (hL : ∀ n, n < tn (g 4) → LInv g' n) (hcap : ∀ n, n < tn (g 4) → g' (12 + 8 * n + 4) = g (12 + 8 * n + 4)) (hB : ∀ n, n < tn (g 5) → BInv g' n) (hby : ∀ b, b < tn (g 5) → g' (60 + 10 * b + 2) = g (60 + 10 * b + 2))
    (hz : ∀ n, tn (g 4) ≤ n → n < 6 → g' (12 + 8 * n + 6) = g (12 + 8 * n + 6) ∧ g' (12 + 8 * n + 7) = g (12 + 8 * n + 7)) (hzb : ∀ n, tn (g 5) ≤ n → n < 8 → ∀ j, 2 ≤ j → j < 10 → g' (60 + 10 * n + j) = g (60 + 10 * n + j)) : Inv g' := by
  have h5 := h.c5.1
  obtain ⟨i1, i2, i3, i4, i5, i6, i7⟩ := h
  refine ⟨hs, by rw [e4, e5]; exact i2, by rw [e4]; exact hL, by rw [e5]; exact hB, ?_, ?_, ?_⟩
  · intro n hn
    rw [e4] at hn
    rw [e5, hcap n hn, servesN_same _ _ h5 hby]
    exact i5 n hn
  · intro n h1 h2
    rw [e4] at h1
    rw [(hz n h1 h2).1, (hz n h1 h2).2]
    exact i6 n h1 h2
  · intro n h1 h2 j h3 h4
    rw [e5] at h1
    rw [hzb n h1 h2 j h3 h4]
    exact i7 n h1 h2 j h3 h4
theorem Inv_steer {g : Gs} (h : Inv g) {b v : Int32} (hc : cSteer g b v) : Inv (pB g b 1 v) := by
  obtain ⟨n, hn, rfl⟩ := in_B h.hc5 hc.1
  have h4 := h.c4.1
  have h5 := h.c5.1
  rw [pB_1 _ _ (by omega)]
  refine h.keep (pk_un (by omega)) (pk_un (by omega)) ?_ ?_ (fun k hk => pk_un (by omega)) ?_ (fun k hk => pk_un (by omega)) (fun k _ _ => ⟨pk_un (by omega), pk_un (by omega)⟩) (fun k _ _ j _ _ => pk_un (by omega))
  · rw [pk_un (by omega), pk_un (by omega), pk_un (by omega), pk_un (by omega)]; exact h.1
  · intro k hk
    have q := h.2.2.1 k hk
    unfold LInv at q ⊢
    rw [pk_un (by omega), pk_un (by omega), pk_un (by omega), pk_un (by omega), pk_un (by omega), pk_un (by omega), pk_un (by omega)]
    exact q
  · intro k hk
    obtain ⟨b1, b2, b3⟩ := h.2.2.2.1 k hk
    unfold BInv
    by_cases hkn : k = n
    · subst hkn
      repeat (first | rw [pk_us] | rw [pk_un (by omega)])
      exact ⟨b1, inn_I hc.2, b3⟩
    · rw [pk_un (by omega), pk_un (by omega), pk_un (by omega), pk_un (by omega), pk_un (by omega), pk_un (by omega), pk_un (by omega)]
      exact ⟨b1, b2, b3⟩
theorem Inv_talk {g : Gs} (h : Inv g) {b v : Int32} (hc : cTalk g b v) : Inv (pB g b 3 v) := by
  obtain ⟨n, hn, rfl⟩ := in_B h.hc5 hc.1
  have h4 := h.c4.1
  have h5 := h.c5.1
  rw [pB_3 _ _ (by omega)]
  refine h.keep (pk_un (by omega)) (pk_un (by omega)) ?_ ?_ (fun k hk => pk_un (by omega)) ?_ (fun k hk => pk_un (by omega)) (fun k _ _ => ⟨pk_un (by omega), pk_un (by omega)⟩) (fun k _ _ j _ _ => pk_un (by omega))
  · rw [pk_un (by omega), pk_un (by omega), pk_un (by omega), pk_un (by omega)]; exact h.1
  · intro k hk
    have q := h.2.2.1 k hk
    unfold LInv at q ⊢
    rw [pk_un (by omega), pk_un (by omega), pk_un (by omega), pk_un (by omega), pk_un (by omega), pk_un (by omega), pk_un (by omega)]
    exact q
  · intro k hk
    obtain ⟨b1, b2, b3, b4, b5⟩ := h.2.2.2.1 k hk
    unfold BInv
    by_cases hkn : k = n
    · subst hkn
      repeat (first | rw [pk_us] | rw [pk_un (by omega)])
      have q := inn_I hc.2.1
      exact ⟨b1, b2, b3, ⟨by have z : (1 : Int32).toInt = 1 := rfl; have := q.1; omega, q.2⟩, b5⟩
    · rw [pk_un (by omega), pk_un (by omega), pk_un (by omega), pk_un (by omega), pk_un (by omega), pk_un (by omega), pk_un (by omega)]
      exact ⟨b1, b2, b3, b4, b5⟩
theorem Inv_lean {g : Gs} (h : Inv g) {a v : Int32} (hc : cLean g a v) : Inv (F_lean g a v) := by
  obtain ⟨n, hn, rfl⟩ := in_L h.hc4 hc.1
  have h4 := h.c4.1
  have h5 := h.c5.1
  unfold F_lean
  rw [tnL_6 (by omega)]
  refine h.keep (pk_un (by omega)) (pk_un (by omega)) ?_ ?_ (fun k hk => pk_un (by omega)) ?_ (fun k hk => pk_un (by omega)) (fun k _ _ => ⟨pk_un (by omega), pk_un (by omega)⟩) (fun k _ _ j _ _ => pk_un (by omega))
  · rw [pk_un (by omega), pk_un (by omega), pk_un (by omega), pk_un (by omega)]; exact h.1
  · intro k hk
    obtain ⟨b1, b2, b3, b4, b5, b6, b7⟩ := h.2.2.1 k hk
    unfold LInv
    by_cases hkn : k = n
    · subst hkn
      repeat (first | rw [pk_us] | rw [pk_un (by omega)])
      exact ⟨b1, b2, b3, b4, b5, b6, inn_I hc.2⟩
    · rw [pk_un (by omega), pk_un (by omega), pk_un (by omega), pk_un (by omega), pk_un (by omega), pk_un (by omega), pk_un (by omega)]
      exact ⟨b1, b2, b3, b4, b5, b6, b7⟩
  · intro k hk
    have q := h.2.2.2.1 k hk
    unfold BInv at q ⊢
    rw [pk_un (by omega), pk_un (by omega), pk_un (by omega), pk_un (by omega), pk_un (by omega), pk_un (by omega), pk_un (by omega)]
    exact q
theorem Inv_dim {g : Gs} (h : Inv g) {a v : Int32} (hc : cDim g a v) : Inv (F_dim g a v) := by
  obtain ⟨n, hn, rfl⟩ := in_L h.hc4 hc.1
  have h4 := h.c4.1
  have h5 := h.c5.1
  unfold F_dim
  rw [tnL_1 (by omega)]
  refine h.keep (pk_un (by omega)) (pk_un (by omega)) ?_ ?_ (fun k hk => pk_un (by omega)) ?_ (fun k hk => pk_un (by omega)) (fun k _ _ => ⟨pk_un (by omega), pk_un (by omega)⟩) (fun k _ _ j _ _ => pk_un (by omega))
  · rw [pk_un (by omega), pk_un (by omega), pk_un (by omega), pk_un (by omega)]; exact h.1
  · intro k hk
    obtain ⟨b1, b2, b3, b4, b5, b6, b7⟩ := h.2.2.1 k hk
    unfold LInv
    by_cases hkn : k = n
    · subst hkn
      repeat (first | rw [pk_us] | rw [pk_un (by omega)])
      exact ⟨b1, inn_I hc.2, b3, b4, b5, b6, b7⟩
    · rw [pk_un (by omega), pk_un (by omega), pk_un (by omega), pk_un (by omega), pk_un (by omega), pk_un (by omega), pk_un (by omega)]
      exact ⟨b1, b2, b3, b4, b5, b6, b7⟩
  · intro k hk
    have q := h.2.2.2.1 k hk
    unfold BInv at q ⊢
    rw [pk_un (by omega), pk_un (by omega), pk_un (by omega), pk_un (by omega), pk_un (by omega), pk_un (by omega), pk_un (by omega)]
    exact q
theorem Inv_set {g : Gs} (h : Inv g) {a v : Int32} (hc : cSet a v) : Inv (upd g (tn a) v) := by
  obtain ⟨n, hn, rfl⟩ : ∃ N, N < 4 ∧ a = nI N := vp_in_of (inn_vp (by decide) hc.1) (by decide)
  have h4 := h.c4.1
  have h5 := h.c5.1
  rw [show tn (nI n) = n from nI_clamp (by omega)]
  refine h.keep (pk_un (by omega)) (pk_un (by omega)) ?_ ?_ (fun k hk => pk_un (by omega)) ?_ (fun k hk => pk_un (by omega)) (fun k _ _ => ⟨pk_un (by omega), pk_un (by omega)⟩) (fun k _ _ j _ _ => pk_un (by omega))
  · obtain ⟨s0, s1, s2, s3⟩ := h.1
    have q := inn_I hc.2
    rcases (show n = 0 ∨ n = 1 ∨ n = 2 ∨ n = 3 by omega) with e | e | e | e <;> subst e
    · exact ⟨q, s1, s2, s3⟩
    · exact ⟨s0, q, s2, s3⟩
    · exact ⟨s0, s1, q, s3⟩
    · exact ⟨s0, s1, s2, q⟩
  · intro k hk
    have q := h.2.2.1 k hk
    unfold LInv at q ⊢
    rw [pk_un (by omega), pk_un (by omega), pk_un (by omega), pk_un (by omega), pk_un (by omega), pk_un (by omega), pk_un (by omega)]
    exact q
  · intro k hk
    have q := h.2.2.2.1 k hk
    unfold BInv at q ⊢
    rw [pk_un (by omega), pk_un (by omega), pk_un (by omega), pk_un (by omega), pk_un (by omega), pk_un (by omega), pk_un (by omega)]
    exact q
theorem Inv_addLight {g : Gs} (h : Inv g) {q st k n bo re : Int32} (hc : cLight g q st k n bo re) : Inv (F_addLight g q st k n bo re) := by
  obtain ⟨c1, ⟨⟨c2, c3, c4⟩, c5, c6⟩, c7⟩ := hc
  have e4 := h.c4.2
  have h5 := h.c5.1
  have ei := e4int h
  have c7 := Int32.lt_iff_toInt_lt.mp c7
  have z6 : (6 : Int32).toInt = 6 := rfl
  have hN : tn (g 4) < 6 := by omega
  obtain ⟨u1, u2⟩ := cnt_up (x := g 4) (n := 6) ⟨h.hc4.1, by omega⟩ (by decide)
  unfold F_addLight F_inc
  rw [e4, tnL_0 hN, tnL_1 hN, tnL_2 hN, tnL_3 hN, tnL_4 hN, tnL_5 hN]
  generalize hG : upd (upd (upd (upd (upd (upd g (12 + 8 * tn (g 4)) q) (12 + 8 * tn (g 4) + 1) st) (12 + 8 * tn (g 4) + 2) k) (12 + 8 * tn (g 4) + 3) n) (12 + 8 * tn (g 4) + 4) bo) (12 + 8 * tn (g 4) + 5) re = G
  have eq : ∀ i, ¬ (12 + 8 * tn (g 4) ≤ i ∧ i < 12 + 8 * tn (g 4) + 6) → G i = g i := by
    intro i hi
    rw [← hG, pk_un (by omega), pk_un (by omega), pk_un (by omega), pk_un (by omega), pk_un (by omega), pk_un (by omega)]
  have eq2 : ∀ i, i ≠ 4 → ¬ (12 + 8 * tn (g 4) ≤ i ∧ i < 12 + 8 * tn (g 4) + 6) → upd G 4 (G 4 + 1) i = g i := fun i h4 hi => (pk_un h4).trans (eq i hi)
  have eG4 : upd G 4 (G 4 + 1) 4 = g 4 + 1 := by rw [pk_us, eq 4 (by omega)]
  have eG5 : upd G 4 (G 4 + 1) 5 = g 5 := eq2 5 (by omega) (by omega)
  obtain ⟨i1, i2, i3, i4, i5, i6, i7⟩ := id h
  refine ⟨?_, ?_, ?_, ?_, ?_, ?_, ?_⟩
  · rw [eq2 0 (by omega) (by omega), eq2 1 (by omega) (by omega), eq2 2 (by omega) (by omega), eq2 3 (by omega) (by omega)]; exact i1
  · rw [eG4, eG5]
    exact ⟨⟨by rw [u1]; have := i2.1.1; omega, by rw [u1]; omega⟩, i2.2⟩
  · intro l hl
    rw [eG4, u2] at hl
    by_cases hlN : l = tn (g 4)
    · unfold LInv
      rw [hlN]
      have g0 : upd G 4 (G 4 + 1) (12 + 8 * tn (g 4)) = q := by rw [pk_un (by omega), ← hG]; repeat (first | rw [pk_us] | rw [pk_un (by omega)])
      have g1 : upd G 4 (G 4 + 1) (12 + 8 * tn (g 4) + 1) = st := by rw [pk_un (by omega), ← hG]; repeat (first | rw [pk_us] | rw [pk_un (by omega)])
      have g2 : upd G 4 (G 4 + 1) (12 + 8 * tn (g 4) + 2) = k := by rw [pk_un (by omega), ← hG]; repeat (first | rw [pk_us] | rw [pk_un (by omega)])
      have g3 : upd G 4 (G 4 + 1) (12 + 8 * tn (g 4) + 3) = n := by rw [pk_un (by omega), ← hG]; repeat (first | rw [pk_us] | rw [pk_un (by omega)])
      have g4 : upd G 4 (G 4 + 1) (12 + 8 * tn (g 4) + 4) = bo := by rw [pk_un (by omega), ← hG]; repeat (first | rw [pk_us] | rw [pk_un (by omega)])
      have g5 : upd G 4 (G 4 + 1) (12 + 8 * tn (g 4) + 5) = re := by rw [pk_un (by omega), ← hG]; repeat (first | rw [pk_us] | rw [pk_un (by omega)])
      have g6 : upd G 4 (G 4 + 1) (12 + 8 * tn (g 4) + 6) = 0 := by rw [eq2 _ (by omega) (by omega)]; exact (i6 _ (Nat.le_refl _) hN).1
      rw [g0, g1, g2, g3, g4, g5, g6]
      exact ⟨inn_I c1, inn_I c2, inn_I c3, inn_I c4, inn_I c5, inn_I c6, by decide, by decide⟩
    · have q := i3 l (by omega)
      unfold LInv at q ⊢
      rw [eq2 _ (by omega) (by omega), eq2 _ (by omega) (by omega), eq2 _ (by omega) (by omega), eq2 _ (by omega) (by omega), eq2 _ (by omega) (by omega), eq2 _ (by omega) (by omega), eq2 _ (by omega) (by omega)]
      exact q
  · intro b hb
    rw [eG5] at hb
    obtain ⟨b1, b2, b3, b4, b5, b6⟩ := i4 b hb
    unfold BInv
    rw [eG4, u1, eq2 _ (by omega) (by omega), eq2 _ (by omega) (by omega), eq2 _ (by omega) (by omega), eq2 _ (by omega) (by omega), eq2 _ (by omega) (by omega), eq2 _ (by omega) (by omega)]
    exact ⟨b1, b2, ⟨b3.1, by have := b3.2; omega⟩, b4, ⟨b5.1, by have := b5.2; omega⟩, ⟨b6.1, by have := b6.2; omega⟩⟩
  · intro l hl
    rw [eG4, u2] at hl
    rw [eG5, servesN_same _ _ h5 (fun b hb => eq2 _ (by omega) (by omega))]
    by_cases hlN : l = tn (g 4)
    · have g4 : upd G 4 (G 4 + 1) (12 + 8 * tn (g 4) + 4) = bo := by rw [pk_un (by omega), ← hG]; repeat (first | rw [pk_us] | rw [pk_un (by omega)])
      rw [hlN, g4, servesN_none (Nat.le_refl _) hN h _ (Nat.le_refl _)]
      have q := (inn_I c5).1
      have z1 : (1 : Int32).toInt = 1 := rfl
      have z0 : (0 : Int32).toInt = 0 := rfl
      omega
    · rw [eq2 _ (by omega) (by omega)]
      exact i5 l (by omega)
  · intro l h1 h2
    rw [eG4, u2] at h1
    rw [eq2 _ (by omega) (by omega), eq2 _ (by omega) (by omega)]
    exact i6 l (by omega) h2
  · intro b h1 h2 j h3 h4
    rw [eG5] at h1
    rw [eq2 _ (by omega) (by omega)]
    exact i7 b h1 h2 j h3 h4
theorem Inv_addBoat {g : Gs} (h : Inv g) {q v : Int32} (hc : cBoat g q v) : Inv (F_addBoat g q v) := by
  obtain ⟨c1, c2, c7⟩ := hc
  have e5 := h.c5.2
  have h5 := h.c5.1
  have h4 := h.c4.1
  have c7 := Int32.lt_iff_toInt_lt.mp c7
  have z8 : (8 : Int32).toInt = 8 := rfl
  obtain ⟨u1, u2⟩ := cnt_up (x := g 5) (n := 8) ⟨h.hc5.1, by omega⟩ (by decide)
  have ei : (tn (g 5) : Int) = (g 5).toInt := by rw [e5, nI_toInt (by omega), show tn (nI (tn (g 5))) = tn (g 5) from nI_clamp (by omega)]
  have hN : tn (g 5) < 8 := by omega
  unfold F_addBoat F_inc
  rw [e5, pB_0 _ _ hN, pB_1 _ _ hN]
  generalize hG : upd (upd g (60 + 10 * tn (g 5)) q) (60 + 10 * tn (g 5) + 1) v = G
  have eq : ∀ i, ¬ (60 + 10 * tn (g 5) ≤ i ∧ i < 60 + 10 * tn (g 5) + 2) → G i = g i := by
    intro i hi
    rw [← hG, pk_un (by omega), pk_un (by omega)]
  have eq2 : ∀ i, i ≠ 5 → ¬ (60 + 10 * tn (g 5) ≤ i ∧ i < 60 + 10 * tn (g 5) + 2) → upd G 5 (G 5 + 1) i = g i := fun i h4 hi => (pk_un h4).trans (eq i hi)
  have eG5 : upd G 5 (G 5 + 1) 5 = g 5 + 1 := by rw [pk_us, eq 5 (by omega)]
  have eG4 : upd G 5 (G 5 + 1) 4 = g 4 := eq2 4 (by omega) (by omega)
  obtain ⟨i1, i2, i3, i4, i5, i6, i7⟩ := id h
  have z : ∀ j, 2 ≤ j → j < 10 → upd G 5 (G 5 + 1) (60 + 10 * tn (g 5) + j) = 0 := fun j h2 h3 => by rw [eq2 _ (by omega) (by omega)]; exact i7 _ (Nat.le_refl _) hN j h2 h3
  refine ⟨?_, ?_, ?_, ?_, ?_, ?_, ?_⟩
  · rw [eq2 0 (by omega) (by omega), eq2 1 (by omega) (by omega), eq2 2 (by omega) (by omega), eq2 3 (by omega) (by omega)]; exact i1
  · rw [eG4, eG5]
    exact ⟨i2.1, ⟨by rw [u1]; have := i2.2.1; omega, by rw [u1]; omega⟩⟩
  · intro l hl
    rw [eG4] at hl
    have q := i3 l hl
    unfold LInv at q ⊢
    rw [eq2 _ (by omega) (by omega), eq2 _ (by omega) (by omega), eq2 _ (by omega) (by omega), eq2 _ (by omega) (by omega), eq2 _ (by omega) (by omega), eq2 _ (by omega) (by omega), eq2 _ (by omega) (by omega)]
    exact q
  · intro b hb
    rw [eG5, u2] at hb
    by_cases hbN : b = tn (g 5)
    · rw [hbN]
      have g0 : upd G 5 (G 5 + 1) (60 + 10 * tn (g 5)) = q := by rw [pk_un (by omega), ← hG]; repeat (first | rw [pk_us] | rw [pk_un (by omega)])
      have g1 : upd G 5 (G 5 + 1) (60 + 10 * tn (g 5) + 1) = v := by rw [pk_un (by omega), ← hG]; repeat (first | rw [pk_us] | rw [pk_un (by omega)])
      have zz : inI (0 : Int32) 0 (g 4).toInt := ⟨by decide, h.hc4.1⟩
      unfold BInv
      rw [g0, g1, z 2 (by omega) (by omega), z 3 (by omega) (by omega), z 4 (by omega) (by omega), z 6 (by omega) (by omega), eG4]
      exact ⟨inn_I c1, inn_I c2, zz, ⟨by decide, by decide⟩, zz, zz⟩
    · have q := i4 b (by omega)
      unfold BInv at q ⊢
      rw [eG4, eq2 _ (by omega) (by omega), eq2 _ (by omega) (by omega), eq2 _ (by omega) (by omega), eq2 _ (by omega) (by omega), eq2 _ (by omega) (by omega), eq2 _ (by omega) (by omega)]
      exact q
  · intro l hl
    rw [eG4] at hl
    rw [eG5, u2, F_servesN, servesN_same (g := g) _ _ h5 (fun b hb => eq2 _ (by omega) (by omega)), gB_2 _ hN, z 2 (by omega) (by omega), b01_f (nI_ne_1 (by omega)), Int32.add_zero, eq2 _ (by omega) (by omega)]
    exact i5 l hl
  · intro l h1 h2
    rw [eG4] at h1
    rw [eq2 _ (by omega) (by omega), eq2 _ (by omega) (by omega)]
    exact i6 l h1 h2
  · intro b h1 h2 j h3 h4
    rw [eG5, u2] at h1
    rw [eq2 _ (by omega) (by omega)]
    exact i7 b (by omega) h2 j h3 h4
end
section
/-! the reference: forecasts, scripts, simulations: pure -/
theorem Inv_margin {g : Gs} (h : Inv g) {v : Int32} (hv : inn v 0 100) : Inv (upd g 0 v) := by
  have := Inv_set h (a := 0) (v := v) ⟨⟨by decide, by decide⟩, hv⟩
  exact this
def G_aside (sg : Sg) (mo : Nat) : Sg := upr sg (mo + 2) (cpy (sg (mo + 1)) (sg (mo + 2)) 140)
theorem cpy_cpy (f g : Nat → Int32) (n : Nat) : cpy f (cpy f g n) n = cpy f g n := by
  funext z
  unfold cpy
  split <;> rfl
theorem aside_1 (sg : Sg) (mo : Nat) : G_aside sg mo (mo + 1) = sg (mo + 1) := upr_ne _ _ (by omega)
theorem aside_aside (sg : Sg) (mo : Nat) : G_aside (G_aside sg mo) mo = G_aside sg mo := by
  unfold G_aside
  rw [upr_at, upr_upr, upr_ne _ _ (by omega), cpy_cpy]
/-- taken back: what was put aside, where nothing behind the 140th changed -/
theorem back_eq {g s' a : Nat → Int32} (h : ∀ z, 140 ≤ z → s' z = g z) : cpy (cpy g a 140) s' 140 = g := by
  funext z
  unfold cpy
  by_cases hz : z < 140
  · rw [if_pos hz, if_pos hz]
  · rw [if_neg hz]; exact h z (by omega)
theorem lo140 {z : Nat} (h : 140 ≤ z) : lo z := Or.inr (Or.inr h)
def R_brings (g : Gs) (v : Int32) (N j : Nat) : Int32 := F_ticks (upd g 0 v) N j - upd g 0 v j
def K_ifMargin (v n a : Int32) : Int32 := if inn v 0 100 ∧ inn n 1 200 ∧ inn a 0 3 then 0 else 1
def F_bm (g : Gs) (N : Nat) : Nat → Int32 × Int32 × Int32
  | 0 => (-1, 0, 0)
  | i + 1 => if (F_bm g N i).1 = -1 ∨ R_brings g (nI (5 * i)) N 8 + R_brings g (nI (5 * i)) N 10 < (F_bm g N i).2.1 ∨ (R_brings g (nI (5 * i)) N 8 + R_brings g (nI (5 * i)) N 10 = (F_bm g N i).2.1 ∧ R_brings g (nI (5 * i)) N 7 < (F_bm g N i).2.2) then (nI (5 * i), R_brings g (nI (5 * i)) N 8 + R_brings g (nI (5 * i)) N 10, R_brings g (nI (5 * i)) N 7) else F_bm g N i
def K_bestMargin (n : Int32) : Int32 := if inn n 1 100 then 0 else 1
def F_lit (g : Gs) (q : Int32) : Nat → Int32
  | 0 => 0
  | n + 1 => if F_lit g q n = 0 ∧ F_bright g (nI n) q < g 2 then 0 else 1
def F_dark (g : Gs) : Nat → Int32
  | 0 => 0
  | n + 1 => F_dark g n + (if F_lit g (nI n) (tn (g 4)) = 0 then 1 else 0)
def F_room (g : Gs) : Nat → Int32
  | 0 => 0
  | n + 1 => F_room g n + (gL g (nI n) 4 - F_serves g (nI n))
/-- whether the place i + 1 has another best one than i -/
def F_bd (g : Gs) (i : Nat) : Int32 := b01 (¬ F_best g (nI (i + 1)) = F_best g (nI i))
def F_left (g : Gs) (k : Int32) : Nat → Int32
  | 0 => k
  | i + 1 => F_left g k i - F_bd g i
def F_bdp (g : Gs) (k : Int32) (i : Nat) : Bool := decide (¬ F_bd g i = 0 ∧ F_left g k i = 0)
def R_border (g : Gs) (k : Int32) : Int32 := if fa_first (F_bdp g k) 199 < 199 then nI (fa_first (F_bdp g k) 199 + 1) else -1
def K_border (k : Int32) : Int32 := if k < 0 then 1 else 0
def F_hp (g : Gs) (b : Int32) (i : Nat) : Bool := decide (¬ gB (F_ticks g i) b 7 = gB g b 7)
def F_hN (g : Gs) (b : Int32) : Nat := fa_first (F_hp g b) 200
def K_handedIn (g : Gs) (b w : Int32) : Int32 := if inn b 0 (g 5 - 1) then (if inn w 0 2 then 0 else 2) else 1
def R_handedIn (g : Gs) (b w : Int32) : Int32 :=
  if gB g b 7 < gB (F_ticks g (F_hN g b)) b 7 then (if w = 0 then nI (F_hN g b) else if w = 1 then gB (F_ticks g (F_hN g b)) b 2 - 1 else gB (F_ticks g (F_hN g b)) b 0) else -1
def F_held (v : Int32) : Int32 := if 99 < v then 99 else v
/-- a turn: q, and which -/
def F_turnC (g : Gs) (q : Int32) (k : Nat) : Gs :=
  if k < 2 then (if cLight g (rm q 200) (10 + rm (q / 256) 90) (rm q 3) (1 + rm (q / 8) 20) (1 + rm q 6) (rm (q / 32) 2) then F_addLight g (rm q 200) (10 + rm (q / 256) 90) (rm q 3) (1 + rm (q / 8) 20) (1 + rm q 6) (rm (q / 32) 2) else g)
  else if k < 4 then (if cBoat g (rm q 200) (rm (q / 256) 13 - 6) then F_addBoat g (rm q 200) (rm (q / 256) 13 - 6) else g)
  else if k < 5 then (if cSteer g (rm q 8) (rm (q / 8) 13 - 6) then pB g (rm q 8) 1 (rm (q / 8) 13 - 6) else g)
  else if k < 7 then (if cTalk g (rm q 8) (1 + rm (q / 8) 60) then pB g (rm q 8) 3 (1 + rm (q / 8) 60) else g)
  else if k < 8 then (if rm (q / 512) 2 = 0 then (if cLean g (rm q 6) (rm (q / 8) 61 - 30) then F_lean g (rm q 6) (rm (q / 8) 61 - 30) else g) else (if cDim g (rm q 6) (10 + rm (q / 8) 90) then F_dim g (rm q 6) (10 + rm (q / 8) 90) else g))
  else (if inn (1 + rm q 12) 1 60 then F_ticks g (tn (1 + rm q 12)) else g)
def F_turn (g : Gs) (r : Int32) : Gs := F_turnC g (r / 16) (tn (rm r 16))
theorem Inv_turn {g : Gs} (h : Inv g) (q : Int32) (k : Nat) : Inv (F_turnC g q k) := by
  unfold F_turnC
  repeat' split
  · exact Inv_addLight h (by assumption)
  · exact h
  · exact Inv_addBoat h (by assumption)
  · exact h
  · exact Inv_steer h (by assumption)
  · exact h
  · exact Inv_talk h (by assumption)
  · exact h
  · exact Inv_lean h (by assumption)
  · exact h
  · exact Inv_dim h (by assumption)
  · exact h
  · exact (Inv_ticks h _).1
  · exact h
theorem addLight_hi {g : Gs} (h : Inv g) {q st k n bo re : Int32} (hc : cLight g q st k n bo re) {z : Nat} (hz : 140 ≤ z) : F_addLight g q st k n bo re z = g z := by
  obtain ⟨c1, -, c7⟩ := hc
  have e4 := h.c4
  have c7 := Int32.lt_iff_toInt_lt.mp c7
  have z6 : (6 : Int32).toInt = 6 := rfl
  have ei := e4int h
  have hN : tn (g 4) < 6 := by omega
  unfold F_addLight
  rw [inc_at (by omega), e4.2, tnL_0 hN, tnL_1 hN, tnL_2 hN, tnL_3 hN, tnL_4 hN, tnL_5 hN, pk_un (by omega), pk_un (by omega), pk_un (by omega), pk_un (by omega), pk_un (by omega), pk_un (by omega)]
theorem addBoat_hi {g : Gs} (h : Inv g) {q v : Int32} (hc : cBoat g q v) {z : Nat} (hz : 140 ≤ z) : F_addBoat g q v z = g z := by
  obtain ⟨c1, c2, c7⟩ := hc
  have e5 := h.c5
  have c7 := Int32.lt_iff_toInt_lt.mp c7
  have z8 : (8 : Int32).toInt = 8 := rfl
  have ei : (tn (g 5) : Int) = (g 5).toInt := by rw [e5.2, nI_toInt (by omega), show tn (nI (tn (g 5))) = tn (g 5) from nI_clamp (by omega)]
  have hN : tn (g 5) < 8 := by omega
  unfold F_addBoat
  rw [inc_at (by omega), e5.2, pB_0 _ _ hN, pB_1 _ _ hN, pk_un (by omega), pk_un (by omega)]
theorem turn_hi {g : Gs} (h : Inv g) (q : Int32) (k : Nat) {z : Nat} (hz : 140 ≤ z) : F_turnC g q k z = g z := by
  have h5 := h.c5.1
  have h4 := h.c4.1
  unfold F_turnC
  repeat' split
  · exact addLight_hi h (by assumption) hz
  · rfl
  · exact addBoat_hi h (by assumption) hz
  · rfl
  · rename_i hc
    obtain ⟨n, hn, e⟩ := in_B h.hc5 hc.1
    rw [e, pB_1 _ _ (by omega)]; exact pk_un (by omega)
  · rfl
  · rename_i hc
    obtain ⟨n, hn, e⟩ := in_B h.hc5 hc.1
    rw [e, pB_3 _ _ (by omega)]; exact pk_un (by omega)
  · rfl
  · rename_i hc
    obtain ⟨n, hn, e⟩ := in_L h.hc4 hc.1
    unfold F_lean
    rw [e, tnL_6 (by omega)]; exact pk_un (by omega)
  · rfl
  · rename_i hc
    obtain ⟨n, hn, e⟩ := in_L h.hc4 hc.1
    unfold F_dim
    rw [e, tnL_1 (by omega)]; exact pk_un (by omega)
  · rfl
  · exact (Inv_ticks h _).2 z (lo140 hz)
  · rfl
def F_simX (x : Int64) : Nat → Int64
  | 0 => x
  | i + 1 => F_simX x i * 6364136223846793005 + 1442695040888963407
def F_simR (x : Int64) : Int32 := ((x.toUInt64 >>> ((33 : Int32).toInt64.toUInt64 &&& Int64.toUInt64 63)).toInt64).toInt32
def F_simG (g : Gs) (x : Int64) : Nat → Gs
  | 0 => g
  | i + 1 => F_turn (F_simG g x i) (F_simR (F_simX x (i + 1)))
theorem Inv_simG {g : Gs} (h : Inv g) (x : Int64) : ∀ n, Inv (F_simG g x n) ∧ ∀ z, 140 ≤ z → F_simG g x n z = g z
  | 0 => ⟨h, fun _ _ => rfl⟩
  | n + 1 => by
    obtain ⟨h1, h2⟩ := Inv_simG h x n
    exact ⟨Inv_turn h1 _ _, fun z hz => (turn_hi h1 _ _ hz).trans (h2 z hz)⟩
def K_simulate (m : Int32) : Int32 := if inn m 1 60 then 0 else 1
def R_simulate (g : Gs) (x : Int64) (N : Nat) : Int32 := 10000 * (F_simG g x N 7 - g 7) + 100 * F_held (F_simG g x N 8 - g 8) + F_held (F_simG g x N 10 - g 10)
/-- 0 .. 15 out of what is not negative -/
theorem rm16 {r : Int32} (h : 0 ≤ r.toInt) : ∃ n, n < 16 ∧ rm r 16 = nI n := by
  obtain ⟨-, e⟩ := cnt_in (x := r) (n := 2147483647) h (by have := fb_rng r; omega)
  have hr := fb_rng r
  have hl : tn r < 2 ^ 31 := by
    have e2 : (tn r : Int) = r.toInt ∨ 2 ^ 31 ≤ tn r := by
      by_cases q : tn r < 2 ^ 31
      · left
        have := nI_toInt q
        rw [← e] at this
        exact this.symm
      · right; omega
    rcases e2 with q | q
    · omega
    · have := (cnt_in (x := r) (n := 2147483647) h (by omega)).1
      omega
  refine ⟨tn r % 16, Nat.mod_lt _ (by decide), ?_⟩
  have := pk_rem (a := tn r) (d := 16) hl (by decide) (by decide)
  rw [← e] at this
  exact this
theorem simR_pos (x : Int64) : 0 ≤ (F_simR x).toInt := by
  obtain ⟨n, hn, rfl⟩ := wb_of x
  unfold F_simR
  rw [show (33 : Int32) = nI 33 from rfl, wb_shr hn (by decide), lN_i]
  have : n / 2 ^ 33 < 2 ^ 31 := by omega
  rw [nI_toInt this]
  omega
theorem tn60 {a : Int32} {M : Int32} {m : Nat} (hM : M.toInt = m) (h : inn a 1 M) : ∃ N, N ≤ m ∧ 1 ≤ N ∧ a = nI N ∧ tn a = N := by
  have q1 := Int32.le_iff_toInt_le.mp h.1
  have q2 := Int32.le_iff_toInt_le.mp h.2
  have z1 : (1 : Int32).toInt = 1 := rfl
  have hr := fb_rng a
  have hrM := fb_rng M
  obtain ⟨w1, w2⟩ := cnt_in (x := a) (n := m) (by omega) (by omega)
  have hl : tn a < 2 ^ 31 := by omega
  refine ⟨tn a, w1, ?_, w2, rfl⟩
  have := nI_toInt hl
  rw [← w2] at this
  omega
theorem first_dec (p : Nat → Bool) (n : Nat) : fa_first p n = n ∨ (fa_first p n < n ∧ p (fa_first p n) = true) := by
  rcases Nat.lt_or_ge (fa_first p n) n with h | h
  · exact Or.inr ⟨h, fa_first_yes p n h⟩
  · exact Or.inl (Nat.le_antisymm (fa_first_le p n) h)
end
section
-- HOW ct_in fI
-- HOW ct_fails fI
-- HOW ct_of fI
-- HOW ct_ofBoat fI
-- HOW ct_layBoat fV
-- HOW ct_isLight fI
-- HOW ct_isBoat fI
-- HOW ct_isPlace fI
-- HOW ct_bright fI
-- HOW ct_worth fI
-- HOW ct_serves fI
-- HOW ct_best fI
-- HOW ct_sails fV
-- HOW ct_drops fV
-- HOW ct_wished fI
-- HOW ct_hands fV
-- HOW ct_wishes fV
-- HOW ct_finds fV
-- HOW ct_goesOn fV
-- HOW ct_goesTick fV
-- HOW ct_goesBy fI
-- HOW ct_putAside fV
-- HOW ct_takeBack fV
-- HOW ct_isLamp fI
-- HOW ct_addsLight fI
-- HOW ct_actsLight fI
-- HOW ct_addsBoat fI
-- HOW ct_actsBoat fI
-- HOW ct_actsSteer fI
-- HOW ct_canTalk fI
-- HOW ct_actsTalk fI
-- HOW ct_actsLean fI
-- HOW ct_actsDim fI
-- HOW ct_mostOf fI
-- HOW ct_isSetting fI
-- HOW ct_actsSet fI
-- HOW ct_actsTicks fI
-- HOW ct_boatsThat fI
-- HOW ct_servedBy fI
-- HOW ct_begins fV
-- HOW ct_tellsAbout fI
-- HOW ct_about fM
-- HOW ct_lightOf fM
-- HOW ct_boatOf fM
-- HOW ct_brightness fM
-- HOW ct_bestAt fM
-- HOW ct_setting fM
-- HOW ct_saves fV
-- HOW ct_light fM
-- HOW ct_boat fM
-- HOW ct_steer fM
-- HOW ct_talk fM
-- HOW ct_lean fM
-- HOW ct_dim fM
-- HOW ct_set fM
-- HOW ct_ticks fM
-- HOW ct_undo fM
-- HOW ct_save fM
-- HOW ct_restore fM
-- HOW ct_bringsBy fI
-- HOW ct_ifMargin fM
-- HOW ct_held fI
-- HOW ct_room fI
-- HOW ct_dark fI
-- HOW ct_turns fV
-- HOW ct_simulate fM
/-! the reference: forecasts, simulations -/
def mtX6_bringsBy : Mt := (yX6_bringsBy, cX6_bringsBy, 5, (some .int), 8, 186, 0, 0)
theorem kX6_bringsBy_0 : Dk mtX6_bringsBy 0 (.aload_n 0) 1 1 := ⟨by decide +kernel, rfl⟩
theorem kX6_bringsBy_1 : Dk mtX6_bringsBy 1 (.invokevirtual 206) 3 4 := ⟨by decide +kernel, rfl⟩
theorem kX6_bringsBy_4 : Dk mtX6_bringsBy 4 (.aload_n 0) 1 5 := ⟨by decide +kernel, rfl⟩
theorem kX6_bringsBy_5 : Dk mtX6_bringsBy 5 (.getfield 7) 3 8 := ⟨by decide +kernel, rfl⟩
theorem kX6_bringsBy_8 : Dk mtX6_bringsBy 8 (.iconst 0) 1 9 := ⟨by decide +kernel, rfl⟩
theorem kX6_bringsBy_9 : Dk mtX6_bringsBy 9 (.iload_n 1) 1 10 := ⟨by decide +kernel, rfl⟩
theorem kX6_bringsBy_10 : Dk mtX6_bringsBy 10 (.iastore) 1 11 := ⟨by decide +kernel, rfl⟩
theorem kX6_bringsBy_11 : Dk mtX6_bringsBy 11 (.aload_n 0) 1 12 := ⟨by decide +kernel, rfl⟩
theorem kX6_bringsBy_12 : Dk mtX6_bringsBy 12 (.iload_n 2) 1 13 := ⟨by decide +kernel, rfl⟩
theorem kX6_bringsBy_13 : Dk mtX6_bringsBy 13 (.iload_n 3) 1 14 := ⟨by decide +kernel, rfl⟩
theorem kX6_bringsBy_14 : Dk mtX6_bringsBy 14 (.invokevirtual 124) 3 17 := ⟨by decide +kernel, rfl⟩
theorem kX6_bringsBy_17 : Dk mtX6_bringsBy 17 (.istore 4) 2 19 := ⟨by decide +kernel, rfl⟩
theorem kX6_bringsBy_19 : Dk mtX6_bringsBy 19 (.aload_n 0) 1 20 := ⟨by decide +kernel, rfl⟩
theorem kX6_bringsBy_20 : Dk mtX6_bringsBy 20 (.invokevirtual 209) 3 23 := ⟨by decide +kernel, rfl⟩
theorem kX6_bringsBy_23 : Dk mtX6_bringsBy 23 (.iload 4) 2 25 := ⟨by decide +kernel, rfl⟩
theorem kX6_bringsBy_25 : Dk mtX6_bringsBy 25 (.ireturn) 1 26 := ⟨by decide +kernel, rfl⟩
theorem lmX6_206 : LkM RX6 206 mtX6_putAside := Or.inl (by decide +kernel)
theorem mkX6_putAside : MkV mtX6_putAside 0 := ⟨List.mem_of_getElem? (i := 1329) (by decide +kernel), by decide +kernel, by decide +kernel, by decide +kernel, ⟨by decide +kernel, by decide +kernel, by decide +kernel⟩⟩
theorem lmX6_209 : LkM RX6 209 mtX6_takeBack := Or.inl (by decide +kernel)
theorem mkX6_takeBack : MkV mtX6_takeBack 0 := ⟨List.mem_of_getElem? (i := 1333) (by decide +kernel), by decide +kernel, by decide +kernel, by decide +kernel, ⟨by decide +kernel, by decide +kernel, by decide +kernel⟩⟩
set_option maxHeartbeats 4000000 in
set_option maxRecDepth 100000 in
theorem ct_bringsBy {l : Launch} {w : Wd} {sg : Sg} (hWr : Wr w) {mo N j : Nat} (v : Int32) (hv : inn v 0 100) (hN : N < 2 ^ 31) (hj : j < 140) (hI : Inv (sg (mo + 1))) : M l mtX6_bringsBy w [vR (some (6, 0, mo)), vI v, vI (nI N), vI (nI j)] sg (fI (R_brings (sg (mo + 1)) v N j) (G_aside sg mo)) := by
  refine M_of [some (vR (some (6, 0, mo))), some (vI v), some (vI (nI N)), some (vI (nI j)), none] rfl (Nat.le_of_ble_eq_true rfl) (by decide +kernel) ?_
  intro p_ e_ s_ m_ args_ below_ meth_ c_ hC hO
  refine V_aload_n hC kX6_bringsBy_0 rfl ?_
  refine V_cV_fV hC (ct_putAside hWr) mkX6_putAside lmX6_206 kX6_bringsBy_1 (Nat.le_of_ble_eq_true rfl) rfl rfl rfl (Nat.le_of_ble_eq_true rfl) ⟨(Nat.le_of_ble_eq_true rfl), (Nat.le_of_ble_eq_true rfl)⟩ ⟨rfl, rfl⟩ ⟨(Nat.le_of_ble_eq_true rfl), (Nat.le_of_ble_eq_true rfl)⟩ ?_
  refine V_aload_n hC kX6_bringsBy_4 rfl ?_
  refine V_getR hC hWr 6 1 lfX6_7 kX6_bringsBy_5 (Nat.le_of_ble_eq_true rfl) (Nat.le_of_ble_eq_true rfl) rfl ?_
  refine V_iconst hC (0) kX6_bringsBy_8 (by decide) ?_
  refine V_iload_n hC kX6_bringsBy_9 rfl ?_
  refine V_iast hC 0 rfl kX6_bringsBy_10 (vp_lit rfl) ?_
  have hI1 := Inv_margin hI hv
  refine V_canon (upr (G_aside sg mo) (mo + 1) (upd (sg (mo + 1)) 0 v)) (by unfold ups G_aside; rw [upr_ne sg _ (show mo + 1 ≠ mo + 2 by omega)]) ?_
  refine V_aload_n hC kX6_bringsBy_11 rfl ?_
  refine V_iload_n hC kX6_bringsBy_12 rfl ?_
  refine V_iload_n hC kX6_bringsBy_13 rfl ?_
  refine V_cV_fI hC (ct_goesBy (N := N) (j := j) hWr (by rw [upr_at]; exact hI1) hN hj) mkX6_goesBy lmX6_124 kX6_bringsBy_14 (Nat.le_of_ble_eq_true rfl) rfl rfl rfl (Nat.le_of_ble_eq_true rfl) ⟨(Nat.le_of_ble_eq_true rfl), (Nat.le_of_ble_eq_true rfl)⟩ ⟨rfl, rfl⟩ ⟨(Nat.le_of_ble_eq_true rfl), (Nat.le_of_ble_eq_true rfl)⟩ ?_
  refine V_nameI (fun its e_its => ?_)
  refine V_istore hC [some _, some _, some _, some _, some _] kX6_bringsBy_17 rfl (Nat.le_of_ble_eq_true rfl) ?_
  refine V_aload_n hC kX6_bringsBy_19 rfl ?_
  refine V_cV_fV hC (ct_takeBack hWr) mkX6_takeBack lmX6_209 kX6_bringsBy_20 (Nat.le_of_ble_eq_true rfl) rfl rfl rfl (Nat.le_of_ble_eq_true rfl) ⟨(Nat.le_of_ble_eq_true rfl), (Nat.le_of_ble_eq_true rfl)⟩ ⟨rfl, rfl⟩ ⟨(Nat.le_of_ble_eq_true rfl), (Nat.le_of_ble_eq_true rfl)⟩ ?_
  refine V_iload hC kX6_bringsBy_23 rfl ?_
  refine V_ireti hC rfl kX6_bringsBy_25 ?_
  refine ⟨cI (by rw [e_its, upr_at]; rfl), ?_⟩
  simp only [upr_at, upr_upr]
  have hb : cpy (G_aside sg mo (mo + 2)) (F_ticks (upd (sg (mo + 1)) 0 v) N) 140 = sg (mo + 1) := by
    unfold G_aside
    rw [upr_at]
    exact back_eq (fun z hz => ((Inv_ticks hI1 N).2 z (lo140 hz)).trans (pk_un (by omega)))
  have h2 : upr (G_aside sg mo) (mo + 1) (F_ticks (upd (sg (mo + 1)) 0 v) N) (mo + 2) = G_aside sg mo (mo + 2) := upr_ne _ _ (by omega)
  rw [h2, hb, ← aside_1 sg mo, upr_self]
def mtX6_ifMargin : Mt := (yX6_ifMargin, cX6_ifMargin, 5, (some .int), 9, 210, 0, 0)
theorem kX6_ifMargin_0 : Dk mtX6_ifMargin 0 (.aload_n 0) 1 1 := ⟨by decide +kernel, rfl⟩
theorem kX6_ifMargin_1 : Dk mtX6_ifMargin 1 (.iconst 0) 1 2 := ⟨by decide +kernel, rfl⟩
theorem kX6_ifMargin_2 : Dk mtX6_ifMargin 2 (.putfield 32) 3 5 := ⟨by decide +kernel, rfl⟩
theorem kX6_ifMargin_5 : Dk mtX6_ifMargin 5 (.iload_n 1) 1 6 := ⟨by decide +kernel, rfl⟩
theorem kX6_ifMargin_6 : Dk mtX6_ifMargin 6 (.iconst 0) 1 7 := ⟨by decide +kernel, rfl⟩
theorem kX6_ifMargin_7 : Dk mtX6_ifMargin 7 (.bipush 100) 2 9 := ⟨by decide +kernel, rfl⟩
theorem kX6_ifMargin_9 : Dk mtX6_ifMargin 9 (.invokestatic 39) 3 12 := ⟨by decide +kernel, rfl⟩
theorem kX6_ifMargin_12 : Dk mtX6_ifMargin 12 (.ifCond .eq 27) 3 15 := ⟨by decide +kernel, rfl⟩
theorem kX6_ifMargin_15 : Dk mtX6_ifMargin 15 (.iload_n 2) 1 16 := ⟨by decide +kernel, rfl⟩
theorem kX6_ifMargin_16 : Dk mtX6_ifMargin 16 (.iconst 1) 1 17 := ⟨by decide +kernel, rfl⟩
theorem kX6_ifMargin_17 : Dk mtX6_ifMargin 17 (.sipush 200) 3 20 := ⟨by decide +kernel, rfl⟩
theorem kX6_ifMargin_20 : Dk mtX6_ifMargin 20 (.invokestatic 39) 3 23 := ⟨by decide +kernel, rfl⟩
theorem kX6_ifMargin_23 : Dk mtX6_ifMargin 23 (.ifCond .eq 16) 3 26 := ⟨by decide +kernel, rfl⟩
theorem kX6_ifMargin_26 : Dk mtX6_ifMargin 26 (.iload_n 3) 1 27 := ⟨by decide +kernel, rfl⟩
theorem kX6_ifMargin_27 : Dk mtX6_ifMargin 27 (.iconst 0) 1 28 := ⟨by decide +kernel, rfl⟩
theorem kX6_ifMargin_28 : Dk mtX6_ifMargin 28 (.iconst 3) 1 29 := ⟨by decide +kernel, rfl⟩
theorem kX6_ifMargin_29 : Dk mtX6_ifMargin 29 (.invokestatic 39) 3 32 := ⟨by decide +kernel, rfl⟩
theorem kX6_ifMargin_32 : Dk mtX6_ifMargin 32 (.ifCond .eq 7) 3 35 := ⟨by decide +kernel, rfl⟩
theorem kX6_ifMargin_35 : Dk mtX6_ifMargin 35 (.iconst 1) 1 36 := ⟨by decide +kernel, rfl⟩
theorem kX6_ifMargin_36 : Dk mtX6_ifMargin 36 (.goto 4) 3 39 := ⟨by decide +kernel, rfl⟩
theorem kX6_ifMargin_39 : Dk mtX6_ifMargin 39 (.iconst 0) 1 40 := ⟨by decide +kernel, rfl⟩
theorem kX6_ifMargin_40 : Dk mtX6_ifMargin 40 (.istore 4) 2 42 := ⟨by decide +kernel, rfl⟩
theorem kX6_ifMargin_42 : Dk mtX6_ifMargin 42 (.iload 4) 2 44 := ⟨by decide +kernel, rfl⟩
theorem kX6_ifMargin_44 : Dk mtX6_ifMargin 44 (.ifCond .eq 16) 3 47 := ⟨by decide +kernel, rfl⟩
theorem kX6_ifMargin_47 : Dk mtX6_ifMargin 47 (.aload_n 0) 1 48 := ⟨by decide +kernel, rfl⟩
theorem kX6_ifMargin_48 : Dk mtX6_ifMargin 48 (.iload_n 1) 1 49 := ⟨by decide +kernel, rfl⟩
theorem kX6_ifMargin_49 : Dk mtX6_ifMargin 49 (.iload_n 2) 1 50 := ⟨by decide +kernel, rfl⟩
theorem kX6_ifMargin_50 : Dk mtX6_ifMargin 50 (.bipush 7) 2 52 := ⟨by decide +kernel, rfl⟩
theorem kX6_ifMargin_52 : Dk mtX6_ifMargin 52 (.iload_n 3) 1 53 := ⟨by decide +kernel, rfl⟩
theorem kX6_ifMargin_53 : Dk mtX6_ifMargin 53 (.iadd) 1 54 := ⟨by decide +kernel, rfl⟩
theorem kX6_ifMargin_54 : Dk mtX6_ifMargin 54 (.invokevirtual 212) 3 57 := ⟨by decide +kernel, rfl⟩
theorem kX6_ifMargin_57 : Dk mtX6_ifMargin 57 (.goto 8) 3 60 := ⟨by decide +kernel, rfl⟩
theorem kX6_ifMargin_60 : Dk mtX6_ifMargin 60 (.aload_n 0) 1 61 := ⟨by decide +kernel, rfl⟩
theorem kX6_ifMargin_61 : Dk mtX6_ifMargin 61 (.iconst 1) 1 62 := ⟨by decide +kernel, rfl⟩
theorem kX6_ifMargin_62 : Dk mtX6_ifMargin 62 (.invokevirtual 127) 3 65 := ⟨by decide +kernel, rfl⟩
theorem kX6_ifMargin_65 : Dk mtX6_ifMargin 65 (.ireturn) 1 66 := ⟨by decide +kernel, rfl⟩
theorem lmX6_212 : LkM RX6 212 mtX6_bringsBy := Or.inl (by decide +kernel)
theorem mkX6_bringsBy : MkV mtX6_bringsBy 3 := ⟨List.mem_of_getElem? (i := 1341) (by decide +kernel), by decide +kernel, by decide +kernel, by decide +kernel, ⟨by decide +kernel, by decide +kernel, by decide +kernel⟩⟩
set_option maxHeartbeats 4000000 in
set_option maxRecDepth 100000 in
theorem ct_ifMargin {l : Launch} {w : Wd} {sg : Sg} (hWr : Wr w) {mo : Nat} (v n a : Int32) (hI : Inv (sg (mo + 1))) : M l mtX6_ifMargin w [vR (some (6, 0, mo)), vI v, vI n, vI a] sg (fM mo sg (K_ifMargin v n a) (R_brings (sg (mo + 1)) v (tn n) (7 + tn a)) (G_aside sg mo)) := by
  refine M_of [some (vR (some (6, 0, mo))), some (vI v), some (vI n), some (vI a), none] rfl (Nat.le_of_ble_eq_true rfl) (by decide +kernel) ?_
  intro p_ e_ s_ m_ args_ below_ meth_ c_ hC hO
  refine V_aload_n hC kX6_ifMargin_0 rfl ?_
  refine V_iconst hC (0) kX6_ifMargin_1 (by decide) ?_
  refine V_putI hC 6 0 lfX6_32 kX6_ifMargin_2 (Nat.le_of_ble_eq_true rfl) (Nat.le_of_ble_eq_true rfl) rfl rfl ⟨rfl, rfl⟩ ?_
  refine V_nameS (fun sg0 e_sg0 => ?_)
  have hs1 : sg0 (mo + 1) = sg (mo + 1) := by rw [e_sg0]; exact upr_ne _ _ (by omega)
  have hs2 : sg0 (mo + 2) = sg (mo + 2) := by rw [e_sg0]; exact upr_ne _ _ (by omega)
  refine V_join 40 (b01 (inn v 0 100 ∧ inn n 1 200 ∧ inn a 0 3)) ?_ (fun j40 => ?_)
  · refine V_nameI (fun can e_can => ?_)
    refine V_istore hC [some _, some _, some _, some _, some _] kX6_ifMargin_40 rfl (Nat.le_of_ble_eq_true rfl) ?_
    refine V_iload hC kX6_ifMargin_42 rfl ?_
    refine V_if_eq hC 60 kX6_ifMargin_44 (by decide) (fun h44 => ?_) (fun h44 => ?_)
    · refine V_aload_n hC kX6_ifMargin_60 rfl ?_
      refine V_iconst hC (1) kX6_ifMargin_61 (by decide) ?_
      refine V_cV_fI hC (ct_fails hWr 1) mkX6_fails lmX6_127 kX6_ifMargin_62 (Nat.le_of_ble_eq_true rfl) rfl rfl rfl (Nat.le_of_ble_eq_true rfl) ⟨(Nat.le_of_ble_eq_true rfl), (Nat.le_of_ble_eq_true rfl)⟩ ⟨rfl, rfl⟩ ⟨(Nat.le_of_ble_eq_true rfl), (Nat.le_of_ble_eq_true rfl)⟩ ?_
      refine V_ireti hC rfl kX6_ifMargin_65 ?_
      first
        | exact fM_no 1 (by rw [K_ifMargin, if_neg (b0_of e_can h44)]) (by decide) (by rw [e_sg0, ups_ups])
        | exact fM_ok (by rw [K_ifMargin, ← en, if_pos hp]) (by rw [hs1, ← en, etn, eta]) (by unfold G_aside; rw [hs1, hs2, e_sg0, ups_upr _ _ _ _ (by omega)])
    · have hp := b1_of e_can h44
      obtain ⟨N, hN, -, en, etn⟩ := tn60 (m := 200) rfl hp.2.1
      obtain ⟨A, hA, ea⟩ : ∃ A, A < 4 ∧ a = nI A := vp_in_of (inn_vp (by decide) hp.2.2) (by decide)
      have eta : tn a = A := by rw [ea]; exact nI_clamp (by omega)
      have e7 : (7 : Int32) + a = nI (7 + A) := by rw [ea]; exact nI_add 7 A
      refine V_aload_n hC kX6_ifMargin_47 rfl ?_
      refine V_iload_n hC kX6_ifMargin_48 rfl ?_
      refine V_iload_n hC kX6_ifMargin_49 rfl ?_
      refine V_bipush hC (7) kX6_ifMargin_50 (by decide) ?_
      refine V_iload_n hC kX6_ifMargin_52 rfl ?_
      refine V_iadd hC kX6_ifMargin_53 ?_
      rw [en, e7]
      refine V_cV_fI hC (ct_bringsBy (N := N) (j := 7 + A) hWr v hp.1 (by omega) (by omega) (by rw [hs1]; exact hI)) mkX6_bringsBy lmX6_212 kX6_ifMargin_54 (Nat.le_of_ble_eq_true rfl) rfl rfl rfl (Nat.le_of_ble_eq_true rfl) ⟨(Nat.le_of_ble_eq_true rfl), (Nat.le_of_ble_eq_true rfl)⟩ ⟨rfl, rfl⟩ ⟨(Nat.le_of_ble_eq_true rfl), (Nat.le_of_ble_eq_true rfl)⟩ ?_
      refine V_goto hC 65 kX6_ifMargin_57 (by decide) ?_
      refine V_ireti hC rfl kX6_ifMargin_65 ?_
      first
        | exact fM_no 1 (by rw [K_ifMargin, if_neg (b0_of e_can h44)]) (by decide) (by rw [e_sg0, ups_ups])
        | exact fM_ok (by rw [K_ifMargin, ← en, if_pos hp]) (by rw [hs1, ← en, etn, eta]) (by unfold G_aside; rw [hs1, hs2, e_sg0, ups_upr _ _ _ _ (by omega)])
  · refine V_iload_n hC kX6_ifMargin_5 rfl ?_
    refine V_iconst hC (0) kX6_ifMargin_6 (by decide) ?_
    refine V_bipush hC (100) kX6_ifMargin_7 (by decide) ?_
    refine V_cS_fI hC (ct_in hWr _ _ _) mkX6_in lmX6_39 kX6_ifMargin_9 rfl rfl (Nat.le_of_ble_eq_true rfl) ⟨(Nat.le_of_ble_eq_true rfl), (Nat.le_of_ble_eq_true rfl)⟩ ⟨rfl, rfl⟩ ⟨(Nat.le_of_ble_eq_true rfl), (Nat.le_of_ble_eq_true rfl)⟩ ?_
    refine V_if_eq hC 39 kX6_ifMargin_12 (by decide) (fun h12 => ?_) (fun h12 => ?_)
    · refine V_iconst hC (0) kX6_ifMargin_39 (by decide) ?_
      exact j40 _ ((b01_f (fun z => (b01e.mp h12) z.1)).symm)
    · refine V_iload_n hC kX6_ifMargin_15 rfl ?_
      refine V_iconst hC (1) kX6_ifMargin_16 (by decide) ?_
      refine V_sipush hC (200) kX6_ifMargin_17 (by decide) ?_
      refine V_cS_fI hC (ct_in hWr _ _ _) mkX6_in lmX6_39 kX6_ifMargin_20 rfl rfl (Nat.le_of_ble_eq_true rfl) ⟨(Nat.le_of_ble_eq_true rfl), (Nat.le_of_ble_eq_true rfl)⟩ ⟨rfl, rfl⟩ ⟨(Nat.le_of_ble_eq_true rfl), (Nat.le_of_ble_eq_true rfl)⟩ ?_
      refine V_if_eq hC 39 kX6_ifMargin_23 (by decide) (fun h23 => ?_) (fun h23 => ?_)
      · refine V_iconst hC (0) kX6_ifMargin_39 (by decide) ?_
        exact j40 _ ((b01_f (fun z => (b01e.mp h23) z.2.1)).symm)
      · refine V_iload_n hC kX6_ifMargin_26 rfl ?_
        refine V_iconst hC (0) kX6_ifMargin_27 (by decide) ?_
        refine V_iconst hC (3) kX6_ifMargin_28 (by decide) ?_
        refine V_cS_fI hC (ct_in hWr _ _ _) mkX6_in lmX6_39 kX6_ifMargin_29 rfl rfl (Nat.le_of_ble_eq_true rfl) ⟨(Nat.le_of_ble_eq_true rfl), (Nat.le_of_ble_eq_true rfl)⟩ ⟨rfl, rfl⟩ ⟨(Nat.le_of_ble_eq_true rfl), (Nat.le_of_ble_eq_true rfl)⟩ ?_
        refine V_if_eq hC 39 kX6_ifMargin_32 (by decide) (fun h32 => ?_) (fun h32 => ?_)
        · refine V_iconst hC (0) kX6_ifMargin_39 (by decide) ?_
          exact j40 _ ((b01_f (fun z => (b01e.mp h32) z.2.2)).symm)
        · refine V_iconst hC (1) kX6_ifMargin_35 (by decide) ?_
          refine V_goto hC 40 kX6_ifMargin_36 (by decide) ?_
          exact j40 _ ((b01_t ⟨b01n.mp h12, b01n.mp h23, b01n.mp h32⟩).symm)
def mtX6_held : Mt := (yX6_held, cX6_held, 1, (some .int), 0, 0, 0, 0)
theorem kX6_held_0 : Dk mtX6_held 0 (.iload_n 0) 1 1 := ⟨by decide +kernel, rfl⟩
theorem kX6_held_1 : Dk mtX6_held 1 (.bipush 99) 2 3 := ⟨by decide +kernel, rfl⟩
theorem kX6_held_3 : Dk mtX6_held 3 (.if_icmp .le 8) 3 6 := ⟨by decide +kernel, rfl⟩
theorem kX6_held_6 : Dk mtX6_held 6 (.bipush 99) 2 8 := ⟨by decide +kernel, rfl⟩
theorem kX6_held_8 : Dk mtX6_held 8 (.goto 4) 3 11 := ⟨by decide +kernel, rfl⟩
theorem kX6_held_11 : Dk mtX6_held 11 (.iload_n 0) 1 12 := ⟨by decide +kernel, rfl⟩
theorem kX6_held_12 : Dk mtX6_held 12 (.ireturn) 1 13 := ⟨by decide +kernel, rfl⟩
set_option maxHeartbeats 4000000 in
set_option maxRecDepth 100000 in
theorem ct_held {l : Launch} {w : Wd} {sg : Sg} (hWr : Wr w) (a : Int32) : M l mtX6_held w [vI a] sg (fI (F_held a) sg) := by
  refine M_of [some (vI a)] rfl (Nat.le_of_ble_eq_true rfl) (by decide +kernel) ?_
  intro p_ e_ s_ m_ args_ below_ meth_ c_ hC hO
  refine V_iload_n hC kX6_held_0 rfl ?_
  refine V_bipush hC (99) kX6_held_1 (by decide) ?_
  refine V_icmp_le hC 11 kX6_held_3 (by decide) (fun h3 => ?_) (fun h3 => ?_)
  · refine V_iload_n hC kX6_held_11 rfl ?_
    refine V_ireti hC rfl kX6_held_12 ?_
    refine ⟨cI ?_, by with_reducible rfl⟩
    first
      | (rw [F_held, if_neg (Int32.not_lt.mpr h3)]; done)
      | (rw [F_held, if_pos (Int32.not_le.mp h3)]; done)
  · refine V_bipush hC (99) kX6_held_6 (by decide) ?_
    refine V_goto hC 12 kX6_held_8 (by decide) ?_
    refine V_ireti hC rfl kX6_held_12 ?_
    refine ⟨cI ?_, by with_reducible rfl⟩
    first
      | (rw [F_held, if_neg (Int32.not_lt.mpr h3)]; done)
      | (rw [F_held, if_pos (Int32.not_le.mp h3)]; done)
def mtX6_room : Mt := (yX6_room, cX6_room, 3, (some .int), 2, 45, 0, 0)
theorem kX6_room_0 : Dk mtX6_room 0 (.aload_n 0) 1 1 := ⟨by decide +kernel, rfl⟩
theorem kX6_room_1 : Dk mtX6_room 1 (.iconst 0) 1 2 := ⟨by decide +kernel, rfl⟩
theorem kX6_room_2 : Dk mtX6_room 2 (.putfield 32) 3 5 := ⟨by decide +kernel, rfl⟩
theorem kX6_room_5 : Dk mtX6_room 5 (.iconst 0) 1 6 := ⟨by decide +kernel, rfl⟩
theorem kX6_room_6 : Dk mtX6_room 6 (.istore_n 1) 1 7 := ⟨by decide +kernel, rfl⟩
theorem kX6_room_7 : Dk mtX6_room 7 (.iconst 0) 1 8 := ⟨by decide +kernel, rfl⟩
theorem kX6_room_8 : Dk mtX6_room 8 (.istore_n 2) 1 9 := ⟨by decide +kernel, rfl⟩
theorem kX6_room_9 : Dk mtX6_room 9 (.iload_n 2) 1 10 := ⟨by decide +kernel, rfl⟩
theorem kX6_room_10 : Dk mtX6_room 10 (.aload_n 0) 1 11 := ⟨by decide +kernel, rfl⟩
theorem kX6_room_11 : Dk mtX6_room 11 (.getfield 7) 3 14 := ⟨by decide +kernel, rfl⟩
theorem kX6_room_14 : Dk mtX6_room 14 (.iconst 4) 1 15 := ⟨by decide +kernel, rfl⟩
theorem kX6_room_15 : Dk mtX6_room 15 (.iaload) 1 16 := ⟨by decide +kernel, rfl⟩
theorem kX6_room_16 : Dk mtX6_room 16 (.if_icmp .ge 24) 3 19 := ⟨by decide +kernel, rfl⟩
theorem kX6_room_19 : Dk mtX6_room 19 (.iload_n 1) 1 20 := ⟨by decide +kernel, rfl⟩
theorem kX6_room_20 : Dk mtX6_room 20 (.aload_n 0) 1 21 := ⟨by decide +kernel, rfl⟩
theorem kX6_room_21 : Dk mtX6_room 21 (.iload_n 2) 1 22 := ⟨by decide +kernel, rfl⟩
theorem kX6_room_22 : Dk mtX6_room 22 (.iconst 4) 1 23 := ⟨by decide +kernel, rfl⟩
theorem kX6_room_23 : Dk mtX6_room 23 (.invokevirtual 46) 3 26 := ⟨by decide +kernel, rfl⟩
theorem kX6_room_26 : Dk mtX6_room 26 (.aload_n 0) 1 27 := ⟨by decide +kernel, rfl⟩
theorem kX6_room_27 : Dk mtX6_room 27 (.iload_n 2) 1 28 := ⟨by decide +kernel, rfl⟩
theorem kX6_room_28 : Dk mtX6_room 28 (.invokevirtual 71) 3 31 := ⟨by decide +kernel, rfl⟩
theorem kX6_room_31 : Dk mtX6_room 31 (.isub) 1 32 := ⟨by decide +kernel, rfl⟩
theorem kX6_room_32 : Dk mtX6_room 32 (.iadd) 1 33 := ⟨by decide +kernel, rfl⟩
theorem kX6_room_33 : Dk mtX6_room 33 (.istore_n 1) 1 34 := ⟨by decide +kernel, rfl⟩
theorem kX6_room_34 : Dk mtX6_room 34 (.iinc 2 1) 3 37 := ⟨by decide +kernel, rfl⟩
theorem kX6_room_37 : Dk mtX6_room 37 (.goto (-28)) 3 40 := ⟨by decide +kernel, rfl⟩
theorem kX6_room_40 : Dk mtX6_room 40 (.iload_n 1) 1 41 := ⟨by decide +kernel, rfl⟩
theorem kX6_room_41 : Dk mtX6_room 41 (.ireturn) 1 42 := ⟨by decide +kernel, rfl⟩
set_option maxHeartbeats 4000000 in
set_option maxRecDepth 100000 in
theorem ct_room {l : Launch} {w : Wd} {sg : Sg} (hWr : Wr w) {mo : Nat} (hI : Inv (sg (mo + 1))) : M l mtX6_room w [vR (some (6, 0, mo))] sg (fI (F_room (sg (mo + 1)) (tn ((sg (mo + 1)) 4))) (ups sg mo 0 0)) := by
  refine M_of [some (vR (some (6, 0, mo))), none, none] rfl (Nat.le_of_ble_eq_true rfl) (by decide +kernel) ?_
  intro p_ e_ s_ m_ args_ below_ meth_ c_ hC hO
  refine V_aload_n hC kX6_room_0 rfl ?_
  refine V_iconst hC (0) kX6_room_1 (by decide) ?_
  refine V_putI hC 6 0 lfX6_32 kX6_room_2 (Nat.le_of_ble_eq_true rfl) (Nat.le_of_ble_eq_true rfl) rfl rfl ⟨rfl, rfl⟩ ?_
  refine V_nameS (fun sg0 e_sg0 => ?_)
  have hs1 : sg0 (mo + 1) = sg (mo + 1) := by rw [e_sg0]; exact upr_ne _ _ (by omega)
  have hs2 : sg0 (mo + 2) = sg (mo + 2) := by rw [e_sg0]; exact upr_ne _ _ (by omega)
  refine V_iconst hC (0) kX6_room_5 (by decide) ?_
  refine V_istore_n hC [some _, some _, none] kX6_room_6 rfl (Nat.le_of_ble_eq_true rfl) ?_
  refine V_iconst hC (0) kX6_room_7 (by decide) ?_
  refine V_istore_n hC [some _, some _, some _] kX6_room_8 rfl (Nat.le_of_ble_eq_true rfl) ?_
  refine V_loop (tn ((sg (mo + 1)) 4)) (fun i => [some (vR (some (6, 0, mo))), some (vI (F_room (sg (mo + 1)) i)), some (vI (nI i))]) (fun i => sg0) rfl rfl ?_ (fun i hi ihi => ?_)
  · refine V_iload_n hC kX6_room_9 rfl ?_
    refine V_aload_n hC kX6_room_10 rfl ?_
    refine V_getR hC hWr 6 1 lfX6_7 kX6_room_11 (Nat.le_of_ble_eq_true rfl) (Nat.le_of_ble_eq_true rfl) rfl ?_
    refine V_iconst hC (4) kX6_room_14 (by decide) ?_
    refine V_iald hC 4 rfl kX6_room_15 (vp_lit rfl) ?_
    refine V_icmp_ge hC 40 kX6_room_16 (by decide) (fun h16 => ?_) (fun h16 => absurd h16 (not_not_intro (by rw [hs1]; exact cnt_le hI.hc4.1)))
    refine V_iload_n hC kX6_room_40 rfl ?_
    refine V_ireti hC rfl kX6_room_41 ?_
    exact ⟨by with_reducible rfl, e_sg0⟩
  · have hi6 := hI.c4.1
    refine V_iload_n hC kX6_room_9 rfl ?_
    refine V_aload_n hC kX6_room_10 rfl ?_
    refine V_getR hC hWr 6 1 lfX6_7 kX6_room_11 (Nat.le_of_ble_eq_true rfl) (Nat.le_of_ble_eq_true rfl) rfl ?_
    refine V_iconst hC (4) kX6_room_14 (by decide) ?_
    refine V_iald hC 4 rfl kX6_room_15 (vp_lit rfl) ?_
    refine V_icmp_ge hC 40 kX6_room_16 (by decide) (fun h16 => absurd h16 (by rw [hs1]; exact cnt_lt hI.hc4.1 hi)) (fun h16 => ?_)
    refine V_iload_n hC kX6_room_19 rfl ?_
    refine V_aload_n hC kX6_room_20 rfl ?_
    refine V_iload_n hC kX6_room_21 rfl ?_
    refine V_iconst hC (4) kX6_room_22 (by decide) ?_
    refine V_cV_fI hC (ct_of hWr (nI i) 4 (vp_in_nI (by omega) (by decide)) (vp_lit rfl)) mkX6_of lmX6_46 kX6_room_23 (Nat.le_of_ble_eq_true rfl) rfl rfl rfl (Nat.le_of_ble_eq_true rfl) ⟨(Nat.le_of_ble_eq_true rfl), (Nat.le_of_ble_eq_true rfl)⟩ ⟨rfl, rfl⟩ ⟨(Nat.le_of_ble_eq_true rfl), (Nat.le_of_ble_eq_true rfl)⟩ ?_
    refine V_aload_n hC kX6_room_26 rfl ?_
    refine V_iload_n hC kX6_room_27 rfl ?_
    refine V_cV_fI hC (ct_serves hWr (nI i) (by rw [hs1]; exact hI.hc5)) mkX6_serves lmX6_71 kX6_room_28 (Nat.le_of_ble_eq_true rfl) rfl rfl rfl (Nat.le_of_ble_eq_true rfl) ⟨(Nat.le_of_ble_eq_true rfl), (Nat.le_of_ble_eq_true rfl)⟩ ⟨rfl, rfl⟩ ⟨(Nat.le_of_ble_eq_true rfl), (Nat.le_of_ble_eq_true rfl)⟩ ?_
    refine V_isub hC kX6_room_31 ?_
    refine V_iadd hC kX6_room_32 ?_
    refine V_istore_n hC [some _, some _, some _] kX6_room_33 rfl (Nat.le_of_ble_eq_true rfl) ?_
    refine V_iinc hC (_ + 1) [some _, some _, some _] kX6_room_34 rfl rfl rfl (Nat.le_of_ble_eq_true rfl) ?_
    refine V_goto hC 9 kX6_room_37 (by decide) ?_
    refine V_eq ?_ rfl ihi
    simp only [F_room, nI_succ, hs1]
def mtX6_dark : Mt := (yX6_dark, cX6_dark, 5, (some .int), 2, 48, 0, 0)
theorem kX6_dark_0 : Dk mtX6_dark 0 (.aload_n 0) 1 1 := ⟨by decide +kernel, rfl⟩
theorem kX6_dark_1 : Dk mtX6_dark 1 (.iconst 0) 1 2 := ⟨by decide +kernel, rfl⟩
theorem kX6_dark_2 : Dk mtX6_dark 2 (.putfield 32) 3 5 := ⟨by decide +kernel, rfl⟩
theorem kX6_dark_5 : Dk mtX6_dark 5 (.iconst 0) 1 6 := ⟨by decide +kernel, rfl⟩
theorem kX6_dark_6 : Dk mtX6_dark 6 (.istore_n 1) 1 7 := ⟨by decide +kernel, rfl⟩
theorem kX6_dark_7 : Dk mtX6_dark 7 (.iconst 0) 1 8 := ⟨by decide +kernel, rfl⟩
theorem kX6_dark_8 : Dk mtX6_dark 8 (.istore_n 2) 1 9 := ⟨by decide +kernel, rfl⟩
theorem kX6_dark_9 : Dk mtX6_dark 9 (.iload_n 2) 1 10 := ⟨by decide +kernel, rfl⟩
theorem kX6_dark_10 : Dk mtX6_dark 10 (.sipush 200) 3 13 := ⟨by decide +kernel, rfl⟩
theorem kX6_dark_13 : Dk mtX6_dark 13 (.if_icmp .ge 69) 3 16 := ⟨by decide +kernel, rfl⟩
theorem kX6_dark_16 : Dk mtX6_dark 16 (.iconst 0) 1 17 := ⟨by decide +kernel, rfl⟩
theorem kX6_dark_17 : Dk mtX6_dark 17 (.istore_n 3) 1 18 := ⟨by decide +kernel, rfl⟩
theorem kX6_dark_18 : Dk mtX6_dark 18 (.iconst 0) 1 19 := ⟨by decide +kernel, rfl⟩
theorem kX6_dark_19 : Dk mtX6_dark 19 (.istore 4) 2 21 := ⟨by decide +kernel, rfl⟩
theorem kX6_dark_21 : Dk mtX6_dark 21 (.iload 4) 2 23 := ⟨by decide +kernel, rfl⟩
theorem kX6_dark_23 : Dk mtX6_dark 23 (.aload_n 0) 1 24 := ⟨by decide +kernel, rfl⟩
theorem kX6_dark_24 : Dk mtX6_dark 24 (.getfield 7) 3 27 := ⟨by decide +kernel, rfl⟩
theorem kX6_dark_27 : Dk mtX6_dark 27 (.iconst 4) 1 28 := ⟨by decide +kernel, rfl⟩
theorem kX6_dark_28 : Dk mtX6_dark 28 (.iaload) 1 29 := ⟨by decide +kernel, rfl⟩
theorem kX6_dark_29 : Dk mtX6_dark 29 (.if_icmp .ge 35) 3 32 := ⟨by decide +kernel, rfl⟩
theorem kX6_dark_32 : Dk mtX6_dark 32 (.iload_n 3) 1 33 := ⟨by decide +kernel, rfl⟩
theorem kX6_dark_33 : Dk mtX6_dark 33 (.ifCond .ne 19) 3 36 := ⟨by decide +kernel, rfl⟩
theorem kX6_dark_36 : Dk mtX6_dark 36 (.aload_n 0) 1 37 := ⟨by decide +kernel, rfl⟩
theorem kX6_dark_37 : Dk mtX6_dark 37 (.iload 4) 2 39 := ⟨by decide +kernel, rfl⟩
theorem kX6_dark_39 : Dk mtX6_dark 39 (.iload_n 2) 1 40 := ⟨by decide +kernel, rfl⟩
theorem kX6_dark_40 : Dk mtX6_dark 40 (.invokevirtual 50) 3 43 := ⟨by decide +kernel, rfl⟩
theorem kX6_dark_43 : Dk mtX6_dark 43 (.aload_n 0) 1 44 := ⟨by decide +kernel, rfl⟩
theorem kX6_dark_44 : Dk mtX6_dark 44 (.getfield 7) 3 47 := ⟨by decide +kernel, rfl⟩
theorem kX6_dark_47 : Dk mtX6_dark 47 (.iconst 2) 1 48 := ⟨by decide +kernel, rfl⟩
theorem kX6_dark_48 : Dk mtX6_dark 48 (.iaload) 1 49 := ⟨by decide +kernel, rfl⟩
theorem kX6_dark_49 : Dk mtX6_dark 49 (.if_icmp .lt 7) 3 52 := ⟨by decide +kernel, rfl⟩
theorem kX6_dark_52 : Dk mtX6_dark 52 (.iconst 1) 1 53 := ⟨by decide +kernel, rfl⟩
theorem kX6_dark_53 : Dk mtX6_dark 53 (.goto 4) 3 56 := ⟨by decide +kernel, rfl⟩
theorem kX6_dark_56 : Dk mtX6_dark 56 (.iconst 0) 1 57 := ⟨by decide +kernel, rfl⟩
theorem kX6_dark_57 : Dk mtX6_dark 57 (.istore_n 3) 1 58 := ⟨by decide +kernel, rfl⟩
theorem kX6_dark_58 : Dk mtX6_dark 58 (.iinc 4 1) 3 61 := ⟨by decide +kernel, rfl⟩
theorem kX6_dark_61 : Dk mtX6_dark 61 (.goto (-40)) 3 64 := ⟨by decide +kernel, rfl⟩
theorem kX6_dark_64 : Dk mtX6_dark 64 (.iload_n 1) 1 65 := ⟨by decide +kernel, rfl⟩
theorem kX6_dark_65 : Dk mtX6_dark 65 (.iload_n 3) 1 66 := ⟨by decide +kernel, rfl⟩
theorem kX6_dark_66 : Dk mtX6_dark 66 (.ifCond .eq 7) 3 69 := ⟨by decide +kernel, rfl⟩
theorem kX6_dark_69 : Dk mtX6_dark 69 (.iconst 0) 1 70 := ⟨by decide +kernel, rfl⟩
theorem kX6_dark_70 : Dk mtX6_dark 70 (.goto 4) 3 73 := ⟨by decide +kernel, rfl⟩
theorem kX6_dark_73 : Dk mtX6_dark 73 (.iconst 1) 1 74 := ⟨by decide +kernel, rfl⟩
theorem kX6_dark_74 : Dk mtX6_dark 74 (.iadd) 1 75 := ⟨by decide +kernel, rfl⟩
theorem kX6_dark_75 : Dk mtX6_dark 75 (.istore_n 1) 1 76 := ⟨by decide +kernel, rfl⟩
theorem kX6_dark_76 : Dk mtX6_dark 76 (.iinc 2 1) 3 79 := ⟨by decide +kernel, rfl⟩
theorem kX6_dark_79 : Dk mtX6_dark 79 (.goto (-70)) 3 82 := ⟨by decide +kernel, rfl⟩
theorem kX6_dark_82 : Dk mtX6_dark 82 (.iload_n 1) 1 83 := ⟨by decide +kernel, rfl⟩
theorem kX6_dark_83 : Dk mtX6_dark 83 (.ireturn) 1 84 := ⟨by decide +kernel, rfl⟩
set_option maxHeartbeats 4000000 in
set_option maxRecDepth 100000 in
theorem ct_dark {l : Launch} {w : Wd} {sg : Sg} (hWr : Wr w) {mo : Nat} (hI : Inv (sg (mo + 1))) : M l mtX6_dark w [vR (some (6, 0, mo))] sg (fI (F_dark (sg (mo + 1)) 200) (ups sg mo 0 0)) := by
  refine M_of [some (vR (some (6, 0, mo))), none, none, none, none] rfl (Nat.le_of_ble_eq_true rfl) (by decide +kernel) ?_
  intro p_ e_ s_ m_ args_ below_ meth_ c_ hC hO
  refine V_aload_n hC kX6_dark_0 rfl ?_
  refine V_iconst hC (0) kX6_dark_1 (by decide) ?_
  refine V_putI hC 6 0 lfX6_32 kX6_dark_2 (Nat.le_of_ble_eq_true rfl) (Nat.le_of_ble_eq_true rfl) rfl rfl ⟨rfl, rfl⟩ ?_
  refine V_nameS (fun sg0 e_sg0 => ?_)
  have hs1 : sg0 (mo + 1) = sg (mo + 1) := by rw [e_sg0]; exact upr_ne _ _ (by omega)
  have hs2 : sg0 (mo + 2) = sg (mo + 2) := by rw [e_sg0]; exact upr_ne _ _ (by omega)
  refine V_iconst hC (0) kX6_dark_5 (by decide) ?_
  refine V_istore_n hC [some _, some _, none, none, none] kX6_dark_6 rfl (Nat.le_of_ble_eq_true rfl) ?_
  refine V_iconst hC (0) kX6_dark_7 (by decide) ?_
  refine V_istore_n hC [some _, some _, some _, none, none] kX6_dark_8 rfl (Nat.le_of_ble_eq_true rfl) ?_
  refine V_loop 200 (fun i => [some (vR (some (6, 0, mo))), some (vI (F_dark (sg (mo + 1)) i)), some (vI (nI i)), none, none]) (fun i => sg0) rfl rfl ?_ (fun i hi ihi => ?_)
  · refine V_iload_n hC kX6_dark_9 rfl ?_
    refine V_sipush hC (200) kX6_dark_10 (by decide) ?_
    refine V_icmp_ge hC 82 kX6_dark_13 (by decide) (fun h13 => ?_) (fun h13 => absurd h13 (not_not_intro (nI_lit rfl)))
    refine V_iload_n hC kX6_dark_82 rfl ?_
    refine V_ireti hC rfl kX6_dark_83 ?_
    exact ⟨by with_reducible rfl, e_sg0⟩
  · refine V_iload_n hC kX6_dark_9 rfl ?_
    refine V_sipush hC (200) kX6_dark_10 (by decide) ?_
    refine V_icmp_ge hC 82 kX6_dark_13 (by decide) (fun h13 => absurd h13 (by exact nI_ge (b := 200) hi (by decide))) (fun h13 => ?_)
    refine V_iconst hC (0) kX6_dark_16 (by decide) ?_
    refine V_istore_n hC [some _, some _, some _, some _, none] kX6_dark_17 rfl (Nat.le_of_ble_eq_true rfl) ?_
    refine V_iconst hC (0) kX6_dark_18 (by decide) ?_
    refine V_istore hC [some _, some _, some _, some _, some _] kX6_dark_19 rfl (Nat.le_of_ble_eq_true rfl) ?_
    refine V_loop (tn ((sg (mo + 1)) 4)) (fun k => [some (vR (some (6, 0, mo))), some (vI (F_dark (sg (mo + 1)) i)), some (vI (nI i)), some (vI (F_lit (sg (mo + 1)) (nI i) k)), some (vI (nI k))]) (fun k => sg0) rfl rfl ?_ (fun k hk ihk => ?_)
    · refine V_iload hC kX6_dark_21 rfl ?_
      refine V_aload_n hC kX6_dark_23 rfl ?_
      refine V_getR hC hWr 6 1 lfX6_7 kX6_dark_24 (Nat.le_of_ble_eq_true rfl) (Nat.le_of_ble_eq_true rfl) rfl ?_
      refine V_iconst hC (4) kX6_dark_27 (by decide) ?_
      refine V_iald hC 4 rfl kX6_dark_28 (vp_lit rfl) ?_
      refine V_icmp_ge hC 64 kX6_dark_29 (by decide) (fun h29 => ?_) (fun h29 => absurd h29 (not_not_intro (by rw [hs1]; exact cnt_le hI.hc4.1)))
      refine V_iload_n hC kX6_dark_64 rfl ?_
      refine V_join 74 (if F_lit (sg (mo + 1)) (nI i) (tn ((sg (mo + 1)) 4)) = 0 then 1 else 0) ?_ (fun j74 => ?_)
      · refine V_iadd hC kX6_dark_74 ?_
        refine V_istore_n hC [some _, some _, some _, some _, some _] kX6_dark_75 rfl (Nat.le_of_ble_eq_true rfl) ?_
        refine V_iinc hC (_ + 1) [some _, some _, some _, some _, some _] kX6_dark_76 rfl rfl rfl (Nat.le_of_ble_eq_true rfl) ?_
        refine V_goto hC 9 kX6_dark_79 (by decide) ?_
        refine V_drop 3 [_, _, _, none, _] rfl ?_
        refine V_drop 4 [_, _, _, none, none] rfl ?_
        refine V_eq ?_ rfl ihi
        simp only [F_dark, nI_succ]
      · refine V_iload_n hC kX6_dark_65 rfl ?_
        refine V_if_eq hC 73 kX6_dark_66 (by decide) (fun h66 => ?_) (fun h66 => ?_)
        · refine V_iconst hC (1) kX6_dark_73 (by decide) ?_
          exact j74 _ ((if_pos h66).symm)
        · refine V_iconst hC (0) kX6_dark_69 (by decide) ?_
          refine V_goto hC 74 kX6_dark_70 (by decide) ?_
          exact j74 _ ((if_neg h66).symm)
    · have hi6 := hI.c4.1
      refine V_iload hC kX6_dark_21 rfl ?_
      refine V_aload_n hC kX6_dark_23 rfl ?_
      refine V_getR hC hWr 6 1 lfX6_7 kX6_dark_24 (Nat.le_of_ble_eq_true rfl) (Nat.le_of_ble_eq_true rfl) rfl ?_
      refine V_iconst hC (4) kX6_dark_27 (by decide) ?_
      refine V_iald hC 4 rfl kX6_dark_28 (vp_lit rfl) ?_
      refine V_icmp_ge hC 64 kX6_dark_29 (by decide) (fun h29 => absurd h29 (by rw [hs1]; exact cnt_lt hI.hc4.1 hk)) (fun h29 => ?_)
      refine V_join 57 (F_lit (sg (mo + 1)) (nI i) (k + 1)) ?_ (fun j57 => ?_)
      · refine V_istore_n hC [some _, some _, some _, some _, some _] kX6_dark_57 rfl (Nat.le_of_ble_eq_true rfl) ?_
        refine V_iinc hC (_ + 1) [some _, some _, some _, some _, some _] kX6_dark_58 rfl rfl rfl (Nat.le_of_ble_eq_true rfl) ?_
        refine V_goto hC 21 kX6_dark_61 (by decide) ?_
        refine V_eq ?_ rfl ihk
        simp only [nI_succ]
      · refine V_iload_n hC kX6_dark_32 rfl ?_
        refine V_if_ne hC 52 kX6_dark_33 (by decide) (fun h33 => ?_) (fun h33 => ?_)
        · refine V_iconst hC (1) kX6_dark_52 (by decide) ?_
          refine V_goto hC 57 kX6_dark_53 (by decide) ?_
          exact j57 _ ((by rw [F_lit, if_neg (fun z => h33 z.1)]))
        · refine V_aload_n hC kX6_dark_36 rfl ?_
          refine V_iload hC kX6_dark_37 rfl ?_
          refine V_iload_n hC kX6_dark_39 rfl ?_
          refine V_cV_fI hC (ct_bright hWr (nI k) (nI i) (vp_in_nI (by omega) (by decide)) (fun _ => by rw [hs1]; exact hI.ne hk)) mkX6_bright lmX6_50 kX6_dark_40 (Nat.le_of_ble_eq_true rfl) rfl rfl rfl (Nat.le_of_ble_eq_true rfl) ⟨(Nat.le_of_ble_eq_true rfl), (Nat.le_of_ble_eq_true rfl)⟩ ⟨rfl, rfl⟩ ⟨(Nat.le_of_ble_eq_true rfl), (Nat.le_of_ble_eq_true rfl)⟩ ?_
          refine V_aload_n hC kX6_dark_43 rfl ?_
          refine V_getR hC hWr 6 1 lfX6_7 kX6_dark_44 (Nat.le_of_ble_eq_true rfl) (Nat.le_of_ble_eq_true rfl) rfl ?_
          refine V_iconst hC (2) kX6_dark_47 (by decide) ?_
          refine V_iald hC 2 rfl kX6_dark_48 (vp_lit rfl) ?_
          refine V_icmp_lt hC 56 kX6_dark_49 (by decide) (fun h49 => ?_) (fun h49 => ?_)
          · refine V_iconst hC (0) kX6_dark_56 (by decide) ?_
            exact j57 _ ((by rw [hs1] at h49; rw [F_lit, if_pos ⟨h33, h49⟩]))
          · refine V_iconst hC (1) kX6_dark_52 (by decide) ?_
            refine V_goto hC 57 kX6_dark_53 (by decide) ?_
            exact j57 _ ((by rw [hs1] at h49; rw [F_lit, if_neg (fun z => h49 z.2)]))
def mtX6_turns : Mt := (yX6_turns, cX6_turns, 3, none, 9, 207, 0, 0)
theorem kX6_turns_0 : Dk mtX6_turns 0 (.iload_n 1) 1 1 := ⟨by decide +kernel, rfl⟩
theorem kX6_turns_1 : Dk mtX6_turns 1 (.bipush 16) 2 3 := ⟨by decide +kernel, rfl⟩
theorem kX6_turns_3 : Dk mtX6_turns 3 (.idiv) 1 4 := ⟨by decide +kernel, rfl⟩
theorem kX6_turns_4 : Dk mtX6_turns 4 (.istore_n 2) 1 5 := ⟨by decide +kernel, rfl⟩
theorem kX6_turns_5 : Dk mtX6_turns 5 (.iload_n 1) 1 6 := ⟨by decide +kernel, rfl⟩
theorem kX6_turns_6 : Dk mtX6_turns 6 (.bipush 16) 2 8 := ⟨by decide +kernel, rfl⟩
theorem kX6_turns_8 : Dk mtX6_turns 8 (.irem) 1 9 := ⟨by decide +kernel, rfl⟩
theorem kX6_turns_9 : Dk mtX6_turns 9 (.tableswitch 216 0 7 #[47, 47, 95, 95, 119, 141, 141, 162]) 47 56 := ⟨by decide +kernel, rfl⟩
theorem kX6_turns_56 : Dk mtX6_turns 56 (.aload_n 0) 1 57 := ⟨by decide +kernel, rfl⟩
theorem kX6_turns_57 : Dk mtX6_turns 57 (.iload_n 2) 1 58 := ⟨by decide +kernel, rfl⟩
theorem kX6_turns_58 : Dk mtX6_turns 58 (.sipush 200) 3 61 := ⟨by decide +kernel, rfl⟩
theorem kX6_turns_61 : Dk mtX6_turns 61 (.irem) 1 62 := ⟨by decide +kernel, rfl⟩
theorem kX6_turns_62 : Dk mtX6_turns 62 (.bipush 10) 2 64 := ⟨by decide +kernel, rfl⟩
theorem kX6_turns_64 : Dk mtX6_turns 64 (.iload_n 2) 1 65 := ⟨by decide +kernel, rfl⟩
theorem kX6_turns_65 : Dk mtX6_turns 65 (.sipush 256) 3 68 := ⟨by decide +kernel, rfl⟩
theorem kX6_turns_68 : Dk mtX6_turns 68 (.idiv) 1 69 := ⟨by decide +kernel, rfl⟩
theorem kX6_turns_69 : Dk mtX6_turns 69 (.bipush 90) 2 71 := ⟨by decide +kernel, rfl⟩
theorem kX6_turns_71 : Dk mtX6_turns 71 (.irem) 1 72 := ⟨by decide +kernel, rfl⟩
theorem kX6_turns_72 : Dk mtX6_turns 72 (.iadd) 1 73 := ⟨by decide +kernel, rfl⟩
theorem kX6_turns_73 : Dk mtX6_turns 73 (.iload_n 2) 1 74 := ⟨by decide +kernel, rfl⟩
theorem kX6_turns_74 : Dk mtX6_turns 74 (.iconst 3) 1 75 := ⟨by decide +kernel, rfl⟩
theorem kX6_turns_75 : Dk mtX6_turns 75 (.irem) 1 76 := ⟨by decide +kernel, rfl⟩
theorem kX6_turns_76 : Dk mtX6_turns 76 (.iconst 1) 1 77 := ⟨by decide +kernel, rfl⟩
theorem kX6_turns_77 : Dk mtX6_turns 77 (.iload_n 2) 1 78 := ⟨by decide +kernel, rfl⟩
theorem kX6_turns_78 : Dk mtX6_turns 78 (.bipush 8) 2 80 := ⟨by decide +kernel, rfl⟩
theorem kX6_turns_80 : Dk mtX6_turns 80 (.idiv) 1 81 := ⟨by decide +kernel, rfl⟩
theorem kX6_turns_81 : Dk mtX6_turns 81 (.bipush 20) 2 83 := ⟨by decide +kernel, rfl⟩
theorem kX6_turns_83 : Dk mtX6_turns 83 (.irem) 1 84 := ⟨by decide +kernel, rfl⟩
theorem kX6_turns_84 : Dk mtX6_turns 84 (.iadd) 1 85 := ⟨by decide +kernel, rfl⟩
theorem kX6_turns_85 : Dk mtX6_turns 85 (.iconst 1) 1 86 := ⟨by decide +kernel, rfl⟩
theorem kX6_turns_86 : Dk mtX6_turns 86 (.iload_n 2) 1 87 := ⟨by decide +kernel, rfl⟩
theorem kX6_turns_87 : Dk mtX6_turns 87 (.bipush 6) 2 89 := ⟨by decide +kernel, rfl⟩
theorem kX6_turns_89 : Dk mtX6_turns 89 (.irem) 1 90 := ⟨by decide +kernel, rfl⟩
theorem kX6_turns_90 : Dk mtX6_turns 90 (.iadd) 1 91 := ⟨by decide +kernel, rfl⟩
theorem kX6_turns_91 : Dk mtX6_turns 91 (.iload_n 2) 1 92 := ⟨by decide +kernel, rfl⟩
theorem kX6_turns_92 : Dk mtX6_turns 92 (.bipush 32) 2 94 := ⟨by decide +kernel, rfl⟩
theorem kX6_turns_94 : Dk mtX6_turns 94 (.idiv) 1 95 := ⟨by decide +kernel, rfl⟩
theorem kX6_turns_95 : Dk mtX6_turns 95 (.iconst 2) 1 96 := ⟨by decide +kernel, rfl⟩
theorem kX6_turns_96 : Dk mtX6_turns 96 (.irem) 1 97 := ⟨by decide +kernel, rfl⟩
theorem kX6_turns_97 : Dk mtX6_turns 97 (.invokevirtual 151) 3 100 := ⟨by decide +kernel, rfl⟩
theorem kX6_turns_100 : Dk mtX6_turns 100 (.pop) 1 101 := ⟨by decide +kernel, rfl⟩
theorem kX6_turns_101 : Dk mtX6_turns 101 (.goto 135) 3 104 := ⟨by decide +kernel, rfl⟩
theorem kX6_turns_104 : Dk mtX6_turns 104 (.aload_n 0) 1 105 := ⟨by decide +kernel, rfl⟩
theorem kX6_turns_105 : Dk mtX6_turns 105 (.iload_n 2) 1 106 := ⟨by decide +kernel, rfl⟩
theorem kX6_turns_106 : Dk mtX6_turns 106 (.sipush 200) 3 109 := ⟨by decide +kernel, rfl⟩
theorem kX6_turns_109 : Dk mtX6_turns 109 (.irem) 1 110 := ⟨by decide +kernel, rfl⟩
theorem kX6_turns_110 : Dk mtX6_turns 110 (.iload_n 2) 1 111 := ⟨by decide +kernel, rfl⟩
theorem kX6_turns_111 : Dk mtX6_turns 111 (.sipush 256) 3 114 := ⟨by decide +kernel, rfl⟩
theorem kX6_turns_114 : Dk mtX6_turns 114 (.idiv) 1 115 := ⟨by decide +kernel, rfl⟩
theorem kX6_turns_115 : Dk mtX6_turns 115 (.bipush 13) 2 117 := ⟨by decide +kernel, rfl⟩
theorem kX6_turns_117 : Dk mtX6_turns 117 (.irem) 1 118 := ⟨by decide +kernel, rfl⟩
theorem kX6_turns_118 : Dk mtX6_turns 118 (.bipush 6) 2 120 := ⟨by decide +kernel, rfl⟩
theorem kX6_turns_120 : Dk mtX6_turns 120 (.isub) 1 121 := ⟨by decide +kernel, rfl⟩
theorem kX6_turns_121 : Dk mtX6_turns 121 (.invokevirtual 154) 3 124 := ⟨by decide +kernel, rfl⟩
theorem kX6_turns_124 : Dk mtX6_turns 124 (.pop) 1 125 := ⟨by decide +kernel, rfl⟩
theorem kX6_turns_125 : Dk mtX6_turns 125 (.goto 111) 3 128 := ⟨by decide +kernel, rfl⟩
theorem kX6_turns_128 : Dk mtX6_turns 128 (.aload_n 0) 1 129 := ⟨by decide +kernel, rfl⟩
theorem kX6_turns_129 : Dk mtX6_turns 129 (.iload_n 2) 1 130 := ⟨by decide +kernel, rfl⟩
theorem kX6_turns_130 : Dk mtX6_turns 130 (.bipush 8) 2 132 := ⟨by decide +kernel, rfl⟩
theorem kX6_turns_132 : Dk mtX6_turns 132 (.irem) 1 133 := ⟨by decide +kernel, rfl⟩
theorem kX6_turns_133 : Dk mtX6_turns 133 (.iload_n 2) 1 134 := ⟨by decide +kernel, rfl⟩
theorem kX6_turns_134 : Dk mtX6_turns 134 (.bipush 8) 2 136 := ⟨by decide +kernel, rfl⟩
theorem kX6_turns_136 : Dk mtX6_turns 136 (.idiv) 1 137 := ⟨by decide +kernel, rfl⟩
theorem kX6_turns_137 : Dk mtX6_turns 137 (.bipush 13) 2 139 := ⟨by decide +kernel, rfl⟩
theorem kX6_turns_139 : Dk mtX6_turns 139 (.irem) 1 140 := ⟨by decide +kernel, rfl⟩
theorem kX6_turns_140 : Dk mtX6_turns 140 (.bipush 6) 2 142 := ⟨by decide +kernel, rfl⟩
theorem kX6_turns_142 : Dk mtX6_turns 142 (.isub) 1 143 := ⟨by decide +kernel, rfl⟩
theorem kX6_turns_143 : Dk mtX6_turns 143 (.invokevirtual 157) 3 146 := ⟨by decide +kernel, rfl⟩
theorem kX6_turns_146 : Dk mtX6_turns 146 (.pop) 1 147 := ⟨by decide +kernel, rfl⟩
theorem kX6_turns_147 : Dk mtX6_turns 147 (.goto 89) 3 150 := ⟨by decide +kernel, rfl⟩
theorem kX6_turns_150 : Dk mtX6_turns 150 (.aload_n 0) 1 151 := ⟨by decide +kernel, rfl⟩
theorem kX6_turns_151 : Dk mtX6_turns 151 (.iload_n 2) 1 152 := ⟨by decide +kernel, rfl⟩
theorem kX6_turns_152 : Dk mtX6_turns 152 (.bipush 8) 2 154 := ⟨by decide +kernel, rfl⟩
theorem kX6_turns_154 : Dk mtX6_turns 154 (.irem) 1 155 := ⟨by decide +kernel, rfl⟩
theorem kX6_turns_155 : Dk mtX6_turns 155 (.iconst 1) 1 156 := ⟨by decide +kernel, rfl⟩
theorem kX6_turns_156 : Dk mtX6_turns 156 (.iload_n 2) 1 157 := ⟨by decide +kernel, rfl⟩
theorem kX6_turns_157 : Dk mtX6_turns 157 (.bipush 8) 2 159 := ⟨by decide +kernel, rfl⟩
theorem kX6_turns_159 : Dk mtX6_turns 159 (.idiv) 1 160 := ⟨by decide +kernel, rfl⟩
theorem kX6_turns_160 : Dk mtX6_turns 160 (.bipush 60) 2 162 := ⟨by decide +kernel, rfl⟩
theorem kX6_turns_162 : Dk mtX6_turns 162 (.irem) 1 163 := ⟨by decide +kernel, rfl⟩
theorem kX6_turns_163 : Dk mtX6_turns 163 (.iadd) 1 164 := ⟨by decide +kernel, rfl⟩
theorem kX6_turns_164 : Dk mtX6_turns 164 (.invokevirtual 160) 3 167 := ⟨by decide +kernel, rfl⟩
theorem kX6_turns_167 : Dk mtX6_turns 167 (.pop) 1 168 := ⟨by decide +kernel, rfl⟩
theorem kX6_turns_168 : Dk mtX6_turns 168 (.goto 68) 3 171 := ⟨by decide +kernel, rfl⟩
theorem kX6_turns_171 : Dk mtX6_turns 171 (.iload_n 2) 1 172 := ⟨by decide +kernel, rfl⟩
theorem kX6_turns_172 : Dk mtX6_turns 172 (.sipush 512) 3 175 := ⟨by decide +kernel, rfl⟩
theorem kX6_turns_175 : Dk mtX6_turns 175 (.idiv) 1 176 := ⟨by decide +kernel, rfl⟩
theorem kX6_turns_176 : Dk mtX6_turns 176 (.iconst 2) 1 177 := ⟨by decide +kernel, rfl⟩
theorem kX6_turns_177 : Dk mtX6_turns 177 (.irem) 1 178 := ⟨by decide +kernel, rfl⟩
theorem kX6_turns_178 : Dk mtX6_turns 178 (.ifCond .ne 25) 3 181 := ⟨by decide +kernel, rfl⟩
theorem kX6_turns_181 : Dk mtX6_turns 181 (.aload_n 0) 1 182 := ⟨by decide +kernel, rfl⟩
theorem kX6_turns_182 : Dk mtX6_turns 182 (.iload_n 2) 1 183 := ⟨by decide +kernel, rfl⟩
theorem kX6_turns_183 : Dk mtX6_turns 183 (.bipush 6) 2 185 := ⟨by decide +kernel, rfl⟩
theorem kX6_turns_185 : Dk mtX6_turns 185 (.irem) 1 186 := ⟨by decide +kernel, rfl⟩
theorem kX6_turns_186 : Dk mtX6_turns 186 (.iload_n 2) 1 187 := ⟨by decide +kernel, rfl⟩
theorem kX6_turns_187 : Dk mtX6_turns 187 (.bipush 8) 2 189 := ⟨by decide +kernel, rfl⟩
theorem kX6_turns_189 : Dk mtX6_turns 189 (.idiv) 1 190 := ⟨by decide +kernel, rfl⟩
theorem kX6_turns_190 : Dk mtX6_turns 190 (.bipush 61) 2 192 := ⟨by decide +kernel, rfl⟩
theorem kX6_turns_192 : Dk mtX6_turns 192 (.irem) 1 193 := ⟨by decide +kernel, rfl⟩
theorem kX6_turns_193 : Dk mtX6_turns 193 (.bipush 30) 2 195 := ⟨by decide +kernel, rfl⟩
theorem kX6_turns_195 : Dk mtX6_turns 195 (.isub) 1 196 := ⟨by decide +kernel, rfl⟩
theorem kX6_turns_196 : Dk mtX6_turns 196 (.invokevirtual 200) 3 199 := ⟨by decide +kernel, rfl⟩
theorem kX6_turns_199 : Dk mtX6_turns 199 (.pop) 1 200 := ⟨by decide +kernel, rfl⟩
theorem kX6_turns_200 : Dk mtX6_turns 200 (.goto 36) 3 203 := ⟨by decide +kernel, rfl⟩
theorem kX6_turns_203 : Dk mtX6_turns 203 (.aload_n 0) 1 204 := ⟨by decide +kernel, rfl⟩
theorem kX6_turns_204 : Dk mtX6_turns 204 (.iload_n 2) 1 205 := ⟨by decide +kernel, rfl⟩
theorem kX6_turns_205 : Dk mtX6_turns 205 (.bipush 6) 2 207 := ⟨by decide +kernel, rfl⟩
theorem kX6_turns_207 : Dk mtX6_turns 207 (.irem) 1 208 := ⟨by decide +kernel, rfl⟩
theorem kX6_turns_208 : Dk mtX6_turns 208 (.bipush 10) 2 210 := ⟨by decide +kernel, rfl⟩
theorem kX6_turns_210 : Dk mtX6_turns 210 (.iload_n 2) 1 211 := ⟨by decide +kernel, rfl⟩
theorem kX6_turns_211 : Dk mtX6_turns 211 (.bipush 8) 2 213 := ⟨by decide +kernel, rfl⟩
theorem kX6_turns_213 : Dk mtX6_turns 213 (.idiv) 1 214 := ⟨by decide +kernel, rfl⟩
theorem kX6_turns_214 : Dk mtX6_turns 214 (.bipush 90) 2 216 := ⟨by decide +kernel, rfl⟩
theorem kX6_turns_216 : Dk mtX6_turns 216 (.irem) 1 217 := ⟨by decide +kernel, rfl⟩
theorem kX6_turns_217 : Dk mtX6_turns 217 (.iadd) 1 218 := ⟨by decide +kernel, rfl⟩
theorem kX6_turns_218 : Dk mtX6_turns 218 (.invokevirtual 203) 3 221 := ⟨by decide +kernel, rfl⟩
theorem kX6_turns_221 : Dk mtX6_turns 221 (.pop) 1 222 := ⟨by decide +kernel, rfl⟩
theorem kX6_turns_222 : Dk mtX6_turns 222 (.goto 14) 3 225 := ⟨by decide +kernel, rfl⟩
theorem kX6_turns_225 : Dk mtX6_turns 225 (.aload_n 0) 1 226 := ⟨by decide +kernel, rfl⟩
theorem kX6_turns_226 : Dk mtX6_turns 226 (.iconst 1) 1 227 := ⟨by decide +kernel, rfl⟩
theorem kX6_turns_227 : Dk mtX6_turns 227 (.iload_n 2) 1 228 := ⟨by decide +kernel, rfl⟩
theorem kX6_turns_228 : Dk mtX6_turns 228 (.bipush 12) 2 230 := ⟨by decide +kernel, rfl⟩
theorem kX6_turns_230 : Dk mtX6_turns 230 (.irem) 1 231 := ⟨by decide +kernel, rfl⟩
theorem kX6_turns_231 : Dk mtX6_turns 231 (.iadd) 1 232 := ⟨by decide +kernel, rfl⟩
theorem kX6_turns_232 : Dk mtX6_turns 232 (.invokevirtual 166) 3 235 := ⟨by decide +kernel, rfl⟩
theorem kX6_turns_235 : Dk mtX6_turns 235 (.pop) 1 236 := ⟨by decide +kernel, rfl⟩
theorem kX6_turns_236 : Dk mtX6_turns 236 (.return_) 1 237 := ⟨by decide +kernel, rfl⟩
theorem lmX6_151 : LkM RX6 151 mtX6_actsLight := Or.inl (by decide +kernel)
theorem mkX6_actsLight : MkV mtX6_actsLight 6 := ⟨List.mem_of_getElem? (i := 1113) (by decide +kernel), by decide +kernel, by decide +kernel, by decide +kernel, ⟨by decide +kernel, by decide +kernel, by decide +kernel⟩⟩
theorem lmX6_154 : LkM RX6 154 mtX6_actsBoat := Or.inl (by decide +kernel)
theorem mkX6_actsBoat : MkV mtX6_actsBoat 2 := ⟨List.mem_of_getElem? (i := 1131) (by decide +kernel), by decide +kernel, by decide +kernel, by decide +kernel, ⟨by decide +kernel, by decide +kernel, by decide +kernel⟩⟩
set_option maxHeartbeats 4000000 in
set_option maxRecDepth 100000 in
theorem ct_turns {l : Launch} {w : Wd} {sg : Sg} (hWr : Wr w) {mo : Nat} (r : Int32) (hr : 0 ≤ r.toInt) (hI : Inv (sg (mo + 1))) : M l mtX6_turns w [vR (some (6, 0, mo)), vI r] sg (fV0 (upr sg (mo + 1) (F_turn (sg (mo + 1)) r))) := by
  refine M_of [some (vR (some (6, 0, mo))), some (vI r), none] rfl (Nat.le_of_ble_eq_true rfl) (by decide +kernel) ?_
  intro p_ e_ s_ m_ args_ below_ meth_ c_ hC hO
  refine V_iload_n hC kX6_turns_0 rfl ?_
  refine V_bipush hC (16) kX6_turns_1 (by decide) ?_
  refine V_idiv hC kX6_turns_3 (by decide) ?_
  refine V_nameI (fun q e_q => ?_)
  refine V_istore_n hC [some _, some _, some _] kX6_turns_4 rfl (Nat.le_of_ble_eq_true rfl) ?_
  refine V_iload_n hC kX6_turns_5 rfl ?_
  refine V_bipush hC (16) kX6_turns_6 (by decide) ?_
  refine V_irem hC kX6_turns_8 (by decide) ?_
  obtain ⟨N, hN, ex⟩ := rm16 hr
  have et : tn (rm r 16) = N := by rw [ex]; exact nI_clamp (by omega)
  subst e_q
  rcases (show N = 0 ∨ N = 1 ∨ N = 2 ∨ N = 3 ∨ N = 4 ∨ N = 5 ∨ N = 6 ∨ N = 7 ∨ 8 ≤ N by omega) with e | e | e | e | e | e | e | e | e
  · subst e
    refine V_tabIn hC (47) 56 kX6_turns_9 (by rw [show r - r / 16 * 16 = nI 0 from ex]; decide) (by rw [show r - r / 16 * 16 = nI 0 from ex]; decide) (by rw [show r - r / 16 * 16 = nI 0 from ex]; rfl) (by decide) ?_
    refine V_aload_n hC kX6_turns_56 rfl ?_
    refine V_iload_n hC kX6_turns_57 rfl ?_
    refine V_sipush hC (200) kX6_turns_58 (by decide) ?_
    refine V_irem hC kX6_turns_61 (by decide) ?_
    refine V_bipush hC (10) kX6_turns_62 (by decide) ?_
    refine V_iload_n hC kX6_turns_64 rfl ?_
    refine V_sipush hC (256) kX6_turns_65 (by decide) ?_
    refine V_idiv hC kX6_turns_68 (by decide) ?_
    refine V_bipush hC (90) kX6_turns_69 (by decide) ?_
    refine V_irem hC kX6_turns_71 (by decide) ?_
    refine V_iadd hC kX6_turns_72 ?_
    refine V_iload_n hC kX6_turns_73 rfl ?_
    refine V_iconst hC (3) kX6_turns_74 (by decide) ?_
    refine V_irem hC kX6_turns_75 (by decide) ?_
    refine V_iconst hC (1) kX6_turns_76 (by decide) ?_
    refine V_iload_n hC kX6_turns_77 rfl ?_
    refine V_bipush hC (8) kX6_turns_78 (by decide) ?_
    refine V_idiv hC kX6_turns_80 (by decide) ?_
    refine V_bipush hC (20) kX6_turns_81 (by decide) ?_
    refine V_irem hC kX6_turns_83 (by decide) ?_
    refine V_iadd hC kX6_turns_84 ?_
    refine V_iconst hC (1) kX6_turns_85 (by decide) ?_
    refine V_iload_n hC kX6_turns_86 rfl ?_
    refine V_bipush hC (6) kX6_turns_87 (by decide) ?_
    refine V_irem hC kX6_turns_89 (by decide) ?_
    refine V_iadd hC kX6_turns_90 ?_
    refine V_iload_n hC kX6_turns_91 rfl ?_
    refine V_bipush hC (32) kX6_turns_92 (by decide) ?_
    refine V_idiv hC kX6_turns_94 (by decide) ?_
    refine V_iconst hC (2) kX6_turns_95 (by decide) ?_
    refine V_irem hC kX6_turns_96 (by decide) ?_
    refine V_cV_fI hC (ct_actsLight hWr _ _ _ _ _ _ hI.hc4) mkX6_actsLight lmX6_151 kX6_turns_97 (Nat.le_of_ble_eq_true rfl) rfl rfl rfl (Nat.le_of_ble_eq_true rfl) ⟨(Nat.le_of_ble_eq_true rfl), (Nat.le_of_ble_eq_true rfl)⟩ ⟨rfl, rfl⟩ ⟨(Nat.le_of_ble_eq_true rfl), (Nat.le_of_ble_eq_true rfl)⟩ ?_
    refine V_pop hC kX6_turns_100 rfl ?_
    refine V_goto hC 236 kX6_turns_101 (by decide) ?_
    refine V_vret hC rfl kX6_turns_236 ?_
    refine ⟨by with_reducible rfl, ?_⟩
    rw [F_turn, et]
    exact congrArg (upr sg (mo + 1)) (if_pos (by decide : 0 < 2)).symm
  · subst e
    refine V_tabIn hC (47) 56 kX6_turns_9 (by rw [show r - r / 16 * 16 = nI 1 from ex]; decide) (by rw [show r - r / 16 * 16 = nI 1 from ex]; decide) (by rw [show r - r / 16 * 16 = nI 1 from ex]; rfl) (by decide) ?_
    refine V_aload_n hC kX6_turns_56 rfl ?_
    refine V_iload_n hC kX6_turns_57 rfl ?_
    refine V_sipush hC (200) kX6_turns_58 (by decide) ?_
    refine V_irem hC kX6_turns_61 (by decide) ?_
    refine V_bipush hC (10) kX6_turns_62 (by decide) ?_
    refine V_iload_n hC kX6_turns_64 rfl ?_
    refine V_sipush hC (256) kX6_turns_65 (by decide) ?_
    refine V_idiv hC kX6_turns_68 (by decide) ?_
    refine V_bipush hC (90) kX6_turns_69 (by decide) ?_
    refine V_irem hC kX6_turns_71 (by decide) ?_
    refine V_iadd hC kX6_turns_72 ?_
    refine V_iload_n hC kX6_turns_73 rfl ?_
    refine V_iconst hC (3) kX6_turns_74 (by decide) ?_
    refine V_irem hC kX6_turns_75 (by decide) ?_
    refine V_iconst hC (1) kX6_turns_76 (by decide) ?_
    refine V_iload_n hC kX6_turns_77 rfl ?_
    refine V_bipush hC (8) kX6_turns_78 (by decide) ?_
    refine V_idiv hC kX6_turns_80 (by decide) ?_
    refine V_bipush hC (20) kX6_turns_81 (by decide) ?_
    refine V_irem hC kX6_turns_83 (by decide) ?_
    refine V_iadd hC kX6_turns_84 ?_
    refine V_iconst hC (1) kX6_turns_85 (by decide) ?_
    refine V_iload_n hC kX6_turns_86 rfl ?_
    refine V_bipush hC (6) kX6_turns_87 (by decide) ?_
    refine V_irem hC kX6_turns_89 (by decide) ?_
    refine V_iadd hC kX6_turns_90 ?_
    refine V_iload_n hC kX6_turns_91 rfl ?_
    refine V_bipush hC (32) kX6_turns_92 (by decide) ?_
    refine V_idiv hC kX6_turns_94 (by decide) ?_
    refine V_iconst hC (2) kX6_turns_95 (by decide) ?_
    refine V_irem hC kX6_turns_96 (by decide) ?_
    refine V_cV_fI hC (ct_actsLight hWr _ _ _ _ _ _ hI.hc4) mkX6_actsLight lmX6_151 kX6_turns_97 (Nat.le_of_ble_eq_true rfl) rfl rfl rfl (Nat.le_of_ble_eq_true rfl) ⟨(Nat.le_of_ble_eq_true rfl), (Nat.le_of_ble_eq_true rfl)⟩ ⟨rfl, rfl⟩ ⟨(Nat.le_of_ble_eq_true rfl), (Nat.le_of_ble_eq_true rfl)⟩ ?_
    refine V_pop hC kX6_turns_100 rfl ?_
    refine V_goto hC 236 kX6_turns_101 (by decide) ?_
    refine V_vret hC rfl kX6_turns_236 ?_
    refine ⟨by with_reducible rfl, ?_⟩
    rw [F_turn, et]
    exact congrArg (upr sg (mo + 1)) (if_pos (by decide : 1 < 2)).symm
  · subst e
    refine V_tabIn hC (95) 104 kX6_turns_9 (by rw [show r - r / 16 * 16 = nI 2 from ex]; decide) (by rw [show r - r / 16 * 16 = nI 2 from ex]; decide) (by rw [show r - r / 16 * 16 = nI 2 from ex]; rfl) (by decide) ?_
    refine V_aload_n hC kX6_turns_104 rfl ?_
    refine V_iload_n hC kX6_turns_105 rfl ?_
    refine V_sipush hC (200) kX6_turns_106 (by decide) ?_
    refine V_irem hC kX6_turns_109 (by decide) ?_
    refine V_iload_n hC kX6_turns_110 rfl ?_
    refine V_sipush hC (256) kX6_turns_111 (by decide) ?_
    refine V_idiv hC kX6_turns_114 (by decide) ?_
    refine V_bipush hC (13) kX6_turns_115 (by decide) ?_
    refine V_irem hC kX6_turns_117 (by decide) ?_
    refine V_bipush hC (6) kX6_turns_118 (by decide) ?_
    refine V_isub hC kX6_turns_120 ?_
    refine V_cV_fI hC (ct_actsBoat hWr _ _ hI.hc5) mkX6_actsBoat lmX6_154 kX6_turns_121 (Nat.le_of_ble_eq_true rfl) rfl rfl rfl (Nat.le_of_ble_eq_true rfl) ⟨(Nat.le_of_ble_eq_true rfl), (Nat.le_of_ble_eq_true rfl)⟩ ⟨rfl, rfl⟩ ⟨(Nat.le_of_ble_eq_true rfl), (Nat.le_of_ble_eq_true rfl)⟩ ?_
    refine V_pop hC kX6_turns_124 rfl ?_
    refine V_goto hC 236 kX6_turns_125 (by decide) ?_
    refine V_vret hC rfl kX6_turns_236 ?_
    refine ⟨by with_reducible rfl, ?_⟩
    rw [F_turn, et]
    exact congrArg (upr sg (mo + 1)) (Eq.trans (if_neg (by decide : ¬ 2 < 2)) (if_pos (by decide : 2 < 4))).symm
  · subst e
    refine V_tabIn hC (95) 104 kX6_turns_9 (by rw [show r - r / 16 * 16 = nI 3 from ex]; decide) (by rw [show r - r / 16 * 16 = nI 3 from ex]; decide) (by rw [show r - r / 16 * 16 = nI 3 from ex]; rfl) (by decide) ?_
    refine V_aload_n hC kX6_turns_104 rfl ?_
    refine V_iload_n hC kX6_turns_105 rfl ?_
    refine V_sipush hC (200) kX6_turns_106 (by decide) ?_
    refine V_irem hC kX6_turns_109 (by decide) ?_
    refine V_iload_n hC kX6_turns_110 rfl ?_
    refine V_sipush hC (256) kX6_turns_111 (by decide) ?_
    refine V_idiv hC kX6_turns_114 (by decide) ?_
    refine V_bipush hC (13) kX6_turns_115 (by decide) ?_
    refine V_irem hC kX6_turns_117 (by decide) ?_
    refine V_bipush hC (6) kX6_turns_118 (by decide) ?_
    refine V_isub hC kX6_turns_120 ?_
    refine V_cV_fI hC (ct_actsBoat hWr _ _ hI.hc5) mkX6_actsBoat lmX6_154 kX6_turns_121 (Nat.le_of_ble_eq_true rfl) rfl rfl rfl (Nat.le_of_ble_eq_true rfl) ⟨(Nat.le_of_ble_eq_true rfl), (Nat.le_of_ble_eq_true rfl)⟩ ⟨rfl, rfl⟩ ⟨(Nat.le_of_ble_eq_true rfl), (Nat.le_of_ble_eq_true rfl)⟩ ?_
    refine V_pop hC kX6_turns_124 rfl ?_
    refine V_goto hC 236 kX6_turns_125 (by decide) ?_
    refine V_vret hC rfl kX6_turns_236 ?_
    refine ⟨by with_reducible rfl, ?_⟩
    rw [F_turn, et]
    exact congrArg (upr sg (mo + 1)) (Eq.trans (if_neg (by decide : ¬ 3 < 2)) (if_pos (by decide : 3 < 4))).symm
  · subst e
    refine V_tabIn hC (119) 128 kX6_turns_9 (by rw [show r - r / 16 * 16 = nI 4 from ex]; decide) (by rw [show r - r / 16 * 16 = nI 4 from ex]; decide) (by rw [show r - r / 16 * 16 = nI 4 from ex]; rfl) (by decide) ?_
    refine V_aload_n hC kX6_turns_128 rfl ?_
    refine V_iload_n hC kX6_turns_129 rfl ?_
    refine V_bipush hC (8) kX6_turns_130 (by decide) ?_
    refine V_irem hC kX6_turns_132 (by decide) ?_
    refine V_iload_n hC kX6_turns_133 rfl ?_
    refine V_bipush hC (8) kX6_turns_134 (by decide) ?_
    refine V_idiv hC kX6_turns_136 (by decide) ?_
    refine V_bipush hC (13) kX6_turns_137 (by decide) ?_
    refine V_irem hC kX6_turns_139 (by decide) ?_
    refine V_bipush hC (6) kX6_turns_140 (by decide) ?_
    refine V_isub hC kX6_turns_142 ?_
    refine V_cV_fI hC (ct_actsSteer hWr _ _ hI.hc5) mkX6_actsSteer lmX6_157 kX6_turns_143 (Nat.le_of_ble_eq_true rfl) rfl rfl rfl (Nat.le_of_ble_eq_true rfl) ⟨(Nat.le_of_ble_eq_true rfl), (Nat.le_of_ble_eq_true rfl)⟩ ⟨rfl, rfl⟩ ⟨(Nat.le_of_ble_eq_true rfl), (Nat.le_of_ble_eq_true rfl)⟩ ?_
    refine V_pop hC kX6_turns_146 rfl ?_
    refine V_goto hC 236 kX6_turns_147 (by decide) ?_
    refine V_vret hC rfl kX6_turns_236 ?_
    refine ⟨by with_reducible rfl, ?_⟩
    rw [F_turn, et]
    exact congrArg (upr sg (mo + 1)) (Eq.trans (if_neg (by decide : ¬ 4 < 2)) (Eq.trans (if_neg (by decide : ¬ 4 < 4)) (if_pos (by decide : 4 < 5)))).symm
  · subst e
    refine V_tabIn hC (141) 150 kX6_turns_9 (by rw [show r - r / 16 * 16 = nI 5 from ex]; decide) (by rw [show r - r / 16 * 16 = nI 5 from ex]; decide) (by rw [show r - r / 16 * 16 = nI 5 from ex]; rfl) (by decide) ?_
    refine V_aload_n hC kX6_turns_150 rfl ?_
    refine V_iload_n hC kX6_turns_151 rfl ?_
    refine V_bipush hC (8) kX6_turns_152 (by decide) ?_
    refine V_irem hC kX6_turns_154 (by decide) ?_
    refine V_iconst hC (1) kX6_turns_155 (by decide) ?_
    refine V_iload_n hC kX6_turns_156 rfl ?_
    refine V_bipush hC (8) kX6_turns_157 (by decide) ?_
    refine V_idiv hC kX6_turns_159 (by decide) ?_
    refine V_bipush hC (60) kX6_turns_160 (by decide) ?_
    refine V_irem hC kX6_turns_162 (by decide) ?_
    refine V_iadd hC kX6_turns_163 ?_
    refine V_cV_fI hC (ct_actsTalk hWr _ _ hI.hc5) mkX6_actsTalk lmX6_160 kX6_turns_164 (Nat.le_of_ble_eq_true rfl) rfl rfl rfl (Nat.le_of_ble_eq_true rfl) ⟨(Nat.le_of_ble_eq_true rfl), (Nat.le_of_ble_eq_true rfl)⟩ ⟨rfl, rfl⟩ ⟨(Nat.le_of_ble_eq_true rfl), (Nat.le_of_ble_eq_true rfl)⟩ ?_
    refine V_pop hC kX6_turns_167 rfl ?_
    refine V_goto hC 236 kX6_turns_168 (by decide) ?_
    refine V_vret hC rfl kX6_turns_236 ?_
    refine ⟨by with_reducible rfl, ?_⟩
    rw [F_turn, et]
    exact congrArg (upr sg (mo + 1)) (Eq.trans (if_neg (by decide : ¬ 5 < 2)) (Eq.trans (if_neg (by decide : ¬ 5 < 4)) (Eq.trans (if_neg (by decide : ¬ 5 < 5)) (if_pos (by decide : 5 < 7))))).symm
  · subst e
    refine V_tabIn hC (141) 150 kX6_turns_9 (by rw [show r - r / 16 * 16 = nI 6 from ex]; decide) (by rw [show r - r / 16 * 16 = nI 6 from ex]; decide) (by rw [show r - r / 16 * 16 = nI 6 from ex]; rfl) (by decide) ?_
    refine V_aload_n hC kX6_turns_150 rfl ?_
    refine V_iload_n hC kX6_turns_151 rfl ?_
    refine V_bipush hC (8) kX6_turns_152 (by decide) ?_
    refine V_irem hC kX6_turns_154 (by decide) ?_
    refine V_iconst hC (1) kX6_turns_155 (by decide) ?_
    refine V_iload_n hC kX6_turns_156 rfl ?_
    refine V_bipush hC (8) kX6_turns_157 (by decide) ?_
    refine V_idiv hC kX6_turns_159 (by decide) ?_
    refine V_bipush hC (60) kX6_turns_160 (by decide) ?_
    refine V_irem hC kX6_turns_162 (by decide) ?_
    refine V_iadd hC kX6_turns_163 ?_
    refine V_cV_fI hC (ct_actsTalk hWr _ _ hI.hc5) mkX6_actsTalk lmX6_160 kX6_turns_164 (Nat.le_of_ble_eq_true rfl) rfl rfl rfl (Nat.le_of_ble_eq_true rfl) ⟨(Nat.le_of_ble_eq_true rfl), (Nat.le_of_ble_eq_true rfl)⟩ ⟨rfl, rfl⟩ ⟨(Nat.le_of_ble_eq_true rfl), (Nat.le_of_ble_eq_true rfl)⟩ ?_
    refine V_pop hC kX6_turns_167 rfl ?_
    refine V_goto hC 236 kX6_turns_168 (by decide) ?_
    refine V_vret hC rfl kX6_turns_236 ?_
    refine ⟨by with_reducible rfl, ?_⟩
    rw [F_turn, et]
    exact congrArg (upr sg (mo + 1)) (Eq.trans (if_neg (by decide : ¬ 6 < 2)) (Eq.trans (if_neg (by decide : ¬ 6 < 4)) (Eq.trans (if_neg (by decide : ¬ 6 < 5)) (if_pos (by decide : 6 < 7))))).symm
  · subst e
    refine V_tabIn hC (162) 171 kX6_turns_9 (by rw [show r - r / 16 * 16 = nI 7 from ex]; decide) (by rw [show r - r / 16 * 16 = nI 7 from ex]; decide) (by rw [show r - r / 16 * 16 = nI 7 from ex]; rfl) (by decide) ?_
    refine V_iload_n hC kX6_turns_171 rfl ?_
    refine V_sipush hC (512) kX6_turns_172 (by decide) ?_
    refine V_idiv hC kX6_turns_175 (by decide) ?_
    refine V_iconst hC (2) kX6_turns_176 (by decide) ?_
    refine V_irem hC kX6_turns_177 (by decide) ?_
    refine V_if_ne hC 203 kX6_turns_178 (by decide) (fun h178 => ?_) (fun h178 => ?_)
    · refine V_aload_n hC kX6_turns_203 rfl ?_
      refine V_iload_n hC kX6_turns_204 rfl ?_
      refine V_bipush hC (6) kX6_turns_205 (by decide) ?_
      refine V_irem hC kX6_turns_207 (by decide) ?_
      refine V_bipush hC (10) kX6_turns_208 (by decide) ?_
      refine V_iload_n hC kX6_turns_210 rfl ?_
      refine V_bipush hC (8) kX6_turns_211 (by decide) ?_
      refine V_idiv hC kX6_turns_213 (by decide) ?_
      refine V_bipush hC (90) kX6_turns_214 (by decide) ?_
      refine V_irem hC kX6_turns_216 (by decide) ?_
      refine V_iadd hC kX6_turns_217 ?_
      refine V_cV_fI hC (ct_actsDim hWr _ _ hI.hc4) mkX6_actsDim lmX6_203 kX6_turns_218 (Nat.le_of_ble_eq_true rfl) rfl rfl rfl (Nat.le_of_ble_eq_true rfl) ⟨(Nat.le_of_ble_eq_true rfl), (Nat.le_of_ble_eq_true rfl)⟩ ⟨rfl, rfl⟩ ⟨(Nat.le_of_ble_eq_true rfl), (Nat.le_of_ble_eq_true rfl)⟩ ?_
      refine V_pop hC kX6_turns_221 rfl ?_
      refine V_goto hC 236 kX6_turns_222 (by decide) ?_
      refine V_vret hC rfl kX6_turns_236 ?_
      refine ⟨by with_reducible rfl, ?_⟩
      rw [F_turn, et]
      first
        | exact congrArg (upr sg (mo + 1)) (Eq.trans (if_neg (by decide : ¬ 7 < 2)) (Eq.trans (if_neg (by decide : ¬ 7 < 4)) (Eq.trans (if_neg (by decide : ¬ 7 < 5)) (Eq.trans (if_neg (by decide : ¬ 7 < 7)) (Eq.trans (if_pos (by decide : 7 < 8)) (if_pos h178)))))).symm
        | exact congrArg (upr sg (mo + 1)) (Eq.trans (if_neg (by decide : ¬ 7 < 2)) (Eq.trans (if_neg (by decide : ¬ 7 < 4)) (Eq.trans (if_neg (by decide : ¬ 7 < 5)) (Eq.trans (if_neg (by decide : ¬ 7 < 7)) (Eq.trans (if_pos (by decide : 7 < 8)) (if_neg h178)))))).symm
    · refine V_aload_n hC kX6_turns_181 rfl ?_
      refine V_iload_n hC kX6_turns_182 rfl ?_
      refine V_bipush hC (6) kX6_turns_183 (by decide) ?_
      refine V_irem hC kX6_turns_185 (by decide) ?_
      refine V_iload_n hC kX6_turns_186 rfl ?_
      refine V_bipush hC (8) kX6_turns_187 (by decide) ?_
      refine V_idiv hC kX6_turns_189 (by decide) ?_
      refine V_bipush hC (61) kX6_turns_190 (by decide) ?_
      refine V_irem hC kX6_turns_192 (by decide) ?_
      refine V_bipush hC (30) kX6_turns_193 (by decide) ?_
      refine V_isub hC kX6_turns_195 ?_
      refine V_cV_fI hC (ct_actsLean hWr _ _ hI.hc4) mkX6_actsLean lmX6_200 kX6_turns_196 (Nat.le_of_ble_eq_true rfl) rfl rfl rfl (Nat.le_of_ble_eq_true rfl) ⟨(Nat.le_of_ble_eq_true rfl), (Nat.le_of_ble_eq_true rfl)⟩ ⟨rfl, rfl⟩ ⟨(Nat.le_of_ble_eq_true rfl), (Nat.le_of_ble_eq_true rfl)⟩ ?_
      refine V_pop hC kX6_turns_199 rfl ?_
      refine V_goto hC 236 kX6_turns_200 (by decide) ?_
      refine V_vret hC rfl kX6_turns_236 ?_
      refine ⟨by with_reducible rfl, ?_⟩
      rw [F_turn, et]
      first
        | exact congrArg (upr sg (mo + 1)) (Eq.trans (if_neg (by decide : ¬ 7 < 2)) (Eq.trans (if_neg (by decide : ¬ 7 < 4)) (Eq.trans (if_neg (by decide : ¬ 7 < 5)) (Eq.trans (if_neg (by decide : ¬ 7 < 7)) (Eq.trans (if_pos (by decide : 7 < 8)) (if_pos h178)))))).symm
        | exact congrArg (upr sg (mo + 1)) (Eq.trans (if_neg (by decide : ¬ 7 < 2)) (Eq.trans (if_neg (by decide : ¬ 7 < 4)) (Eq.trans (if_neg (by decide : ¬ 7 < 5)) (Eq.trans (if_neg (by decide : ¬ 7 < 7)) (Eq.trans (if_pos (by decide : 7 < 8)) (if_neg h178)))))).symm
  · refine V_tabOut hC 225 kX6_turns_9 (Or.inr (by rw [show r - r / 16 * 16 = nI N from ex, nI_toInt (by omega)]; omega)) (by decide) ?_
    refine V_aload_n hC kX6_turns_225 rfl ?_
    refine V_iconst hC (1) kX6_turns_226 (by decide) ?_
    refine V_iload_n hC kX6_turns_227 rfl ?_
    refine V_bipush hC (12) kX6_turns_228 (by decide) ?_
    refine V_irem hC kX6_turns_230 (by decide) ?_
    refine V_iadd hC kX6_turns_231 ?_
    refine V_cV_fI hC (ct_actsTicks hWr _ hI) mkX6_actsTicks lmX6_166 kX6_turns_232 (Nat.le_of_ble_eq_true rfl) rfl rfl rfl (Nat.le_of_ble_eq_true rfl) ⟨(Nat.le_of_ble_eq_true rfl), (Nat.le_of_ble_eq_true rfl)⟩ ⟨rfl, rfl⟩ ⟨(Nat.le_of_ble_eq_true rfl), (Nat.le_of_ble_eq_true rfl)⟩ ?_
    refine V_pop hC kX6_turns_235 rfl ?_
    refine V_vret hC rfl kX6_turns_236 ?_
    refine ⟨by with_reducible rfl, ?_⟩
    rw [F_turn, et]
    exact congrArg (upr sg (mo + 1)) (Eq.trans (if_neg (by omega : ¬ N < 2)) (Eq.trans (if_neg (by omega : ¬ N < 4)) (Eq.trans (if_neg (by omega : ¬ N < 5)) (Eq.trans (if_neg (by omega : ¬ N < 7)) (if_neg (by omega : ¬ N < 8)))))).symm
def mtX6_simulate : Mt := (yX6_simulate, cX6_simulate, 10, (some .int), 10, 229, 0, 0)
theorem kX6_simulate_0 : Dk mtX6_simulate 0 (.aload_n 0) 1 1 := ⟨by decide +kernel, rfl⟩
theorem kX6_simulate_1 : Dk mtX6_simulate 1 (.iconst 0) 1 2 := ⟨by decide +kernel, rfl⟩
theorem kX6_simulate_2 : Dk mtX6_simulate 2 (.putfield 32) 3 5 := ⟨by decide +kernel, rfl⟩
theorem kX6_simulate_5 : Dk mtX6_simulate 5 (.iload_n 3) 1 6 := ⟨by decide +kernel, rfl⟩
theorem kX6_simulate_6 : Dk mtX6_simulate 6 (.iconst 1) 1 7 := ⟨by decide +kernel, rfl⟩
theorem kX6_simulate_7 : Dk mtX6_simulate 7 (.bipush 60) 2 9 := ⟨by decide +kernel, rfl⟩
theorem kX6_simulate_9 : Dk mtX6_simulate 9 (.invokestatic 39) 3 12 := ⟨by decide +kernel, rfl⟩
theorem kX6_simulate_12 : Dk mtX6_simulate 12 (.ifCond .ne 9) 3 15 := ⟨by decide +kernel, rfl⟩
theorem kX6_simulate_15 : Dk mtX6_simulate 15 (.aload_n 0) 1 16 := ⟨by decide +kernel, rfl⟩
theorem kX6_simulate_16 : Dk mtX6_simulate 16 (.iconst 1) 1 17 := ⟨by decide +kernel, rfl⟩
theorem kX6_simulate_17 : Dk mtX6_simulate 17 (.invokevirtual 127) 3 20 := ⟨by decide +kernel, rfl⟩
theorem kX6_simulate_20 : Dk mtX6_simulate 20 (.ireturn) 1 21 := ⟨by decide +kernel, rfl⟩
theorem kX6_simulate_21 : Dk mtX6_simulate 21 (.aload_n 0) 1 22 := ⟨by decide +kernel, rfl⟩
theorem kX6_simulate_22 : Dk mtX6_simulate 22 (.invokevirtual 206) 3 25 := ⟨by decide +kernel, rfl⟩
theorem kX6_simulate_25 : Dk mtX6_simulate 25 (.aload_n 0) 1 26 := ⟨by decide +kernel, rfl⟩
theorem kX6_simulate_26 : Dk mtX6_simulate 26 (.getfield 7) 3 29 := ⟨by decide +kernel, rfl⟩
theorem kX6_simulate_29 : Dk mtX6_simulate 29 (.bipush 7) 2 31 := ⟨by decide +kernel, rfl⟩
theorem kX6_simulate_31 : Dk mtX6_simulate 31 (.iaload) 1 32 := ⟨by decide +kernel, rfl⟩
theorem kX6_simulate_32 : Dk mtX6_simulate 32 (.istore 4) 2 34 := ⟨by decide +kernel, rfl⟩
theorem kX6_simulate_34 : Dk mtX6_simulate 34 (.aload_n 0) 1 35 := ⟨by decide +kernel, rfl⟩
theorem kX6_simulate_35 : Dk mtX6_simulate 35 (.getfield 7) 3 38 := ⟨by decide +kernel, rfl⟩
theorem kX6_simulate_38 : Dk mtX6_simulate 38 (.bipush 8) 2 40 := ⟨by decide +kernel, rfl⟩
theorem kX6_simulate_40 : Dk mtX6_simulate 40 (.iaload) 1 41 := ⟨by decide +kernel, rfl⟩
theorem kX6_simulate_41 : Dk mtX6_simulate 41 (.istore 5) 2 43 := ⟨by decide +kernel, rfl⟩
theorem kX6_simulate_43 : Dk mtX6_simulate 43 (.aload_n 0) 1 44 := ⟨by decide +kernel, rfl⟩
theorem kX6_simulate_44 : Dk mtX6_simulate 44 (.getfield 7) 3 47 := ⟨by decide +kernel, rfl⟩
theorem kX6_simulate_47 : Dk mtX6_simulate 47 (.bipush 10) 2 49 := ⟨by decide +kernel, rfl⟩
theorem kX6_simulate_49 : Dk mtX6_simulate 49 (.iaload) 1 50 := ⟨by decide +kernel, rfl⟩
theorem kX6_simulate_50 : Dk mtX6_simulate 50 (.istore 6) 2 52 := ⟨by decide +kernel, rfl⟩
theorem kX6_simulate_52 : Dk mtX6_simulate 52 (.lload_n 1) 1 53 := ⟨by decide +kernel, rfl⟩
theorem kX6_simulate_53 : Dk mtX6_simulate 53 (.lstore 7) 2 55 := ⟨by decide +kernel, rfl⟩
theorem kX6_simulate_55 : Dk mtX6_simulate 55 (.iconst 0) 1 56 := ⟨by decide +kernel, rfl⟩
theorem kX6_simulate_56 : Dk mtX6_simulate 56 (.istore 9) 2 58 := ⟨by decide +kernel, rfl⟩
theorem kX6_simulate_58 : Dk mtX6_simulate 58 (.iload 9) 2 60 := ⟨by decide +kernel, rfl⟩
theorem kX6_simulate_60 : Dk mtX6_simulate 60 (.iload_n 3) 1 61 := ⟨by decide +kernel, rfl⟩
theorem kX6_simulate_61 : Dk mtX6_simulate 61 (.if_icmp .ge 31) 3 64 := ⟨by decide +kernel, rfl⟩
theorem kX6_simulate_64 : Dk mtX6_simulate 64 (.lload 7) 2 66 := ⟨by decide +kernel, rfl⟩
theorem kX6_simulate_66 : Dk mtX6_simulate 66 (.ldc2_w 230) 3 69 := ⟨by decide +kernel, rfl⟩
theorem kX6_simulate_69 : Dk mtX6_simulate 69 (.lmul) 1 70 := ⟨by decide +kernel, rfl⟩
theorem kX6_simulate_70 : Dk mtX6_simulate 70 (.ldc2_w 232) 3 73 := ⟨by decide +kernel, rfl⟩
theorem kX6_simulate_73 : Dk mtX6_simulate 73 (.ladd) 1 74 := ⟨by decide +kernel, rfl⟩
theorem kX6_simulate_74 : Dk mtX6_simulate 74 (.lstore 7) 2 76 := ⟨by decide +kernel, rfl⟩
theorem kX6_simulate_76 : Dk mtX6_simulate 76 (.aload_n 0) 1 77 := ⟨by decide +kernel, rfl⟩
theorem kX6_simulate_77 : Dk mtX6_simulate 77 (.lload 7) 2 79 := ⟨by decide +kernel, rfl⟩
theorem kX6_simulate_79 : Dk mtX6_simulate 79 (.bipush 33) 2 81 := ⟨by decide +kernel, rfl⟩
theorem kX6_simulate_81 : Dk mtX6_simulate 81 (.lushr) 1 82 := ⟨by decide +kernel, rfl⟩
theorem kX6_simulate_82 : Dk mtX6_simulate 82 (.l2i) 1 83 := ⟨by decide +kernel, rfl⟩
theorem kX6_simulate_83 : Dk mtX6_simulate 83 (.invokevirtual 234) 3 86 := ⟨by decide +kernel, rfl⟩
theorem kX6_simulate_86 : Dk mtX6_simulate 86 (.iinc 9 1) 3 89 := ⟨by decide +kernel, rfl⟩
theorem kX6_simulate_89 : Dk mtX6_simulate 89 (.goto (-31)) 3 92 := ⟨by decide +kernel, rfl⟩
theorem kX6_simulate_92 : Dk mtX6_simulate 92 (.sipush 10000) 3 95 := ⟨by decide +kernel, rfl⟩
theorem kX6_simulate_95 : Dk mtX6_simulate 95 (.aload_n 0) 1 96 := ⟨by decide +kernel, rfl⟩
theorem kX6_simulate_96 : Dk mtX6_simulate 96 (.getfield 7) 3 99 := ⟨by decide +kernel, rfl⟩
theorem kX6_simulate_99 : Dk mtX6_simulate 99 (.bipush 7) 2 101 := ⟨by decide +kernel, rfl⟩
theorem kX6_simulate_101 : Dk mtX6_simulate 101 (.iaload) 1 102 := ⟨by decide +kernel, rfl⟩
theorem kX6_simulate_102 : Dk mtX6_simulate 102 (.iload 4) 2 104 := ⟨by decide +kernel, rfl⟩
theorem kX6_simulate_104 : Dk mtX6_simulate 104 (.isub) 1 105 := ⟨by decide +kernel, rfl⟩
theorem kX6_simulate_105 : Dk mtX6_simulate 105 (.imul) 1 106 := ⟨by decide +kernel, rfl⟩
theorem kX6_simulate_106 : Dk mtX6_simulate 106 (.bipush 100) 2 108 := ⟨by decide +kernel, rfl⟩
theorem kX6_simulate_108 : Dk mtX6_simulate 108 (.aload_n 0) 1 109 := ⟨by decide +kernel, rfl⟩
theorem kX6_simulate_109 : Dk mtX6_simulate 109 (.getfield 7) 3 112 := ⟨by decide +kernel, rfl⟩
theorem kX6_simulate_112 : Dk mtX6_simulate 112 (.bipush 8) 2 114 := ⟨by decide +kernel, rfl⟩
theorem kX6_simulate_114 : Dk mtX6_simulate 114 (.iaload) 1 115 := ⟨by decide +kernel, rfl⟩
theorem kX6_simulate_115 : Dk mtX6_simulate 115 (.iload 5) 2 117 := ⟨by decide +kernel, rfl⟩
theorem kX6_simulate_117 : Dk mtX6_simulate 117 (.isub) 1 118 := ⟨by decide +kernel, rfl⟩
theorem kX6_simulate_118 : Dk mtX6_simulate 118 (.invokestatic 237) 3 121 := ⟨by decide +kernel, rfl⟩
theorem kX6_simulate_121 : Dk mtX6_simulate 121 (.imul) 1 122 := ⟨by decide +kernel, rfl⟩
theorem kX6_simulate_122 : Dk mtX6_simulate 122 (.iadd) 1 123 := ⟨by decide +kernel, rfl⟩
theorem kX6_simulate_123 : Dk mtX6_simulate 123 (.aload_n 0) 1 124 := ⟨by decide +kernel, rfl⟩
theorem kX6_simulate_124 : Dk mtX6_simulate 124 (.getfield 7) 3 127 := ⟨by decide +kernel, rfl⟩
theorem kX6_simulate_127 : Dk mtX6_simulate 127 (.bipush 10) 2 129 := ⟨by decide +kernel, rfl⟩
theorem kX6_simulate_129 : Dk mtX6_simulate 129 (.iaload) 1 130 := ⟨by decide +kernel, rfl⟩
theorem kX6_simulate_130 : Dk mtX6_simulate 130 (.iload 6) 2 132 := ⟨by decide +kernel, rfl⟩
theorem kX6_simulate_132 : Dk mtX6_simulate 132 (.isub) 1 133 := ⟨by decide +kernel, rfl⟩
theorem kX6_simulate_133 : Dk mtX6_simulate 133 (.invokestatic 237) 3 136 := ⟨by decide +kernel, rfl⟩
theorem kX6_simulate_136 : Dk mtX6_simulate 136 (.iadd) 1 137 := ⟨by decide +kernel, rfl⟩
theorem kX6_simulate_137 : Dk mtX6_simulate 137 (.istore 9) 2 139 := ⟨by decide +kernel, rfl⟩
theorem kX6_simulate_139 : Dk mtX6_simulate 139 (.aload_n 0) 1 140 := ⟨by decide +kernel, rfl⟩
theorem kX6_simulate_140 : Dk mtX6_simulate 140 (.invokevirtual 209) 3 143 := ⟨by decide +kernel, rfl⟩
theorem kX6_simulate_143 : Dk mtX6_simulate 143 (.iload 9) 2 145 := ⟨by decide +kernel, rfl⟩
theorem kX6_simulate_145 : Dk mtX6_simulate 145 (.ireturn) 1 146 := ⟨by decide +kernel, rfl⟩
theorem lmX6_237 : LkM RX6 237 mtX6_held := Or.inl (by decide +kernel)
theorem mkX6_held : MkS mtX6_held 1 := ⟨List.mem_of_getElem? (i := 1388) (by decide +kernel), by decide +kernel, by decide +kernel, ⟨by decide +kernel, by decide +kernel, by decide +kernel⟩⟩
theorem lcX6_230 : Cond.constantLong RX6 230 (6364136223846793005) ∈ lw_tbl := by decide +kernel
theorem lcX6_232 : Cond.constantLong RX6 232 (1442695040888963407) ∈ lw_tbl := by decide +kernel
theorem lmX6_234 : LkM RX6 234 mtX6_turns := Or.inl (by decide +kernel)
theorem mkX6_turns : MkV mtX6_turns 1 := ⟨List.mem_of_getElem? (i := 1385) (by decide +kernel), by decide +kernel, by decide +kernel, by decide +kernel, ⟨by decide +kernel, by decide +kernel, by decide +kernel⟩⟩
set_option maxHeartbeats 4000000 in
set_option maxRecDepth 100000 in
theorem ct_simulate {l : Launch} {w : Wd} {sg : Sg} (hWr : Wr w) {mo : Nat} (x : Int64) (a : Int32) (hI : Inv (sg (mo + 1))) : M l mtX6_simulate w [vR (some (6, 0, mo)), vL x, vI a] sg (fM mo sg (K_simulate a) (R_simulate (sg (mo + 1)) x (tn a)) (G_aside sg mo)) := by
  refine M_of [some (vR (some (6, 0, mo))), some (vL x), none, some (vI a), none, none, none, none, none, none] rfl (Nat.le_of_ble_eq_true rfl) (by decide +kernel) ?_
  intro p_ e_ s_ m_ args_ below_ meth_ c_ hC hO
  refine V_aload_n hC kX6_simulate_0 rfl ?_
  refine V_iconst hC (0) kX6_simulate_1 (by decide) ?_
  refine V_putI hC 6 0 lfX6_32 kX6_simulate_2 (Nat.le_of_ble_eq_true rfl) (Nat.le_of_ble_eq_true rfl) rfl rfl ⟨rfl, rfl⟩ ?_
  refine V_nameS (fun sg0 e_sg0 => ?_)
  have hs1 : sg0 (mo + 1) = sg (mo + 1) := by rw [e_sg0]; exact upr_ne _ _ (by omega)
  have hs2 : sg0 (mo + 2) = sg (mo + 2) := by rw [e_sg0]; exact upr_ne _ _ (by omega)
  refine V_iload_n hC kX6_simulate_5 rfl ?_
  refine V_iconst hC (1) kX6_simulate_6 (by decide) ?_
  refine V_bipush hC (60) kX6_simulate_7 (by decide) ?_
  refine V_cS_fI hC (ct_in hWr _ _ _) mkX6_in lmX6_39 kX6_simulate_9 rfl rfl (Nat.le_of_ble_eq_true rfl) ⟨(Nat.le_of_ble_eq_true rfl), (Nat.le_of_ble_eq_true rfl)⟩ ⟨rfl, rfl⟩ ⟨(Nat.le_of_ble_eq_true rfl), (Nat.le_of_ble_eq_true rfl)⟩ ?_
  refine V_if_ne hC 21 kX6_simulate_12 (by decide) (fun h12 => ?_) (fun h12 => ?_)
  · have hp := b01n.mp h12
    obtain ⟨N, hN, -, en, etn⟩ := tn60 (m := 60) rfl hp
    subst en
    refine V_aload_n hC kX6_simulate_21 rfl ?_
    refine V_cV_fV hC (ct_putAside hWr) mkX6_putAside lmX6_206 kX6_simulate_22 (Nat.le_of_ble_eq_true rfl) rfl rfl rfl (Nat.le_of_ble_eq_true rfl) ⟨(Nat.le_of_ble_eq_true rfl), (Nat.le_of_ble_eq_true rfl)⟩ ⟨rfl, rfl⟩ ⟨(Nat.le_of_ble_eq_true rfl), (Nat.le_of_ble_eq_true rfl)⟩ ?_
    have ha1 : G_aside sg0 mo (mo + 1) = sg (mo + 1) := (aside_1 sg0 mo).trans hs1
    refine V_canon (G_aside sg0 mo) (by unfold G_aside; with_reducible rfl) ?_
    refine V_aload_n hC kX6_simulate_25 rfl ?_
    refine V_getR hC hWr 6 1 lfX6_7 kX6_simulate_26 (Nat.le_of_ble_eq_true rfl) (Nat.le_of_ble_eq_true rfl) rfl ?_
    refine V_bipush hC (7) kX6_simulate_29 (by decide) ?_
    refine V_iald hC 7 rfl kX6_simulate_31 (vp_lit rfl) ?_
    refine V_nameI (fun hd e_hd => ?_)
    refine V_istore hC [some _, some _, none, some _, some _, none, none, none, none, none] kX6_simulate_32 rfl (Nat.le_of_ble_eq_true rfl) ?_
    refine V_aload_n hC kX6_simulate_34 rfl ?_
    refine V_getR hC hWr 6 1 lfX6_7 kX6_simulate_35 (Nat.le_of_ble_eq_true rfl) (Nat.le_of_ble_eq_true rfl) rfl ?_
    refine V_bipush hC (8) kX6_simulate_38 (by decide) ?_
    refine V_iald hC 8 rfl kX6_simulate_40 (vp_lit rfl) ?_
    refine V_nameI (fun bk e_bk => ?_)
    refine V_istore hC [some _, some _, none, some _, some _, some _, none, none, none, none] kX6_simulate_41 rfl (Nat.le_of_ble_eq_true rfl) ?_
    refine V_aload_n hC kX6_simulate_43 rfl ?_
    refine V_getR hC hWr 6 1 lfX6_7 kX6_simulate_44 (Nat.le_of_ble_eq_true rfl) (Nat.le_of_ble_eq_true rfl) rfl ?_
    refine V_bipush hC (10) kX6_simulate_47 (by decide) ?_
    refine V_iald hC 10 rfl kX6_simulate_49 (vp_lit rfl) ?_
    refine V_nameI (fun ls e_ls => ?_)
    refine V_istore hC [some _, some _, none, some _, some _, some _, some _, none, none, none] kX6_simulate_50 rfl (Nat.le_of_ble_eq_true rfl) ?_
    refine V_lload_n hC kX6_simulate_52 rfl ?_
    refine V_lstore hC [some _, some _, none, some _, some _, some _, some _, some _, none, none] kX6_simulate_53 rfl (Nat.le_of_ble_eq_true rfl) ?_
    refine V_iconst hC (0) kX6_simulate_55 (by decide) ?_
    refine V_istore hC [some _, some _, none, some _, some _, some _, some _, some _, none, some _] kX6_simulate_56 rfl (Nat.le_of_ble_eq_true rfl) ?_
    refine V_canon (upr (G_aside sg0 mo) (mo + 1) (F_simG (sg (mo + 1)) x 0)) (by rw [F_simG, ← ha1, upr_self]) ?_
    refine V_loop N (fun i => [some (vR (some (6, 0, mo))), some (vL x), none, some (vI (nI N)), some (vI hd), some (vI bk), some (vI ls), some (vL (F_simX x i)), none, some (vI (nI i))]) (fun i => upr (G_aside sg0 mo) (mo + 1) (F_simG (sg (mo + 1)) x i)) rfl rfl ?_ (fun i hi ihi => ?_)
    · refine V_iload hC kX6_simulate_58 rfl ?_
      refine V_iload_n hC kX6_simulate_60 rfl ?_
      refine V_icmp_ge hC 92 kX6_simulate_61 (by decide) (fun h61 => ?_) (fun h61 => absurd h61 (not_not_intro (Int32.le_refl _)))
      refine V_sipush hC (10000) kX6_simulate_92 (by decide) ?_
      refine V_aload_n hC kX6_simulate_95 rfl ?_
      refine V_getR hC hWr 6 1 lfX6_7 kX6_simulate_96 (Nat.le_of_ble_eq_true rfl) (Nat.le_of_ble_eq_true rfl) rfl ?_
      refine V_bipush hC (7) kX6_simulate_99 (by decide) ?_
      refine V_iald hC 7 rfl kX6_simulate_101 (vp_lit rfl) ?_
      refine V_iload hC kX6_simulate_102 rfl ?_
      refine V_isub hC kX6_simulate_104 ?_
      refine V_imul hC kX6_simulate_105 ?_
      refine V_bipush hC (100) kX6_simulate_106 (by decide) ?_
      refine V_aload_n hC kX6_simulate_108 rfl ?_
      refine V_getR hC hWr 6 1 lfX6_7 kX6_simulate_109 (Nat.le_of_ble_eq_true rfl) (Nat.le_of_ble_eq_true rfl) rfl ?_
      refine V_bipush hC (8) kX6_simulate_112 (by decide) ?_
      refine V_iald hC 8 rfl kX6_simulate_114 (vp_lit rfl) ?_
      refine V_iload hC kX6_simulate_115 rfl ?_
      refine V_isub hC kX6_simulate_117 ?_
      refine V_cS_fI hC (ct_held hWr _) mkX6_held lmX6_237 kX6_simulate_118 rfl rfl (Nat.le_of_ble_eq_true rfl) ⟨(Nat.le_of_ble_eq_true rfl), (Nat.le_of_ble_eq_true rfl)⟩ ⟨rfl, rfl⟩ ⟨(Nat.le_of_ble_eq_true rfl), (Nat.le_of_ble_eq_true rfl)⟩ ?_
      refine V_imul hC kX6_simulate_121 ?_
      refine V_iadd hC kX6_simulate_122 ?_
      refine V_aload_n hC kX6_simulate_123 rfl ?_
      refine V_getR hC hWr 6 1 lfX6_7 kX6_simulate_124 (Nat.le_of_ble_eq_true rfl) (Nat.le_of_ble_eq_true rfl) rfl ?_
      refine V_bipush hC (10) kX6_simulate_127 (by decide) ?_
      refine V_iald hC 10 rfl kX6_simulate_129 (vp_lit rfl) ?_
      refine V_iload hC kX6_simulate_130 rfl ?_
      refine V_isub hC kX6_simulate_132 ?_
      refine V_cS_fI hC (ct_held hWr _) mkX6_held lmX6_237 kX6_simulate_133 rfl rfl (Nat.le_of_ble_eq_true rfl) ⟨(Nat.le_of_ble_eq_true rfl), (Nat.le_of_ble_eq_true rfl)⟩ ⟨rfl, rfl⟩ ⟨(Nat.le_of_ble_eq_true rfl), (Nat.le_of_ble_eq_true rfl)⟩ ?_
      refine V_iadd hC kX6_simulate_136 ?_
      refine V_nameI (fun its e_its => ?_)
      refine V_istore hC [some _, some _, none, some _, some _, some _, some _, some _, none, some _] kX6_simulate_137 rfl (Nat.le_of_ble_eq_true rfl) ?_
      refine V_aload_n hC kX6_simulate_139 rfl ?_
      refine V_cV_fV hC (ct_takeBack hWr) mkX6_takeBack lmX6_209 kX6_simulate_140 (Nat.le_of_ble_eq_true rfl) rfl rfl rfl (Nat.le_of_ble_eq_true rfl) ⟨(Nat.le_of_ble_eq_true rfl), (Nat.le_of_ble_eq_true rfl)⟩ ⟨rfl, rfl⟩ ⟨(Nat.le_of_ble_eq_true rfl), (Nat.le_of_ble_eq_true rfl)⟩ ?_
      refine V_iload hC kX6_simulate_143 rfl ?_
      refine V_ireti hC rfl kX6_simulate_145 ?_
      refine fM_ok (by rw [K_simulate, if_pos hp]) ?_ ?_
      · rw [e_its, e_hd, e_bk, e_ls, upr_at, ha1, etn]; rfl
      · simp only [upr_at, upr_upr]
        have h2 : upr (G_aside sg0 mo) (mo + 1) (F_simG (sg (mo + 1)) x N) (mo + 2) = G_aside sg0 mo (mo + 2) := upr_ne _ _ (by omega)
        have hb : cpy (G_aside sg0 mo (mo + 2)) (F_simG (sg (mo + 1)) x N) 140 = sg (mo + 1) := by
          unfold G_aside
          rw [upr_at, hs1]
          exact back_eq (fun z hz => (Inv_simG hI x N).2 z hz)
        rw [h2, hb, ← ha1, upr_self]
        unfold G_aside
        rw [hs1, hs2, e_sg0, ups_upr _ _ _ _ (by omega)]
    · refine V_iload hC kX6_simulate_58 rfl ?_
      refine V_iload_n hC kX6_simulate_60 rfl ?_
      refine V_icmp_ge hC 92 kX6_simulate_61 (by decide) (fun h61 => absurd h61 (nI_ge hi (by omega))) (fun h61 => ?_)
      refine V_lload hC kX6_simulate_64 rfl ?_
      refine V_ldc2 hC lcX6_230 kX6_simulate_66 ?_
      refine V_lmul hC kX6_simulate_69 ?_
      refine V_ldc2 hC lcX6_232 kX6_simulate_70 ?_
      refine V_ladd hC kX6_simulate_73 ?_
      refine V_lstore hC [some _, some _, none, some _, some _, some _, some _, some _, none, some _] kX6_simulate_74 rfl (Nat.le_of_ble_eq_true rfl) ?_
      refine V_aload_n hC kX6_simulate_76 rfl ?_
      refine V_lload hC kX6_simulate_77 rfl ?_
      refine V_bipush hC (33) kX6_simulate_79 (by decide) ?_
      refine V_lushr hC kX6_simulate_81 ?_
      refine V_l2i hC kX6_simulate_82 ?_
      refine V_cV_fV hC (ct_turns hWr _ (simR_pos (F_simX x (i + 1))) (by rw [upr_at]; exact (Inv_simG hI x i).1)) mkX6_turns lmX6_234 kX6_simulate_83 (Nat.le_of_ble_eq_true rfl) rfl rfl rfl (Nat.le_of_ble_eq_true rfl) ⟨(Nat.le_of_ble_eq_true rfl), (Nat.le_of_ble_eq_true rfl)⟩ ⟨rfl, rfl⟩ ⟨(Nat.le_of_ble_eq_true rfl), (Nat.le_of_ble_eq_true rfl)⟩ ?_
      refine V_iinc hC (_ + 1) [some _, some _, none, some _, some _, some _, some _, some _, none, some _] kX6_simulate_86 rfl rfl rfl (Nat.le_of_ble_eq_true rfl) ?_
      refine V_goto hC 58 kX6_simulate_89 (by decide) ?_
      refine V_eq ?_ ?_ ihi
      · simp only [nI_succ, F_simX]
      · rw [upr_at, upr_upr]; rfl
  · refine V_aload_n hC kX6_simulate_15 rfl ?_
    refine V_iconst hC (1) kX6_simulate_16 (by decide) ?_
    refine V_cV_fI hC (ct_fails hWr 1) mkX6_fails lmX6_127 kX6_simulate_17 (Nat.le_of_ble_eq_true rfl) rfl rfl rfl (Nat.le_of_ble_eq_true rfl) ⟨(Nat.le_of_ble_eq_true rfl), (Nat.le_of_ble_eq_true rfl)⟩ ⟨rfl, rfl⟩ ⟨(Nat.le_of_ble_eq_true rfl), (Nat.le_of_ble_eq_true rfl)⟩ ?_
    refine V_ireti hC rfl kX6_simulate_20 ?_
    exact fM_no 1 (by rw [K_simulate, if_neg (b01e.mp h12)]) (by decide) (by rw [e_sg0, ups_ups])
end
section
-- HOW ct_in fI
-- HOW ct_fails fI
-- HOW ct_of fI
-- HOW ct_ofBoat fI
-- HOW ct_layBoat fV
-- HOW ct_isLight fI
-- HOW ct_isBoat fI
-- HOW ct_isPlace fI
-- HOW ct_bright fI
-- HOW ct_worth fI
-- HOW ct_serves fI
-- HOW ct_best fI
-- HOW ct_sails fV
-- HOW ct_drops fV
-- HOW ct_wished fI
-- HOW ct_hands fV
-- HOW ct_wishes fV
-- HOW ct_finds fV
-- HOW ct_goesOn fV
-- HOW ct_goesTick fV
-- HOW ct_goesBy fI
-- HOW ct_putAside fV
-- HOW ct_takeBack fV
-- HOW ct_isLamp fI
-- HOW ct_addsLight fI
-- HOW ct_actsLight fI
-- HOW ct_addsBoat fI
-- HOW ct_actsBoat fI
-- HOW ct_actsSteer fI
-- HOW ct_canTalk fI
-- HOW ct_actsTalk fI
-- HOW ct_actsLean fI
-- HOW ct_actsDim fI
-- HOW ct_mostOf fI
-- HOW ct_isSetting fI
-- HOW ct_actsSet fI
-- HOW ct_actsTicks fI
-- HOW ct_boatsThat fI
-- HOW ct_servedBy fI
-- HOW ct_begins fV
-- HOW ct_tellsAbout fI
-- HOW ct_about fM
-- HOW ct_lightOf fM
-- HOW ct_boatOf fM
-- HOW ct_brightness fM
-- HOW ct_bestAt fM
-- HOW ct_setting fM
-- HOW ct_saves fV
-- HOW ct_light fM
-- HOW ct_boat fM
-- HOW ct_steer fM
-- HOW ct_talk fM
-- HOW ct_lean fM
-- HOW ct_dim fM
-- HOW ct_set fM
-- HOW ct_ticks fM
-- HOW ct_undo fM
-- HOW ct_save fM
-- HOW ct_restore fM
-- HOW ct_bringsBy fI
-- HOW ct_ifMargin fM
-- HOW ct_held fI
-- HOW ct_room fI
-- HOW ct_dark fI
-- HOW ct_turns fV
-- HOW ct_simulate fM
-- HOW ct_border fM
-- HOW ct_handedIn fM
-- HOW ct_bestMargin fM
/-! the reference: borders, when a boat is handed on, the best margin -/
def mtX6_border : Mt := (yX6_border, cX6_border, 5, (some .int), 4, 93, 0, 0)
theorem kX6_border_0 : Dk mtX6_border 0 (.aload_n 0) 1 1 := ⟨by decide +kernel, rfl⟩
theorem kX6_border_1 : Dk mtX6_border 1 (.iconst 0) 1 2 := ⟨by decide +kernel, rfl⟩
theorem kX6_border_2 : Dk mtX6_border 2 (.putfield 32) 3 5 := ⟨by decide +kernel, rfl⟩
theorem kX6_border_5 : Dk mtX6_border 5 (.iload_n 1) 1 6 := ⟨by decide +kernel, rfl⟩
theorem kX6_border_6 : Dk mtX6_border 6 (.ifCond .ge 9) 3 9 := ⟨by decide +kernel, rfl⟩
theorem kX6_border_9 : Dk mtX6_border 9 (.aload_n 0) 1 10 := ⟨by decide +kernel, rfl⟩
theorem kX6_border_10 : Dk mtX6_border 10 (.iconst 1) 1 11 := ⟨by decide +kernel, rfl⟩
theorem kX6_border_11 : Dk mtX6_border 11 (.invokevirtual 127) 3 14 := ⟨by decide +kernel, rfl⟩
theorem kX6_border_14 : Dk mtX6_border 14 (.ireturn) 1 15 := ⟨by decide +kernel, rfl⟩
theorem kX6_border_15 : Dk mtX6_border 15 (.iload_n 1) 1 16 := ⟨by decide +kernel, rfl⟩
theorem kX6_border_16 : Dk mtX6_border 16 (.istore_n 2) 1 17 := ⟨by decide +kernel, rfl⟩
theorem kX6_border_17 : Dk mtX6_border 17 (.iconst 1) 1 18 := ⟨by decide +kernel, rfl⟩
theorem kX6_border_18 : Dk mtX6_border 18 (.istore_n 3) 1 19 := ⟨by decide +kernel, rfl⟩
theorem kX6_border_19 : Dk mtX6_border 19 (.iload_n 3) 1 20 := ⟨by decide +kernel, rfl⟩
theorem kX6_border_20 : Dk mtX6_border 20 (.sipush 200) 3 23 := ⟨by decide +kernel, rfl⟩
theorem kX6_border_23 : Dk mtX6_border 23 (.if_icmp .ge 55) 3 26 := ⟨by decide +kernel, rfl⟩
theorem kX6_border_26 : Dk mtX6_border 26 (.aload_n 0) 1 27 := ⟨by decide +kernel, rfl⟩
theorem kX6_border_27 : Dk mtX6_border 27 (.iload_n 3) 1 28 := ⟨by decide +kernel, rfl⟩
theorem kX6_border_28 : Dk mtX6_border 28 (.invokevirtual 194) 3 31 := ⟨by decide +kernel, rfl⟩
theorem kX6_border_31 : Dk mtX6_border 31 (.aload_n 0) 1 32 := ⟨by decide +kernel, rfl⟩
theorem kX6_border_32 : Dk mtX6_border 32 (.iload_n 3) 1 33 := ⟨by decide +kernel, rfl⟩
theorem kX6_border_33 : Dk mtX6_border 33 (.iconst 1) 1 34 := ⟨by decide +kernel, rfl⟩
theorem kX6_border_34 : Dk mtX6_border 34 (.isub) 1 35 := ⟨by decide +kernel, rfl⟩
theorem kX6_border_35 : Dk mtX6_border 35 (.invokevirtual 194) 3 38 := ⟨by decide +kernel, rfl⟩
theorem kX6_border_38 : Dk mtX6_border 38 (.if_icmp .eq 7) 3 41 := ⟨by decide +kernel, rfl⟩
theorem kX6_border_41 : Dk mtX6_border 41 (.iconst 1) 1 42 := ⟨by decide +kernel, rfl⟩
theorem kX6_border_42 : Dk mtX6_border 42 (.goto 4) 3 45 := ⟨by decide +kernel, rfl⟩
theorem kX6_border_45 : Dk mtX6_border 45 (.iconst 0) 1 46 := ⟨by decide +kernel, rfl⟩
theorem kX6_border_46 : Dk mtX6_border 46 (.istore 4) 2 48 := ⟨by decide +kernel, rfl⟩
theorem kX6_border_48 : Dk mtX6_border 48 (.iload 4) 2 50 := ⟨by decide +kernel, rfl⟩
theorem kX6_border_50 : Dk mtX6_border 50 (.ifCond .eq 9) 3 53 := ⟨by decide +kernel, rfl⟩
theorem kX6_border_53 : Dk mtX6_border 53 (.iload_n 2) 1 54 := ⟨by decide +kernel, rfl⟩
theorem kX6_border_54 : Dk mtX6_border 54 (.ifCond .ne 5) 3 57 := ⟨by decide +kernel, rfl⟩
theorem kX6_border_57 : Dk mtX6_border 57 (.iload_n 3) 1 58 := ⟨by decide +kernel, rfl⟩
theorem kX6_border_58 : Dk mtX6_border 58 (.ireturn) 1 59 := ⟨by decide +kernel, rfl⟩
theorem kX6_border_59 : Dk mtX6_border 59 (.iload_n 2) 1 60 := ⟨by decide +kernel, rfl⟩
theorem kX6_border_60 : Dk mtX6_border 60 (.iload 4) 2 62 := ⟨by decide +kernel, rfl⟩
theorem kX6_border_62 : Dk mtX6_border 62 (.ifCond .eq 7) 3 65 := ⟨by decide +kernel, rfl⟩
theorem kX6_border_65 : Dk mtX6_border 65 (.iconst 1) 1 66 := ⟨by decide +kernel, rfl⟩
theorem kX6_border_66 : Dk mtX6_border 66 (.goto 4) 3 69 := ⟨by decide +kernel, rfl⟩
theorem kX6_border_69 : Dk mtX6_border 69 (.iconst 0) 1 70 := ⟨by decide +kernel, rfl⟩
theorem kX6_border_70 : Dk mtX6_border 70 (.isub) 1 71 := ⟨by decide +kernel, rfl⟩
theorem kX6_border_71 : Dk mtX6_border 71 (.istore_n 2) 1 72 := ⟨by decide +kernel, rfl⟩
theorem kX6_border_72 : Dk mtX6_border 72 (.iinc 3 1) 3 75 := ⟨by decide +kernel, rfl⟩
theorem kX6_border_75 : Dk mtX6_border 75 (.goto (-56)) 3 78 := ⟨by decide +kernel, rfl⟩
theorem kX6_border_78 : Dk mtX6_border 78 (.iconst (-1)) 1 79 := ⟨by decide +kernel, rfl⟩
theorem kX6_border_79 : Dk mtX6_border 79 (.ireturn) 1 80 := ⟨by decide +kernel, rfl⟩
set_option maxHeartbeats 4000000 in
set_option maxRecDepth 100000 in
theorem ct_border {l : Launch} {w : Wd} {sg : Sg} (hWr : Wr w) {mo : Nat} (k : Int32) (hI : Inv (sg (mo + 1))) : M l mtX6_border w [vR (some (6, 0, mo)), vI k] sg (fM mo sg (K_border k) (R_border (sg (mo + 1)) k) sg) := by
  refine M_of [some (vR (some (6, 0, mo))), some (vI k), none, none, none] rfl (Nat.le_of_ble_eq_true rfl) (by decide +kernel) ?_
  intro p_ e_ s_ m_ args_ below_ meth_ c_ hC hO
  refine V_aload_n hC kX6_border_0 rfl ?_
  refine V_iconst hC (0) kX6_border_1 (by decide) ?_
  refine V_putI hC 6 0 lfX6_32 kX6_border_2 (Nat.le_of_ble_eq_true rfl) (Nat.le_of_ble_eq_true rfl) rfl rfl ⟨rfl, rfl⟩ ?_
  refine V_nameS (fun sg0 e_sg0 => ?_)
  have hs1 : sg0 (mo + 1) = sg (mo + 1) := by rw [e_sg0]; exact upr_ne _ _ (by omega)
  have hs2 : sg0 (mo + 2) = sg (mo + 2) := by rw [e_sg0]; exact upr_ne _ _ (by omega)
  refine V_iload_n hC kX6_border_5 rfl ?_
  refine V_if_ge hC 15 kX6_border_6 (by decide) (fun h6 => ?_) (fun h6 => ?_)
  · refine V_iload_n hC kX6_border_15 rfl ?_
    refine V_istore_n hC [some _, some _, some _, none, none] kX6_border_16 rfl (Nat.le_of_ble_eq_true rfl) ?_
    refine V_iconst hC (1) kX6_border_17 (by decide) ?_
    refine V_istore_n hC [some _, some _, some _, some _, none] kX6_border_18 rfl (Nat.le_of_ble_eq_true rfl) ?_
    refine V_loop (fa_first (F_bdp (sg (mo + 1)) k) 199) (fun i => [some (vR (some (6, 0, mo))), some (vI k), some (vI (F_left (sg (mo + 1)) k i)), some (vI (nI (i + 1))), none]) (fun i => sg0) rfl rfl ?_ (fun i hi ihi => ?_)
    · rcases first_dec (F_bdp (sg (mo + 1)) k) 199 with hN | ⟨hN, hq⟩
      · refine V_iload_n hC kX6_border_19 rfl ?_
        refine V_sipush hC (200) kX6_border_20 (by decide) ?_
        refine V_icmp_ge hC 78 kX6_border_23 (by decide) (fun h23 => ?_) (fun h23 => absurd h23 (not_not_intro (by rw [hN]; exact nI_lit rfl)))
        refine V_iconst hC (-1) kX6_border_78 (by decide) ?_
        refine V_ireti hC rfl kX6_border_79 ?_
        exact fM_ok (by rw [K_border, if_neg (Int32.not_lt.mpr h6)]) (by rw [R_border, if_neg (by omega)]) e_sg0
      · refine V_iload_n hC kX6_border_19 rfl ?_
        refine V_sipush hC (200) kX6_border_20 (by decide) ?_
        refine V_icmp_ge hC 78 kX6_border_23 (by decide) (fun h23 => absurd h23 (by exact nI_ge (a := fa_first (F_bdp (sg (mo + 1)) k) 199 + 1) (b := 200) (by omega) (by decide))) (fun h23 => ?_)
        refine V_join 46 (F_bd (sg (mo + 1)) (fa_first (F_bdp (sg (mo + 1)) k) 199)) ?_ (fun j46 => ?_)
        · have hyes := of_decide_eq_true hq
          refine V_nameI (fun is1 e_is1 => ?_)
          refine V_istore hC [some _, some _, some _, some _, some _] kX6_border_46 rfl (Nat.le_of_ble_eq_true rfl) ?_
          refine V_iload hC kX6_border_48 rfl ?_
          refine V_if_eq hC 59 kX6_border_50 (by decide) (fun h50 => absurd h50 (by rw [e_is1]; exact hyes.1)) (fun h50 => ?_)
          refine V_iload_n hC kX6_border_53 rfl ?_
          refine V_if_ne hC 59 kX6_border_54 (by decide) (fun h54 => absurd h54 (not_not_intro hyes.2)) (fun h54 => ?_)
          refine V_iload_n hC kX6_border_57 rfl ?_
          refine V_ireti hC rfl kX6_border_58 ?_
          exact fM_ok (by rw [K_border, if_neg (Int32.not_lt.mpr h6)]) (by rw [R_border, if_pos hN]) e_sg0
        · refine V_aload_n hC kX6_border_26 rfl ?_
          refine V_iload_n hC kX6_border_27 rfl ?_
          refine V_cV_fI hC (ct_best hWr _ (by rw [hs1]; exact hI.hc4) (fun n hn => by rw [hs1] at hn ⊢; exact hI.ne hn)) mkX6_best lmX6_194 kX6_border_28 (Nat.le_of_ble_eq_true rfl) rfl rfl rfl (Nat.le_of_ble_eq_true rfl) ⟨(Nat.le_of_ble_eq_true rfl), (Nat.le_of_ble_eq_true rfl)⟩ ⟨rfl, rfl⟩ ⟨(Nat.le_of_ble_eq_true rfl), (Nat.le_of_ble_eq_true rfl)⟩ ?_
          refine V_aload_n hC kX6_border_31 rfl ?_
          refine V_iload_n hC kX6_border_32 rfl ?_
          refine V_iconst hC (1) kX6_border_33 (by decide) ?_
          refine V_isub hC kX6_border_34 ?_
          refine V_cV_fI hC (ct_best hWr _ (by rw [hs1]; exact hI.hc4) (fun n hn => by rw [hs1] at hn ⊢; exact hI.ne hn)) mkX6_best lmX6_194 kX6_border_35 (Nat.le_of_ble_eq_true rfl) rfl rfl rfl (Nat.le_of_ble_eq_true rfl) ⟨(Nat.le_of_ble_eq_true rfl), (Nat.le_of_ble_eq_true rfl)⟩ ⟨rfl, rfl⟩ ⟨(Nat.le_of_ble_eq_true rfl), (Nat.le_of_ble_eq_true rfl)⟩ ?_
          refine V_icmp_eq hC 45 kX6_border_38 (by decide) (fun h38 => ?_) (fun h38 => ?_)
          · refine V_iconst hC (0) kX6_border_45 (by decide) ?_
            exact j46 _ ((by rw [hs1, nI_pred] at h38; exact (b01_f (not_not_intro h38)).symm))
          · refine V_iconst hC (1) kX6_border_41 (by decide) ?_
            refine V_goto hC 46 kX6_border_42 (by decide) ?_
            exact j46 _ ((by rw [hs1, nI_pred] at h38; exact (b01_t h38).symm))
    · have hno : ¬ (¬ F_bd (sg (mo + 1)) i = 0 ∧ F_left (sg (mo + 1)) k i = 0) := of_decide_eq_false (fa_first_no _ _ _ hi)
      have hi9 : i < 199 := Nat.lt_of_lt_of_le hi (fa_first_le _ _)
      refine V_iload_n hC kX6_border_19 rfl ?_
      refine V_sipush hC (200) kX6_border_20 (by decide) ?_
      refine V_icmp_ge hC 78 kX6_border_23 (by decide) (fun h23 => absurd h23 (by exact nI_ge (a := i + 1) (b := 200) (by omega) (by decide))) (fun h23 => ?_)
      refine V_join 46 (F_bd (sg (mo + 1)) i) ?_ (fun j46 => ?_)
      · refine V_nameI (fun is1 e_is1 => ?_)
        refine V_istore hC [some _, some _, some _, some _, some _] kX6_border_46 rfl (Nat.le_of_ble_eq_true rfl) ?_
        refine V_iload hC kX6_border_48 rfl ?_
        refine V_if_eq hC 59 kX6_border_50 (by decide) (fun h50 => ?_) (fun h50 => ?_)
        · refine V_iload_n hC kX6_border_59 rfl ?_
          refine V_join 70 (is1) ?_ (fun j70 => ?_)
          · refine V_isub hC kX6_border_70 ?_
            refine V_istore_n hC [some _, some _, some _, some _, some _] kX6_border_71 rfl (Nat.le_of_ble_eq_true rfl) ?_
            refine V_iinc hC (_ + 1) [some _, some _, some _, some _, some _] kX6_border_72 rfl rfl rfl (Nat.le_of_ble_eq_true rfl) ?_
            refine V_goto hC 19 kX6_border_75 (by decide) ?_
            refine V_drop 4 [_, _, _, _, none] rfl ?_
            refine V_eq ?_ rfl ihi
            subst e_is1
            simp only [F_left, nI_succ]
          · refine V_iload hC kX6_border_60 rfl ?_
            refine V_if_eq hC 69 kX6_border_62 (by decide) (fun h62 => ?_) (fun h62 => ?_)
            · refine V_iconst hC (0) kX6_border_69 (by decide) ?_
              exact j70 _ (h62.symm)
            · refine V_iconst hC (1) kX6_border_65 (by decide) ?_
              refine V_goto hC 70 kX6_border_66 (by decide) ?_
              exact j70 _ (b01_1 (show is1 = b01 _ from e_is1) h62)
        · refine V_iload_n hC kX6_border_53 rfl ?_
          refine V_if_ne hC 59 kX6_border_54 (by decide) (fun h54 => ?_) (fun h54 => absurd h54 (fun z => hno ⟨e_is1 ▸ h50, z⟩))
          refine V_iload_n hC kX6_border_59 rfl ?_
          refine V_join 70 (is1) ?_ (fun j70 => ?_)
          · refine V_isub hC kX6_border_70 ?_
            refine V_istore_n hC [some _, some _, some _, some _, some _] kX6_border_71 rfl (Nat.le_of_ble_eq_true rfl) ?_
            refine V_iinc hC (_ + 1) [some _, some _, some _, some _, some _] kX6_border_72 rfl rfl rfl (Nat.le_of_ble_eq_true rfl) ?_
            refine V_goto hC 19 kX6_border_75 (by decide) ?_
            refine V_drop 4 [_, _, _, _, none] rfl ?_
            refine V_eq ?_ rfl ihi
            subst e_is1
            simp only [F_left, nI_succ]
          · refine V_iload hC kX6_border_60 rfl ?_
            refine V_if_eq hC 69 kX6_border_62 (by decide) (fun h62 => ?_) (fun h62 => ?_)
            · refine V_iconst hC (0) kX6_border_69 (by decide) ?_
              exact j70 _ (h62.symm)
            · refine V_iconst hC (1) kX6_border_65 (by decide) ?_
              refine V_goto hC 70 kX6_border_66 (by decide) ?_
              exact j70 _ (b01_1 (show is1 = b01 _ from e_is1) h62)
      · refine V_aload_n hC kX6_border_26 rfl ?_
        refine V_iload_n hC kX6_border_27 rfl ?_
        refine V_cV_fI hC (ct_best hWr _ (by rw [hs1]; exact hI.hc4) (fun n hn => by rw [hs1] at hn ⊢; exact hI.ne hn)) mkX6_best lmX6_194 kX6_border_28 (Nat.le_of_ble_eq_true rfl) rfl rfl rfl (Nat.le_of_ble_eq_true rfl) ⟨(Nat.le_of_ble_eq_true rfl), (Nat.le_of_ble_eq_true rfl)⟩ ⟨rfl, rfl⟩ ⟨(Nat.le_of_ble_eq_true rfl), (Nat.le_of_ble_eq_true rfl)⟩ ?_
        refine V_aload_n hC kX6_border_31 rfl ?_
        refine V_iload_n hC kX6_border_32 rfl ?_
        refine V_iconst hC (1) kX6_border_33 (by decide) ?_
        refine V_isub hC kX6_border_34 ?_
        refine V_cV_fI hC (ct_best hWr _ (by rw [hs1]; exact hI.hc4) (fun n hn => by rw [hs1] at hn ⊢; exact hI.ne hn)) mkX6_best lmX6_194 kX6_border_35 (Nat.le_of_ble_eq_true rfl) rfl rfl rfl (Nat.le_of_ble_eq_true rfl) ⟨(Nat.le_of_ble_eq_true rfl), (Nat.le_of_ble_eq_true rfl)⟩ ⟨rfl, rfl⟩ ⟨(Nat.le_of_ble_eq_true rfl), (Nat.le_of_ble_eq_true rfl)⟩ ?_
        refine V_icmp_eq hC 45 kX6_border_38 (by decide) (fun h38 => ?_) (fun h38 => ?_)
        · refine V_iconst hC (0) kX6_border_45 (by decide) ?_
          exact j46 _ ((by rw [hs1, nI_pred] at h38; exact (b01_f (not_not_intro h38)).symm))
        · refine V_iconst hC (1) kX6_border_41 (by decide) ?_
          refine V_goto hC 46 kX6_border_42 (by decide) ?_
          exact j46 _ ((by rw [hs1, nI_pred] at h38; exact (b01_t h38).symm))
  · refine V_aload_n hC kX6_border_9 rfl ?_
    refine V_iconst hC (1) kX6_border_10 (by decide) ?_
    refine V_cV_fI hC (ct_fails hWr 1) mkX6_fails lmX6_127 kX6_border_11 (Nat.le_of_ble_eq_true rfl) rfl rfl rfl (Nat.le_of_ble_eq_true rfl) ⟨(Nat.le_of_ble_eq_true rfl), (Nat.le_of_ble_eq_true rfl)⟩ ⟨rfl, rfl⟩ ⟨(Nat.le_of_ble_eq_true rfl), (Nat.le_of_ble_eq_true rfl)⟩ ?_
    refine V_ireti hC rfl kX6_border_14 ?_
    exact fM_no 1 (by rw [K_border, if_pos (Int32.not_le.mp h6)]) (by decide) (by rw [e_sg0, ups_ups])
def mtX6_handedIn : Mt := (yX6_handedIn, cX6_handedIn, 7, (some .int), 7, 162, 0, 0)
theorem kX6_handedIn_0 : Dk mtX6_handedIn 0 (.aload_n 0) 1 1 := ⟨by decide +kernel, rfl⟩
theorem kX6_handedIn_1 : Dk mtX6_handedIn 1 (.iconst 0) 1 2 := ⟨by decide +kernel, rfl⟩
theorem kX6_handedIn_2 : Dk mtX6_handedIn 2 (.putfield 32) 3 5 := ⟨by decide +kernel, rfl⟩
theorem kX6_handedIn_5 : Dk mtX6_handedIn 5 (.aload_n 0) 1 6 := ⟨by decide +kernel, rfl⟩
theorem kX6_handedIn_6 : Dk mtX6_handedIn 6 (.iload_n 1) 1 7 := ⟨by decide +kernel, rfl⟩
theorem kX6_handedIn_7 : Dk mtX6_handedIn 7 (.invokevirtual 108) 3 10 := ⟨by decide +kernel, rfl⟩
theorem kX6_handedIn_10 : Dk mtX6_handedIn 10 (.ifCond .ne 9) 3 13 := ⟨by decide +kernel, rfl⟩
theorem kX6_handedIn_13 : Dk mtX6_handedIn 13 (.aload_n 0) 1 14 := ⟨by decide +kernel, rfl⟩
theorem kX6_handedIn_14 : Dk mtX6_handedIn 14 (.iconst 1) 1 15 := ⟨by decide +kernel, rfl⟩
theorem kX6_handedIn_15 : Dk mtX6_handedIn 15 (.invokevirtual 127) 3 18 := ⟨by decide +kernel, rfl⟩
theorem kX6_handedIn_18 : Dk mtX6_handedIn 18 (.ireturn) 1 19 := ⟨by decide +kernel, rfl⟩
theorem kX6_handedIn_19 : Dk mtX6_handedIn 19 (.iload_n 2) 1 20 := ⟨by decide +kernel, rfl⟩
theorem kX6_handedIn_20 : Dk mtX6_handedIn 20 (.iconst 0) 1 21 := ⟨by decide +kernel, rfl⟩
theorem kX6_handedIn_21 : Dk mtX6_handedIn 21 (.iconst 2) 1 22 := ⟨by decide +kernel, rfl⟩
theorem kX6_handedIn_22 : Dk mtX6_handedIn 22 (.invokestatic 39) 3 25 := ⟨by decide +kernel, rfl⟩
theorem kX6_handedIn_25 : Dk mtX6_handedIn 25 (.ifCond .ne 9) 3 28 := ⟨by decide +kernel, rfl⟩
theorem kX6_handedIn_28 : Dk mtX6_handedIn 28 (.aload_n 0) 1 29 := ⟨by decide +kernel, rfl⟩
theorem kX6_handedIn_29 : Dk mtX6_handedIn 29 (.iconst 2) 1 30 := ⟨by decide +kernel, rfl⟩
theorem kX6_handedIn_30 : Dk mtX6_handedIn 30 (.invokevirtual 127) 3 33 := ⟨by decide +kernel, rfl⟩
theorem kX6_handedIn_33 : Dk mtX6_handedIn 33 (.ireturn) 1 34 := ⟨by decide +kernel, rfl⟩
theorem kX6_handedIn_34 : Dk mtX6_handedIn 34 (.aload_n 0) 1 35 := ⟨by decide +kernel, rfl⟩
theorem kX6_handedIn_35 : Dk mtX6_handedIn 35 (.invokevirtual 206) 3 38 := ⟨by decide +kernel, rfl⟩
theorem kX6_handedIn_38 : Dk mtX6_handedIn 38 (.aload_n 0) 1 39 := ⟨by decide +kernel, rfl⟩
theorem kX6_handedIn_39 : Dk mtX6_handedIn 39 (.iload_n 1) 1 40 := ⟨by decide +kernel, rfl⟩
theorem kX6_handedIn_40 : Dk mtX6_handedIn 40 (.bipush 7) 2 42 := ⟨by decide +kernel, rfl⟩
theorem kX6_handedIn_42 : Dk mtX6_handedIn 42 (.invokevirtual 53) 3 45 := ⟨by decide +kernel, rfl⟩
theorem kX6_handedIn_45 : Dk mtX6_handedIn 45 (.istore_n 3) 1 46 := ⟨by decide +kernel, rfl⟩
theorem kX6_handedIn_46 : Dk mtX6_handedIn 46 (.iconst 0) 1 47 := ⟨by decide +kernel, rfl⟩
theorem kX6_handedIn_47 : Dk mtX6_handedIn 47 (.istore 4) 2 49 := ⟨by decide +kernel, rfl⟩
theorem kX6_handedIn_49 : Dk mtX6_handedIn 49 (.iload 4) 2 51 := ⟨by decide +kernel, rfl⟩
theorem kX6_handedIn_51 : Dk mtX6_handedIn 51 (.sipush 200) 3 54 := ⟨by decide +kernel, rfl⟩
theorem kX6_handedIn_54 : Dk mtX6_handedIn 54 (.if_icmp .ge 24) 3 57 := ⟨by decide +kernel, rfl⟩
theorem kX6_handedIn_57 : Dk mtX6_handedIn 57 (.aload_n 0) 1 58 := ⟨by decide +kernel, rfl⟩
theorem kX6_handedIn_58 : Dk mtX6_handedIn 58 (.iload_n 1) 1 59 := ⟨by decide +kernel, rfl⟩
theorem kX6_handedIn_59 : Dk mtX6_handedIn 59 (.bipush 7) 2 61 := ⟨by decide +kernel, rfl⟩
theorem kX6_handedIn_61 : Dk mtX6_handedIn 61 (.invokevirtual 53) 3 64 := ⟨by decide +kernel, rfl⟩
theorem kX6_handedIn_64 : Dk mtX6_handedIn 64 (.iload_n 3) 1 65 := ⟨by decide +kernel, rfl⟩
theorem kX6_handedIn_65 : Dk mtX6_handedIn 65 (.if_icmp .ne 13) 3 68 := ⟨by decide +kernel, rfl⟩
theorem kX6_handedIn_68 : Dk mtX6_handedIn 68 (.aload_n 0) 1 69 := ⟨by decide +kernel, rfl⟩
theorem kX6_handedIn_69 : Dk mtX6_handedIn 69 (.invokevirtual 94) 3 72 := ⟨by decide +kernel, rfl⟩
theorem kX6_handedIn_72 : Dk mtX6_handedIn 72 (.iinc 4 1) 3 75 := ⟨by decide +kernel, rfl⟩
theorem kX6_handedIn_75 : Dk mtX6_handedIn 75 (.goto (-26)) 3 78 := ⟨by decide +kernel, rfl⟩
theorem kX6_handedIn_78 : Dk mtX6_handedIn 78 (.aload_n 0) 1 79 := ⟨by decide +kernel, rfl⟩
theorem kX6_handedIn_79 : Dk mtX6_handedIn 79 (.iload_n 1) 1 80 := ⟨by decide +kernel, rfl⟩
theorem kX6_handedIn_80 : Dk mtX6_handedIn 80 (.bipush 7) 2 82 := ⟨by decide +kernel, rfl⟩
theorem kX6_handedIn_82 : Dk mtX6_handedIn 82 (.invokevirtual 53) 3 85 := ⟨by decide +kernel, rfl⟩
theorem kX6_handedIn_85 : Dk mtX6_handedIn 85 (.iload_n 3) 1 86 := ⟨by decide +kernel, rfl⟩
theorem kX6_handedIn_86 : Dk mtX6_handedIn 86 (.if_icmp .le 7) 3 89 := ⟨by decide +kernel, rfl⟩
theorem kX6_handedIn_89 : Dk mtX6_handedIn 89 (.iconst 1) 1 90 := ⟨by decide +kernel, rfl⟩
theorem kX6_handedIn_90 : Dk mtX6_handedIn 90 (.goto 4) 3 93 := ⟨by decide +kernel, rfl⟩
theorem kX6_handedIn_93 : Dk mtX6_handedIn 93 (.iconst 0) 1 94 := ⟨by decide +kernel, rfl⟩
theorem kX6_handedIn_94 : Dk mtX6_handedIn 94 (.istore 5) 2 96 := ⟨by decide +kernel, rfl⟩
theorem kX6_handedIn_96 : Dk mtX6_handedIn 96 (.iload 5) 2 98 := ⟨by decide +kernel, rfl⟩
theorem kX6_handedIn_98 : Dk mtX6_handedIn 98 (.ifCond .ne 7) 3 101 := ⟨by decide +kernel, rfl⟩
theorem kX6_handedIn_101 : Dk mtX6_handedIn 101 (.iconst (-1)) 1 102 := ⟨by decide +kernel, rfl⟩
theorem kX6_handedIn_102 : Dk mtX6_handedIn 102 (.goto 34) 3 105 := ⟨by decide +kernel, rfl⟩
theorem kX6_handedIn_105 : Dk mtX6_handedIn 105 (.iload_n 2) 1 106 := ⟨by decide +kernel, rfl⟩
theorem kX6_handedIn_106 : Dk mtX6_handedIn 106 (.ifCond .ne 8) 3 109 := ⟨by decide +kernel, rfl⟩
theorem kX6_handedIn_109 : Dk mtX6_handedIn 109 (.iload 4) 2 111 := ⟨by decide +kernel, rfl⟩
theorem kX6_handedIn_111 : Dk mtX6_handedIn 111 (.goto 25) 3 114 := ⟨by decide +kernel, rfl⟩
theorem kX6_handedIn_114 : Dk mtX6_handedIn 114 (.iload_n 2) 1 115 := ⟨by decide +kernel, rfl⟩
theorem kX6_handedIn_115 : Dk mtX6_handedIn 115 (.iconst 1) 1 116 := ⟨by decide +kernel, rfl⟩
theorem kX6_handedIn_116 : Dk mtX6_handedIn 116 (.if_icmp .ne 14) 3 119 := ⟨by decide +kernel, rfl⟩
theorem kX6_handedIn_119 : Dk mtX6_handedIn 119 (.aload_n 0) 1 120 := ⟨by decide +kernel, rfl⟩
theorem kX6_handedIn_120 : Dk mtX6_handedIn 120 (.iload_n 1) 1 121 := ⟨by decide +kernel, rfl⟩
theorem kX6_handedIn_121 : Dk mtX6_handedIn 121 (.iconst 2) 1 122 := ⟨by decide +kernel, rfl⟩
theorem kX6_handedIn_122 : Dk mtX6_handedIn 122 (.invokevirtual 53) 3 125 := ⟨by decide +kernel, rfl⟩
theorem kX6_handedIn_125 : Dk mtX6_handedIn 125 (.iconst 1) 1 126 := ⟨by decide +kernel, rfl⟩
theorem kX6_handedIn_126 : Dk mtX6_handedIn 126 (.isub) 1 127 := ⟨by decide +kernel, rfl⟩
theorem kX6_handedIn_127 : Dk mtX6_handedIn 127 (.goto 9) 3 130 := ⟨by decide +kernel, rfl⟩
theorem kX6_handedIn_130 : Dk mtX6_handedIn 130 (.aload_n 0) 1 131 := ⟨by decide +kernel, rfl⟩
theorem kX6_handedIn_131 : Dk mtX6_handedIn 131 (.iload_n 1) 1 132 := ⟨by decide +kernel, rfl⟩
theorem kX6_handedIn_132 : Dk mtX6_handedIn 132 (.iconst 0) 1 133 := ⟨by decide +kernel, rfl⟩
theorem kX6_handedIn_133 : Dk mtX6_handedIn 133 (.invokevirtual 53) 3 136 := ⟨by decide +kernel, rfl⟩
theorem kX6_handedIn_136 : Dk mtX6_handedIn 136 (.istore 6) 2 138 := ⟨by decide +kernel, rfl⟩
theorem kX6_handedIn_138 : Dk mtX6_handedIn 138 (.aload_n 0) 1 139 := ⟨by decide +kernel, rfl⟩
theorem kX6_handedIn_139 : Dk mtX6_handedIn 139 (.invokevirtual 209) 3 142 := ⟨by decide +kernel, rfl⟩
theorem kX6_handedIn_142 : Dk mtX6_handedIn 142 (.iload 6) 2 144 := ⟨by decide +kernel, rfl⟩
theorem kX6_handedIn_144 : Dk mtX6_handedIn 144 (.ireturn) 1 145 := ⟨by decide +kernel, rfl⟩
set_option maxHeartbeats 4000000 in
set_option maxRecDepth 100000 in
theorem ct_handedIn {l : Launch} {w : Wd} {sg : Sg} (hWr : Wr w) {mo : Nat} (b a : Int32) (hI : Inv (sg (mo + 1))) : M l mtX6_handedIn w [vR (some (6, 0, mo)), vI b, vI a] sg (fM mo sg (K_handedIn (sg (mo + 1)) b a) (R_handedIn (sg (mo + 1)) b a) (G_aside sg mo)) := by
  refine M_of [some (vR (some (6, 0, mo))), some (vI b), some (vI a), none, none, none, none] rfl (Nat.le_of_ble_eq_true rfl) (by decide +kernel) ?_
  intro p_ e_ s_ m_ args_ below_ meth_ c_ hC hO
  refine V_aload_n hC kX6_handedIn_0 rfl ?_
  refine V_iconst hC (0) kX6_handedIn_1 (by decide) ?_
  refine V_putI hC 6 0 lfX6_32 kX6_handedIn_2 (Nat.le_of_ble_eq_true rfl) (Nat.le_of_ble_eq_true rfl) rfl rfl ⟨rfl, rfl⟩ ?_
  refine V_nameS (fun sg0 e_sg0 => ?_)
  have hs1 : sg0 (mo + 1) = sg (mo + 1) := by rw [e_sg0]; exact upr_ne _ _ (by omega)
  have hs2 : sg0 (mo + 2) = sg (mo + 2) := by rw [e_sg0]; exact upr_ne _ _ (by omega)
  refine V_aload_n hC kX6_handedIn_5 rfl ?_
  refine V_iload_n hC kX6_handedIn_6 rfl ?_
  refine V_cV_fI hC (ct_isBoat hWr b) mkX6_isBoat lmX6_108 kX6_handedIn_7 (Nat.le_of_ble_eq_true rfl) rfl rfl rfl (Nat.le_of_ble_eq_true rfl) ⟨(Nat.le_of_ble_eq_true rfl), (Nat.le_of_ble_eq_true rfl)⟩ ⟨rfl, rfl⟩ ⟨(Nat.le_of_ble_eq_true rfl), (Nat.le_of_ble_eq_true rfl)⟩ ?_
  refine V_if_ne hC 19 kX6_handedIn_10 (by decide) (fun h10 => ?_) (fun h10 => ?_)
  · refine V_iload_n hC kX6_handedIn_19 rfl ?_
    refine V_iconst hC (0) kX6_handedIn_20 (by decide) ?_
    refine V_iconst hC (2) kX6_handedIn_21 (by decide) ?_
    refine V_cS_fI hC (ct_in hWr _ _ _) mkX6_in lmX6_39 kX6_handedIn_22 rfl rfl (Nat.le_of_ble_eq_true rfl) ⟨(Nat.le_of_ble_eq_true rfl), (Nat.le_of_ble_eq_true rfl)⟩ ⟨rfl, rfl⟩ ⟨(Nat.le_of_ble_eq_true rfl), (Nat.le_of_ble_eq_true rfl)⟩ ?_
    refine V_if_ne hC 34 kX6_handedIn_25 (by decide) (fun h25 => ?_) (fun h25 => ?_)
    · have hb := b01n.mp (hs1 ▸ h10)
      have hb8 := vpB hI.hc5 hb
      have hw := b01n.mp h25
      refine V_aload_n hC kX6_handedIn_34 rfl ?_
      refine V_cV_fV hC (ct_putAside hWr) mkX6_putAside lmX6_206 kX6_handedIn_35 (Nat.le_of_ble_eq_true rfl) rfl rfl rfl (Nat.le_of_ble_eq_true rfl) ⟨(Nat.le_of_ble_eq_true rfl), (Nat.le_of_ble_eq_true rfl)⟩ ⟨rfl, rfl⟩ ⟨(Nat.le_of_ble_eq_true rfl), (Nat.le_of_ble_eq_true rfl)⟩ ?_
      have ha1 : G_aside sg0 mo (mo + 1) = sg (mo + 1) := (aside_1 sg0 mo).trans hs1
      refine V_canon (G_aside sg0 mo) (by unfold G_aside; with_reducible rfl) ?_
      refine V_aload_n hC kX6_handedIn_38 rfl ?_
      refine V_iload_n hC kX6_handedIn_39 rfl ?_
      refine V_bipush hC (7) kX6_handedIn_40 (by decide) ?_
      refine V_cV_fI hC (ct_ofBoat hWr b 7 hb8 (vp_lit rfl)) mkX6_ofBoat lmX6_53 kX6_handedIn_42 (Nat.le_of_ble_eq_true rfl) rfl rfl rfl (Nat.le_of_ble_eq_true rfl) ⟨(Nat.le_of_ble_eq_true rfl), (Nat.le_of_ble_eq_true rfl)⟩ ⟨rfl, rfl⟩ ⟨(Nat.le_of_ble_eq_true rfl), (Nat.le_of_ble_eq_true rfl)⟩ ?_
      refine V_nameI (fun often e_often => ?_)
      refine V_istore_n hC [some _, some _, some _, some _, none, none, none] kX6_handedIn_45 rfl (Nat.le_of_ble_eq_true rfl) ?_
      rw [ha1] at e_often
      refine V_iconst hC (0) kX6_handedIn_46 (by decide) ?_
      refine V_istore hC [some _, some _, some _, some _, some _, none, none] kX6_handedIn_47 rfl (Nat.le_of_ble_eq_true rfl) ?_
      refine V_canon (upr (G_aside sg0 mo) (mo + 1) (F_ticks (sg (mo + 1)) 0)) (by rw [F_ticks, ← ha1, upr_self]) ?_
      refine V_loop (F_hN (sg (mo + 1)) b) (fun i => [some (vR (some (6, 0, mo))), some (vI b), some (vI a), some (vI often), some (vI (nI i)), none, none]) (fun i => upr (G_aside sg0 mo) (mo + 1) (F_ticks (sg (mo + 1)) i)) rfl rfl ?_ (fun i hi ihi => ?_)
      · rcases first_dec (F_hp (sg (mo + 1)) b) 200 with hN | ⟨hN, hq⟩
        · refine V_iload hC kX6_handedIn_49 rfl ?_
          refine V_sipush hC (200) kX6_handedIn_51 (by decide) ?_
          refine V_icmp_ge hC 78 kX6_handedIn_54 (by decide) (fun h54 => ?_) (fun h54 => absurd h54 (not_not_intro (by rw [show F_hN (sg (mo + 1)) b = 200 from hN]; exact nI_lit rfl)))
          refine V_join 94 (b01 (gB (sg (mo + 1)) b 7 < gB (F_ticks (sg (mo + 1)) (F_hN (sg (mo + 1)) b)) b 7)) ?_ (fun j94 => ?_)
          · refine V_nameI (fun is1 e_is1 => ?_)
            refine V_istore hC [some _, some _, some _, some _, some _, some _, none] kX6_handedIn_94 rfl (Nat.le_of_ble_eq_true rfl) ?_
            refine V_join 136 (R_handedIn (sg (mo + 1)) b a) ?_ (fun j136 => ?_)
            · refine V_nameI (fun its e_its => ?_)
              refine V_istore hC [some _, some _, some _, some _, some _, some _, some _] kX6_handedIn_136 rfl (Nat.le_of_ble_eq_true rfl) ?_
              refine V_aload_n hC kX6_handedIn_138 rfl ?_
              refine V_cV_fV hC (ct_takeBack hWr) mkX6_takeBack lmX6_209 kX6_handedIn_139 (Nat.le_of_ble_eq_true rfl) rfl rfl rfl (Nat.le_of_ble_eq_true rfl) ⟨(Nat.le_of_ble_eq_true rfl), (Nat.le_of_ble_eq_true rfl)⟩ ⟨rfl, rfl⟩ ⟨(Nat.le_of_ble_eq_true rfl), (Nat.le_of_ble_eq_true rfl)⟩ ?_
              refine V_iload hC kX6_handedIn_142 rfl ?_
              refine V_ireti hC rfl kX6_handedIn_144 ?_
              refine fM_ok (by rw [K_handedIn, if_pos hb, if_pos hw]) e_its ?_
              simp only [upr_at, upr_upr]
              have h2 : upr (G_aside sg0 mo) (mo + 1) (F_ticks (sg (mo + 1)) (F_hN (sg (mo + 1)) b)) (mo + 2) = G_aside sg0 mo (mo + 2) := upr_ne _ _ (by omega)
              have hb2 : cpy (G_aside sg0 mo (mo + 2)) (F_ticks (sg (mo + 1)) (F_hN (sg (mo + 1)) b)) 140 = sg (mo + 1) := by
                unfold G_aside
                rw [upr_at, hs1]
                exact back_eq (fun z hz => (Inv_ticks hI _).2 z (lo140 hz))
              rw [h2, hb2, ← ha1, upr_self]
              unfold G_aside
              rw [hs1, hs2, e_sg0, ups_upr _ _ _ _ (by omega)]
            · refine V_iload hC kX6_handedIn_96 rfl ?_
              refine V_if_ne hC 105 kX6_handedIn_98 (by decide) (fun h98 => ?_) (fun h98 => ?_)
              · refine V_iload_n hC kX6_handedIn_105 rfl ?_
                refine V_if_ne hC 114 kX6_handedIn_106 (by decide) (fun h106 => ?_) (fun h106 => ?_)
                · refine V_iload_n hC kX6_handedIn_114 rfl ?_
                  refine V_iconst hC (1) kX6_handedIn_115 (by decide) ?_
                  refine V_icmp_ne hC 130 kX6_handedIn_116 (by decide) (fun h116 => ?_) (fun h116 => ?_)
                  · refine V_aload_n hC kX6_handedIn_130 rfl ?_
                    refine V_iload_n hC kX6_handedIn_131 rfl ?_
                    refine V_iconst hC (0) kX6_handedIn_132 (by decide) ?_
                    refine V_cV_fI hC (ct_ofBoat hWr b 0 hb8 (vp_lit rfl)) mkX6_ofBoat lmX6_53 kX6_handedIn_133 (Nat.le_of_ble_eq_true rfl) rfl rfl rfl (Nat.le_of_ble_eq_true rfl) ⟨(Nat.le_of_ble_eq_true rfl), (Nat.le_of_ble_eq_true rfl)⟩ ⟨rfl, rfl⟩ ⟨(Nat.le_of_ble_eq_true rfl), (Nat.le_of_ble_eq_true rfl)⟩ ?_
                    exact j136 _ ((by rw [upr_at, R_handedIn, if_pos (b1_of e_is1 h98), if_neg h106, if_neg h116]))
                  · refine V_aload_n hC kX6_handedIn_119 rfl ?_
                    refine V_iload_n hC kX6_handedIn_120 rfl ?_
                    refine V_iconst hC (2) kX6_handedIn_121 (by decide) ?_
                    refine V_cV_fI hC (ct_ofBoat hWr b 2 hb8 (vp_lit rfl)) mkX6_ofBoat lmX6_53 kX6_handedIn_122 (Nat.le_of_ble_eq_true rfl) rfl rfl rfl (Nat.le_of_ble_eq_true rfl) ⟨(Nat.le_of_ble_eq_true rfl), (Nat.le_of_ble_eq_true rfl)⟩ ⟨rfl, rfl⟩ ⟨(Nat.le_of_ble_eq_true rfl), (Nat.le_of_ble_eq_true rfl)⟩ ?_
                    refine V_iconst hC (1) kX6_handedIn_125 (by decide) ?_
                    refine V_isub hC kX6_handedIn_126 ?_
                    refine V_goto hC 136 kX6_handedIn_127 (by decide) ?_
                    exact j136 _ ((by rw [upr_at, R_handedIn, if_pos (b1_of e_is1 h98), if_neg h106, if_pos h116]))
                · refine V_iload hC kX6_handedIn_109 rfl ?_
                  refine V_goto hC 136 kX6_handedIn_111 (by decide) ?_
                  exact j136 _ ((by rw [R_handedIn, if_pos (b1_of e_is1 h98), if_pos h106]))
              · refine V_iconst hC (-1) kX6_handedIn_101 (by decide) ?_
                refine V_goto hC 136 kX6_handedIn_102 (by decide) ?_
                exact j136 _ ((by rw [R_handedIn, if_neg (b0_of e_is1 h98)]))
          · refine V_aload_n hC kX6_handedIn_78 rfl ?_
            refine V_iload_n hC kX6_handedIn_79 rfl ?_
            refine V_bipush hC (7) kX6_handedIn_80 (by decide) ?_
            refine V_cV_fI hC (ct_ofBoat hWr b 7 hb8 (vp_lit rfl)) mkX6_ofBoat lmX6_53 kX6_handedIn_82 (Nat.le_of_ble_eq_true rfl) rfl rfl rfl (Nat.le_of_ble_eq_true rfl) ⟨(Nat.le_of_ble_eq_true rfl), (Nat.le_of_ble_eq_true rfl)⟩ ⟨rfl, rfl⟩ ⟨(Nat.le_of_ble_eq_true rfl), (Nat.le_of_ble_eq_true rfl)⟩ ?_
            refine V_iload_n hC kX6_handedIn_85 rfl ?_
            refine V_icmp_le hC 93 kX6_handedIn_86 (by decide) (fun h86 => ?_) (fun h86 => ?_)
            · refine V_iconst hC (0) kX6_handedIn_93 (by decide) ?_
              exact j94 _ ((b01_f (Int32.not_lt.mpr (by rw [upr_at, e_often] at h86; exact h86))).symm)
            · refine V_iconst hC (1) kX6_handedIn_89 (by decide) ?_
              refine V_goto hC 94 kX6_handedIn_90 (by decide) ?_
              exact j94 _ ((b01_t (Int32.not_le.mp (by rw [upr_at, e_often] at h86; exact h86))).symm)
        · refine V_iload hC kX6_handedIn_49 rfl ?_
          refine V_sipush hC (200) kX6_handedIn_51 (by decide) ?_
          refine V_icmp_ge hC 78 kX6_handedIn_54 (by decide) (fun h54 => absurd h54 (by exact nI_ge (a := F_hN (sg (mo + 1)) b) (b := 200) hN (by decide))) (fun h54 => ?_)
          refine V_aload_n hC kX6_handedIn_57 rfl ?_
          refine V_iload_n hC kX6_handedIn_58 rfl ?_
          refine V_bipush hC (7) kX6_handedIn_59 (by decide) ?_
          refine V_cV_fI hC (ct_ofBoat hWr b 7 hb8 (vp_lit rfl)) mkX6_ofBoat lmX6_53 kX6_handedIn_61 (Nat.le_of_ble_eq_true rfl) rfl rfl rfl (Nat.le_of_ble_eq_true rfl) ⟨(Nat.le_of_ble_eq_true rfl), (Nat.le_of_ble_eq_true rfl)⟩ ⟨rfl, rfl⟩ ⟨(Nat.le_of_ble_eq_true rfl), (Nat.le_of_ble_eq_true rfl)⟩ ?_
          refine V_iload_n hC kX6_handedIn_64 rfl ?_
          refine V_icmp_ne hC 78 kX6_handedIn_65 (by decide) (fun h65 => ?_) (fun h65 => absurd h65 (by rw [upr_at, e_often]; exact of_decide_eq_true hq))
          refine V_join 94 (b01 (gB (sg (mo + 1)) b 7 < gB (F_ticks (sg (mo + 1)) (F_hN (sg (mo + 1)) b)) b 7)) ?_ (fun j94 => ?_)
          · refine V_nameI (fun is1 e_is1 => ?_)
            refine V_istore hC [some _, some _, some _, some _, some _, some _, none] kX6_handedIn_94 rfl (Nat.le_of_ble_eq_true rfl) ?_
            refine V_join 136 (R_handedIn (sg (mo + 1)) b a) ?_ (fun j136 => ?_)
            · refine V_nameI (fun its e_its => ?_)
              refine V_istore hC [some _, some _, some _, some _, some _, some _, some _] kX6_handedIn_136 rfl (Nat.le_of_ble_eq_true rfl) ?_
              refine V_aload_n hC kX6_handedIn_138 rfl ?_
              refine V_cV_fV hC (ct_takeBack hWr) mkX6_takeBack lmX6_209 kX6_handedIn_139 (Nat.le_of_ble_eq_true rfl) rfl rfl rfl (Nat.le_of_ble_eq_true rfl) ⟨(Nat.le_of_ble_eq_true rfl), (Nat.le_of_ble_eq_true rfl)⟩ ⟨rfl, rfl⟩ ⟨(Nat.le_of_ble_eq_true rfl), (Nat.le_of_ble_eq_true rfl)⟩ ?_
              refine V_iload hC kX6_handedIn_142 rfl ?_
              refine V_ireti hC rfl kX6_handedIn_144 ?_
              refine fM_ok (by rw [K_handedIn, if_pos hb, if_pos hw]) e_its ?_
              simp only [upr_at, upr_upr]
              have h2 : upr (G_aside sg0 mo) (mo + 1) (F_ticks (sg (mo + 1)) (F_hN (sg (mo + 1)) b)) (mo + 2) = G_aside sg0 mo (mo + 2) := upr_ne _ _ (by omega)
              have hb2 : cpy (G_aside sg0 mo (mo + 2)) (F_ticks (sg (mo + 1)) (F_hN (sg (mo + 1)) b)) 140 = sg (mo + 1) := by
                unfold G_aside
                rw [upr_at, hs1]
                exact back_eq (fun z hz => (Inv_ticks hI _).2 z (lo140 hz))
              rw [h2, hb2, ← ha1, upr_self]
              unfold G_aside
              rw [hs1, hs2, e_sg0, ups_upr _ _ _ _ (by omega)]
            · refine V_iload hC kX6_handedIn_96 rfl ?_
              refine V_if_ne hC 105 kX6_handedIn_98 (by decide) (fun h98 => ?_) (fun h98 => ?_)
              · refine V_iload_n hC kX6_handedIn_105 rfl ?_
                refine V_if_ne hC 114 kX6_handedIn_106 (by decide) (fun h106 => ?_) (fun h106 => ?_)
                · refine V_iload_n hC kX6_handedIn_114 rfl ?_
                  refine V_iconst hC (1) kX6_handedIn_115 (by decide) ?_
                  refine V_icmp_ne hC 130 kX6_handedIn_116 (by decide) (fun h116 => ?_) (fun h116 => ?_)
                  · refine V_aload_n hC kX6_handedIn_130 rfl ?_
                    refine V_iload_n hC kX6_handedIn_131 rfl ?_
                    refine V_iconst hC (0) kX6_handedIn_132 (by decide) ?_
                    refine V_cV_fI hC (ct_ofBoat hWr b 0 hb8 (vp_lit rfl)) mkX6_ofBoat lmX6_53 kX6_handedIn_133 (Nat.le_of_ble_eq_true rfl) rfl rfl rfl (Nat.le_of_ble_eq_true rfl) ⟨(Nat.le_of_ble_eq_true rfl), (Nat.le_of_ble_eq_true rfl)⟩ ⟨rfl, rfl⟩ ⟨(Nat.le_of_ble_eq_true rfl), (Nat.le_of_ble_eq_true rfl)⟩ ?_
                    exact j136 _ ((by rw [upr_at, R_handedIn, if_pos (b1_of e_is1 h98), if_neg h106, if_neg h116]))
                  · refine V_aload_n hC kX6_handedIn_119 rfl ?_
                    refine V_iload_n hC kX6_handedIn_120 rfl ?_
                    refine V_iconst hC (2) kX6_handedIn_121 (by decide) ?_
                    refine V_cV_fI hC (ct_ofBoat hWr b 2 hb8 (vp_lit rfl)) mkX6_ofBoat lmX6_53 kX6_handedIn_122 (Nat.le_of_ble_eq_true rfl) rfl rfl rfl (Nat.le_of_ble_eq_true rfl) ⟨(Nat.le_of_ble_eq_true rfl), (Nat.le_of_ble_eq_true rfl)⟩ ⟨rfl, rfl⟩ ⟨(Nat.le_of_ble_eq_true rfl), (Nat.le_of_ble_eq_true rfl)⟩ ?_
                    refine V_iconst hC (1) kX6_handedIn_125 (by decide) ?_
                    refine V_isub hC kX6_handedIn_126 ?_
                    refine V_goto hC 136 kX6_handedIn_127 (by decide) ?_
                    exact j136 _ ((by rw [upr_at, R_handedIn, if_pos (b1_of e_is1 h98), if_neg h106, if_pos h116]))
                · refine V_iload hC kX6_handedIn_109 rfl ?_
                  refine V_goto hC 136 kX6_handedIn_111 (by decide) ?_
                  exact j136 _ ((by rw [R_handedIn, if_pos (b1_of e_is1 h98), if_pos h106]))
              · refine V_iconst hC (-1) kX6_handedIn_101 (by decide) ?_
                refine V_goto hC 136 kX6_handedIn_102 (by decide) ?_
                exact j136 _ ((by rw [R_handedIn, if_neg (b0_of e_is1 h98)]))
          · refine V_aload_n hC kX6_handedIn_78 rfl ?_
            refine V_iload_n hC kX6_handedIn_79 rfl ?_
            refine V_bipush hC (7) kX6_handedIn_80 (by decide) ?_
            refine V_cV_fI hC (ct_ofBoat hWr b 7 hb8 (vp_lit rfl)) mkX6_ofBoat lmX6_53 kX6_handedIn_82 (Nat.le_of_ble_eq_true rfl) rfl rfl rfl (Nat.le_of_ble_eq_true rfl) ⟨(Nat.le_of_ble_eq_true rfl), (Nat.le_of_ble_eq_true rfl)⟩ ⟨rfl, rfl⟩ ⟨(Nat.le_of_ble_eq_true rfl), (Nat.le_of_ble_eq_true rfl)⟩ ?_
            refine V_iload_n hC kX6_handedIn_85 rfl ?_
            refine V_icmp_le hC 93 kX6_handedIn_86 (by decide) (fun h86 => ?_) (fun h86 => ?_)
            · refine V_iconst hC (0) kX6_handedIn_93 (by decide) ?_
              exact j94 _ ((b01_f (Int32.not_lt.mpr (by rw [upr_at, e_often] at h86; exact h86))).symm)
            · refine V_iconst hC (1) kX6_handedIn_89 (by decide) ?_
              refine V_goto hC 94 kX6_handedIn_90 (by decide) ?_
              exact j94 _ ((b01_t (Int32.not_le.mp (by rw [upr_at, e_often] at h86; exact h86))).symm)
      · have hno : gB (F_ticks (sg (mo + 1)) i) b 7 = gB (sg (mo + 1)) b 7 := Classical.not_not.mp (of_decide_eq_false (fa_first_no (F_hp (sg (mo + 1)) b) 200 i hi))
        have hi2 : i < 200 := Nat.lt_of_lt_of_le hi (fa_first_le _ _)
        refine V_iload hC kX6_handedIn_49 rfl ?_
        refine V_sipush hC (200) kX6_handedIn_51 (by decide) ?_
        refine V_icmp_ge hC 78 kX6_handedIn_54 (by decide) (fun h54 => absurd h54 (by exact nI_ge (a := i) (b := 200) hi2 (by decide))) (fun h54 => ?_)
        refine V_aload_n hC kX6_handedIn_57 rfl ?_
        refine V_iload_n hC kX6_handedIn_58 rfl ?_
        refine V_bipush hC (7) kX6_handedIn_59 (by decide) ?_
        refine V_cV_fI hC (ct_ofBoat hWr b 7 hb8 (vp_lit rfl)) mkX6_ofBoat lmX6_53 kX6_handedIn_61 (Nat.le_of_ble_eq_true rfl) rfl rfl rfl (Nat.le_of_ble_eq_true rfl) ⟨(Nat.le_of_ble_eq_true rfl), (Nat.le_of_ble_eq_true rfl)⟩ ⟨rfl, rfl⟩ ⟨(Nat.le_of_ble_eq_true rfl), (Nat.le_of_ble_eq_true rfl)⟩ ?_
        refine V_iload_n hC kX6_handedIn_64 rfl ?_
        refine V_icmp_ne hC 78 kX6_handedIn_65 (by decide) (fun h65 => absurd h65 (by rw [upr_at, e_often]; exact not_not_intro hno)) (fun h65 => ?_)
        refine V_aload_n hC kX6_handedIn_68 rfl ?_
        refine V_cV_fV hC (ct_goesTick hWr (by rw [upr_at]; exact (Inv_ticks hI i).1)) mkX6_goesTick lmX6_94 kX6_handedIn_69 (Nat.le_of_ble_eq_true rfl) rfl rfl rfl (Nat.le_of_ble_eq_true rfl) ⟨(Nat.le_of_ble_eq_true rfl), (Nat.le_of_ble_eq_true rfl)⟩ ⟨rfl, rfl⟩ ⟨(Nat.le_of_ble_eq_true rfl), (Nat.le_of_ble_eq_true rfl)⟩ ?_
        refine V_iinc hC (_ + 1) [some _, some _, some _, some _, some _, none, none] kX6_handedIn_72 rfl rfl rfl (Nat.le_of_ble_eq_true rfl) ?_
        refine V_goto hC 49 kX6_handedIn_75 (by decide) ?_
        refine V_eq (by rw [nI_succ]) ?_ ihi
        rw [upr_at, upr_upr, F_ticks]
    · refine V_aload_n hC kX6_handedIn_28 rfl ?_
      refine V_iconst hC (2) kX6_handedIn_29 (by decide) ?_
      refine V_cV_fI hC (ct_fails hWr 2) mkX6_fails lmX6_127 kX6_handedIn_30 (Nat.le_of_ble_eq_true rfl) rfl rfl rfl (Nat.le_of_ble_eq_true rfl) ⟨(Nat.le_of_ble_eq_true rfl), (Nat.le_of_ble_eq_true rfl)⟩ ⟨rfl, rfl⟩ ⟨(Nat.le_of_ble_eq_true rfl), (Nat.le_of_ble_eq_true rfl)⟩ ?_
      refine V_ireti hC rfl kX6_handedIn_33 ?_
      exact fM_no 2 (by rw [hs1] at h10; rw [K_handedIn, if_pos (b01n.mp h10), if_neg (b01e.mp h25)]) (by decide) (by rw [e_sg0, ups_ups])
  · refine V_aload_n hC kX6_handedIn_13 rfl ?_
    refine V_iconst hC (1) kX6_handedIn_14 (by decide) ?_
    refine V_cV_fI hC (ct_fails hWr 1) mkX6_fails lmX6_127 kX6_handedIn_15 (Nat.le_of_ble_eq_true rfl) rfl rfl rfl (Nat.le_of_ble_eq_true rfl) ⟨(Nat.le_of_ble_eq_true rfl), (Nat.le_of_ble_eq_true rfl)⟩ ⟨rfl, rfl⟩ ⟨(Nat.le_of_ble_eq_true rfl), (Nat.le_of_ble_eq_true rfl)⟩ ?_
    refine V_ireti hC rfl kX6_handedIn_18 ?_
    exact fM_no 1 (by rw [hs1] at h10; rw [K_handedIn, if_neg (b01e.mp h10)]) (by decide) (by rw [e_sg0, ups_ups])
def mtX6_bestMargin : Mt := (yX6_bestMargin, cX6_bestMargin, 9, (some .int), 9, 210, 0, 0)
theorem kX6_bestMargin_0 : Dk mtX6_bestMargin 0 (.aload_n 0) 1 1 := ⟨by decide +kernel, rfl⟩
theorem kX6_bestMargin_1 : Dk mtX6_bestMargin 1 (.iconst 0) 1 2 := ⟨by decide +kernel, rfl⟩
theorem kX6_bestMargin_2 : Dk mtX6_bestMargin 2 (.putfield 32) 3 5 := ⟨by decide +kernel, rfl⟩
theorem kX6_bestMargin_5 : Dk mtX6_bestMargin 5 (.iload_n 1) 1 6 := ⟨by decide +kernel, rfl⟩
theorem kX6_bestMargin_6 : Dk mtX6_bestMargin 6 (.iconst 1) 1 7 := ⟨by decide +kernel, rfl⟩
theorem kX6_bestMargin_7 : Dk mtX6_bestMargin 7 (.bipush 100) 2 9 := ⟨by decide +kernel, rfl⟩
theorem kX6_bestMargin_9 : Dk mtX6_bestMargin 9 (.invokestatic 39) 3 12 := ⟨by decide +kernel, rfl⟩
theorem kX6_bestMargin_12 : Dk mtX6_bestMargin 12 (.ifCond .ne 9) 3 15 := ⟨by decide +kernel, rfl⟩
theorem kX6_bestMargin_15 : Dk mtX6_bestMargin 15 (.aload_n 0) 1 16 := ⟨by decide +kernel, rfl⟩
theorem kX6_bestMargin_16 : Dk mtX6_bestMargin 16 (.iconst 1) 1 17 := ⟨by decide +kernel, rfl⟩
theorem kX6_bestMargin_17 : Dk mtX6_bestMargin 17 (.invokevirtual 127) 3 20 := ⟨by decide +kernel, rfl⟩
theorem kX6_bestMargin_20 : Dk mtX6_bestMargin 20 (.ireturn) 1 21 := ⟨by decide +kernel, rfl⟩
theorem kX6_bestMargin_21 : Dk mtX6_bestMargin 21 (.iconst (-1)) 1 22 := ⟨by decide +kernel, rfl⟩
theorem kX6_bestMargin_22 : Dk mtX6_bestMargin 22 (.istore_n 2) 1 23 := ⟨by decide +kernel, rfl⟩
theorem kX6_bestMargin_23 : Dk mtX6_bestMargin 23 (.iconst 0) 1 24 := ⟨by decide +kernel, rfl⟩
theorem kX6_bestMargin_24 : Dk mtX6_bestMargin 24 (.istore_n 3) 1 25 := ⟨by decide +kernel, rfl⟩
theorem kX6_bestMargin_25 : Dk mtX6_bestMargin 25 (.iconst 0) 1 26 := ⟨by decide +kernel, rfl⟩
theorem kX6_bestMargin_26 : Dk mtX6_bestMargin 26 (.istore 4) 2 28 := ⟨by decide +kernel, rfl⟩
theorem kX6_bestMargin_28 : Dk mtX6_bestMargin 28 (.iconst 0) 1 29 := ⟨by decide +kernel, rfl⟩
theorem kX6_bestMargin_29 : Dk mtX6_bestMargin 29 (.istore 5) 2 31 := ⟨by decide +kernel, rfl⟩
theorem kX6_bestMargin_31 : Dk mtX6_bestMargin 31 (.iload 5) 2 33 := ⟨by decide +kernel, rfl⟩
theorem kX6_bestMargin_33 : Dk mtX6_bestMargin 33 (.bipush 60) 2 35 := ⟨by decide +kernel, rfl⟩
theorem kX6_bestMargin_35 : Dk mtX6_bestMargin 35 (.if_icmp .gt 110) 3 38 := ⟨by decide +kernel, rfl⟩
theorem kX6_bestMargin_38 : Dk mtX6_bestMargin 38 (.aload_n 0) 1 39 := ⟨by decide +kernel, rfl⟩
theorem kX6_bestMargin_39 : Dk mtX6_bestMargin 39 (.iload 5) 2 41 := ⟨by decide +kernel, rfl⟩
theorem kX6_bestMargin_41 : Dk mtX6_bestMargin 41 (.iload_n 1) 1 42 := ⟨by decide +kernel, rfl⟩
theorem kX6_bestMargin_42 : Dk mtX6_bestMargin 42 (.bipush 8) 2 44 := ⟨by decide +kernel, rfl⟩
theorem kX6_bestMargin_44 : Dk mtX6_bestMargin 44 (.invokevirtual 212) 3 47 := ⟨by decide +kernel, rfl⟩
theorem kX6_bestMargin_47 : Dk mtX6_bestMargin 47 (.aload_n 0) 1 48 := ⟨by decide +kernel, rfl⟩
theorem kX6_bestMargin_48 : Dk mtX6_bestMargin 48 (.iload 5) 2 50 := ⟨by decide +kernel, rfl⟩
theorem kX6_bestMargin_50 : Dk mtX6_bestMargin 50 (.iload_n 1) 1 51 := ⟨by decide +kernel, rfl⟩
theorem kX6_bestMargin_51 : Dk mtX6_bestMargin 51 (.bipush 10) 2 53 := ⟨by decide +kernel, rfl⟩
theorem kX6_bestMargin_53 : Dk mtX6_bestMargin 53 (.invokevirtual 212) 3 56 := ⟨by decide +kernel, rfl⟩
theorem kX6_bestMargin_56 : Dk mtX6_bestMargin 56 (.iadd) 1 57 := ⟨by decide +kernel, rfl⟩
theorem kX6_bestMargin_57 : Dk mtX6_bestMargin 57 (.istore 6) 2 59 := ⟨by decide +kernel, rfl⟩
theorem kX6_bestMargin_59 : Dk mtX6_bestMargin 59 (.aload_n 0) 1 60 := ⟨by decide +kernel, rfl⟩
theorem kX6_bestMargin_60 : Dk mtX6_bestMargin 60 (.iload 5) 2 62 := ⟨by decide +kernel, rfl⟩
theorem kX6_bestMargin_62 : Dk mtX6_bestMargin 62 (.iload_n 1) 1 63 := ⟨by decide +kernel, rfl⟩
theorem kX6_bestMargin_63 : Dk mtX6_bestMargin 63 (.bipush 7) 2 65 := ⟨by decide +kernel, rfl⟩
theorem kX6_bestMargin_65 : Dk mtX6_bestMargin 65 (.invokevirtual 212) 3 68 := ⟨by decide +kernel, rfl⟩
theorem kX6_bestMargin_68 : Dk mtX6_bestMargin 68 (.istore 7) 2 70 := ⟨by decide +kernel, rfl⟩
theorem kX6_bestMargin_70 : Dk mtX6_bestMargin 70 (.iload_n 2) 1 71 := ⟨by decide +kernel, rfl⟩
theorem kX6_bestMargin_71 : Dk mtX6_bestMargin 71 (.iconst (-1)) 1 72 := ⟨by decide +kernel, rfl⟩
theorem kX6_bestMargin_72 : Dk mtX6_bestMargin 72 (.if_icmp .eq 22) 3 75 := ⟨by decide +kernel, rfl⟩
theorem kX6_bestMargin_75 : Dk mtX6_bestMargin 75 (.iload 6) 2 77 := ⟨by decide +kernel, rfl⟩
theorem kX6_bestMargin_77 : Dk mtX6_bestMargin 77 (.iload_n 3) 1 78 := ⟨by decide +kernel, rfl⟩
theorem kX6_bestMargin_78 : Dk mtX6_bestMargin 78 (.if_icmp .lt 16) 3 81 := ⟨by decide +kernel, rfl⟩
theorem kX6_bestMargin_81 : Dk mtX6_bestMargin 81 (.iload 6) 2 83 := ⟨by decide +kernel, rfl⟩
theorem kX6_bestMargin_83 : Dk mtX6_bestMargin 83 (.iload_n 3) 1 84 := ⟨by decide +kernel, rfl⟩
theorem kX6_bestMargin_84 : Dk mtX6_bestMargin 84 (.if_icmp .ne 14) 3 87 := ⟨by decide +kernel, rfl⟩
theorem kX6_bestMargin_87 : Dk mtX6_bestMargin 87 (.iload 7) 2 89 := ⟨by decide +kernel, rfl⟩
theorem kX6_bestMargin_89 : Dk mtX6_bestMargin 89 (.iload 4) 2 91 := ⟨by decide +kernel, rfl⟩
theorem kX6_bestMargin_91 : Dk mtX6_bestMargin 91 (.if_icmp .ge 7) 3 94 := ⟨by decide +kernel, rfl⟩
theorem kX6_bestMargin_94 : Dk mtX6_bestMargin 94 (.iconst 1) 1 95 := ⟨by decide +kernel, rfl⟩
theorem kX6_bestMargin_95 : Dk mtX6_bestMargin 95 (.goto 4) 3 98 := ⟨by decide +kernel, rfl⟩
theorem kX6_bestMargin_98 : Dk mtX6_bestMargin 98 (.iconst 0) 1 99 := ⟨by decide +kernel, rfl⟩
theorem kX6_bestMargin_99 : Dk mtX6_bestMargin 99 (.istore 8) 2 101 := ⟨by decide +kernel, rfl⟩
theorem kX6_bestMargin_101 : Dk mtX6_bestMargin 101 (.iload 8) 2 103 := ⟨by decide +kernel, rfl⟩
theorem kX6_bestMargin_103 : Dk mtX6_bestMargin 103 (.ifCond .eq 8) 3 106 := ⟨by decide +kernel, rfl⟩
theorem kX6_bestMargin_106 : Dk mtX6_bestMargin 106 (.iload 5) 2 108 := ⟨by decide +kernel, rfl⟩
theorem kX6_bestMargin_108 : Dk mtX6_bestMargin 108 (.goto 4) 3 111 := ⟨by decide +kernel, rfl⟩
theorem kX6_bestMargin_111 : Dk mtX6_bestMargin 111 (.iload_n 2) 1 112 := ⟨by decide +kernel, rfl⟩
theorem kX6_bestMargin_112 : Dk mtX6_bestMargin 112 (.istore_n 2) 1 113 := ⟨by decide +kernel, rfl⟩
theorem kX6_bestMargin_113 : Dk mtX6_bestMargin 113 (.iload 8) 2 115 := ⟨by decide +kernel, rfl⟩
theorem kX6_bestMargin_115 : Dk mtX6_bestMargin 115 (.ifCond .eq 8) 3 118 := ⟨by decide +kernel, rfl⟩
theorem kX6_bestMargin_118 : Dk mtX6_bestMargin 118 (.iload 6) 2 120 := ⟨by decide +kernel, rfl⟩
theorem kX6_bestMargin_120 : Dk mtX6_bestMargin 120 (.goto 4) 3 123 := ⟨by decide +kernel, rfl⟩
theorem kX6_bestMargin_123 : Dk mtX6_bestMargin 123 (.iload_n 3) 1 124 := ⟨by decide +kernel, rfl⟩
theorem kX6_bestMargin_124 : Dk mtX6_bestMargin 124 (.istore_n 3) 1 125 := ⟨by decide +kernel, rfl⟩
theorem kX6_bestMargin_125 : Dk mtX6_bestMargin 125 (.iload 8) 2 127 := ⟨by decide +kernel, rfl⟩
theorem kX6_bestMargin_127 : Dk mtX6_bestMargin 127 (.ifCond .eq 8) 3 130 := ⟨by decide +kernel, rfl⟩
theorem kX6_bestMargin_130 : Dk mtX6_bestMargin 130 (.iload 7) 2 132 := ⟨by decide +kernel, rfl⟩
theorem kX6_bestMargin_132 : Dk mtX6_bestMargin 132 (.goto 5) 3 135 := ⟨by decide +kernel, rfl⟩
theorem kX6_bestMargin_135 : Dk mtX6_bestMargin 135 (.iload 4) 2 137 := ⟨by decide +kernel, rfl⟩
theorem kX6_bestMargin_137 : Dk mtX6_bestMargin 137 (.istore 4) 2 139 := ⟨by decide +kernel, rfl⟩
theorem kX6_bestMargin_139 : Dk mtX6_bestMargin 139 (.iinc 5 5) 3 142 := ⟨by decide +kernel, rfl⟩
theorem kX6_bestMargin_142 : Dk mtX6_bestMargin 142 (.goto (-111)) 3 145 := ⟨by decide +kernel, rfl⟩
theorem kX6_bestMargin_145 : Dk mtX6_bestMargin 145 (.iload_n 2) 1 146 := ⟨by decide +kernel, rfl⟩
theorem kX6_bestMargin_146 : Dk mtX6_bestMargin 146 (.ireturn) 1 147 := ⟨by decide +kernel, rfl⟩
set_option maxHeartbeats 4000000 in
set_option maxRecDepth 100000 in
theorem ct_bestMargin {l : Launch} {w : Wd} {sg : Sg} (hWr : Wr w) {mo : Nat} (n : Int32) (hI : Inv (sg (mo + 1))) : M l mtX6_bestMargin w [vR (some (6, 0, mo)), vI n] sg (fM mo sg (K_bestMargin n) (F_bm (sg (mo + 1)) (tn n) 13).1 (G_aside sg mo)) := by
  refine M_of [some (vR (some (6, 0, mo))), some (vI n), none, none, none, none, none, none, none] rfl (Nat.le_of_ble_eq_true rfl) (by decide +kernel) ?_
  intro p_ e_ s_ m_ args_ below_ meth_ c_ hC hO
  refine V_aload_n hC kX6_bestMargin_0 rfl ?_
  refine V_iconst hC (0) kX6_bestMargin_1 (by decide) ?_
  refine V_putI hC 6 0 lfX6_32 kX6_bestMargin_2 (Nat.le_of_ble_eq_true rfl) (Nat.le_of_ble_eq_true rfl) rfl rfl ⟨rfl, rfl⟩ ?_
  refine V_nameS (fun sg0 e_sg0 => ?_)
  have hs1 : sg0 (mo + 1) = sg (mo + 1) := by rw [e_sg0]; exact upr_ne _ _ (by omega)
  have hs2 : sg0 (mo + 2) = sg (mo + 2) := by rw [e_sg0]; exact upr_ne _ _ (by omega)
  refine V_iload_n hC kX6_bestMargin_5 rfl ?_
  refine V_iconst hC (1) kX6_bestMargin_6 (by decide) ?_
  refine V_bipush hC (100) kX6_bestMargin_7 (by decide) ?_
  refine V_cS_fI hC (ct_in hWr _ _ _) mkX6_in lmX6_39 kX6_bestMargin_9 rfl rfl (Nat.le_of_ble_eq_true rfl) ⟨(Nat.le_of_ble_eq_true rfl), (Nat.le_of_ble_eq_true rfl)⟩ ⟨rfl, rfl⟩ ⟨(Nat.le_of_ble_eq_true rfl), (Nat.le_of_ble_eq_true rfl)⟩ ?_
  refine V_if_ne hC 21 kX6_bestMargin_12 (by decide) (fun h12 => ?_) (fun h12 => ?_)
  · have hp := b01n.mp h12
    obtain ⟨N, hN, -, en, etn⟩ := tn60 (m := 100) rfl hp
    subst en
    refine V_iconst hC (-1) kX6_bestMargin_21 (by decide) ?_
    refine V_istore_n hC [some _, some _, some _, none, none, none, none, none, none] kX6_bestMargin_22 rfl (Nat.le_of_ble_eq_true rfl) ?_
    refine V_iconst hC (0) kX6_bestMargin_23 (by decide) ?_
    refine V_istore_n hC [some _, some _, some _, some _, none, none, none, none, none] kX6_bestMargin_24 rfl (Nat.le_of_ble_eq_true rfl) ?_
    refine V_iconst hC (0) kX6_bestMargin_25 (by decide) ?_
    refine V_istore hC [some _, some _, some _, some _, some _, none, none, none, none] kX6_bestMargin_26 rfl (Nat.le_of_ble_eq_true rfl) ?_
    refine V_iconst hC (0) kX6_bestMargin_28 (by decide) ?_
    refine V_istore hC [some _, some _, some _, some _, some _, some _, none, none, none] kX6_bestMargin_29 rfl (Nat.le_of_ble_eq_true rfl) ?_
    refine V_loop 13 (fun i => [some (vR (some (6, 0, mo))), some (vI (nI N)), some (vI (F_bm (sg (mo + 1)) N i).1), some (vI (F_bm (sg (mo + 1)) N i).2.1), some (vI (F_bm (sg (mo + 1)) N i).2.2), some (vI (nI (5 * i))), none, none, none]) (fun i => (if i = 0 then sg0 else G_aside sg0 mo)) rfl (if_pos rfl).symm ?_ (fun i hi ihi => ?_)
    · refine V_iload hC kX6_bestMargin_31 rfl ?_
      refine V_bipush hC (60) kX6_bestMargin_33 (by decide) ?_
      refine V_icmp_gt hC 145 kX6_bestMargin_35 (by decide) (fun h35 => ?_) (fun h35 => absurd h35 (not_not_intro (by decide)))
      refine V_iload_n hC kX6_bestMargin_145 rfl ?_
      refine V_ireti hC rfl kX6_bestMargin_146 ?_
      exact fM_ok (by rw [K_bestMargin, if_pos hp]) (by rw [etn]) (by rw [if_neg (by decide)]; unfold G_aside; rw [hs1, hs2, e_sg0, ups_upr _ _ _ _ (by omega)])
    · have hm1 : (if i = 0 then sg0 else G_aside sg0 mo) (mo + 1) = sg (mo + 1) := by
        split
        · exact hs1
        · rw [aside_1, hs1]
      have hma : G_aside (if i = 0 then sg0 else G_aside sg0 mo) mo = G_aside sg0 mo := by
        split
        · rfl
        · exact aside_aside _ _
      have hv : inn (nI (5 * i)) 0 100 := ⟨nI_pos' (by omega), nI_le (a := 5 * i) (b := 100) (by omega) (by decide)⟩
      generalize hmg : (if i = 0 then sg0 else G_aside sg0 mo) = sgi at hm1 hma ⊢
      refine V_iload hC kX6_bestMargin_31 rfl ?_
      refine V_bipush hC (60) kX6_bestMargin_33 (by decide) ?_
      refine V_icmp_gt hC 145 kX6_bestMargin_35 (by decide) (fun h35 => absurd h35 (Int32.not_lt.mpr (by exact nI_le (a := 5 * i) (b := 60) (by omega) (by decide)))) (fun h35 => ?_)
      refine V_aload_n hC kX6_bestMargin_38 rfl ?_
      refine V_iload hC kX6_bestMargin_39 rfl ?_
      refine V_iload_n hC kX6_bestMargin_41 rfl ?_
      refine V_bipush hC (8) kX6_bestMargin_42 (by decide) ?_
      refine V_cV_fI hC (ct_bringsBy (N := N) (j := 8) hWr (nI (5 * i)) hv (by omega) (by decide) (by rw [hm1]; exact hI)) mkX6_bringsBy lmX6_212 kX6_bestMargin_44 (Nat.le_of_ble_eq_true rfl) rfl rfl rfl (Nat.le_of_ble_eq_true rfl) ⟨(Nat.le_of_ble_eq_true rfl), (Nat.le_of_ble_eq_true rfl)⟩ ⟨rfl, rfl⟩ ⟨(Nat.le_of_ble_eq_true rfl), (Nat.le_of_ble_eq_true rfl)⟩ ?_
      refine V_aload_n hC kX6_bestMargin_47 rfl ?_
      refine V_iload hC kX6_bestMargin_48 rfl ?_
      refine V_iload_n hC kX6_bestMargin_50 rfl ?_
      refine V_bipush hC (10) kX6_bestMargin_51 (by decide) ?_
      refine V_cV_fI hC (ct_bringsBy (N := N) (j := 10) hWr (nI (5 * i)) hv (by omega) (by decide) (by rw [aside_1, hm1]; exact hI)) mkX6_bringsBy lmX6_212 kX6_bestMargin_53 (Nat.le_of_ble_eq_true rfl) rfl rfl rfl (Nat.le_of_ble_eq_true rfl) ⟨(Nat.le_of_ble_eq_true rfl), (Nat.le_of_ble_eq_true rfl)⟩ ⟨rfl, rfl⟩ ⟨(Nat.le_of_ble_eq_true rfl), (Nat.le_of_ble_eq_true rfl)⟩ ?_
      refine V_iadd hC kX6_bestMargin_56 ?_
      refine V_nameI (fun its e_its => ?_)
      refine V_istore hC [some _, some _, some _, some _, some _, some _, some _, none, none] kX6_bestMargin_57 rfl (Nat.le_of_ble_eq_true rfl) ?_
      rw [aside_1, hm1] at e_its
      refine V_aload_n hC kX6_bestMargin_59 rfl ?_
      refine V_iload hC kX6_bestMargin_60 rfl ?_
      refine V_iload_n hC kX6_bestMargin_62 rfl ?_
      refine V_bipush hC (7) kX6_bestMargin_63 (by decide) ?_
      refine V_cV_fI hC (ct_bringsBy (N := N) (j := 7) hWr (nI (5 * i)) hv (by omega) (by decide) (by rw [aside_1, aside_1, hm1]; exact hI)) mkX6_bringsBy lmX6_212 kX6_bestMargin_65 (Nat.le_of_ble_eq_true rfl) rfl rfl rfl (Nat.le_of_ble_eq_true rfl) ⟨(Nat.le_of_ble_eq_true rfl), (Nat.le_of_ble_eq_true rfl)⟩ ⟨rfl, rfl⟩ ⟨(Nat.le_of_ble_eq_true rfl), (Nat.le_of_ble_eq_true rfl)⟩ ?_
      refine V_nameI (fun oft e_oft => ?_)
      refine V_istore hC [some _, some _, some _, some _, some _, some _, some _, some _, none] kX6_bestMargin_68 rfl (Nat.le_of_ble_eq_true rfl) ?_
      rw [aside_1, aside_1, hm1] at e_oft
      refine V_join 99 (b01 ((F_bm (sg (mo + 1)) N i).1 = -1 ∨ its < (F_bm (sg (mo + 1)) N i).2.1 ∨ (its = (F_bm (sg (mo + 1)) N i).2.1 ∧ oft < (F_bm (sg (mo + 1)) N i).2.2))) ?_ (fun j99 => ?_)
      · refine V_nameI (fun is1 e_is1 => ?_)
        refine V_istore hC [some _, some _, some _, some _, some _, some _, some _, some _, some _] kX6_bestMargin_99 rfl (Nat.le_of_ble_eq_true rfl) ?_
        have hF : F_bm (sg (mo + 1)) N (i + 1) = if is1 = 0 then F_bm (sg (mo + 1)) N i else (nI (5 * i), its, oft) := by
          rw [F_bm, ← e_its, ← e_oft]
          by_cases hz : is1 = 0
          · rw [if_pos hz, if_neg (b0_of e_is1 hz)]
          · rw [if_neg hz, if_pos (b1_of e_is1 hz)]
        refine V_join 112 ((F_bm (sg (mo + 1)) N (i + 1)).1) ?_ (fun j112 => ?_)
        · refine V_istore_n hC [some _, some _, some _, some _, some _, some _, some _, some _, some _] kX6_bestMargin_112 rfl (Nat.le_of_ble_eq_true rfl) ?_
          refine V_join 124 ((F_bm (sg (mo + 1)) N (i + 1)).2.1) ?_ (fun j124 => ?_)
          · refine V_istore_n hC [some _, some _, some _, some _, some _, some _, some _, some _, some _] kX6_bestMargin_124 rfl (Nat.le_of_ble_eq_true rfl) ?_
            refine V_join 137 ((F_bm (sg (mo + 1)) N (i + 1)).2.2) ?_ (fun j137 => ?_)
            · refine V_istore hC [some _, some _, some _, some _, some _, some _, some _, some _, some _] kX6_bestMargin_137 rfl (Nat.le_of_ble_eq_true rfl) ?_
              refine V_iinc hC (_ + 5) [some _, some _, some _, some _, some _, some _, some _, some _, some _] kX6_bestMargin_139 rfl rfl rfl (Nat.le_of_ble_eq_true rfl) ?_
              refine V_goto hC 31 kX6_bestMargin_142 (by decide) ?_
              refine V_drop 6 [_, _, _, _, _, _, none, _, _] rfl ?_
              refine V_drop 7 [_, _, _, _, _, _, none, none, _] rfl ?_
              refine V_drop 8 [_, _, _, _, _, _, none, none, none] rfl ?_
              refine V_eq ?_ ?_ ihi
              · rw [show nI (5 * i) + 5 = nI (5 * (i + 1)) from nI_add (5 * i) 5]
              · rw [if_neg (Nat.succ_ne_zero i), aside_aside, aside_aside, hma]
            · refine V_iload hC kX6_bestMargin_125 rfl ?_
              refine V_if_eq hC 135 kX6_bestMargin_127 (by decide) (fun h127 => ?_) (fun h127 => ?_)
              · refine V_iload hC kX6_bestMargin_135 rfl ?_
                exact j137 _ (by rw [hF, if_pos h127])
              · refine V_iload hC kX6_bestMargin_130 rfl ?_
                refine V_goto hC 137 kX6_bestMargin_132 (by decide) ?_
                exact j137 _ (by rw [hF, if_neg h127])
          · refine V_iload hC kX6_bestMargin_113 rfl ?_
            refine V_if_eq hC 123 kX6_bestMargin_115 (by decide) (fun h115 => ?_) (fun h115 => ?_)
            · refine V_iload_n hC kX6_bestMargin_123 rfl ?_
              exact j124 _ (by rw [hF, if_pos h115])
            · refine V_iload hC kX6_bestMargin_118 rfl ?_
              refine V_goto hC 124 kX6_bestMargin_120 (by decide) ?_
              exact j124 _ (by rw [hF, if_neg h115])
        · refine V_iload hC kX6_bestMargin_101 rfl ?_
          refine V_if_eq hC 111 kX6_bestMargin_103 (by decide) (fun h103 => ?_) (fun h103 => ?_)
          · refine V_iload_n hC kX6_bestMargin_111 rfl ?_
            exact j112 _ (by rw [hF, if_pos h103])
          · refine V_iload hC kX6_bestMargin_106 rfl ?_
            refine V_goto hC 112 kX6_bestMargin_108 (by decide) ?_
            exact j112 _ (by rw [hF, if_neg h103])
      · refine V_iload_n hC kX6_bestMargin_70 rfl ?_
        refine V_iconst hC (-1) kX6_bestMargin_71 (by decide) ?_
        refine V_icmp_eq hC 94 kX6_bestMargin_72 (by decide) (fun h72 => ?_) (fun h72 => ?_)
        · refine V_iconst hC (1) kX6_bestMargin_94 (by decide) ?_
          refine V_goto hC 99 kX6_bestMargin_95 (by decide) ?_
          exact j99 _ ((b01_t (Or.inl h72)).symm)
        · refine V_iload hC kX6_bestMargin_75 rfl ?_
          refine V_iload_n hC kX6_bestMargin_77 rfl ?_
          refine V_icmp_lt hC 94 kX6_bestMargin_78 (by decide) (fun h78 => ?_) (fun h78 => ?_)
          · refine V_iconst hC (1) kX6_bestMargin_94 (by decide) ?_
            refine V_goto hC 99 kX6_bestMargin_95 (by decide) ?_
            exact j99 _ ((b01_t (Or.inr (Or.inl h78))).symm)
          · refine V_iload hC kX6_bestMargin_81 rfl ?_
            refine V_iload_n hC kX6_bestMargin_83 rfl ?_
            refine V_icmp_ne hC 98 kX6_bestMargin_84 (by decide) (fun h84 => ?_) (fun h84 => ?_)
            · refine V_iconst hC (0) kX6_bestMargin_98 (by decide) ?_
              exact j99 _ ((b01_f (fun z => z.elim h72 (fun z => z.elim h78 (fun z => h84 z.1)))).symm)
            · refine V_iload hC kX6_bestMargin_87 rfl ?_
              refine V_iload hC kX6_bestMargin_89 rfl ?_
              refine V_icmp_ge hC 98 kX6_bestMargin_91 (by decide) (fun h91 => ?_) (fun h91 => ?_)
              · refine V_iconst hC (0) kX6_bestMargin_98 (by decide) ?_
                exact j99 _ ((b01_f (fun z => z.elim h72 (fun z => z.elim h78 (fun z => absurd z.2 (Int32.not_lt.mpr h91))))).symm)
              · refine V_iconst hC (1) kX6_bestMargin_94 (by decide) ?_
                refine V_goto hC 99 kX6_bestMargin_95 (by decide) ?_
                exact j99 _ ((b01_t (Or.inr (Or.inr ⟨h84, Int32.not_le.mp h91⟩))).symm)
  · refine V_aload_n hC kX6_bestMargin_15 rfl ?_
    refine V_iconst hC (1) kX6_bestMargin_16 (by decide) ?_
    refine V_cV_fI hC (ct_fails hWr 1) mkX6_fails lmX6_127 kX6_bestMargin_17 (Nat.le_of_ble_eq_true rfl) rfl rfl rfl (Nat.le_of_ble_eq_true rfl) ⟨(Nat.le_of_ble_eq_true rfl), (Nat.le_of_ble_eq_true rfl)⟩ ⟨rfl, rfl⟩ ⟨(Nat.le_of_ble_eq_true rfl), (Nat.le_of_ble_eq_true rfl)⟩ ?_
    refine V_ireti hC rfl kX6_bestMargin_20 ?_
    exact fM_no 1 (by rw [K_bestMargin, if_neg (b01e.mp h12)]) (by decide) (by rw [e_sg0, ups_ups])
end
section
-- HOW ct_in fI
-- HOW ct_fails fI
-- HOW ct_of fI
-- HOW ct_ofBoat fI
-- HOW ct_layBoat fV
-- HOW ct_isLight fI
-- HOW ct_isBoat fI
-- HOW ct_isPlace fI
-- HOW ct_bright fI
-- HOW ct_worth fI
-- HOW ct_serves fI
-- HOW ct_best fI
-- HOW ct_sails fV
-- HOW ct_drops fV
-- HOW ct_wished fI
-- HOW ct_hands fV
-- HOW ct_wishes fV
-- HOW ct_finds fV
-- HOW ct_goesOn fV
-- HOW ct_goesTick fV
-- HOW ct_goesBy fI
-- HOW ct_putAside fV
-- HOW ct_takeBack fV
-- HOW ct_isLamp fI
-- HOW ct_addsLight fI
-- HOW ct_actsLight fI
-- HOW ct_addsBoat fI
-- HOW ct_actsBoat fI
-- HOW ct_actsSteer fI
-- HOW ct_canTalk fI
-- HOW ct_actsTalk fI
-- HOW ct_actsLean fI
-- HOW ct_actsDim fI
-- HOW ct_mostOf fI
-- HOW ct_isSetting fI
-- HOW ct_actsSet fI
-- HOW ct_actsTicks fI
-- HOW ct_boatsThat fI
-- HOW ct_servedBy fI
-- HOW ct_begins fV
-- HOW ct_tellsAbout fI
-- HOW ct_about fM
-- HOW ct_lightOf fM
-- HOW ct_boatOf fM
-- HOW ct_brightness fM
-- HOW ct_bestAt fM
-- HOW ct_setting fM
-- HOW ct_saves fV
-- HOW ct_light fM
-- HOW ct_boat fM
-- HOW ct_steer fM
-- HOW ct_talk fM
-- HOW ct_lean fM
-- HOW ct_dim fM
-- HOW ct_set fM
-- HOW ct_ticks fM
-- HOW ct_undo fM
-- HOW ct_save fM
-- HOW ct_restore fM
-- HOW ct_bringsBy fI
-- HOW ct_ifMargin fM
-- HOW ct_held fI
-- HOW ct_room fI
-- HOW ct_dark fI
-- HOW ct_turns fV
-- HOW ct_simulate fM
-- HOW ct_border fM
-- HOW ct_handedIn fM
-- HOW ct_bestMargin fM
-- HOW ct_thrown fI
-- HOW ct_sign fI
-- HOW ct_number fI
/-! the reference: its text, numbers in it -/
def TI (c : Gs) : Prop := ∃ a n, c 9 = nI a ∧ c 8 = nI n ∧ a ≤ n ∧ n ≤ 120
def F_sign (c tx : Gs) : Int32 := if c 9 < c 8 then tx (tn (c 9)) else 0
def dv (d i : Nat) : Int32 := if i < d then nI (10 ^ (d - 1 - i)) else 0
abbrev P_num (tx : Gs) (lo hi v : Int32) (q : Int32 × Gs) : Prop := ¬ q.2 10 = 0 ∧ inn (F_sign q.2 tx) 48 57 ∧ q.1 + v * (F_sign q.2 tx - 48) ≤ hi ∧ lo < q.1 + v * (F_sign q.2 tx - 48) + v
def F_nst (tx : Gs) (lo hi v : Int32) (q : Int32 × Gs) : Int32 × Gs :=
  (q.1 + v * (F_sign q.2 tx - 48), upd (upd q.2 10 (b01 (P_num tx lo hi v q))) 9 (q.2 9 + b01 (P_num tx lo hi v q)))
def F_numN (tx : Gs) (lo hi : Int32) (d : Nat) (c : Gs) : Nat → Int32 × Gs
  | 0 => (0, c)
  | i + 1 => F_nst tx lo hi (dv d i) (F_numN tx lo hi d c i)
def F_num (tx : Gs) (lo hi : Int32) (d : Nat) (c : Gs) : Int32 × Gs := F_numN tx lo hi d c d
theorem TI.at_in {c : Gs} (h : TI c) (hl : c 9 < c 8) : vp_in (c 9) 120 := by
  obtain ⟨a, n, h1, h2, h3, h4⟩ := h
  rw [h1, h2] at hl
  rw [h1]
  exact vp_in_nI (by have := (nI_ltI (by omega) (by omega)).mp hl; omega) (by decide)
theorem dv_s {d i : Nat} (hd : d ≤ 3) (hi : i < d) : dv d i / 10 = dv d (i + 1) ∧ ¬ dv d i ≤ 0 := by
  obtain rfl | rfl | rfl : d = 1 ∨ d = 2 ∨ d = 3 := by omega
  · obtain rfl : i = 0 := by omega
    decide
  · obtain rfl | rfl : i = 0 ∨ i = 1 := by omega
    · decide
    · decide
  · obtain rfl | rfl | rfl : i = 0 ∨ i = 1 ∨ i = 2 := by omega
    · decide
    · decide
    · decide
theorem dv_10 {d : Nat} (h : ¬ nI d = 2) (h3 : ¬ nI d = 3) (hd : 1 ≤ d) (hd3 : d ≤ 3) : 1 = dv d 0 := by
  obtain rfl | rfl | rfl : d = 1 ∨ d = 2 ∨ d = 3 := by omega
  · rfl
  · exact absurd rfl h
  · exact absurd rfl h3
theorem dv_20 {d : Nat} (h : nI d = 2) (hd3 : d ≤ 3) : 10 = dv d 0 := by
  obtain rfl : d = 2 := (nI_eq (by omega) (by decide)).mp h
  rfl
theorem dv_30 {d : Nat} (h : nI d = 3) (hd3 : d ≤ 3) : 100 = dv d 0 := by
  obtain rfl : d = 3 := (nI_eq (by omega) (by decide)).mp h
  rfl
theorem b01_nar (c : Prop) [Decidable c] : narrow (gty 6 10) (.int (b01 c)) = .int (b01 c) ∧ fits (gty 6 10) (.int (b01 c)) = true := by
  unfold b01
  split <;> exact ⟨rfl, rfl⟩
theorem dv_d (d : Nat) : dv d d = 0 := if_neg (by omega)
theorem TI.nst {tx : Gs} {lo hi v : Int32} {q : Int32 × Gs} (h : TI q.2) : TI (F_nst tx lo hi v q).2 := by
  obtain ⟨a, n, h1, h2, h3, h4⟩ := h
  unfold F_nst
  by_cases hp : P_num tx lo hi v q
  · refine ⟨a + 1, n, ?_, ?_, ?_, h4⟩
    · show upd (upd q.2 10 (b01 (P_num tx lo hi v q))) 9 (q.2 9 + b01 (P_num tx lo hi v q)) 9 = _
      rw [pk_us, b01_t hp, h1, nI_succ]
    · show upd (upd q.2 10 (b01 (P_num tx lo hi v q))) 9 (q.2 9 + b01 (P_num tx lo hi v q)) 8 = _
      rw [pk_un (by decide), pk_un (by decide), h2]
    · have hs := hp.2.1
      unfold F_sign at hs
      rw [h1, h2] at hs
      split at hs
      · rename_i hl
        have := (nI_ltI (by omega) (by omega)).mp hl
        omega
      · exact absurd hs.1 (by decide)
  · refine ⟨a, n, ?_, ?_, h3, h4⟩
    · show upd (upd q.2 10 (b01 (P_num tx lo hi v q))) 9 (q.2 9 + b01 (P_num tx lo hi v q)) 9 = _
      rw [pk_us, b01_f hp, h1, Int32.add_zero]
    · show upd (upd q.2 10 (b01 (P_num tx lo hi v q))) 9 (q.2 9 + b01 (P_num tx lo hi v q)) 8 = _
      rw [pk_un (by decide), pk_un (by decide), h2]
theorem TI.numN {tx : Gs} {lo hi : Int32} {d : Nat} {c : Gs} (h : TI c) : ∀ i, TI (F_numN tx lo hi d c i).2
  | 0 => h
  | i + 1 => TI.nst (TI.numN h i)
def mtX6_thrown : Mt := (yX6_thrown, cX6_thrown, 1, (some .int), 0, 0, 0, 0)
theorem kX6_thrown_0 : Dk mtX6_thrown 0 (.aload_n 0) 1 1 := ⟨by decide +kernel, rfl⟩
theorem kX6_thrown_1 : Dk mtX6_thrown 1 (.getfield 32) 3 4 := ⟨by decide +kernel, rfl⟩
theorem kX6_thrown_4 : Dk mtX6_thrown 4 (.ireturn) 1 5 := ⟨by decide +kernel, rfl⟩
set_option maxHeartbeats 4000000 in
set_option maxRecDepth 100000 in
theorem ct_thrown {l : Launch} {w : Wd} {sg : Sg} (hWr : Wr w) {mo : Nat} : M l mtX6_thrown w [vR (some (6, 0, mo))] sg (fI (sg mo 0) sg) := by
  refine M_of [some (vR (some (6, 0, mo)))] rfl (Nat.le_of_ble_eq_true rfl) (by decide +kernel) ?_
  intro p_ e_ s_ m_ args_ below_ meth_ c_ hC hO
  refine V_aload_n hC kX6_thrown_0 rfl ?_
  refine V_getI hC 6 0 lfX6_32 kX6_thrown_1 (Nat.le_of_ble_eq_true rfl) (Nat.le_of_ble_eq_true rfl) rfl ?_
  refine V_ireti hC rfl kX6_thrown_4 ?_
  exact ⟨by with_reducible rfl, by with_reducible rfl⟩
def mtX6_sign : Mt := (yX6_sign, cX6_sign, 1, (some .int), 0, 0, 0, 0)
theorem kX6_sign_0 : Dk mtX6_sign 0 (.aload_n 0) 1 1 := ⟨by decide +kernel, rfl⟩
theorem kX6_sign_1 : Dk mtX6_sign 1 (.getfield 133) 3 4 := ⟨by decide +kernel, rfl⟩
theorem kX6_sign_4 : Dk mtX6_sign 4 (.aload_n 0) 1 5 := ⟨by decide +kernel, rfl⟩
theorem kX6_sign_5 : Dk mtX6_sign 5 (.getfield 130) 3 8 := ⟨by decide +kernel, rfl⟩
theorem kX6_sign_8 : Dk mtX6_sign 8 (.if_icmp .ge 15) 3 11 := ⟨by decide +kernel, rfl⟩
theorem kX6_sign_11 : Dk mtX6_sign 11 (.aload_n 0) 1 12 := ⟨by decide +kernel, rfl⟩
theorem kX6_sign_12 : Dk mtX6_sign 12 (.getfield 26) 3 15 := ⟨by decide +kernel, rfl⟩
theorem kX6_sign_15 : Dk mtX6_sign 15 (.aload_n 0) 1 16 := ⟨by decide +kernel, rfl⟩
theorem kX6_sign_16 : Dk mtX6_sign 16 (.getfield 133) 3 19 := ⟨by decide +kernel, rfl⟩
theorem kX6_sign_19 : Dk mtX6_sign 19 (.iaload) 1 20 := ⟨by decide +kernel, rfl⟩
theorem kX6_sign_20 : Dk mtX6_sign 20 (.goto 4) 3 23 := ⟨by decide +kernel, rfl⟩
theorem kX6_sign_23 : Dk mtX6_sign 23 (.iconst 0) 1 24 := ⟨by decide +kernel, rfl⟩
theorem kX6_sign_24 : Dk mtX6_sign 24 (.ireturn) 1 25 := ⟨by decide +kernel, rfl⟩
theorem lfX6_133 : LkF RX6 133 6 9 := Or.inl (by decide +kernel)
theorem lfX6_130 : LkF RX6 130 6 8 := Or.inl (by decide +kernel)
theorem lfX6_26 : LkF RX6 26 6 7 := Or.inl (by decide +kernel)
set_option maxHeartbeats 4000000 in
set_option maxRecDepth 100000 in
theorem ct_sign {l : Launch} {w : Wd} {sg : Sg} (hWr : Wr w) {mo : Nat} (hT : TI (sg mo)) : M l mtX6_sign w [vR (some (6, 0, mo))] sg (fI (F_sign (sg mo) (sg (mo + 6))) sg) := by
  refine M_of [some (vR (some (6, 0, mo)))] rfl (Nat.le_of_ble_eq_true rfl) (by decide +kernel) ?_
  intro p_ e_ s_ m_ args_ below_ meth_ c_ hC hO
  refine V_join 24 (F_sign (sg mo) (sg (mo + 6))) ?_ (fun j24 => ?_)
  · refine V_ireti hC rfl kX6_sign_24 ?_
    exact ⟨by with_reducible rfl, by with_reducible rfl⟩
  · refine V_aload_n hC kX6_sign_0 rfl ?_
    refine V_getI hC 6 9 lfX6_133 kX6_sign_1 (Nat.le_of_ble_eq_true rfl) (Nat.le_of_ble_eq_true rfl) rfl ?_
    refine V_aload_n hC kX6_sign_4 rfl ?_
    refine V_getI hC 6 8 lfX6_130 kX6_sign_5 (Nat.le_of_ble_eq_true rfl) (Nat.le_of_ble_eq_true rfl) rfl ?_
    refine V_icmp_ge hC 23 kX6_sign_8 (by decide) (fun h8 => ?_) (fun h8 => ?_)
    · refine V_iconst hC (0) kX6_sign_23 (by decide) ?_
      exact j24 _ ((by rw [F_sign, if_neg (Int32.not_lt.mpr h8)]))
    · refine V_aload_n hC kX6_sign_11 rfl ?_
      refine V_getR hC hWr 6 7 lfX6_26 kX6_sign_12 (Nat.le_of_ble_eq_true rfl) (Nat.le_of_ble_eq_true rfl) rfl ?_
      refine V_aload_n hC kX6_sign_15 rfl ?_
      refine V_getI hC 6 9 lfX6_133 kX6_sign_16 (Nat.le_of_ble_eq_true rfl) (Nat.le_of_ble_eq_true rfl) rfl ?_
      refine V_iald hC _ rfl kX6_sign_19 (hT.at_in (Int32.not_le.mp h8)) ?_
      refine V_goto hC 24 kX6_sign_20 (by decide) ?_
      exact j24 _ ((by rw [F_sign, if_pos (Int32.not_le.mp h8)]))
def mtX6_number : Mt := (yX6_number, cX6_number, 7, (some .int), 1, 22, 0, 0)
theorem kX6_number_0 : Dk mtX6_number 0 (.iload_n 1) 1 1 := ⟨by decide +kernel, rfl⟩
theorem kX6_number_1 : Dk mtX6_number 1 (.iconst 3) 1 2 := ⟨by decide +kernel, rfl⟩
theorem kX6_number_2 : Dk mtX6_number 2 (.if_icmp .ne 8) 3 5 := ⟨by decide +kernel, rfl⟩
theorem kX6_number_5 : Dk mtX6_number 5 (.bipush 100) 2 7 := ⟨by decide +kernel, rfl⟩
theorem kX6_number_7 : Dk mtX6_number 7 (.goto 14) 3 10 := ⟨by decide +kernel, rfl⟩
theorem kX6_number_10 : Dk mtX6_number 10 (.iload_n 1) 1 11 := ⟨by decide +kernel, rfl⟩
theorem kX6_number_11 : Dk mtX6_number 11 (.iconst 2) 1 12 := ⟨by decide +kernel, rfl⟩
theorem kX6_number_12 : Dk mtX6_number 12 (.if_icmp .ne 8) 3 15 := ⟨by decide +kernel, rfl⟩
theorem kX6_number_15 : Dk mtX6_number 15 (.bipush 10) 2 17 := ⟨by decide +kernel, rfl⟩
theorem kX6_number_17 : Dk mtX6_number 17 (.goto 4) 3 20 := ⟨by decide +kernel, rfl⟩
theorem kX6_number_20 : Dk mtX6_number 20 (.iconst 1) 1 21 := ⟨by decide +kernel, rfl⟩
theorem kX6_number_21 : Dk mtX6_number 21 (.istore 4) 2 23 := ⟨by decide +kernel, rfl⟩
theorem kX6_number_23 : Dk mtX6_number 23 (.iconst 0) 1 24 := ⟨by decide +kernel, rfl⟩
theorem kX6_number_24 : Dk mtX6_number 24 (.istore 5) 2 26 := ⟨by decide +kernel, rfl⟩
theorem kX6_number_26 : Dk mtX6_number 26 (.iload 4) 2 28 := ⟨by decide +kernel, rfl⟩
theorem kX6_number_28 : Dk mtX6_number 28 (.ifCond .le 98) 3 31 := ⟨by decide +kernel, rfl⟩
theorem kX6_number_31 : Dk mtX6_number 31 (.iload 5) 2 33 := ⟨by decide +kernel, rfl⟩
theorem kX6_number_33 : Dk mtX6_number 33 (.iload 4) 2 35 := ⟨by decide +kernel, rfl⟩
theorem kX6_number_35 : Dk mtX6_number 35 (.aload_n 0) 1 36 := ⟨by decide +kernel, rfl⟩
theorem kX6_number_36 : Dk mtX6_number 36 (.invokevirtual 136) 3 39 := ⟨by decide +kernel, rfl⟩
theorem kX6_number_39 : Dk mtX6_number 39 (.bipush 48) 2 41 := ⟨by decide +kernel, rfl⟩
theorem kX6_number_41 : Dk mtX6_number 41 (.isub) 1 42 := ⟨by decide +kernel, rfl⟩
theorem kX6_number_42 : Dk mtX6_number 42 (.imul) 1 43 := ⟨by decide +kernel, rfl⟩
theorem kX6_number_43 : Dk mtX6_number 43 (.iadd) 1 44 := ⟨by decide +kernel, rfl⟩
theorem kX6_number_44 : Dk mtX6_number 44 (.istore 6) 2 46 := ⟨by decide +kernel, rfl⟩
theorem kX6_number_46 : Dk mtX6_number 46 (.aload_n 0) 1 47 := ⟨by decide +kernel, rfl⟩
theorem kX6_number_47 : Dk mtX6_number 47 (.aload_n 0) 1 48 := ⟨by decide +kernel, rfl⟩
theorem kX6_number_48 : Dk mtX6_number 48 (.getfield 140) 3 51 := ⟨by decide +kernel, rfl⟩
theorem kX6_number_51 : Dk mtX6_number 51 (.ifCond .eq 36) 3 54 := ⟨by decide +kernel, rfl⟩
theorem kX6_number_54 : Dk mtX6_number 54 (.aload_n 0) 1 55 := ⟨by decide +kernel, rfl⟩
theorem kX6_number_55 : Dk mtX6_number 55 (.invokevirtual 136) 3 58 := ⟨by decide +kernel, rfl⟩
theorem kX6_number_58 : Dk mtX6_number 58 (.bipush 48) 2 60 := ⟨by decide +kernel, rfl⟩
theorem kX6_number_60 : Dk mtX6_number 60 (.bipush 57) 2 62 := ⟨by decide +kernel, rfl⟩
theorem kX6_number_62 : Dk mtX6_number 62 (.invokestatic 39) 3 65 := ⟨by decide +kernel, rfl⟩
theorem kX6_number_65 : Dk mtX6_number 65 (.ifCond .eq 22) 3 68 := ⟨by decide +kernel, rfl⟩
theorem kX6_number_68 : Dk mtX6_number 68 (.iload 6) 2 70 := ⟨by decide +kernel, rfl⟩
theorem kX6_number_70 : Dk mtX6_number 70 (.iload_n 3) 1 71 := ⟨by decide +kernel, rfl⟩
theorem kX6_number_71 : Dk mtX6_number 71 (.if_icmp .gt 16) 3 74 := ⟨by decide +kernel, rfl⟩
theorem kX6_number_74 : Dk mtX6_number 74 (.iload 6) 2 76 := ⟨by decide +kernel, rfl⟩
theorem kX6_number_76 : Dk mtX6_number 76 (.iload 4) 2 78 := ⟨by decide +kernel, rfl⟩
theorem kX6_number_78 : Dk mtX6_number 78 (.iadd) 1 79 := ⟨by decide +kernel, rfl⟩
theorem kX6_number_79 : Dk mtX6_number 79 (.iload_n 2) 1 80 := ⟨by decide +kernel, rfl⟩
theorem kX6_number_80 : Dk mtX6_number 80 (.if_icmp .le 7) 3 83 := ⟨by decide +kernel, rfl⟩
theorem kX6_number_83 : Dk mtX6_number 83 (.iconst 1) 1 84 := ⟨by decide +kernel, rfl⟩
theorem kX6_number_84 : Dk mtX6_number 84 (.goto 4) 3 87 := ⟨by decide +kernel, rfl⟩
theorem kX6_number_87 : Dk mtX6_number 87 (.iconst 0) 1 88 := ⟨by decide +kernel, rfl⟩
theorem kX6_number_88 : Dk mtX6_number 88 (.putfield 140) 3 91 := ⟨by decide +kernel, rfl⟩
theorem kX6_number_91 : Dk mtX6_number 91 (.aload_n 0) 1 92 := ⟨by decide +kernel, rfl⟩
theorem kX6_number_92 : Dk mtX6_number 92 (.dup) 1 93 := ⟨by decide +kernel, rfl⟩
theorem kX6_number_93 : Dk mtX6_number 93 (.getfield 133) 3 96 := ⟨by decide +kernel, rfl⟩
theorem kX6_number_96 : Dk mtX6_number 96 (.aload_n 0) 1 97 := ⟨by decide +kernel, rfl⟩
theorem kX6_number_97 : Dk mtX6_number 97 (.getfield 140) 3 100 := ⟨by decide +kernel, rfl⟩
theorem kX6_number_100 : Dk mtX6_number 100 (.ifCond .eq 7) 3 103 := ⟨by decide +kernel, rfl⟩
theorem kX6_number_103 : Dk mtX6_number 103 (.iconst 1) 1 104 := ⟨by decide +kernel, rfl⟩
theorem kX6_number_104 : Dk mtX6_number 104 (.goto 4) 3 107 := ⟨by decide +kernel, rfl⟩
theorem kX6_number_107 : Dk mtX6_number 107 (.iconst 0) 1 108 := ⟨by decide +kernel, rfl⟩
theorem kX6_number_108 : Dk mtX6_number 108 (.iadd) 1 109 := ⟨by decide +kernel, rfl⟩
theorem kX6_number_109 : Dk mtX6_number 109 (.putfield 133) 3 112 := ⟨by decide +kernel, rfl⟩
theorem kX6_number_112 : Dk mtX6_number 112 (.iload 6) 2 114 := ⟨by decide +kernel, rfl⟩
theorem kX6_number_114 : Dk mtX6_number 114 (.istore 5) 2 116 := ⟨by decide +kernel, rfl⟩
theorem kX6_number_116 : Dk mtX6_number 116 (.iload 4) 2 118 := ⟨by decide +kernel, rfl⟩
theorem kX6_number_118 : Dk mtX6_number 118 (.bipush 10) 2 120 := ⟨by decide +kernel, rfl⟩
theorem kX6_number_120 : Dk mtX6_number 120 (.idiv) 1 121 := ⟨by decide +kernel, rfl⟩
theorem kX6_number_121 : Dk mtX6_number 121 (.istore 4) 2 123 := ⟨by decide +kernel, rfl⟩
theorem kX6_number_123 : Dk mtX6_number 123 (.goto (-97)) 3 126 := ⟨by decide +kernel, rfl⟩
theorem kX6_number_126 : Dk mtX6_number 126 (.iload 5) 2 128 := ⟨by decide +kernel, rfl⟩
theorem kX6_number_128 : Dk mtX6_number 128 (.ireturn) 1 129 := ⟨by decide +kernel, rfl⟩
theorem lmX6_136 : LkM RX6 136 mtX6_sign := Or.inl (by decide +kernel)
theorem mkX6_sign : MkV mtX6_sign 0 := ⟨List.mem_of_getElem? (i := 1098) (by decide +kernel), by decide +kernel, by decide +kernel, by decide +kernel, ⟨by decide +kernel, by decide +kernel, by decide +kernel⟩⟩
theorem lfX6_140 : LkF RX6 140 6 10 := Or.inl (by decide +kernel)
set_option maxHeartbeats 4000000 in
set_option maxRecDepth 100000 in
theorem ct_number {l : Launch} {w : Wd} {sg : Sg} (hWr : Wr w) {mo d : Nat} {dI : Int32} (lo mx : Int32) (hd : 1 ≤ d) (hd3 : d ≤ 3) (ed : dI = nI d) (hT : TI (sg mo)) : M l mtX6_number w [vR (some (6, 0, mo)), vI dI, vI lo, vI mx] sg (fI (F_num (sg (mo + 6)) lo mx d (sg mo)).1 (upr sg mo (F_num (sg (mo + 6)) lo mx d (sg mo)).2)) := by
  refine M_of [some (vR (some (6, 0, mo))), some (vI dI), some (vI lo), some (vI mx), none, none, none] rfl (Nat.le_of_ble_eq_true rfl) (by decide +kernel) ?_
  intro p_ e_ s_ m_ args_ below_ meth_ c_ hC hO
  subst ed
  refine V_join 21 (dv d 0) ?_ (fun j21 => ?_)
  · refine V_istore hC [some _, some _, some _, some _, some _, none, none] kX6_number_21 rfl (Nat.le_of_ble_eq_true rfl) ?_
    refine V_iconst hC (0) kX6_number_23 (by decide) ?_
    refine V_istore hC [some _, some _, some _, some _, some _, some _, none] kX6_number_24 rfl (Nat.le_of_ble_eq_true rfl) ?_
    refine V_canon (upr sg mo (F_numN (sg (mo + 6)) lo mx d (sg mo) 0).2) (by rw [F_numN]; exact (upr_self _ _).symm) ?_
    refine V_loop d (fun i => [some (vR (some (6, 0, mo))), some (vI (nI d)), some (vI lo), some (vI mx), some (vI (dv d i)), some (vI (F_numN (sg (mo + 6)) lo mx d (sg mo) i).1), none]) (fun i => upr sg mo (F_numN (sg (mo + 6)) lo mx d (sg mo) i).2) rfl rfl ?_ (fun i hi ihi => ?_)
    · refine V_iload hC kX6_number_26 rfl ?_
      refine V_if_le hC 126 kX6_number_28 (by decide) (fun h28 => ?_) (fun h28 => absurd h28 (not_not_intro (by rw [dv_d]; decide)))
      refine V_iload hC kX6_number_126 rfl ?_
      refine V_ireti hC rfl kX6_number_128 ?_
      unfold F_num
      exact ⟨by with_reducible rfl, by with_reducible rfl⟩
    · obtain ⟨hv1, hv2⟩ := dv_s hd3 hi
      have hTi : TI (F_numN (sg (mo + 6)) lo mx d (sg mo) i).2 := hT.numN i
      refine V_iload hC kX6_number_26 rfl ?_
      refine V_if_le hC 126 kX6_number_28 (by decide) (fun h28 => absurd h28 hv2) (fun h28 => ?_)
      refine V_iload hC kX6_number_31 rfl ?_
      refine V_iload hC kX6_number_33 rfl ?_
      refine V_aload_n hC kX6_number_35 rfl ?_
      refine V_cV_fI hC (ct_sign hWr (by rw [upr_at]; exact hTi)) mkX6_sign lmX6_136 kX6_number_36 (Nat.le_of_ble_eq_true rfl) rfl rfl rfl (Nat.le_of_ble_eq_true rfl) ⟨(Nat.le_of_ble_eq_true rfl), (Nat.le_of_ble_eq_true rfl)⟩ ⟨rfl, rfl⟩ ⟨(Nat.le_of_ble_eq_true rfl), (Nat.le_of_ble_eq_true rfl)⟩ ?_
      refine V_bipush hC (48) kX6_number_39 (by decide) ?_
      refine V_isub hC kX6_number_41 ?_
      refine V_imul hC kX6_number_42 ?_
      refine V_iadd hC kX6_number_43 ?_
      refine V_istore hC [some _, some _, some _, some _, some _, some _, some _] kX6_number_44 rfl (Nat.le_of_ble_eq_true rfl) ?_
      refine V_aload_n hC kX6_number_46 rfl ?_
      refine V_join 88 (b01 (P_num (sg (mo + 6)) lo mx (dv d i) (F_numN (sg (mo + 6)) lo mx d (sg mo) i))) ?_ (fun j88 => ?_)
      · refine V_putI hC 6 10 lfX6_140 kX6_number_88 (Nat.le_of_ble_eq_true rfl) (Nat.le_of_ble_eq_true rfl) rfl rfl (b01_nar _) ?_
        refine V_aload_n hC kX6_number_91 rfl ?_
        refine V_dup hC kX6_number_92 rfl ?_
        refine V_getI hC 6 9 lfX6_133 kX6_number_93 (Nat.le_of_ble_eq_true rfl) (Nat.le_of_ble_eq_true rfl) rfl ?_
        refine V_join 108 (b01 (P_num (sg (mo + 6)) lo mx (dv d i) (F_numN (sg (mo + 6)) lo mx d (sg mo) i))) ?_ (fun j108 => ?_)
        · refine V_iadd hC kX6_number_108 ?_
          refine V_putI hC 6 9 lfX6_133 kX6_number_109 (Nat.le_of_ble_eq_true rfl) (Nat.le_of_ble_eq_true rfl) rfl rfl ⟨rfl, rfl⟩ ?_
          refine V_iload hC kX6_number_112 rfl ?_
          refine V_istore hC [some _, some _, some _, some _, some _, some _, some _] kX6_number_114 rfl (Nat.le_of_ble_eq_true rfl) ?_
          refine V_iload hC kX6_number_116 rfl ?_
          refine V_bipush hC (10) kX6_number_118 (by decide) ?_
          refine V_idiv hC kX6_number_120 (by decide) ?_
          refine V_istore hC [some _, some _, some _, some _, some _, some _, some _] kX6_number_121 rfl (Nat.le_of_ble_eq_true rfl) ?_
          refine V_goto hC 26 kX6_number_123 (by decide) ?_
          refine V_drop 6 [_, _, _, _, _, _, none] rfl ?_
          refine V_eq ?_ ?_ ihi
          · rw [hv1, upr_at, upr_ne _ _ (by omega), F_numN, F_nst]
          · rw [F_numN, F_nst]
            unfold ups
            simp only [upr_at, upr_upr]
            rw [pk_un (by decide)]
        · refine V_aload_n hC kX6_number_96 rfl ?_
          refine V_getI hC 6 10 lfX6_140 kX6_number_97 (Nat.le_of_ble_eq_true rfl) (Nat.le_of_ble_eq_true rfl) rfl ?_
          refine V_if_eq hC 107 kX6_number_100 (by decide) (fun h100 => ?_) (fun h100 => ?_)
          · refine V_iconst hC (0) kX6_number_107 (by decide) ?_
            exact j108 _ ((b01_f (fun z => by rw [ups_at, pk_us, b01_t z] at h100; exact absurd h100 (by decide))).symm)
          · refine V_iconst hC (1) kX6_number_103 (by decide) ?_
            refine V_goto hC 108 kX6_number_104 (by decide) ?_
            exact j108 _ ((b01_t (Classical.byContradiction (fun z => h100 (by rw [ups_at, pk_us, b01_f z])))).symm)
      · refine V_aload_n hC kX6_number_47 rfl ?_
        refine V_getI hC 6 10 lfX6_140 kX6_number_48 (Nat.le_of_ble_eq_true rfl) (Nat.le_of_ble_eq_true rfl) rfl ?_
        refine V_if_eq hC 87 kX6_number_51 (by decide) (fun h51 => ?_) (fun h51 => ?_)
        · refine V_iconst hC (0) kX6_number_87 (by decide) ?_
          exact j88 _ ((b01_f (fun z => z.1 (by rw [upr_at] at h51; exact h51))).symm)
        · refine V_aload_n hC kX6_number_54 rfl ?_
          refine V_cV_fI hC (ct_sign hWr (by rw [upr_at]; exact hTi)) mkX6_sign lmX6_136 kX6_number_55 (Nat.le_of_ble_eq_true rfl) rfl rfl rfl (Nat.le_of_ble_eq_true rfl) ⟨(Nat.le_of_ble_eq_true rfl), (Nat.le_of_ble_eq_true rfl)⟩ ⟨rfl, rfl⟩ ⟨(Nat.le_of_ble_eq_true rfl), (Nat.le_of_ble_eq_true rfl)⟩ ?_
          refine V_bipush hC (48) kX6_number_58 (by decide) ?_
          refine V_bipush hC (57) kX6_number_60 (by decide) ?_
          refine V_cS_fI hC (ct_in hWr _ _ _) mkX6_in lmX6_39 kX6_number_62 rfl rfl (Nat.le_of_ble_eq_true rfl) ⟨(Nat.le_of_ble_eq_true rfl), (Nat.le_of_ble_eq_true rfl)⟩ ⟨rfl, rfl⟩ ⟨(Nat.le_of_ble_eq_true rfl), (Nat.le_of_ble_eq_true rfl)⟩ ?_
          refine V_if_eq hC 87 kX6_number_65 (by decide) (fun h65 => ?_) (fun h65 => ?_)
          · refine V_iconst hC (0) kX6_number_87 (by decide) ?_
            exact j88 _ ((b01_f (fun z => b01e.mp h65 (by rw [upr_at, upr_ne _ _ (by omega)]; exact z.2.1))).symm)
          · refine V_iload hC kX6_number_68 rfl ?_
            refine V_iload_n hC kX6_number_70 rfl ?_
            refine V_icmp_gt hC 87 kX6_number_71 (by decide) (fun h71 => ?_) (fun h71 => ?_)
            · refine V_iconst hC (0) kX6_number_87 (by decide) ?_
              exact j88 _ ((b01_f (fun z => Int32.not_lt.mpr z.2.2.1 (by rw [upr_at, upr_ne _ _ (by omega)] at h71; exact h71))).symm)
            · refine V_iload hC kX6_number_74 rfl ?_
              refine V_iload hC kX6_number_76 rfl ?_
              refine V_iadd hC kX6_number_78 ?_
              refine V_iload_n hC kX6_number_79 rfl ?_
              refine V_icmp_le hC 87 kX6_number_80 (by decide) (fun h80 => ?_) (fun h80 => ?_)
              · refine V_iconst hC (0) kX6_number_87 (by decide) ?_
                exact j88 _ ((b01_f (fun z => Int32.not_lt.mpr (by rw [upr_at, upr_ne _ _ (by omega)] at h80; exact h80) z.2.2.2)).symm)
              · refine V_iconst hC (1) kX6_number_83 (by decide) ?_
                refine V_goto hC 88 kX6_number_84 (by decide) ?_
                exact j88 _ ((b01_t ⟨fun z => h51 (by rw [upr_at]; exact z), by have := b01n.mp h65; rw [upr_at, upr_ne _ _ (by omega)] at this; exact this, by rw [upr_at, upr_ne _ _ (by omega)] at h71; exact Int32.not_lt.mp h71, by rw [upr_at, upr_ne _ _ (by omega)] at h80; exact Int32.not_le.mp h80⟩).symm)
  · refine V_iload_n hC kX6_number_0 rfl ?_
    refine V_iconst hC (3) kX6_number_1 (by decide) ?_
    refine V_icmp_ne hC 10 kX6_number_2 (by decide) (fun h2 => ?_) (fun h2 => ?_)
    · refine V_iload_n hC kX6_number_10 rfl ?_
      refine V_iconst hC (2) kX6_number_11 (by decide) ?_
      refine V_icmp_ne hC 20 kX6_number_12 (by decide) (fun h12 => ?_) (fun h12 => ?_)
      · refine V_iconst hC (1) kX6_number_20 (by decide) ?_
        exact j21 _ ((dv_10 h12 h2 hd hd3))
      · refine V_bipush hC (10) kX6_number_15 (by decide) ?_
        refine V_goto hC 21 kX6_number_17 (by decide) ?_
        exact j21 _ ((dv_20 h12 hd3))
    · refine V_bipush hC (100) kX6_number_5 (by decide) ?_
      refine V_goto hC 21 kX6_number_7 (by decide) ?_
      exact j21 _ ((dv_30 h2 hd3))
end
section
-- HOW ct_in fI
-- HOW ct_fails fI
-- HOW ct_of fI
-- HOW ct_ofBoat fI
-- HOW ct_layBoat fV
-- HOW ct_isLight fI
-- HOW ct_isBoat fI
-- HOW ct_isPlace fI
-- HOW ct_bright fI
-- HOW ct_worth fI
-- HOW ct_serves fI
-- HOW ct_best fI
-- HOW ct_sails fV
-- HOW ct_drops fV
-- HOW ct_wished fI
-- HOW ct_hands fV
-- HOW ct_wishes fV
-- HOW ct_finds fV
-- HOW ct_goesOn fV
-- HOW ct_goesTick fV
-- HOW ct_goesBy fI
-- HOW ct_putAside fV
-- HOW ct_takeBack fV
-- HOW ct_isLamp fI
-- HOW ct_addsLight fI
-- HOW ct_actsLight fI
-- HOW ct_addsBoat fI
-- HOW ct_actsBoat fI
-- HOW ct_actsSteer fI
-- HOW ct_canTalk fI
-- HOW ct_actsTalk fI
-- HOW ct_actsLean fI
-- HOW ct_actsDim fI
-- HOW ct_mostOf fI
-- HOW ct_isSetting fI
-- HOW ct_actsSet fI
-- HOW ct_actsTicks fI
-- HOW ct_boatsThat fI
-- HOW ct_servedBy fI
-- HOW ct_begins fV
-- HOW ct_tellsAbout fI
-- HOW ct_about fM
-- HOW ct_lightOf fM
-- HOW ct_boatOf fM
-- HOW ct_brightness fM
-- HOW ct_bestAt fM
-- HOW ct_setting fM
-- HOW ct_saves fV
-- HOW ct_light fM
-- HOW ct_boat fM
-- HOW ct_steer fM
-- HOW ct_talk fM
-- HOW ct_lean fM
-- HOW ct_dim fM
-- HOW ct_set fM
-- HOW ct_ticks fM
-- HOW ct_undo fM
-- HOW ct_save fM
-- HOW ct_restore fM
-- HOW ct_bringsBy fI
-- HOW ct_ifMargin fM
-- HOW ct_held fI
-- HOW ct_room fI
-- HOW ct_dark fI
-- HOW ct_turns fV
-- HOW ct_simulate fM
-- HOW ct_border fM
-- HOW ct_handedIn fM
-- HOW ct_bestMargin fM
-- HOW ct_thrown fI
-- HOW ct_sign fI
-- HOW ct_number fI
-- HOW ct_carriesLight fI
-- HOW ct_carries fI
/-! the reference: reading the text -/
def fm (a : Int32) (i : Nat) : Nat × Int32 × Int32 :=
  if a = 108 then (match i with | 0 => (3, 0, 199) | 1 => (2, 10, 99) | 2 => (1, 0, 2) | 3 => (2, 1, 20) | 4 => (1, 1, 6) | _ => (1, 0, 6))
  else if a = 98 then (match i with | 0 => (3, 0, 199) | _ => (2, 0, 12))
  else if a = 107 then (match i with | 0 => (1, 0, 7) | _ => (2, 1, 99))
  else if a = 118 then (match i with | 0 => (1, 0, 7) | _ => (2, 0, 12))
  else if a = 109 then (3, 0, 100)
  else (2, 1, 60)
def nfm (a : Int32) : Nat := if a = 108 then 6 else if a = 98 ∨ a = 107 ∨ a = 118 then 2 else 1
def F_nms (tx : Gs) (a : Int32) (c : Gs) : Nat → Int32 × Gs
  | 0 => (0, c)
  | i + 1 => F_num tx (fm a i).2.1 (fm a i).2.2 (fm a i).1 (F_nms tx a c i).2
theorem F_nms_s {tx : Gs} {a : Int32} {c : Gs} {i d : Nat} {lo hi : Int32} (h : fm a i = (d, lo, hi)) : F_nms tx a c (i + 1) = F_num tx lo hi d (F_nms tx a c i).2 := by
  rw [F_nms, h]
theorem TI.nms {tx : Gs} {a : Int32} {c : Gs} (h : TI c) : ∀ i, TI (F_nms tx a c i).2
  | 0 => h
  | i + 1 => TI.numN (TI.nms h i) _
abbrev cCmd (a : Int32) : Prop := a = 108 ∨ a = 98 ∨ a = 107 ∨ a = 118 ∨ a = 109 ∨ a = 116
def F_obR (g : Gs) (a : Int32) (v : Nat → Int32) : Int32 :=
  if a = 108 then (if cLight g (v 0) (v 1) (v 2) (v 3) (v 4) (v 5) then F_addLight g (v 0) (v 1) (v 2) (v 3) (v 4) (v 5) 4 - 1 else -1)
  else if a = 98 then (if cBoat g (v 0) (v 1 - 6) then g 5 else -1)
  else if a = 107 then (if cTalk g (v 0) (v 1) then 0 else -1)
  else if a = 118 then (if cSteer g (v 0) (v 1 - 6) then 0 else -1)
  else if a = 109 then (if cSet 0 (v 0) then 0 else -1)
  else (if inn (v 0) 1 60 then F_ticks g (tn (v 0)) 7 - g 7 else -1)
def F_obG (g : Gs) (a : Int32) (v : Nat → Int32) : Gs :=
  if a = 108 then (if cLight g (v 0) (v 1) (v 2) (v 3) (v 4) (v 5) then F_addLight g (v 0) (v 1) (v 2) (v 3) (v 4) (v 5) else g)
  else if a = 98 then (if cBoat g (v 0) (v 1 - 6) then F_addBoat g (v 0) (v 1 - 6) else g)
  else if a = 107 then (if cTalk g (v 0) (v 1) then pB g (v 0) 3 (v 1) else g)
  else if a = 118 then (if cSteer g (v 0) (v 1 - 6) then pB g (v 0) 1 (v 1 - 6) else g)
  else if a = 109 then (if cSet 0 (v 0) then upd g (tn 0) (v 0) else g)
  else (if inn (v 0) 1 60 then F_ticks g (tn (v 0)) else g)
def F_vals (tx : Gs) (a : Int32) (c : Gs) (i : Nat) : Int32 := (F_nms tx a c (i + 1)).1
def F_rd (tx : Gs) (a : Int32) (c : Gs) : Gs := (F_nms tx a c (nfm a)).2
abbrev P_obey (tx : Gs) (a : Int32) (c : Gs) : Prop := ¬ F_rd tx a c 10 = 0 ∧ ¬ F_rd tx a c 11 = 0
def R_carries (tx : Gs) (a : Int32) (c g : Gs) : Int32 := if P_obey tx a c then F_obR g a (F_vals tx a c) else 0
def G_carries (tx : Gs) (a : Int32) (c g : Gs) : Gs := if P_obey tx a c then F_obG g a (F_vals tx a c) else g
theorem upr_same {sg : Sg} {k : Nat} {r : Nat → Int32} (h : sg k = r) : upr sg k r = sg := by rw [← h, upr_self]
theorem rd_108 (tx c : Gs) : F_rd tx 108 c = (F_nms tx 108 c 6).2 := by rw [F_rd, show nfm 108 = 6 by decide +kernel]
theorem obR_108 (g : Gs) (v : Nat → Int32) : F_obR g 108 v = (if cLight g (v 0) (v 1) (v 2) (v 3) (v 4) (v 5) then F_addLight g (v 0) (v 1) (v 2) (v 3) (v 4) (v 5) 4 - 1 else -1) := if_pos rfl
theorem obG_108 (g : Gs) (v : Nat → Int32) : F_obG g 108 v = (if cLight g (v 0) (v 1) (v 2) (v 3) (v 4) (v 5) then F_addLight g (v 0) (v 1) (v 2) (v 3) (v 4) (v 5) else g) := if_pos rfl
theorem rd_98 (tx c : Gs) : F_rd tx 98 c = (F_nms tx 98 c 2).2 := by rw [F_rd, show nfm 98 = 2 by decide +kernel]
theorem rd_107 (tx c : Gs) : F_rd tx 107 c = (F_nms tx 107 c 2).2 := by rw [F_rd, show nfm 107 = 2 by decide +kernel]
theorem rd_118 (tx c : Gs) : F_rd tx 118 c = (F_nms tx 118 c 2).2 := by rw [F_rd, show nfm 118 = 2 by decide +kernel]
theorem rd_109 (tx c : Gs) : F_rd tx 109 c = (F_nms tx 109 c 1).2 := by rw [F_rd, show nfm 109 = 1 by decide +kernel]
theorem rd_116 (tx c : Gs) : F_rd tx 116 c = (F_nms tx 116 c 1).2 := by rw [F_rd, show nfm 116 = 1 by decide +kernel]
theorem obR_98 (g : Gs) (v : Nat → Int32) : F_obR g 98 v = (if cBoat g (v 0) (v 1 - 6) then g 5 else -1) := (if_neg (by decide)).trans (if_pos rfl)
theorem obG_98 (g : Gs) (v : Nat → Int32) : F_obG g 98 v = (if cBoat g (v 0) (v 1 - 6) then F_addBoat g (v 0) (v 1 - 6) else g) := (if_neg (by decide)).trans (if_pos rfl)
theorem obR_107 (g : Gs) (v : Nat → Int32) : F_obR g 107 v = (if cTalk g (v 0) (v 1) then 0 else -1) := (if_neg (by decide)).trans ((if_neg (by decide)).trans (if_pos rfl))
theorem obG_107 (g : Gs) (v : Nat → Int32) : F_obG g 107 v = (if cTalk g (v 0) (v 1) then pB g (v 0) 3 (v 1) else g) := (if_neg (by decide)).trans ((if_neg (by decide)).trans (if_pos rfl))
theorem obR_118 (g : Gs) (v : Nat → Int32) : F_obR g 118 v = (if cSteer g (v 0) (v 1 - 6) then 0 else -1) := (if_neg (by decide)).trans ((if_neg (by decide)).trans ((if_neg (by decide)).trans (if_pos rfl)))
theorem obG_118 (g : Gs) (v : Nat → Int32) : F_obG g 118 v = (if cSteer g (v 0) (v 1 - 6) then pB g (v 0) 1 (v 1 - 6) else g) := (if_neg (by decide)).trans ((if_neg (by decide)).trans ((if_neg (by decide)).trans (if_pos rfl)))
theorem obR_109 (g : Gs) (v : Nat → Int32) : F_obR g 109 v = (if cSet 0 (v 0) then 0 else -1) := (if_neg (by decide)).trans ((if_neg (by decide)).trans ((if_neg (by decide)).trans ((if_neg (by decide)).trans (if_pos rfl))))
theorem obG_109 (g : Gs) (v : Nat → Int32) : F_obG g 109 v = (if cSet 0 (v 0) then upd g (tn 0) (v 0) else g) := (if_neg (by decide)).trans ((if_neg (by decide)).trans ((if_neg (by decide)).trans ((if_neg (by decide)).trans (if_pos rfl))))
theorem obR_116 (g : Gs) (v : Nat → Int32) : F_obR g 116 v = (if inn (v 0) 1 60 then F_ticks g (tn (v 0)) 7 - g 7 else -1) := (if_neg (by decide)).trans ((if_neg (by decide)).trans ((if_neg (by decide)).trans ((if_neg (by decide)).trans (if_neg (by decide)))))
theorem obG_116 (g : Gs) (v : Nat → Int32) : F_obG g 116 v = (if inn (v 0) 1 60 then F_ticks g (tn (v 0)) else g) := (if_neg (by decide)).trans ((if_neg (by decide)).trans ((if_neg (by decide)).trans ((if_neg (by decide)).trans (if_neg (by decide)))))
theorem fm_108_0 : fm 108 0 = (3, 0, 199) := by decide +kernel
theorem fm_108_1 : fm 108 1 = (2, 10, 99) := by decide +kernel
theorem fm_108_2 : fm 108 2 = (1, 0, 2) := by decide +kernel
theorem fm_108_3 : fm 108 3 = (2, 1, 20) := by decide +kernel
theorem fm_108_4 : fm 108 4 = (1, 1, 6) := by decide +kernel
theorem fm_108_5 : fm 108 5 = (1, 0, 6) := by decide +kernel
theorem fm_98_0 : fm 98 0 = (3, 0, 199) := by decide +kernel
theorem fm_98_1 : fm 98 1 = (2, 0, 12) := by decide +kernel
theorem fm_107_0 : fm 107 0 = (1, 0, 7) := by decide +kernel
theorem fm_107_1 : fm 107 1 = (2, 1, 99) := by decide +kernel
theorem fm_118_0 : fm 118 0 = (1, 0, 7) := by decide +kernel
theorem fm_118_1 : fm 118 1 = (2, 0, 12) := by decide +kernel
theorem fm_109_0 : fm 109 0 = (3, 0, 100) := by decide +kernel
theorem fm_116_0 : fm 116 0 = (2, 1, 60) := by decide +kernel
def mtX6_carriesLight : Mt := (yX6_carriesLight, cX6_carriesLight, 7, (some .int), 3, 74, 0, 0)
theorem kX6_carriesLight_0 : Dk mtX6_carriesLight 0 (.aload_n 0) 1 1 := ⟨by decide +kernel, rfl⟩
theorem kX6_carriesLight_1 : Dk mtX6_carriesLight 1 (.iconst 3) 1 2 := ⟨by decide +kernel, rfl⟩
theorem kX6_carriesLight_2 : Dk mtX6_carriesLight 2 (.iconst 0) 1 3 := ⟨by decide +kernel, rfl⟩
theorem kX6_carriesLight_3 : Dk mtX6_carriesLight 3 (.sipush 199) 3 6 := ⟨by decide +kernel, rfl⟩
theorem kX6_carriesLight_6 : Dk mtX6_carriesLight 6 (.invokevirtual 144) 3 9 := ⟨by decide +kernel, rfl⟩
theorem kX6_carriesLight_9 : Dk mtX6_carriesLight 9 (.istore_n 1) 1 10 := ⟨by decide +kernel, rfl⟩
theorem kX6_carriesLight_10 : Dk mtX6_carriesLight 10 (.aload_n 0) 1 11 := ⟨by decide +kernel, rfl⟩
theorem kX6_carriesLight_11 : Dk mtX6_carriesLight 11 (.iconst 2) 1 12 := ⟨by decide +kernel, rfl⟩
theorem kX6_carriesLight_12 : Dk mtX6_carriesLight 12 (.bipush 10) 2 14 := ⟨by decide +kernel, rfl⟩
theorem kX6_carriesLight_14 : Dk mtX6_carriesLight 14 (.bipush 99) 2 16 := ⟨by decide +kernel, rfl⟩
theorem kX6_carriesLight_16 : Dk mtX6_carriesLight 16 (.invokevirtual 144) 3 19 := ⟨by decide +kernel, rfl⟩
theorem kX6_carriesLight_19 : Dk mtX6_carriesLight 19 (.istore_n 2) 1 20 := ⟨by decide +kernel, rfl⟩
theorem kX6_carriesLight_20 : Dk mtX6_carriesLight 20 (.aload_n 0) 1 21 := ⟨by decide +kernel, rfl⟩
theorem kX6_carriesLight_21 : Dk mtX6_carriesLight 21 (.iconst 1) 1 22 := ⟨by decide +kernel, rfl⟩
theorem kX6_carriesLight_22 : Dk mtX6_carriesLight 22 (.iconst 0) 1 23 := ⟨by decide +kernel, rfl⟩
theorem kX6_carriesLight_23 : Dk mtX6_carriesLight 23 (.iconst 2) 1 24 := ⟨by decide +kernel, rfl⟩
theorem kX6_carriesLight_24 : Dk mtX6_carriesLight 24 (.invokevirtual 144) 3 27 := ⟨by decide +kernel, rfl⟩
theorem kX6_carriesLight_27 : Dk mtX6_carriesLight 27 (.istore_n 3) 1 28 := ⟨by decide +kernel, rfl⟩
theorem kX6_carriesLight_28 : Dk mtX6_carriesLight 28 (.aload_n 0) 1 29 := ⟨by decide +kernel, rfl⟩
theorem kX6_carriesLight_29 : Dk mtX6_carriesLight 29 (.iconst 2) 1 30 := ⟨by decide +kernel, rfl⟩
theorem kX6_carriesLight_30 : Dk mtX6_carriesLight 30 (.iconst 1) 1 31 := ⟨by decide +kernel, rfl⟩
theorem kX6_carriesLight_31 : Dk mtX6_carriesLight 31 (.bipush 20) 2 33 := ⟨by decide +kernel, rfl⟩
theorem kX6_carriesLight_33 : Dk mtX6_carriesLight 33 (.invokevirtual 144) 3 36 := ⟨by decide +kernel, rfl⟩
theorem kX6_carriesLight_36 : Dk mtX6_carriesLight 36 (.istore 4) 2 38 := ⟨by decide +kernel, rfl⟩
theorem kX6_carriesLight_38 : Dk mtX6_carriesLight 38 (.aload_n 0) 1 39 := ⟨by decide +kernel, rfl⟩
theorem kX6_carriesLight_39 : Dk mtX6_carriesLight 39 (.iconst 1) 1 40 := ⟨by decide +kernel, rfl⟩
theorem kX6_carriesLight_40 : Dk mtX6_carriesLight 40 (.iconst 1) 1 41 := ⟨by decide +kernel, rfl⟩
theorem kX6_carriesLight_41 : Dk mtX6_carriesLight 41 (.bipush 6) 2 43 := ⟨by decide +kernel, rfl⟩
theorem kX6_carriesLight_43 : Dk mtX6_carriesLight 43 (.invokevirtual 144) 3 46 := ⟨by decide +kernel, rfl⟩
theorem kX6_carriesLight_46 : Dk mtX6_carriesLight 46 (.istore 5) 2 48 := ⟨by decide +kernel, rfl⟩
theorem kX6_carriesLight_48 : Dk mtX6_carriesLight 48 (.aload_n 0) 1 49 := ⟨by decide +kernel, rfl⟩
theorem kX6_carriesLight_49 : Dk mtX6_carriesLight 49 (.iconst 1) 1 50 := ⟨by decide +kernel, rfl⟩
theorem kX6_carriesLight_50 : Dk mtX6_carriesLight 50 (.iconst 0) 1 51 := ⟨by decide +kernel, rfl⟩
theorem kX6_carriesLight_51 : Dk mtX6_carriesLight 51 (.bipush 6) 2 53 := ⟨by decide +kernel, rfl⟩
theorem kX6_carriesLight_53 : Dk mtX6_carriesLight 53 (.invokevirtual 144) 3 56 := ⟨by decide +kernel, rfl⟩
theorem kX6_carriesLight_56 : Dk mtX6_carriesLight 56 (.istore 6) 2 58 := ⟨by decide +kernel, rfl⟩
theorem kX6_carriesLight_58 : Dk mtX6_carriesLight 58 (.aload_n 0) 1 59 := ⟨by decide +kernel, rfl⟩
theorem kX6_carriesLight_59 : Dk mtX6_carriesLight 59 (.getfield 140) 3 62 := ⟨by decide +kernel, rfl⟩
theorem kX6_carriesLight_62 : Dk mtX6_carriesLight 62 (.ifCond .eq 26) 3 65 := ⟨by decide +kernel, rfl⟩
theorem kX6_carriesLight_65 : Dk mtX6_carriesLight 65 (.aload_n 0) 1 66 := ⟨by decide +kernel, rfl⟩
theorem kX6_carriesLight_66 : Dk mtX6_carriesLight 66 (.getfield 148) 3 69 := ⟨by decide +kernel, rfl⟩
theorem kX6_carriesLight_69 : Dk mtX6_carriesLight 69 (.ifCond .eq 19) 3 72 := ⟨by decide +kernel, rfl⟩
theorem kX6_carriesLight_72 : Dk mtX6_carriesLight 72 (.aload_n 0) 1 73 := ⟨by decide +kernel, rfl⟩
theorem kX6_carriesLight_73 : Dk mtX6_carriesLight 73 (.iload_n 1) 1 74 := ⟨by decide +kernel, rfl⟩
theorem kX6_carriesLight_74 : Dk mtX6_carriesLight 74 (.iload_n 2) 1 75 := ⟨by decide +kernel, rfl⟩
theorem kX6_carriesLight_75 : Dk mtX6_carriesLight 75 (.iload_n 3) 1 76 := ⟨by decide +kernel, rfl⟩
theorem kX6_carriesLight_76 : Dk mtX6_carriesLight 76 (.iload 4) 2 78 := ⟨by decide +kernel, rfl⟩
theorem kX6_carriesLight_78 : Dk mtX6_carriesLight 78 (.iload 5) 2 80 := ⟨by decide +kernel, rfl⟩
theorem kX6_carriesLight_80 : Dk mtX6_carriesLight 80 (.iload 6) 2 82 := ⟨by decide +kernel, rfl⟩
theorem kX6_carriesLight_82 : Dk mtX6_carriesLight 82 (.invokevirtual 151) 3 85 := ⟨by decide +kernel, rfl⟩
theorem kX6_carriesLight_85 : Dk mtX6_carriesLight 85 (.goto 4) 3 88 := ⟨by decide +kernel, rfl⟩
theorem kX6_carriesLight_88 : Dk mtX6_carriesLight 88 (.iconst 0) 1 89 := ⟨by decide +kernel, rfl⟩
theorem kX6_carriesLight_89 : Dk mtX6_carriesLight 89 (.ireturn) 1 90 := ⟨by decide +kernel, rfl⟩
theorem lmX6_144 : LkM RX6 144 mtX6_number := Or.inl (by decide +kernel)
theorem mkX6_number : MkV mtX6_number 3 := ⟨List.mem_of_getElem? (i := 1109) (by decide +kernel), by decide +kernel, by decide +kernel, by decide +kernel, ⟨by decide +kernel, by decide +kernel, by decide +kernel⟩⟩
theorem lfX6_148 : LkF RX6 148 6 11 := Or.inl (by decide +kernel)
set_option maxHeartbeats 4000000 in
set_option maxRecDepth 100000 in
theorem ct_carriesLight {l : Launch} {w : Wd} {sg : Sg} (hWr : Wr w) {mo : Nat} (hT : TI (sg mo)) (hI : Inv (sg (mo + 1))) : M l mtX6_carriesLight w [vR (some (6, 0, mo))] sg (fI (R_carries (sg (mo + 6)) 108 (sg mo) (sg (mo + 1))) (upr (upr sg mo (F_rd (sg (mo + 6)) 108 (sg mo))) (mo + 1) (G_carries (sg (mo + 6)) 108 (sg mo) (sg (mo + 1))))) := by
  refine M_of [some (vR (some (6, 0, mo))), none, none, none, none, none, none] rfl (Nat.le_of_ble_eq_true rfl) (by decide +kernel) ?_
  intro p_ e_ s_ m_ args_ below_ meth_ c_ hC hO
  refine V_canon (upr sg mo (F_nms (sg (mo + 6)) 108 (sg mo) 0).2) (by rw [F_nms]; exact (upr_self _ _).symm) ?_
  refine V_aload_n hC kX6_carriesLight_0 rfl ?_
  refine V_iconst hC (3) kX6_carriesLight_1 (by decide) ?_
  refine V_iconst hC (0) kX6_carriesLight_2 (by decide) ?_
  refine V_sipush hC (199) kX6_carriesLight_3 (by decide) ?_
  refine V_cV_fI hC (ct_number hWr (d := 3) 0 199 (by omega) (by omega) rfl (by rw [upr_at]; exact hT.nms 0)) mkX6_number lmX6_144 kX6_carriesLight_6 (Nat.le_of_ble_eq_true rfl) rfl rfl rfl (Nat.le_of_ble_eq_true rfl) ⟨(Nat.le_of_ble_eq_true rfl), (Nat.le_of_ble_eq_true rfl)⟩ ⟨rfl, rfl⟩ ⟨(Nat.le_of_ble_eq_true rfl), (Nat.le_of_ble_eq_true rfl)⟩ ?_
  refine V_nameI (fun q1 e_q1 => ?_)
  refine V_istore_n hC [some _, some _, none, none, none, none, none] kX6_carriesLight_9 rfl (Nat.le_of_ble_eq_true rfl) ?_
  rw [upr_at, upr_ne _ _ (by omega), ← F_nms_s (a := 108) (d := 3) (lo := 0) (hi := 199) (i := 0) fm_108_0] at e_q1
  refine V_canon (upr sg mo (F_nms (sg (mo + 6)) 108 (sg mo) 1).2) (by rw [upr_at, upr_ne _ _ (by omega), upr_upr, ← F_nms_s (a := 108) (d := 3) (lo := 0) (hi := 199) (i := 0) (by decide)]) ?_
  refine V_aload_n hC kX6_carriesLight_10 rfl ?_
  refine V_iconst hC (2) kX6_carriesLight_11 (by decide) ?_
  refine V_bipush hC (10) kX6_carriesLight_12 (by decide) ?_
  refine V_bipush hC (99) kX6_carriesLight_14 (by decide) ?_
  refine V_cV_fI hC (ct_number hWr (d := 2) 10 99 (by omega) (by omega) rfl (by rw [upr_at]; exact hT.nms 1)) mkX6_number lmX6_144 kX6_carriesLight_16 (Nat.le_of_ble_eq_true rfl) rfl rfl rfl (Nat.le_of_ble_eq_true rfl) ⟨(Nat.le_of_ble_eq_true rfl), (Nat.le_of_ble_eq_true rfl)⟩ ⟨rfl, rfl⟩ ⟨(Nat.le_of_ble_eq_true rfl), (Nat.le_of_ble_eq_true rfl)⟩ ?_
  refine V_nameI (fun q2 e_q2 => ?_)
  refine V_istore_n hC [some _, some _, some _, none, none, none, none] kX6_carriesLight_19 rfl (Nat.le_of_ble_eq_true rfl) ?_
  rw [upr_at, upr_ne _ _ (by omega), ← F_nms_s (a := 108) (d := 2) (lo := 10) (hi := 99) (i := 1) fm_108_1] at e_q2
  refine V_canon (upr sg mo (F_nms (sg (mo + 6)) 108 (sg mo) 2).2) (by rw [upr_at, upr_ne _ _ (by omega), upr_upr, ← F_nms_s (a := 108) (d := 2) (lo := 10) (hi := 99) (i := 1) (by decide)]) ?_
  refine V_aload_n hC kX6_carriesLight_20 rfl ?_
  refine V_iconst hC (1) kX6_carriesLight_21 (by decide) ?_
  refine V_iconst hC (0) kX6_carriesLight_22 (by decide) ?_
  refine V_iconst hC (2) kX6_carriesLight_23 (by decide) ?_
  refine V_cV_fI hC (ct_number hWr (d := 1) 0 2 (by omega) (by omega) rfl (by rw [upr_at]; exact hT.nms 2)) mkX6_number lmX6_144 kX6_carriesLight_24 (Nat.le_of_ble_eq_true rfl) rfl rfl rfl (Nat.le_of_ble_eq_true rfl) ⟨(Nat.le_of_ble_eq_true rfl), (Nat.le_of_ble_eq_true rfl)⟩ ⟨rfl, rfl⟩ ⟨(Nat.le_of_ble_eq_true rfl), (Nat.le_of_ble_eq_true rfl)⟩ ?_
  refine V_nameI (fun q3 e_q3 => ?_)
  refine V_istore_n hC [some _, some _, some _, some _, none, none, none] kX6_carriesLight_27 rfl (Nat.le_of_ble_eq_true rfl) ?_
  rw [upr_at, upr_ne _ _ (by omega), ← F_nms_s (a := 108) (d := 1) (lo := 0) (hi := 2) (i := 2) fm_108_2] at e_q3
  refine V_canon (upr sg mo (F_nms (sg (mo + 6)) 108 (sg mo) 3).2) (by rw [upr_at, upr_ne _ _ (by omega), upr_upr, ← F_nms_s (a := 108) (d := 1) (lo := 0) (hi := 2) (i := 2) (by decide)]) ?_
  refine V_aload_n hC kX6_carriesLight_28 rfl ?_
  refine V_iconst hC (2) kX6_carriesLight_29 (by decide) ?_
  refine V_iconst hC (1) kX6_carriesLight_30 (by decide) ?_
  refine V_bipush hC (20) kX6_carriesLight_31 (by decide) ?_
  refine V_cV_fI hC (ct_number hWr (d := 2) 1 20 (by omega) (by omega) rfl (by rw [upr_at]; exact hT.nms 3)) mkX6_number lmX6_144 kX6_carriesLight_33 (Nat.le_of_ble_eq_true rfl) rfl rfl rfl (Nat.le_of_ble_eq_true rfl) ⟨(Nat.le_of_ble_eq_true rfl), (Nat.le_of_ble_eq_true rfl)⟩ ⟨rfl, rfl⟩ ⟨(Nat.le_of_ble_eq_true rfl), (Nat.le_of_ble_eq_true rfl)⟩ ?_
  refine V_nameI (fun q4 e_q4 => ?_)
  refine V_istore hC [some _, some _, some _, some _, some _, none, none] kX6_carriesLight_36 rfl (Nat.le_of_ble_eq_true rfl) ?_
  rw [upr_at, upr_ne _ _ (by omega), ← F_nms_s (a := 108) (d := 2) (lo := 1) (hi := 20) (i := 3) fm_108_3] at e_q4
  refine V_canon (upr sg mo (F_nms (sg (mo + 6)) 108 (sg mo) 4).2) (by rw [upr_at, upr_ne _ _ (by omega), upr_upr, ← F_nms_s (a := 108) (d := 2) (lo := 1) (hi := 20) (i := 3) (by decide)]) ?_
  refine V_aload_n hC kX6_carriesLight_38 rfl ?_
  refine V_iconst hC (1) kX6_carriesLight_39 (by decide) ?_
  refine V_iconst hC (1) kX6_carriesLight_40 (by decide) ?_
  refine V_bipush hC (6) kX6_carriesLight_41 (by decide) ?_
  refine V_cV_fI hC (ct_number hWr (d := 1) 1 6 (by omega) (by omega) rfl (by rw [upr_at]; exact hT.nms 4)) mkX6_number lmX6_144 kX6_carriesLight_43 (Nat.le_of_ble_eq_true rfl) rfl rfl rfl (Nat.le_of_ble_eq_true rfl) ⟨(Nat.le_of_ble_eq_true rfl), (Nat.le_of_ble_eq_true rfl)⟩ ⟨rfl, rfl⟩ ⟨(Nat.le_of_ble_eq_true rfl), (Nat.le_of_ble_eq_true rfl)⟩ ?_
  refine V_nameI (fun q5 e_q5 => ?_)
  refine V_istore hC [some _, some _, some _, some _, some _, some _, none] kX6_carriesLight_46 rfl (Nat.le_of_ble_eq_true rfl) ?_
  rw [upr_at, upr_ne _ _ (by omega), ← F_nms_s (a := 108) (d := 1) (lo := 1) (hi := 6) (i := 4) fm_108_4] at e_q5
  refine V_canon (upr sg mo (F_nms (sg (mo + 6)) 108 (sg mo) 5).2) (by rw [upr_at, upr_ne _ _ (by omega), upr_upr, ← F_nms_s (a := 108) (d := 1) (lo := 1) (hi := 6) (i := 4) (by decide)]) ?_
  refine V_aload_n hC kX6_carriesLight_48 rfl ?_
  refine V_iconst hC (1) kX6_carriesLight_49 (by decide) ?_
  refine V_iconst hC (0) kX6_carriesLight_50 (by decide) ?_
  refine V_bipush hC (6) kX6_carriesLight_51 (by decide) ?_
  refine V_cV_fI hC (ct_number hWr (d := 1) 0 6 (by omega) (by omega) rfl (by rw [upr_at]; exact hT.nms 5)) mkX6_number lmX6_144 kX6_carriesLight_53 (Nat.le_of_ble_eq_true rfl) rfl rfl rfl (Nat.le_of_ble_eq_true rfl) ⟨(Nat.le_of_ble_eq_true rfl), (Nat.le_of_ble_eq_true rfl)⟩ ⟨rfl, rfl⟩ ⟨(Nat.le_of_ble_eq_true rfl), (Nat.le_of_ble_eq_true rfl)⟩ ?_
  refine V_nameI (fun q6 e_q6 => ?_)
  refine V_istore hC [some _, some _, some _, some _, some _, some _, some _] kX6_carriesLight_56 rfl (Nat.le_of_ble_eq_true rfl) ?_
  rw [upr_at, upr_ne _ _ (by omega), ← F_nms_s (a := 108) (d := 1) (lo := 0) (hi := 6) (i := 5) fm_108_5] at e_q6
  refine V_canon (upr sg mo (F_nms (sg (mo + 6)) 108 (sg mo) 6).2) (by rw [upr_at, upr_ne _ _ (by omega), upr_upr, ← F_nms_s (a := 108) (d := 1) (lo := 0) (hi := 6) (i := 5) (by decide)]) ?_
  refine V_aload_n hC kX6_carriesLight_58 rfl ?_
  have e1 : upr sg mo (F_nms (sg (mo + 6)) 108 (sg mo) 6).2 (mo + 1) = sg (mo + 1) := upr_ne _ _ (by omega)
  refine V_getI hC 6 10 lfX6_140 kX6_carriesLight_59 (Nat.le_of_ble_eq_true rfl) (Nat.le_of_ble_eq_true rfl) rfl ?_
  refine V_if_eq hC 88 kX6_carriesLight_62 (by decide) (fun h62 => ?_) (fun h62 => ?_)
  · refine V_iconst hC (0) kX6_carriesLight_88 (by decide) ?_
    refine V_ireti hC rfl kX6_carriesLight_89 ?_
    first
    | (have hno : ¬ P_obey (sg (mo + 6)) 108 (sg mo) := fun z => z.1 (by rw [rd_108]; rw [upr_at] at h62; exact h62)
       rw [R_carries, if_neg hno, G_carries, if_neg hno, rd_108, upr_same e1]
       exact ⟨by with_reducible rfl, by with_reducible rfl⟩)
    | (have hno : ¬ P_obey (sg (mo + 6)) 108 (sg mo) := fun z => z.2 (by rw [rd_108]; rw [upr_at] at h69; exact h69)
       rw [R_carries, if_neg hno, G_carries, if_neg hno, rd_108, upr_same e1]
       exact ⟨by with_reducible rfl, by with_reducible rfl⟩)
    | (have hyes : P_obey (sg (mo + 6)) 108 (sg mo) := ⟨fun z => h62 (by rw [upr_at, ← rd_108]; exact z), fun z => h69 (by rw [upr_at, ← rd_108]; exact z)⟩
       rw [R_carries, if_pos hyes, G_carries, if_pos hyes, obR_108, obG_108, rd_108, e1]
       replace e_q1 : q1 = F_vals (sg (mo + 6)) 108 (sg mo) 0 := e_q1
       subst e_q1
       replace e_q2 : q2 = F_vals (sg (mo + 6)) 108 (sg mo) 1 := e_q2
       subst e_q2
       replace e_q3 : q3 = F_vals (sg (mo + 6)) 108 (sg mo) 2 := e_q3
       subst e_q3
       replace e_q4 : q4 = F_vals (sg (mo + 6)) 108 (sg mo) 3 := e_q4
       subst e_q4
       replace e_q5 : q5 = F_vals (sg (mo + 6)) 108 (sg mo) 4 := e_q5
       subst e_q5
       replace e_q6 : q6 = F_vals (sg (mo + 6)) 108 (sg mo) 5 := e_q6
       subst e_q6
       exact ⟨by with_reducible rfl, by with_reducible rfl⟩)
  · refine V_aload_n hC kX6_carriesLight_65 rfl ?_
    refine V_getI hC 6 11 lfX6_148 kX6_carriesLight_66 (Nat.le_of_ble_eq_true rfl) (Nat.le_of_ble_eq_true rfl) rfl ?_
    refine V_if_eq hC 88 kX6_carriesLight_69 (by decide) (fun h69 => ?_) (fun h69 => ?_)
    · refine V_iconst hC (0) kX6_carriesLight_88 (by decide) ?_
      refine V_ireti hC rfl kX6_carriesLight_89 ?_
      first
      | (have hno : ¬ P_obey (sg (mo + 6)) 108 (sg mo) := fun z => z.1 (by rw [rd_108]; rw [upr_at] at h62; exact h62)
         rw [R_carries, if_neg hno, G_carries, if_neg hno, rd_108, upr_same e1]
         exact ⟨by with_reducible rfl, by with_reducible rfl⟩)
      | (have hno : ¬ P_obey (sg (mo + 6)) 108 (sg mo) := fun z => z.2 (by rw [rd_108]; rw [upr_at] at h69; exact h69)
         rw [R_carries, if_neg hno, G_carries, if_neg hno, rd_108, upr_same e1]
         exact ⟨by with_reducible rfl, by with_reducible rfl⟩)
      | (have hyes : P_obey (sg (mo + 6)) 108 (sg mo) := ⟨fun z => h62 (by rw [upr_at, ← rd_108]; exact z), fun z => h69 (by rw [upr_at, ← rd_108]; exact z)⟩
         rw [R_carries, if_pos hyes, G_carries, if_pos hyes, obR_108, obG_108, rd_108, e1]
         replace e_q1 : q1 = F_vals (sg (mo + 6)) 108 (sg mo) 0 := e_q1
         subst e_q1
         replace e_q2 : q2 = F_vals (sg (mo + 6)) 108 (sg mo) 1 := e_q2
         subst e_q2
         replace e_q3 : q3 = F_vals (sg (mo + 6)) 108 (sg mo) 2 := e_q3
         subst e_q3
         replace e_q4 : q4 = F_vals (sg (mo + 6)) 108 (sg mo) 3 := e_q4
         subst e_q4
         replace e_q5 : q5 = F_vals (sg (mo + 6)) 108 (sg mo) 4 := e_q5
         subst e_q5
         replace e_q6 : q6 = F_vals (sg (mo + 6)) 108 (sg mo) 5 := e_q6
         subst e_q6
         exact ⟨by with_reducible rfl, by with_reducible rfl⟩)
    · refine V_aload_n hC kX6_carriesLight_72 rfl ?_
      refine V_iload_n hC kX6_carriesLight_73 rfl ?_
      refine V_iload_n hC kX6_carriesLight_74 rfl ?_
      refine V_iload_n hC kX6_carriesLight_75 rfl ?_
      refine V_iload hC kX6_carriesLight_76 rfl ?_
      refine V_iload hC kX6_carriesLight_78 rfl ?_
      refine V_iload hC kX6_carriesLight_80 rfl ?_
      refine V_cV_fI hC (ct_actsLight hWr _ _ _ _ _ _ (by rw [e1]; exact hI.2.1.1)) mkX6_actsLight lmX6_151 kX6_carriesLight_82 (Nat.le_of_ble_eq_true rfl) rfl rfl rfl (Nat.le_of_ble_eq_true rfl) ⟨(Nat.le_of_ble_eq_true rfl), (Nat.le_of_ble_eq_true rfl)⟩ ⟨rfl, rfl⟩ ⟨(Nat.le_of_ble_eq_true rfl), (Nat.le_of_ble_eq_true rfl)⟩ ?_
      refine V_goto hC 89 kX6_carriesLight_85 (by decide) ?_
      refine V_ireti hC rfl kX6_carriesLight_89 ?_
      first
      | (have hno : ¬ P_obey (sg (mo + 6)) 108 (sg mo) := fun z => z.1 (by rw [rd_108]; rw [upr_at] at h62; exact h62)
         rw [R_carries, if_neg hno, G_carries, if_neg hno, rd_108, upr_same e1]
         exact ⟨by with_reducible rfl, by with_reducible rfl⟩)
      | (have hno : ¬ P_obey (sg (mo + 6)) 108 (sg mo) := fun z => z.2 (by rw [rd_108]; rw [upr_at] at h69; exact h69)
         rw [R_carries, if_neg hno, G_carries, if_neg hno, rd_108, upr_same e1]
         exact ⟨by with_reducible rfl, by with_reducible rfl⟩)
      | (have hyes : P_obey (sg (mo + 6)) 108 (sg mo) := ⟨fun z => h62 (by rw [upr_at, ← rd_108]; exact z), fun z => h69 (by rw [upr_at, ← rd_108]; exact z)⟩
         rw [R_carries, if_pos hyes, G_carries, if_pos hyes, obR_108, obG_108, rd_108, e1]
         replace e_q1 : q1 = F_vals (sg (mo + 6)) 108 (sg mo) 0 := e_q1
         subst e_q1
         replace e_q2 : q2 = F_vals (sg (mo + 6)) 108 (sg mo) 1 := e_q2
         subst e_q2
         replace e_q3 : q3 = F_vals (sg (mo + 6)) 108 (sg mo) 2 := e_q3
         subst e_q3
         replace e_q4 : q4 = F_vals (sg (mo + 6)) 108 (sg mo) 3 := e_q4
         subst e_q4
         replace e_q5 : q5 = F_vals (sg (mo + 6)) 108 (sg mo) 4 := e_q5
         subst e_q5
         replace e_q6 : q6 = F_vals (sg (mo + 6)) 108 (sg mo) 5 := e_q6
         subst e_q6
         exact ⟨by with_reducible rfl, by with_reducible rfl⟩)
def mtX6_carries : Mt := (yX6_carries, cX6_carries, 4, (some .int), 9, 207, 0, 0)
theorem kX6_carries_0 : Dk mtX6_carries 0 (.iload_n 1) 1 1 := ⟨by decide +kernel, rfl⟩
theorem kX6_carries_1 : Dk mtX6_carries 1 (.bipush 98) 2 3 := ⟨by decide +kernel, rfl⟩
theorem kX6_carries_3 : Dk mtX6_carries 3 (.if_icmp .ne 15) 3 6 := ⟨by decide +kernel, rfl⟩
theorem kX6_carries_6 : Dk mtX6_carries 6 (.aload_n 0) 1 7 := ⟨by decide +kernel, rfl⟩
theorem kX6_carries_7 : Dk mtX6_carries 7 (.iconst 3) 1 8 := ⟨by decide +kernel, rfl⟩
theorem kX6_carries_8 : Dk mtX6_carries 8 (.iconst 0) 1 9 := ⟨by decide +kernel, rfl⟩
theorem kX6_carries_9 : Dk mtX6_carries 9 (.sipush 199) 3 12 := ⟨by decide +kernel, rfl⟩
theorem kX6_carries_12 : Dk mtX6_carries 12 (.invokevirtual 144) 3 15 := ⟨by decide +kernel, rfl⟩
theorem kX6_carries_15 : Dk mtX6_carries 15 (.goto 27) 3 18 := ⟨by decide +kernel, rfl⟩
theorem kX6_carries_18 : Dk mtX6_carries 18 (.iload_n 1) 1 19 := ⟨by decide +kernel, rfl⟩
theorem kX6_carries_19 : Dk mtX6_carries 19 (.bipush 107) 2 21 := ⟨by decide +kernel, rfl⟩
theorem kX6_carries_21 : Dk mtX6_carries 21 (.if_icmp .eq 9) 3 24 := ⟨by decide +kernel, rfl⟩
theorem kX6_carries_24 : Dk mtX6_carries 24 (.iload_n 1) 1 25 := ⟨by decide +kernel, rfl⟩
theorem kX6_carries_25 : Dk mtX6_carries 25 (.bipush 118) 2 27 := ⟨by decide +kernel, rfl⟩
theorem kX6_carries_27 : Dk mtX6_carries 27 (.if_icmp .ne 14) 3 30 := ⟨by decide +kernel, rfl⟩
theorem kX6_carries_30 : Dk mtX6_carries 30 (.aload_n 0) 1 31 := ⟨by decide +kernel, rfl⟩
theorem kX6_carries_31 : Dk mtX6_carries 31 (.iconst 1) 1 32 := ⟨by decide +kernel, rfl⟩
theorem kX6_carries_32 : Dk mtX6_carries 32 (.iconst 0) 1 33 := ⟨by decide +kernel, rfl⟩
theorem kX6_carries_33 : Dk mtX6_carries 33 (.bipush 7) 2 35 := ⟨by decide +kernel, rfl⟩
theorem kX6_carries_35 : Dk mtX6_carries 35 (.invokevirtual 144) 3 38 := ⟨by decide +kernel, rfl⟩
theorem kX6_carries_38 : Dk mtX6_carries 38 (.goto 4) 3 41 := ⟨by decide +kernel, rfl⟩
theorem kX6_carries_41 : Dk mtX6_carries 41 (.iconst 0) 1 42 := ⟨by decide +kernel, rfl⟩
theorem kX6_carries_42 : Dk mtX6_carries 42 (.istore_n 2) 1 43 := ⟨by decide +kernel, rfl⟩
theorem kX6_carries_43 : Dk mtX6_carries 43 (.iconst 0) 1 44 := ⟨by decide +kernel, rfl⟩
theorem kX6_carries_44 : Dk mtX6_carries 44 (.istore_n 3) 1 45 := ⟨by decide +kernel, rfl⟩
theorem kX6_carries_45 : Dk mtX6_carries 45 (.iload_n 1) 1 46 := ⟨by decide +kernel, rfl⟩
theorem kX6_carries_46 : Dk mtX6_carries 46 (.bipush 98) 2 48 := ⟨by decide +kernel, rfl⟩
theorem kX6_carries_48 : Dk mtX6_carries 48 (.if_icmp .eq 9) 3 51 := ⟨by decide +kernel, rfl⟩
theorem kX6_carries_51 : Dk mtX6_carries 51 (.iload_n 1) 1 52 := ⟨by decide +kernel, rfl⟩
theorem kX6_carries_52 : Dk mtX6_carries 52 (.bipush 118) 2 54 := ⟨by decide +kernel, rfl⟩
theorem kX6_carries_54 : Dk mtX6_carries 54 (.if_icmp .ne 15) 3 57 := ⟨by decide +kernel, rfl⟩
theorem kX6_carries_57 : Dk mtX6_carries 57 (.aload_n 0) 1 58 := ⟨by decide +kernel, rfl⟩
theorem kX6_carries_58 : Dk mtX6_carries 58 (.iconst 2) 1 59 := ⟨by decide +kernel, rfl⟩
theorem kX6_carries_59 : Dk mtX6_carries 59 (.iconst 0) 1 60 := ⟨by decide +kernel, rfl⟩
theorem kX6_carries_60 : Dk mtX6_carries 60 (.bipush 12) 2 62 := ⟨by decide +kernel, rfl⟩
theorem kX6_carries_62 : Dk mtX6_carries 62 (.invokevirtual 144) 3 65 := ⟨by decide +kernel, rfl⟩
theorem kX6_carries_65 : Dk mtX6_carries 65 (.istore_n 3) 1 66 := ⟨by decide +kernel, rfl⟩
theorem kX6_carries_66 : Dk mtX6_carries 66 (.goto 48) 3 69 := ⟨by decide +kernel, rfl⟩
theorem kX6_carries_69 : Dk mtX6_carries 69 (.iload_n 1) 1 70 := ⟨by decide +kernel, rfl⟩
theorem kX6_carries_70 : Dk mtX6_carries 70 (.bipush 107) 2 72 := ⟨by decide +kernel, rfl⟩
theorem kX6_carries_72 : Dk mtX6_carries 72 (.if_icmp .ne 15) 3 75 := ⟨by decide +kernel, rfl⟩
theorem kX6_carries_75 : Dk mtX6_carries 75 (.aload_n 0) 1 76 := ⟨by decide +kernel, rfl⟩
theorem kX6_carries_76 : Dk mtX6_carries 76 (.iconst 2) 1 77 := ⟨by decide +kernel, rfl⟩
theorem kX6_carries_77 : Dk mtX6_carries 77 (.iconst 1) 1 78 := ⟨by decide +kernel, rfl⟩
theorem kX6_carries_78 : Dk mtX6_carries 78 (.bipush 99) 2 80 := ⟨by decide +kernel, rfl⟩
theorem kX6_carries_80 : Dk mtX6_carries 80 (.invokevirtual 144) 3 83 := ⟨by decide +kernel, rfl⟩
theorem kX6_carries_83 : Dk mtX6_carries 83 (.istore_n 3) 1 84 := ⟨by decide +kernel, rfl⟩
theorem kX6_carries_84 : Dk mtX6_carries 84 (.goto 30) 3 87 := ⟨by decide +kernel, rfl⟩
theorem kX6_carries_87 : Dk mtX6_carries 87 (.iload_n 1) 1 88 := ⟨by decide +kernel, rfl⟩
theorem kX6_carries_88 : Dk mtX6_carries 88 (.bipush 109) 2 90 := ⟨by decide +kernel, rfl⟩
theorem kX6_carries_90 : Dk mtX6_carries 90 (.if_icmp .ne 15) 3 93 := ⟨by decide +kernel, rfl⟩
theorem kX6_carries_93 : Dk mtX6_carries 93 (.aload_n 0) 1 94 := ⟨by decide +kernel, rfl⟩
theorem kX6_carries_94 : Dk mtX6_carries 94 (.iconst 3) 1 95 := ⟨by decide +kernel, rfl⟩
theorem kX6_carries_95 : Dk mtX6_carries 95 (.iconst 0) 1 96 := ⟨by decide +kernel, rfl⟩
theorem kX6_carries_96 : Dk mtX6_carries 96 (.bipush 100) 2 98 := ⟨by decide +kernel, rfl⟩
theorem kX6_carries_98 : Dk mtX6_carries 98 (.invokevirtual 144) 3 101 := ⟨by decide +kernel, rfl⟩
theorem kX6_carries_101 : Dk mtX6_carries 101 (.istore_n 3) 1 102 := ⟨by decide +kernel, rfl⟩
theorem kX6_carries_102 : Dk mtX6_carries 102 (.goto 12) 3 105 := ⟨by decide +kernel, rfl⟩
theorem kX6_carries_105 : Dk mtX6_carries 105 (.aload_n 0) 1 106 := ⟨by decide +kernel, rfl⟩
theorem kX6_carries_106 : Dk mtX6_carries 106 (.iconst 2) 1 107 := ⟨by decide +kernel, rfl⟩
theorem kX6_carries_107 : Dk mtX6_carries 107 (.iconst 1) 1 108 := ⟨by decide +kernel, rfl⟩
theorem kX6_carries_108 : Dk mtX6_carries 108 (.bipush 60) 2 110 := ⟨by decide +kernel, rfl⟩
theorem kX6_carries_110 : Dk mtX6_carries 110 (.invokevirtual 144) 3 113 := ⟨by decide +kernel, rfl⟩
theorem kX6_carries_113 : Dk mtX6_carries 113 (.istore_n 3) 1 114 := ⟨by decide +kernel, rfl⟩
theorem kX6_carries_114 : Dk mtX6_carries 114 (.aload_n 0) 1 115 := ⟨by decide +kernel, rfl⟩
theorem kX6_carries_115 : Dk mtX6_carries 115 (.getfield 140) 3 118 := ⟨by decide +kernel, rfl⟩
theorem kX6_carries_118 : Dk mtX6_carries 118 (.ifCond .eq 10) 3 121 := ⟨by decide +kernel, rfl⟩
theorem kX6_carries_121 : Dk mtX6_carries 121 (.aload_n 0) 1 122 := ⟨by decide +kernel, rfl⟩
theorem kX6_carries_122 : Dk mtX6_carries 122 (.getfield 148) 3 125 := ⟨by decide +kernel, rfl⟩
theorem kX6_carries_125 : Dk mtX6_carries 125 (.ifCond .ne 5) 3 128 := ⟨by decide +kernel, rfl⟩
theorem kX6_carries_128 : Dk mtX6_carries 128 (.iconst 0) 1 129 := ⟨by decide +kernel, rfl⟩
theorem kX6_carries_129 : Dk mtX6_carries 129 (.ireturn) 1 130 := ⟨by decide +kernel, rfl⟩
theorem kX6_carries_130 : Dk mtX6_carries 130 (.iload_n 1) 1 131 := ⟨by decide +kernel, rfl⟩
theorem kX6_carries_131 : Dk mtX6_carries 131 (.lookupswitch 75 #[(98, 41), (107, 61), (109, 68), (118, 51)]) 41 172 := ⟨by decide +kernel, rfl⟩
theorem kX6_carries_172 : Dk mtX6_carries 172 (.aload_n 0) 1 173 := ⟨by decide +kernel, rfl⟩
theorem kX6_carries_173 : Dk mtX6_carries 173 (.iload_n 2) 1 174 := ⟨by decide +kernel, rfl⟩
theorem kX6_carries_174 : Dk mtX6_carries 174 (.iload_n 3) 1 175 := ⟨by decide +kernel, rfl⟩
theorem kX6_carries_175 : Dk mtX6_carries 175 (.bipush 6) 2 177 := ⟨by decide +kernel, rfl⟩
theorem kX6_carries_177 : Dk mtX6_carries 177 (.isub) 1 178 := ⟨by decide +kernel, rfl⟩
theorem kX6_carries_178 : Dk mtX6_carries 178 (.invokevirtual 154) 3 181 := ⟨by decide +kernel, rfl⟩
theorem kX6_carries_181 : Dk mtX6_carries 181 (.ireturn) 1 182 := ⟨by decide +kernel, rfl⟩
theorem kX6_carries_182 : Dk mtX6_carries 182 (.aload_n 0) 1 183 := ⟨by decide +kernel, rfl⟩
theorem kX6_carries_183 : Dk mtX6_carries 183 (.iload_n 2) 1 184 := ⟨by decide +kernel, rfl⟩
theorem kX6_carries_184 : Dk mtX6_carries 184 (.iload_n 3) 1 185 := ⟨by decide +kernel, rfl⟩
theorem kX6_carries_185 : Dk mtX6_carries 185 (.bipush 6) 2 187 := ⟨by decide +kernel, rfl⟩
theorem kX6_carries_187 : Dk mtX6_carries 187 (.isub) 1 188 := ⟨by decide +kernel, rfl⟩
theorem kX6_carries_188 : Dk mtX6_carries 188 (.invokevirtual 157) 3 191 := ⟨by decide +kernel, rfl⟩
theorem kX6_carries_191 : Dk mtX6_carries 191 (.ireturn) 1 192 := ⟨by decide +kernel, rfl⟩
theorem kX6_carries_192 : Dk mtX6_carries 192 (.aload_n 0) 1 193 := ⟨by decide +kernel, rfl⟩
theorem kX6_carries_193 : Dk mtX6_carries 193 (.iload_n 2) 1 194 := ⟨by decide +kernel, rfl⟩
theorem kX6_carries_194 : Dk mtX6_carries 194 (.iload_n 3) 1 195 := ⟨by decide +kernel, rfl⟩
theorem kX6_carries_195 : Dk mtX6_carries 195 (.invokevirtual 160) 3 198 := ⟨by decide +kernel, rfl⟩
theorem kX6_carries_198 : Dk mtX6_carries 198 (.ireturn) 1 199 := ⟨by decide +kernel, rfl⟩
theorem kX6_carries_199 : Dk mtX6_carries 199 (.aload_n 0) 1 200 := ⟨by decide +kernel, rfl⟩
theorem kX6_carries_200 : Dk mtX6_carries 200 (.iconst 0) 1 201 := ⟨by decide +kernel, rfl⟩
theorem kX6_carries_201 : Dk mtX6_carries 201 (.iload_n 3) 1 202 := ⟨by decide +kernel, rfl⟩
theorem kX6_carries_202 : Dk mtX6_carries 202 (.invokevirtual 163) 3 205 := ⟨by decide +kernel, rfl⟩
theorem kX6_carries_205 : Dk mtX6_carries 205 (.ireturn) 1 206 := ⟨by decide +kernel, rfl⟩
theorem kX6_carries_206 : Dk mtX6_carries 206 (.aload_n 0) 1 207 := ⟨by decide +kernel, rfl⟩
theorem kX6_carries_207 : Dk mtX6_carries 207 (.iload_n 3) 1 208 := ⟨by decide +kernel, rfl⟩
theorem kX6_carries_208 : Dk mtX6_carries 208 (.invokevirtual 166) 3 211 := ⟨by decide +kernel, rfl⟩
theorem kX6_carries_211 : Dk mtX6_carries 211 (.ireturn) 1 212 := ⟨by decide +kernel, rfl⟩
theorem lmX6_163 : LkM RX6 163 mtX6_actsSet := Or.inl (by decide +kernel)
theorem mkX6_actsSet : MkV mtX6_actsSet 2 := ⟨List.mem_of_getElem? (i := 1163) (by decide +kernel), by decide +kernel, by decide +kernel, by decide +kernel, ⟨by decide +kernel, by decide +kernel, by decide +kernel⟩⟩
set_option maxHeartbeats 4000000 in
set_option maxRecDepth 100000 in
theorem ct_carries {l : Launch} {w : Wd} {sg : Sg} (hWr : Wr w) {mo : Nat} {a : Int32} (ha : cCmd a) (ha2 : ¬ a = 108) (hT : TI (sg mo)) (hI : Inv (sg (mo + 1))) : M l mtX6_carries w [vR (some (6, 0, mo)), vI a] sg (fI (R_carries (sg (mo + 6)) a (sg mo) (sg (mo + 1))) (upr (upr sg mo (F_rd (sg (mo + 6)) a (sg mo))) (mo + 1) (G_carries (sg (mo + 6)) a (sg mo) (sg (mo + 1))))) := by
  refine M_of [some (vR (some (6, 0, mo))), some (vI a), none, none] rfl (Nat.le_of_ble_eq_true rfl) (by decide +kernel) ?_
  intro p_ e_ s_ m_ args_ below_ meth_ c_ hC hO
  obtain rfl | rfl | rfl | rfl | rfl : a = 98 ∨ a = 107 ∨ a = 118 ∨ a = 109 ∨ a = 116 := ha.resolve_left ha2
  · refine V_canon (upr sg mo (F_nms (sg (mo + 6)) 98 (sg mo) 0).2) (by rw [F_nms]; exact (upr_self _ _).symm) ?_
    refine V_iload_n hC kX6_carries_0 rfl ?_
    refine V_bipush hC (98) kX6_carries_1 (by decide) ?_
    refine V_icmp_ne hC 18 kX6_carries_3 (by decide) (fun h3 => absurd h3 (by decide)) (fun h3 => ?_)
    refine V_aload_n hC kX6_carries_6 rfl ?_
    refine V_iconst hC (3) kX6_carries_7 (by decide) ?_
    refine V_iconst hC (0) kX6_carries_8 (by decide) ?_
    refine V_sipush hC (199) kX6_carries_9 (by decide) ?_
    refine V_cV_fI hC (ct_number hWr (d := 3) 0 199 (by omega) (by omega) rfl (by rw [upr_at]; exact hT.nms 0)) mkX6_number lmX6_144 kX6_carries_12 (Nat.le_of_ble_eq_true rfl) rfl rfl rfl (Nat.le_of_ble_eq_true rfl) ⟨(Nat.le_of_ble_eq_true rfl), (Nat.le_of_ble_eq_true rfl)⟩ ⟨rfl, rfl⟩ ⟨(Nat.le_of_ble_eq_true rfl), (Nat.le_of_ble_eq_true rfl)⟩ ?_
    refine V_goto hC 42 kX6_carries_15 (by decide) ?_
    refine V_nameI (fun q1 e_q1 => ?_)
    refine V_istore_n hC [some _, some _, some _, none] kX6_carries_42 rfl (Nat.le_of_ble_eq_true rfl) ?_
    rw [upr_at, upr_ne _ _ (by omega), ← F_nms_s (a := 98) (d := 3) (lo := 0) (hi := 199) (i := 0) fm_98_0] at e_q1
    refine V_canon (upr sg mo (F_nms (sg (mo + 6)) 98 (sg mo) 1).2) (by rw [upr_at, upr_ne _ _ (by omega), upr_upr, ← F_nms_s (a := 98) (d := 3) (lo := 0) (hi := 199) (i := 0) (by decide)]) ?_
    refine V_iconst hC (0) kX6_carries_43 (by decide) ?_
    refine V_istore_n hC [some _, some _, some _, some _] kX6_carries_44 rfl (Nat.le_of_ble_eq_true rfl) ?_
    refine V_iload_n hC kX6_carries_45 rfl ?_
    refine V_bipush hC (98) kX6_carries_46 (by decide) ?_
    refine V_icmp_eq hC 57 kX6_carries_48 (by decide) (fun h48 => ?_) (fun h48 => absurd h48 (by decide))
    refine V_aload_n hC kX6_carries_57 rfl ?_
    refine V_iconst hC (2) kX6_carries_58 (by decide) ?_
    refine V_iconst hC (0) kX6_carries_59 (by decide) ?_
    refine V_bipush hC (12) kX6_carries_60 (by decide) ?_
    refine V_cV_fI hC (ct_number hWr (d := 2) 0 12 (by omega) (by omega) rfl (by rw [upr_at]; exact hT.nms 1)) mkX6_number lmX6_144 kX6_carries_62 (Nat.le_of_ble_eq_true rfl) rfl rfl rfl (Nat.le_of_ble_eq_true rfl) ⟨(Nat.le_of_ble_eq_true rfl), (Nat.le_of_ble_eq_true rfl)⟩ ⟨rfl, rfl⟩ ⟨(Nat.le_of_ble_eq_true rfl), (Nat.le_of_ble_eq_true rfl)⟩ ?_
    refine V_nameI (fun q2 e_q2 => ?_)
    refine V_istore_n hC [some _, some _, some _, some _] kX6_carries_65 rfl (Nat.le_of_ble_eq_true rfl) ?_
    rw [upr_at, upr_ne _ _ (by omega), ← F_nms_s (a := 98) (d := 2) (lo := 0) (hi := 12) (i := 1) fm_98_1] at e_q2
    refine V_canon (upr sg mo (F_nms (sg (mo + 6)) 98 (sg mo) 2).2) (by rw [upr_at, upr_ne _ _ (by omega), upr_upr, ← F_nms_s (a := 98) (d := 2) (lo := 0) (hi := 12) (i := 1) (by decide)]) ?_
    refine V_goto hC 114 kX6_carries_66 (by decide) ?_
    refine V_aload_n hC kX6_carries_114 rfl ?_
    have e1 : upr sg mo (F_nms (sg (mo + 6)) 98 (sg mo) 2).2 (mo + 1) = sg (mo + 1) := upr_ne _ _ (by omega)
    refine V_getI hC 6 10 lfX6_140 kX6_carries_115 (Nat.le_of_ble_eq_true rfl) (Nat.le_of_ble_eq_true rfl) rfl ?_
    refine V_if_eq hC 128 kX6_carries_118 (by decide) (fun h118 => ?_) (fun h118 => ?_)
    · refine V_iconst hC (0) kX6_carries_128 (by decide) ?_
      refine V_ireti hC rfl kX6_carries_129 ?_
      first
      | (have hno : ¬ P_obey (sg (mo + 6)) 98 (sg mo) := fun z => z.1 (by rw [rd_98]; rw [upr_at] at h118; exact h118)
         rw [R_carries, if_neg hno, G_carries, if_neg hno, rd_98, upr_same e1]
         exact ⟨by with_reducible rfl, by with_reducible rfl⟩)
      | (have hno : ¬ P_obey (sg (mo + 6)) 98 (sg mo) := fun z => z.2 (by rw [rd_98]; rw [upr_at] at h125; exact h125)
         rw [R_carries, if_neg hno, G_carries, if_neg hno, rd_98, upr_same e1]
         exact ⟨by with_reducible rfl, by with_reducible rfl⟩)
    · refine V_aload_n hC kX6_carries_121 rfl ?_
      refine V_getI hC 6 11 lfX6_148 kX6_carries_122 (Nat.le_of_ble_eq_true rfl) (Nat.le_of_ble_eq_true rfl) rfl ?_
      refine V_if_ne hC 130 kX6_carries_125 (by decide) (fun h125 => ?_) (fun h125 => ?_)
      · refine V_iload_n hC kX6_carries_130 rfl ?_
        refine V_lookup hC (41) 172 kX6_carries_131 rfl rfl (by decide) ?_
        refine V_aload_n hC kX6_carries_172 rfl ?_
        refine V_iload_n hC kX6_carries_173 rfl ?_
        refine V_iload_n hC kX6_carries_174 rfl ?_
        refine V_bipush hC (6) kX6_carries_175 (by decide) ?_
        refine V_isub hC kX6_carries_177 ?_
        refine V_cV_fI hC (ct_actsBoat hWr _ _ (by rw [e1]; exact hI.2.1.2)) mkX6_actsBoat lmX6_154 kX6_carries_178 (Nat.le_of_ble_eq_true rfl) rfl rfl rfl (Nat.le_of_ble_eq_true rfl) ⟨(Nat.le_of_ble_eq_true rfl), (Nat.le_of_ble_eq_true rfl)⟩ ⟨rfl, rfl⟩ ⟨(Nat.le_of_ble_eq_true rfl), (Nat.le_of_ble_eq_true rfl)⟩ ?_
        refine V_ireti hC rfl kX6_carries_181 ?_
        have hyes : P_obey (sg (mo + 6)) 98 (sg mo) := ⟨fun z => h118 (by rw [upr_at, ← rd_98]; exact z), fun z => h125 (by rw [upr_at, ← rd_98]; exact z)⟩
        rw [R_carries, if_pos hyes, G_carries, if_pos hyes, obR_98, obG_98, rd_98, e1]
        replace e_q1 : q1 = F_vals (sg (mo + 6)) 98 (sg mo) 0 := e_q1
        subst e_q1
        replace e_q2 : q2 = F_vals (sg (mo + 6)) 98 (sg mo) 1 := e_q2
        subst e_q2
        exact ⟨by with_reducible rfl, by with_reducible rfl⟩
      · refine V_iconst hC (0) kX6_carries_128 (by decide) ?_
        refine V_ireti hC rfl kX6_carries_129 ?_
        first
        | (have hno : ¬ P_obey (sg (mo + 6)) 98 (sg mo) := fun z => z.1 (by rw [rd_98]; rw [upr_at] at h118; exact h118)
           rw [R_carries, if_neg hno, G_carries, if_neg hno, rd_98, upr_same e1]
           exact ⟨by with_reducible rfl, by with_reducible rfl⟩)
        | (have hno : ¬ P_obey (sg (mo + 6)) 98 (sg mo) := fun z => z.2 (by rw [rd_98]; rw [upr_at] at h125; exact h125)
           rw [R_carries, if_neg hno, G_carries, if_neg hno, rd_98, upr_same e1]
           exact ⟨by with_reducible rfl, by with_reducible rfl⟩)
  · refine V_canon (upr sg mo (F_nms (sg (mo + 6)) 107 (sg mo) 0).2) (by rw [F_nms]; exact (upr_self _ _).symm) ?_
    refine V_iload_n hC kX6_carries_0 rfl ?_
    refine V_bipush hC (98) kX6_carries_1 (by decide) ?_
    refine V_icmp_ne hC 18 kX6_carries_3 (by decide) (fun h3 => ?_) (fun h3 => absurd h3 (by decide))
    refine V_iload_n hC kX6_carries_18 rfl ?_
    refine V_bipush hC (107) kX6_carries_19 (by decide) ?_
    refine V_icmp_eq hC 30 kX6_carries_21 (by decide) (fun h21 => ?_) (fun h21 => absurd h21 (by decide))
    refine V_aload_n hC kX6_carries_30 rfl ?_
    refine V_iconst hC (1) kX6_carries_31 (by decide) ?_
    refine V_iconst hC (0) kX6_carries_32 (by decide) ?_
    refine V_bipush hC (7) kX6_carries_33 (by decide) ?_
    refine V_cV_fI hC (ct_number hWr (d := 1) 0 7 (by omega) (by omega) rfl (by rw [upr_at]; exact hT.nms 0)) mkX6_number lmX6_144 kX6_carries_35 (Nat.le_of_ble_eq_true rfl) rfl rfl rfl (Nat.le_of_ble_eq_true rfl) ⟨(Nat.le_of_ble_eq_true rfl), (Nat.le_of_ble_eq_true rfl)⟩ ⟨rfl, rfl⟩ ⟨(Nat.le_of_ble_eq_true rfl), (Nat.le_of_ble_eq_true rfl)⟩ ?_
    refine V_goto hC 42 kX6_carries_38 (by decide) ?_
    refine V_nameI (fun q1 e_q1 => ?_)
    refine V_istore_n hC [some _, some _, some _, none] kX6_carries_42 rfl (Nat.le_of_ble_eq_true rfl) ?_
    rw [upr_at, upr_ne _ _ (by omega), ← F_nms_s (a := 107) (d := 1) (lo := 0) (hi := 7) (i := 0) fm_107_0] at e_q1
    refine V_canon (upr sg mo (F_nms (sg (mo + 6)) 107 (sg mo) 1).2) (by rw [upr_at, upr_ne _ _ (by omega), upr_upr, ← F_nms_s (a := 107) (d := 1) (lo := 0) (hi := 7) (i := 0) (by decide)]) ?_
    refine V_iconst hC (0) kX6_carries_43 (by decide) ?_
    refine V_istore_n hC [some _, some _, some _, some _] kX6_carries_44 rfl (Nat.le_of_ble_eq_true rfl) ?_
    refine V_iload_n hC kX6_carries_45 rfl ?_
    refine V_bipush hC (98) kX6_carries_46 (by decide) ?_
    refine V_icmp_eq hC 57 kX6_carries_48 (by decide) (fun h48 => absurd h48 (by decide)) (fun h48 => ?_)
    refine V_iload_n hC kX6_carries_51 rfl ?_
    refine V_bipush hC (118) kX6_carries_52 (by decide) ?_
    refine V_icmp_ne hC 69 kX6_carries_54 (by decide) (fun h54 => ?_) (fun h54 => absurd h54 (by decide))
    refine V_iload_n hC kX6_carries_69 rfl ?_
    refine V_bipush hC (107) kX6_carries_70 (by decide) ?_
    refine V_icmp_ne hC 87 kX6_carries_72 (by decide) (fun h72 => absurd h72 (by decide)) (fun h72 => ?_)
    refine V_aload_n hC kX6_carries_75 rfl ?_
    refine V_iconst hC (2) kX6_carries_76 (by decide) ?_
    refine V_iconst hC (1) kX6_carries_77 (by decide) ?_
    refine V_bipush hC (99) kX6_carries_78 (by decide) ?_
    refine V_cV_fI hC (ct_number hWr (d := 2) 1 99 (by omega) (by omega) rfl (by rw [upr_at]; exact hT.nms 1)) mkX6_number lmX6_144 kX6_carries_80 (Nat.le_of_ble_eq_true rfl) rfl rfl rfl (Nat.le_of_ble_eq_true rfl) ⟨(Nat.le_of_ble_eq_true rfl), (Nat.le_of_ble_eq_true rfl)⟩ ⟨rfl, rfl⟩ ⟨(Nat.le_of_ble_eq_true rfl), (Nat.le_of_ble_eq_true rfl)⟩ ?_
    refine V_nameI (fun q2 e_q2 => ?_)
    refine V_istore_n hC [some _, some _, some _, some _] kX6_carries_83 rfl (Nat.le_of_ble_eq_true rfl) ?_
    rw [upr_at, upr_ne _ _ (by omega), ← F_nms_s (a := 107) (d := 2) (lo := 1) (hi := 99) (i := 1) fm_107_1] at e_q2
    refine V_canon (upr sg mo (F_nms (sg (mo + 6)) 107 (sg mo) 2).2) (by rw [upr_at, upr_ne _ _ (by omega), upr_upr, ← F_nms_s (a := 107) (d := 2) (lo := 1) (hi := 99) (i := 1) (by decide)]) ?_
    refine V_goto hC 114 kX6_carries_84 (by decide) ?_
    refine V_aload_n hC kX6_carries_114 rfl ?_
    have e1 : upr sg mo (F_nms (sg (mo + 6)) 107 (sg mo) 2).2 (mo + 1) = sg (mo + 1) := upr_ne _ _ (by omega)
    refine V_getI hC 6 10 lfX6_140 kX6_carries_115 (Nat.le_of_ble_eq_true rfl) (Nat.le_of_ble_eq_true rfl) rfl ?_
    refine V_if_eq hC 128 kX6_carries_118 (by decide) (fun h118 => ?_) (fun h118 => ?_)
    · refine V_iconst hC (0) kX6_carries_128 (by decide) ?_
      refine V_ireti hC rfl kX6_carries_129 ?_
      first
      | (have hno : ¬ P_obey (sg (mo + 6)) 107 (sg mo) := fun z => z.1 (by rw [rd_107]; rw [upr_at] at h118; exact h118)
         rw [R_carries, if_neg hno, G_carries, if_neg hno, rd_107, upr_same e1]
         exact ⟨by with_reducible rfl, by with_reducible rfl⟩)
      | (have hno : ¬ P_obey (sg (mo + 6)) 107 (sg mo) := fun z => z.2 (by rw [rd_107]; rw [upr_at] at h125; exact h125)
         rw [R_carries, if_neg hno, G_carries, if_neg hno, rd_107, upr_same e1]
         exact ⟨by with_reducible rfl, by with_reducible rfl⟩)
    · refine V_aload_n hC kX6_carries_121 rfl ?_
      refine V_getI hC 6 11 lfX6_148 kX6_carries_122 (Nat.le_of_ble_eq_true rfl) (Nat.le_of_ble_eq_true rfl) rfl ?_
      refine V_if_ne hC 130 kX6_carries_125 (by decide) (fun h125 => ?_) (fun h125 => ?_)
      · refine V_iload_n hC kX6_carries_130 rfl ?_
        refine V_lookup hC (61) 192 kX6_carries_131 rfl rfl (by decide) ?_
        refine V_aload_n hC kX6_carries_192 rfl ?_
        refine V_iload_n hC kX6_carries_193 rfl ?_
        refine V_iload_n hC kX6_carries_194 rfl ?_
        refine V_cV_fI hC (ct_actsTalk hWr _ _ (by rw [e1]; exact hI.2.1.2)) mkX6_actsTalk lmX6_160 kX6_carries_195 (Nat.le_of_ble_eq_true rfl) rfl rfl rfl (Nat.le_of_ble_eq_true rfl) ⟨(Nat.le_of_ble_eq_true rfl), (Nat.le_of_ble_eq_true rfl)⟩ ⟨rfl, rfl⟩ ⟨(Nat.le_of_ble_eq_true rfl), (Nat.le_of_ble_eq_true rfl)⟩ ?_
        refine V_ireti hC rfl kX6_carries_198 ?_
        have hyes : P_obey (sg (mo + 6)) 107 (sg mo) := ⟨fun z => h118 (by rw [upr_at, ← rd_107]; exact z), fun z => h125 (by rw [upr_at, ← rd_107]; exact z)⟩
        rw [R_carries, if_pos hyes, G_carries, if_pos hyes, obR_107, obG_107, rd_107, e1]
        replace e_q1 : q1 = F_vals (sg (mo + 6)) 107 (sg mo) 0 := e_q1
        subst e_q1
        replace e_q2 : q2 = F_vals (sg (mo + 6)) 107 (sg mo) 1 := e_q2
        subst e_q2
        exact ⟨by with_reducible rfl, by with_reducible rfl⟩
      · refine V_iconst hC (0) kX6_carries_128 (by decide) ?_
        refine V_ireti hC rfl kX6_carries_129 ?_
        first
        | (have hno : ¬ P_obey (sg (mo + 6)) 107 (sg mo) := fun z => z.1 (by rw [rd_107]; rw [upr_at] at h118; exact h118)
           rw [R_carries, if_neg hno, G_carries, if_neg hno, rd_107, upr_same e1]
           exact ⟨by with_reducible rfl, by with_reducible rfl⟩)
        | (have hno : ¬ P_obey (sg (mo + 6)) 107 (sg mo) := fun z => z.2 (by rw [rd_107]; rw [upr_at] at h125; exact h125)
           rw [R_carries, if_neg hno, G_carries, if_neg hno, rd_107, upr_same e1]
           exact ⟨by with_reducible rfl, by with_reducible rfl⟩)
  · refine V_canon (upr sg mo (F_nms (sg (mo + 6)) 118 (sg mo) 0).2) (by rw [F_nms]; exact (upr_self _ _).symm) ?_
    refine V_iload_n hC kX6_carries_0 rfl ?_
    refine V_bipush hC (98) kX6_carries_1 (by decide) ?_
    refine V_icmp_ne hC 18 kX6_carries_3 (by decide) (fun h3 => ?_) (fun h3 => absurd h3 (by decide))
    refine V_iload_n hC kX6_carries_18 rfl ?_
    refine V_bipush hC (107) kX6_carries_19 (by decide) ?_
    refine V_icmp_eq hC 30 kX6_carries_21 (by decide) (fun h21 => absurd h21 (by decide)) (fun h21 => ?_)
    refine V_iload_n hC kX6_carries_24 rfl ?_
    refine V_bipush hC (118) kX6_carries_25 (by decide) ?_
    refine V_icmp_ne hC 41 kX6_carries_27 (by decide) (fun h27 => absurd h27 (by decide)) (fun h27 => ?_)
    refine V_aload_n hC kX6_carries_30 rfl ?_
    refine V_iconst hC (1) kX6_carries_31 (by decide) ?_
    refine V_iconst hC (0) kX6_carries_32 (by decide) ?_
    refine V_bipush hC (7) kX6_carries_33 (by decide) ?_
    refine V_cV_fI hC (ct_number hWr (d := 1) 0 7 (by omega) (by omega) rfl (by rw [upr_at]; exact hT.nms 0)) mkX6_number lmX6_144 kX6_carries_35 (Nat.le_of_ble_eq_true rfl) rfl rfl rfl (Nat.le_of_ble_eq_true rfl) ⟨(Nat.le_of_ble_eq_true rfl), (Nat.le_of_ble_eq_true rfl)⟩ ⟨rfl, rfl⟩ ⟨(Nat.le_of_ble_eq_true rfl), (Nat.le_of_ble_eq_true rfl)⟩ ?_
    refine V_goto hC 42 kX6_carries_38 (by decide) ?_
    refine V_nameI (fun q1 e_q1 => ?_)
    refine V_istore_n hC [some _, some _, some _, none] kX6_carries_42 rfl (Nat.le_of_ble_eq_true rfl) ?_
    rw [upr_at, upr_ne _ _ (by omega), ← F_nms_s (a := 118) (d := 1) (lo := 0) (hi := 7) (i := 0) fm_118_0] at e_q1
    refine V_canon (upr sg mo (F_nms (sg (mo + 6)) 118 (sg mo) 1).2) (by rw [upr_at, upr_ne _ _ (by omega), upr_upr, ← F_nms_s (a := 118) (d := 1) (lo := 0) (hi := 7) (i := 0) (by decide)]) ?_
    refine V_iconst hC (0) kX6_carries_43 (by decide) ?_
    refine V_istore_n hC [some _, some _, some _, some _] kX6_carries_44 rfl (Nat.le_of_ble_eq_true rfl) ?_
    refine V_iload_n hC kX6_carries_45 rfl ?_
    refine V_bipush hC (98) kX6_carries_46 (by decide) ?_
    refine V_icmp_eq hC 57 kX6_carries_48 (by decide) (fun h48 => absurd h48 (by decide)) (fun h48 => ?_)
    refine V_iload_n hC kX6_carries_51 rfl ?_
    refine V_bipush hC (118) kX6_carries_52 (by decide) ?_
    refine V_icmp_ne hC 69 kX6_carries_54 (by decide) (fun h54 => absurd h54 (by decide)) (fun h54 => ?_)
    refine V_aload_n hC kX6_carries_57 rfl ?_
    refine V_iconst hC (2) kX6_carries_58 (by decide) ?_
    refine V_iconst hC (0) kX6_carries_59 (by decide) ?_
    refine V_bipush hC (12) kX6_carries_60 (by decide) ?_
    refine V_cV_fI hC (ct_number hWr (d := 2) 0 12 (by omega) (by omega) rfl (by rw [upr_at]; exact hT.nms 1)) mkX6_number lmX6_144 kX6_carries_62 (Nat.le_of_ble_eq_true rfl) rfl rfl rfl (Nat.le_of_ble_eq_true rfl) ⟨(Nat.le_of_ble_eq_true rfl), (Nat.le_of_ble_eq_true rfl)⟩ ⟨rfl, rfl⟩ ⟨(Nat.le_of_ble_eq_true rfl), (Nat.le_of_ble_eq_true rfl)⟩ ?_
    refine V_nameI (fun q2 e_q2 => ?_)
    refine V_istore_n hC [some _, some _, some _, some _] kX6_carries_65 rfl (Nat.le_of_ble_eq_true rfl) ?_
    rw [upr_at, upr_ne _ _ (by omega), ← F_nms_s (a := 118) (d := 2) (lo := 0) (hi := 12) (i := 1) fm_118_1] at e_q2
    refine V_canon (upr sg mo (F_nms (sg (mo + 6)) 118 (sg mo) 2).2) (by rw [upr_at, upr_ne _ _ (by omega), upr_upr, ← F_nms_s (a := 118) (d := 2) (lo := 0) (hi := 12) (i := 1) (by decide)]) ?_
    refine V_goto hC 114 kX6_carries_66 (by decide) ?_
    refine V_aload_n hC kX6_carries_114 rfl ?_
    have e1 : upr sg mo (F_nms (sg (mo + 6)) 118 (sg mo) 2).2 (mo + 1) = sg (mo + 1) := upr_ne _ _ (by omega)
    refine V_getI hC 6 10 lfX6_140 kX6_carries_115 (Nat.le_of_ble_eq_true rfl) (Nat.le_of_ble_eq_true rfl) rfl ?_
    refine V_if_eq hC 128 kX6_carries_118 (by decide) (fun h118 => ?_) (fun h118 => ?_)
    · refine V_iconst hC (0) kX6_carries_128 (by decide) ?_
      refine V_ireti hC rfl kX6_carries_129 ?_
      first
      | (have hno : ¬ P_obey (sg (mo + 6)) 118 (sg mo) := fun z => z.1 (by rw [rd_118]; rw [upr_at] at h118; exact h118)
         rw [R_carries, if_neg hno, G_carries, if_neg hno, rd_118, upr_same e1]
         exact ⟨by with_reducible rfl, by with_reducible rfl⟩)
      | (have hno : ¬ P_obey (sg (mo + 6)) 118 (sg mo) := fun z => z.2 (by rw [rd_118]; rw [upr_at] at h125; exact h125)
         rw [R_carries, if_neg hno, G_carries, if_neg hno, rd_118, upr_same e1]
         exact ⟨by with_reducible rfl, by with_reducible rfl⟩)
    · refine V_aload_n hC kX6_carries_121 rfl ?_
      refine V_getI hC 6 11 lfX6_148 kX6_carries_122 (Nat.le_of_ble_eq_true rfl) (Nat.le_of_ble_eq_true rfl) rfl ?_
      refine V_if_ne hC 130 kX6_carries_125 (by decide) (fun h125 => ?_) (fun h125 => ?_)
      · refine V_iload_n hC kX6_carries_130 rfl ?_
        refine V_lookup hC (51) 182 kX6_carries_131 rfl rfl (by decide) ?_
        refine V_aload_n hC kX6_carries_182 rfl ?_
        refine V_iload_n hC kX6_carries_183 rfl ?_
        refine V_iload_n hC kX6_carries_184 rfl ?_
        refine V_bipush hC (6) kX6_carries_185 (by decide) ?_
        refine V_isub hC kX6_carries_187 ?_
        refine V_cV_fI hC (ct_actsSteer hWr _ _ (by rw [e1]; exact hI.2.1.2)) mkX6_actsSteer lmX6_157 kX6_carries_188 (Nat.le_of_ble_eq_true rfl) rfl rfl rfl (Nat.le_of_ble_eq_true rfl) ⟨(Nat.le_of_ble_eq_true rfl), (Nat.le_of_ble_eq_true rfl)⟩ ⟨rfl, rfl⟩ ⟨(Nat.le_of_ble_eq_true rfl), (Nat.le_of_ble_eq_true rfl)⟩ ?_
        refine V_ireti hC rfl kX6_carries_191 ?_
        have hyes : P_obey (sg (mo + 6)) 118 (sg mo) := ⟨fun z => h118 (by rw [upr_at, ← rd_118]; exact z), fun z => h125 (by rw [upr_at, ← rd_118]; exact z)⟩
        rw [R_carries, if_pos hyes, G_carries, if_pos hyes, obR_118, obG_118, rd_118, e1]
        replace e_q1 : q1 = F_vals (sg (mo + 6)) 118 (sg mo) 0 := e_q1
        subst e_q1
        replace e_q2 : q2 = F_vals (sg (mo + 6)) 118 (sg mo) 1 := e_q2
        subst e_q2
        exact ⟨by with_reducible rfl, by with_reducible rfl⟩
      · refine V_iconst hC (0) kX6_carries_128 (by decide) ?_
        refine V_ireti hC rfl kX6_carries_129 ?_
        first
        | (have hno : ¬ P_obey (sg (mo + 6)) 118 (sg mo) := fun z => z.1 (by rw [rd_118]; rw [upr_at] at h118; exact h118)
           rw [R_carries, if_neg hno, G_carries, if_neg hno, rd_118, upr_same e1]
           exact ⟨by with_reducible rfl, by with_reducible rfl⟩)
        | (have hno : ¬ P_obey (sg (mo + 6)) 118 (sg mo) := fun z => z.2 (by rw [rd_118]; rw [upr_at] at h125; exact h125)
           rw [R_carries, if_neg hno, G_carries, if_neg hno, rd_118, upr_same e1]
           exact ⟨by with_reducible rfl, by with_reducible rfl⟩)
  · refine V_canon (upr sg mo (F_nms (sg (mo + 6)) 109 (sg mo) 0).2) (by rw [F_nms]; exact (upr_self _ _).symm) ?_
    refine V_iload_n hC kX6_carries_0 rfl ?_
    refine V_bipush hC (98) kX6_carries_1 (by decide) ?_
    refine V_icmp_ne hC 18 kX6_carries_3 (by decide) (fun h3 => ?_) (fun h3 => absurd h3 (by decide))
    refine V_iload_n hC kX6_carries_18 rfl ?_
    refine V_bipush hC (107) kX6_carries_19 (by decide) ?_
    refine V_icmp_eq hC 30 kX6_carries_21 (by decide) (fun h21 => absurd h21 (by decide)) (fun h21 => ?_)
    refine V_iload_n hC kX6_carries_24 rfl ?_
    refine V_bipush hC (118) kX6_carries_25 (by decide) ?_
    refine V_icmp_ne hC 41 kX6_carries_27 (by decide) (fun h27 => ?_) (fun h27 => absurd h27 (by decide))
    refine V_iconst hC (0) kX6_carries_41 (by decide) ?_
    refine V_istore_n hC [some _, some _, some _, none] kX6_carries_42 rfl (Nat.le_of_ble_eq_true rfl) ?_
    refine V_iconst hC (0) kX6_carries_43 (by decide) ?_
    refine V_istore_n hC [some _, some _, some _, some _] kX6_carries_44 rfl (Nat.le_of_ble_eq_true rfl) ?_
    refine V_iload_n hC kX6_carries_45 rfl ?_
    refine V_bipush hC (98) kX6_carries_46 (by decide) ?_
    refine V_icmp_eq hC 57 kX6_carries_48 (by decide) (fun h48 => absurd h48 (by decide)) (fun h48 => ?_)
    refine V_iload_n hC kX6_carries_51 rfl ?_
    refine V_bipush hC (118) kX6_carries_52 (by decide) ?_
    refine V_icmp_ne hC 69 kX6_carries_54 (by decide) (fun h54 => ?_) (fun h54 => absurd h54 (by decide))
    refine V_iload_n hC kX6_carries_69 rfl ?_
    refine V_bipush hC (107) kX6_carries_70 (by decide) ?_
    refine V_icmp_ne hC 87 kX6_carries_72 (by decide) (fun h72 => ?_) (fun h72 => absurd h72 (by decide))
    refine V_iload_n hC kX6_carries_87 rfl ?_
    refine V_bipush hC (109) kX6_carries_88 (by decide) ?_
    refine V_icmp_ne hC 105 kX6_carries_90 (by decide) (fun h90 => absurd h90 (by decide)) (fun h90 => ?_)
    refine V_aload_n hC kX6_carries_93 rfl ?_
    refine V_iconst hC (3) kX6_carries_94 (by decide) ?_
    refine V_iconst hC (0) kX6_carries_95 (by decide) ?_
    refine V_bipush hC (100) kX6_carries_96 (by decide) ?_
    refine V_cV_fI hC (ct_number hWr (d := 3) 0 100 (by omega) (by omega) rfl (by rw [upr_at]; exact hT.nms 0)) mkX6_number lmX6_144 kX6_carries_98 (Nat.le_of_ble_eq_true rfl) rfl rfl rfl (Nat.le_of_ble_eq_true rfl) ⟨(Nat.le_of_ble_eq_true rfl), (Nat.le_of_ble_eq_true rfl)⟩ ⟨rfl, rfl⟩ ⟨(Nat.le_of_ble_eq_true rfl), (Nat.le_of_ble_eq_true rfl)⟩ ?_
    refine V_nameI (fun q2 e_q2 => ?_)
    refine V_istore_n hC [some _, some _, some _, some _] kX6_carries_101 rfl (Nat.le_of_ble_eq_true rfl) ?_
    rw [upr_at, upr_ne _ _ (by omega), ← F_nms_s (a := 109) (d := 3) (lo := 0) (hi := 100) (i := 0) fm_109_0] at e_q2
    refine V_canon (upr sg mo (F_nms (sg (mo + 6)) 109 (sg mo) 1).2) (by rw [upr_at, upr_ne _ _ (by omega), upr_upr, ← F_nms_s (a := 109) (d := 3) (lo := 0) (hi := 100) (i := 0) (by decide)]) ?_
    refine V_goto hC 114 kX6_carries_102 (by decide) ?_
    refine V_aload_n hC kX6_carries_114 rfl ?_
    have e1 : upr sg mo (F_nms (sg (mo + 6)) 109 (sg mo) 1).2 (mo + 1) = sg (mo + 1) := upr_ne _ _ (by omega)
    refine V_getI hC 6 10 lfX6_140 kX6_carries_115 (Nat.le_of_ble_eq_true rfl) (Nat.le_of_ble_eq_true rfl) rfl ?_
    refine V_if_eq hC 128 kX6_carries_118 (by decide) (fun h118 => ?_) (fun h118 => ?_)
    · refine V_iconst hC (0) kX6_carries_128 (by decide) ?_
      refine V_ireti hC rfl kX6_carries_129 ?_
      first
      | (have hno : ¬ P_obey (sg (mo + 6)) 109 (sg mo) := fun z => z.1 (by rw [rd_109]; rw [upr_at] at h118; exact h118)
         rw [R_carries, if_neg hno, G_carries, if_neg hno, rd_109, upr_same e1]
         exact ⟨by with_reducible rfl, by with_reducible rfl⟩)
      | (have hno : ¬ P_obey (sg (mo + 6)) 109 (sg mo) := fun z => z.2 (by rw [rd_109]; rw [upr_at] at h125; exact h125)
         rw [R_carries, if_neg hno, G_carries, if_neg hno, rd_109, upr_same e1]
         exact ⟨by with_reducible rfl, by with_reducible rfl⟩)
    · refine V_aload_n hC kX6_carries_121 rfl ?_
      refine V_getI hC 6 11 lfX6_148 kX6_carries_122 (Nat.le_of_ble_eq_true rfl) (Nat.le_of_ble_eq_true rfl) rfl ?_
      refine V_if_ne hC 130 kX6_carries_125 (by decide) (fun h125 => ?_) (fun h125 => ?_)
      · refine V_iload_n hC kX6_carries_130 rfl ?_
        refine V_lookup hC (68) 199 kX6_carries_131 rfl rfl (by decide) ?_
        refine V_aload_n hC kX6_carries_199 rfl ?_
        refine V_iconst hC (0) kX6_carries_200 (by decide) ?_
        refine V_iload_n hC kX6_carries_201 rfl ?_
        refine V_cV_fI hC (ct_actsSet hWr _ _) mkX6_actsSet lmX6_163 kX6_carries_202 (Nat.le_of_ble_eq_true rfl) rfl rfl rfl (Nat.le_of_ble_eq_true rfl) ⟨(Nat.le_of_ble_eq_true rfl), (Nat.le_of_ble_eq_true rfl)⟩ ⟨rfl, rfl⟩ ⟨(Nat.le_of_ble_eq_true rfl), (Nat.le_of_ble_eq_true rfl)⟩ ?_
        refine V_ireti hC rfl kX6_carries_205 ?_
        have hyes : P_obey (sg (mo + 6)) 109 (sg mo) := ⟨fun z => h118 (by rw [upr_at, ← rd_109]; exact z), fun z => h125 (by rw [upr_at, ← rd_109]; exact z)⟩
        rw [R_carries, if_pos hyes, G_carries, if_pos hyes, obR_109, obG_109, rd_109, e1]
        replace e_q2 : q2 = F_vals (sg (mo + 6)) 109 (sg mo) 0 := e_q2
        subst e_q2
        exact ⟨by with_reducible rfl, by with_reducible rfl⟩
      · refine V_iconst hC (0) kX6_carries_128 (by decide) ?_
        refine V_ireti hC rfl kX6_carries_129 ?_
        first
        | (have hno : ¬ P_obey (sg (mo + 6)) 109 (sg mo) := fun z => z.1 (by rw [rd_109]; rw [upr_at] at h118; exact h118)
           rw [R_carries, if_neg hno, G_carries, if_neg hno, rd_109, upr_same e1]
           exact ⟨by with_reducible rfl, by with_reducible rfl⟩)
        | (have hno : ¬ P_obey (sg (mo + 6)) 109 (sg mo) := fun z => z.2 (by rw [rd_109]; rw [upr_at] at h125; exact h125)
           rw [R_carries, if_neg hno, G_carries, if_neg hno, rd_109, upr_same e1]
           exact ⟨by with_reducible rfl, by with_reducible rfl⟩)
  · refine V_canon (upr sg mo (F_nms (sg (mo + 6)) 116 (sg mo) 0).2) (by rw [F_nms]; exact (upr_self _ _).symm) ?_
    refine V_iload_n hC kX6_carries_0 rfl ?_
    refine V_bipush hC (98) kX6_carries_1 (by decide) ?_
    refine V_icmp_ne hC 18 kX6_carries_3 (by decide) (fun h3 => ?_) (fun h3 => absurd h3 (by decide))
    refine V_iload_n hC kX6_carries_18 rfl ?_
    refine V_bipush hC (107) kX6_carries_19 (by decide) ?_
    refine V_icmp_eq hC 30 kX6_carries_21 (by decide) (fun h21 => absurd h21 (by decide)) (fun h21 => ?_)
    refine V_iload_n hC kX6_carries_24 rfl ?_
    refine V_bipush hC (118) kX6_carries_25 (by decide) ?_
    refine V_icmp_ne hC 41 kX6_carries_27 (by decide) (fun h27 => ?_) (fun h27 => absurd h27 (by decide))
    refine V_iconst hC (0) kX6_carries_41 (by decide) ?_
    refine V_istore_n hC [some _, some _, some _, none] kX6_carries_42 rfl (Nat.le_of_ble_eq_true rfl) ?_
    refine V_iconst hC (0) kX6_carries_43 (by decide) ?_
    refine V_istore_n hC [some _, some _, some _, some _] kX6_carries_44 rfl (Nat.le_of_ble_eq_true rfl) ?_
    refine V_iload_n hC kX6_carries_45 rfl ?_
    refine V_bipush hC (98) kX6_carries_46 (by decide) ?_
    refine V_icmp_eq hC 57 kX6_carries_48 (by decide) (fun h48 => absurd h48 (by decide)) (fun h48 => ?_)
    refine V_iload_n hC kX6_carries_51 rfl ?_
    refine V_bipush hC (118) kX6_carries_52 (by decide) ?_
    refine V_icmp_ne hC 69 kX6_carries_54 (by decide) (fun h54 => ?_) (fun h54 => absurd h54 (by decide))
    refine V_iload_n hC kX6_carries_69 rfl ?_
    refine V_bipush hC (107) kX6_carries_70 (by decide) ?_
    refine V_icmp_ne hC 87 kX6_carries_72 (by decide) (fun h72 => ?_) (fun h72 => absurd h72 (by decide))
    refine V_iload_n hC kX6_carries_87 rfl ?_
    refine V_bipush hC (109) kX6_carries_88 (by decide) ?_
    refine V_icmp_ne hC 105 kX6_carries_90 (by decide) (fun h90 => ?_) (fun h90 => absurd h90 (by decide))
    refine V_aload_n hC kX6_carries_105 rfl ?_
    refine V_iconst hC (2) kX6_carries_106 (by decide) ?_
    refine V_iconst hC (1) kX6_carries_107 (by decide) ?_
    refine V_bipush hC (60) kX6_carries_108 (by decide) ?_
    refine V_cV_fI hC (ct_number hWr (d := 2) 1 60 (by omega) (by omega) rfl (by rw [upr_at]; exact hT.nms 0)) mkX6_number lmX6_144 kX6_carries_110 (Nat.le_of_ble_eq_true rfl) rfl rfl rfl (Nat.le_of_ble_eq_true rfl) ⟨(Nat.le_of_ble_eq_true rfl), (Nat.le_of_ble_eq_true rfl)⟩ ⟨rfl, rfl⟩ ⟨(Nat.le_of_ble_eq_true rfl), (Nat.le_of_ble_eq_true rfl)⟩ ?_
    refine V_nameI (fun q2 e_q2 => ?_)
    refine V_istore_n hC [some _, some _, some _, some _] kX6_carries_113 rfl (Nat.le_of_ble_eq_true rfl) ?_
    rw [upr_at, upr_ne _ _ (by omega), ← F_nms_s (a := 116) (d := 2) (lo := 1) (hi := 60) (i := 0) fm_116_0] at e_q2
    refine V_canon (upr sg mo (F_nms (sg (mo + 6)) 116 (sg mo) 1).2) (by rw [upr_at, upr_ne _ _ (by omega), upr_upr, ← F_nms_s (a := 116) (d := 2) (lo := 1) (hi := 60) (i := 0) (by decide)]) ?_
    refine V_aload_n hC kX6_carries_114 rfl ?_
    have e1 : upr sg mo (F_nms (sg (mo + 6)) 116 (sg mo) 1).2 (mo + 1) = sg (mo + 1) := upr_ne _ _ (by omega)
    refine V_getI hC 6 10 lfX6_140 kX6_carries_115 (Nat.le_of_ble_eq_true rfl) (Nat.le_of_ble_eq_true rfl) rfl ?_
    refine V_if_eq hC 128 kX6_carries_118 (by decide) (fun h118 => ?_) (fun h118 => ?_)
    · refine V_iconst hC (0) kX6_carries_128 (by decide) ?_
      refine V_ireti hC rfl kX6_carries_129 ?_
      first
      | (have hno : ¬ P_obey (sg (mo + 6)) 116 (sg mo) := fun z => z.1 (by rw [rd_116]; rw [upr_at] at h118; exact h118)
         rw [R_carries, if_neg hno, G_carries, if_neg hno, rd_116, upr_same e1]
         exact ⟨by with_reducible rfl, by with_reducible rfl⟩)
      | (have hno : ¬ P_obey (sg (mo + 6)) 116 (sg mo) := fun z => z.2 (by rw [rd_116]; rw [upr_at] at h125; exact h125)
         rw [R_carries, if_neg hno, G_carries, if_neg hno, rd_116, upr_same e1]
         exact ⟨by with_reducible rfl, by with_reducible rfl⟩)
    · refine V_aload_n hC kX6_carries_121 rfl ?_
      refine V_getI hC 6 11 lfX6_148 kX6_carries_122 (Nat.le_of_ble_eq_true rfl) (Nat.le_of_ble_eq_true rfl) rfl ?_
      refine V_if_ne hC 130 kX6_carries_125 (by decide) (fun h125 => ?_) (fun h125 => ?_)
      · refine V_iload_n hC kX6_carries_130 rfl ?_
        refine V_lookup hC (75) 206 kX6_carries_131 rfl rfl (by decide) ?_
        refine V_aload_n hC kX6_carries_206 rfl ?_
        refine V_iload_n hC kX6_carries_207 rfl ?_
        refine V_cV_fI hC (ct_actsTicks hWr _ (by rw [e1]; exact hI)) mkX6_actsTicks lmX6_166 kX6_carries_208 (Nat.le_of_ble_eq_true rfl) rfl rfl rfl (Nat.le_of_ble_eq_true rfl) ⟨(Nat.le_of_ble_eq_true rfl), (Nat.le_of_ble_eq_true rfl)⟩ ⟨rfl, rfl⟩ ⟨(Nat.le_of_ble_eq_true rfl), (Nat.le_of_ble_eq_true rfl)⟩ ?_
        refine V_ireti hC rfl kX6_carries_211 ?_
        have hyes : P_obey (sg (mo + 6)) 116 (sg mo) := ⟨fun z => h118 (by rw [upr_at, ← rd_116]; exact z), fun z => h125 (by rw [upr_at, ← rd_116]; exact z)⟩
        rw [R_carries, if_pos hyes, G_carries, if_pos hyes, obR_116, obG_116, rd_116, e1]
        replace e_q2 : q2 = F_vals (sg (mo + 6)) 116 (sg mo) 0 := e_q2
        subst e_q2
        exact ⟨by with_reducible rfl, by with_reducible rfl⟩
      · refine V_iconst hC (0) kX6_carries_128 (by decide) ?_
        refine V_ireti hC rfl kX6_carries_129 ?_
        first
        | (have hno : ¬ P_obey (sg (mo + 6)) 116 (sg mo) := fun z => z.1 (by rw [rd_116]; rw [upr_at] at h118; exact h118)
           rw [R_carries, if_neg hno, G_carries, if_neg hno, rd_116, upr_same e1]
           exact ⟨by with_reducible rfl, by with_reducible rfl⟩)
        | (have hno : ¬ P_obey (sg (mo + 6)) 116 (sg mo) := fun z => z.2 (by rw [rd_116]; rw [upr_at] at h125; exact h125)
           rw [R_carries, if_neg hno, G_carries, if_neg hno, rd_116, upr_same e1]
           exact ⟨by with_reducible rfl, by with_reducible rfl⟩)
end
