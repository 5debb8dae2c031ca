/-! the class: its text, pure -/
def TR (sg : Sg) (t : Nat) (tx : Gs) (n : Nat) : Prop := sg t 2 = nI n ∧ n ≤ 120 ∧ (∀ i, i < n → sg (t + 1) i = tx i) ∧ ∀ i, i < n → inI (tx i) 0 255
theorem TR.fr {sg sg' : Sg} {t : Nat} {tx : Gs} {n : Nat} (h : TR sg t tx n) (e1 : sg' t 2 = sg t 2) (e2 : sg' (t + 1) = sg (t + 1)) : TR sg' t tx n := ⟨e1.trans h.1, h.2.1, fun i hi => by rw [e2]; exact h.2.2.1 i hi, h.2.2.2⟩
def cSg (tx : Gs) (n i : Nat) : Int32 := if i < n then tx i else -1
theorem sgn_dig {sg : Sg} {t : Nat} {tx c : Gs} {n a : Nat} (h : TR sg t tx n) (h9 : c 9 = nI a) (h8 : c 8 = nI n) (ha : a ≤ n) : (¬ cSg tx n a - 48 < 0 ∧ cSg tx n a - 48 ≤ 9 ↔ inn (F_sign c tx) 48 57) ∧ (inn (F_sign c tx) 48 57 → cSg tx n a - 48 = F_sign c tx - 48) := by
  have hn := h.2.1
  unfold F_sign cSg
  rw [h9, h8]
  by_cases q : a < n
  · rw [if_pos q, if_pos ((nI_ltI (by omega) (by omega)).mpr q), show tn (nI a) = a from nI_clamp (by omega)]
    obtain ⟨r1, r2⟩ := h.2.2.2 a q
    refine ⟨?_, fun _ => rfl⟩
    have z0 : (0 : Int32).toInt = 0 := rfl
    have z9 : (9 : Int32).toInt = 9 := rfl
    have z48 : (48 : Int32).toInt = 48 := rfl
    have z57 : (57 : Int32).toInt = 57 := rfl
    have e := fb_subI (x := tx a) (y := 48) (by omega) (by omega)
    rw [Int32.lt_iff_toInt_lt, Int32.le_iff_toInt_le, e, z0, z9, z48]
    show _ ↔ (48 ≤ tx a ∧ tx a ≤ 57)
    rw [Int32.le_iff_toInt_le, Int32.le_iff_toInt_le, z48, z57]
    omega
  · rw [if_neg q, if_neg (fun z => q ((nI_ltI (by omega) (by omega)).mp z))]
    exact ⟨⟨fun z => absurd z.1 (by decide), fun z => absurd z.1 (by decide)⟩, fun z => absurd z.1 (by decide)⟩
theorem nst_10 (tx : Gs) (lo hi v : Int32) (q : Int32 × Gs) : (F_nst tx lo hi v q).2 10 = b01 (P_num tx lo hi v q) := by
  show upd (upd q.2 10 (b01 (P_num tx lo hi v q))) 9 (q.2 9 + b01 (P_num tx lo hi v q)) 10 = _
  rw [pk_un (by decide), pk_us]
theorem numN_stop {tx : Gs} {lo hi : Int32} {d : Nat} {c : Gs} {i : Nat} (h : (F_numN tx lo hi d c i).2 10 = 0) : ∀ k, (F_numN tx lo hi d c (i + k)).2 10 = 0 ∧ (F_numN tx lo hi d c (i + k)).2 9 = (F_numN tx lo hi d c i).2 9
  | 0 => ⟨h, rfl⟩
  | k + 1 => by
    obtain ⟨h1, h2⟩ := numN_stop h k
    have hp : ¬ P_num tx lo hi (dv d (i + k)) (F_numN tx lo hi d c (i + k)) := fun z => z.1 h1
    show (F_nst tx lo hi (dv d (i + k)) (F_numN tx lo hi d c (i + k))).2 10 = 0 ∧ (F_nst tx lo hi (dv d (i + k)) (F_numN tx lo hi d c (i + k))).2 9 = _
    rw [nst_10, nst_9, b01_f hp, Int32.add_zero, h2]
    exact ⟨rfl, rfl⟩
theorem numN_fail {tx : Gs} {lo hi : Int32} {d : Nat} {c : Gs} {i : Nat} (hi' : i < d) (h : ¬ P_num tx lo hi (dv d i) (F_numN tx lo hi d c i)) : (F_num tx lo hi d c).2 10 = 0 ∧ (F_num tx lo hi d c).2 9 = (F_numN tx lo hi d c i).2 9 := by
  have e10 : (F_numN tx lo hi d c (i + 1)).2 10 = 0 := (nst_10 tx lo hi (dv d i) (F_numN tx lo hi d c i)).trans (b01_f h)
  have e9 : (F_numN tx lo hi d c (i + 1)).2 9 = (F_numN tx lo hi d c i).2 9 := (nst_9 tx lo hi (dv d i) (F_numN tx lo hi d c i)).trans (by rw [b01_f h, Int32.add_zero])
  obtain ⟨h1, h2⟩ := numN_stop e10 (d - (i + 1))
  rw [show i + 1 + (d - (i + 1)) = d by omega] at h1 h2
  exact ⟨h1, h2.trans e9⟩
theorem dig_nI {x : Int32} (h : inn x 48 57) : ∃ e, e ≤ 9 ∧ x - 48 = nI e := by
  have h1 := Int32.le_iff_toInt_le.mp h.1
  have h2 := Int32.le_iff_toInt_le.mp h.2
  have z48 : (48 : Int32).toInt = 48 := rfl
  have z57 : (57 : Int32).toInt = 57 := rfl
  have e := fb_subI (x := x) (y := 48) (by omega) (by omega)
  obtain ⟨q1, q2⟩ := cnt_in (x := x - 48) (n := 9) (by omega) (by omega)
  exact ⟨_, q1, q2⟩
theorem num_small {tx : Gs} {lo hi : Int32} {d : Nat} {c : Gs} (hd : d ≤ 3) : ∀ i, i ≤ d → ¬ (F_numN tx lo hi d c i).2 10 = 0 → ∃ x, (F_numN tx lo hi d c i).1 = nI x ∧ x + 10 ^ (d - i) ≤ 10 ^ d
  | 0, _, _ => ⟨0, rfl, by rw [Nat.sub_zero]; omega⟩
  | i + 1, h, hw => by
    have hw' : ¬ (F_nst tx lo hi (dv d i) (F_numN tx lo hi d c i)).2 10 = 0 := hw
    rw [nst_10] at hw'
    have hp := b01n.mp hw'
    obtain ⟨x, h1, h2⟩ := num_small hd i (by omega) hp.1
    obtain ⟨e, h3, h4⟩ := dig_nI hp.2.1
    refine ⟨x + 10 ^ (d - 1 - i) * e, ?_, ?_⟩
    · show (F_numN tx lo hi d c i).1 + dv d i * (F_sign (F_numN tx lo hi d c i).2 tx - 48) = _
      rw [h1, h4, dv, if_pos (by omega), pk_mul, nI_add]
    · have e1 : 10 ^ (d - i) = 10 ^ (d - 1 - i) * 10 := by
        rw [← Nat.pow_succ]
        congr 1
        omega
      have e2 : d - (i + 1) = d - 1 - i := by omega
      rw [e1] at h2
      rw [e2]
      have h5 : 10 ^ (d - 1 - i) * e ≤ 10 ^ (d - 1 - i) * 9 := Nat.mul_le_mul_left _ h3
      omega
theorem p1000 {d : Nat} (hd : d ≤ 3) : 10 ^ d ≤ 1000 := by
  have := Nat.pow_le_pow_right (n := 10) (by decide) hd
  omega
theorem num_val {tx : Gs} {lo hi : Int32} {d : Nat} {c : Gs} (hd : d ≤ 3) (hw : ¬ (F_num tx lo hi d c).2 10 = 0) : ∃ x, x < 1000 ∧ (F_num tx lo hi d c).1 = nI x := by
  obtain ⟨x, h1, h2⟩ := num_small hd d (Nat.le_refl _) hw
  have := p1000 hd
  have : 0 < 10 ^ (d - d) := Nat.pow_pos (by decide)
  exact ⟨x, by omega, h1⟩
theorem lo_lt {nx lf lo : Int32} {x p : Nat} (h1 : nx = nI x) (h2 : lf = nI p) (hx : x < 3000) (hp : p < 3000) (hl : inI lo 0 300) : lo ≤ nx + lf - 1 ↔ lo < nx + lf := by
  subst h1 h2
  have z1 : (1 : Int32).toInt = 1 := rfl
  rw [nI_add, Int32.le_iff_toInt_le, Int32.lt_iff_toInt_lt]
  have e := nI_toInt (n := x + p) (by omega)
  rw [fb_subI (by omega) (by omega), e, z1]
  omega
/-! the forms of the commands -/
def kx (a : Int32) : Nat := if a = 108 then 3 else if a = 98 then 4 else if a = 107 then 5 else if a = 118 then 6 else if a = 109 then 7 else 8
theorem form_at {a : Int32} (h : cCmd a) : kx a < 9 ∧ slen (kx a) = 3 * nfm a ∧ 1 ≤ nfm a ∧ nfm a ≤ 6 ∧ ∀ i, i < nfm a → srow (kx a) (3 * i) = nI (fm a i).1 ∧ srow (kx a) (3 * i + 1) = (fm a i).2.1 ∧ srow (kx a) (3 * i + 2) = (fm a i).2.2 ∧ 1 ≤ (fm a i).1 ∧ (fm a i).1 ≤ 3 ∧ (0 ≤ (fm a i).2.1.toInt ∧ (fm a i).2.1.toInt ≤ 300) := by
  rcases h with rfl | rfl | rfl | rfl | rfl | rfl <;> decide +kernel
theorem rd_all {tx c : Gs} {a : Int32} : F_rd tx a c = (F_nms tx a c (nfm a)).2 := rfl
/-- where a number isn't allowed, no later one is read -/
theorem num_bad {tx : Gs} {lo hi : Int32} {d : Nat} {c : Gs} (h : c 10 = 0) : (F_num tx lo hi d c).2 10 = 0 ∧ (F_num tx lo hi d c).2 9 = c 9 := by
  have := numN_stop (tx := tx) (lo := lo) (hi := hi) (d := d) (c := c) (i := 0) h d
  rw [Nat.zero_add] at this
  exact this
theorem nms_stop {tx c : Gs} {a : Int32} {i : Nat} (h : (F_nms tx a c i).2 10 = 0) : ∀ k, (F_nms tx a c (i + k)).2 10 = 0 ∧ (F_nms tx a c (i + k)).2 9 = (F_nms tx a c i).2 9
  | 0 => ⟨h, rfl⟩
  | k + 1 => by
    obtain ⟨h1, h2⟩ := nms_stop h k
    obtain ⟨h3, h4⟩ := num_bad (tx := tx) (lo := (fm a (i + k)).2.1) (hi := (fm a (i + k)).2.2) (d := (fm a (i + k)).1) h1
    exact ⟨h3, h4.trans h2⟩
