/-! the class: a script's command, against its figures -/
theorem fg_0 (m : Nat) (old : Gs) : figN m old 6 0 = nI (m / 100000 % 10) := figN_at m old (by decide)
theorem fg_1 (m : Nat) (old : Gs) : figN m old 6 1 = nI (m / 10000 % 10) := figN_at m old (by decide)
theorem fg_2 (m : Nat) (old : Gs) : figN m old 6 2 = nI (m / 1000 % 10) := figN_at m old (by decide)
theorem fg_3 (m : Nat) (old : Gs) : figN m old 6 3 = nI (m / 100 % 10) := figN_at m old (by decide)
theorem fg_4 (m : Nat) (old : Gs) : figN m old 6 4 = nI (m / 10 % 10) := figN_at m old (by decide)
theorem fg_5 (m : Nat) (old : Gs) : figN m old 6 5 = nI (m % 10) := (figN_at m old (by decide)).trans (by rw [show 10 ^ (5 - 5) = 1 from rfl, Nat.div_one])
theorem pr_2 (m : Nat) (old : Gs) : pr (figN m old 6) 2 = nI (m % 10000 / 100) := by
  unfold pr
  rw [fg_2, fg_3, show (10 : Int32) = nI 10 from rfl, pk_mul, nI_add]
  congr 1
  omega
theorem pr_4 (m : Nat) (old : Gs) : pr (figN m old 6) 4 = nI (m % 100) := by
  unfold pr
  rw [fg_4, fg_5, show (10 : Int32) = nI 10 from rfl, pk_mul, nI_add]
  congr 1
  omega
theorem pr_3 (m : Nat) (old : Gs) : 100 * figN m old 6 3 + pr (figN m old 6) 4 = nI (m % 1000) := by
  rw [fg_3, pr_4, show (100 : Int32) = nI 100 from rfl, pk_mul, nI_add]
  congr 1
  omega
theorem nIz_0 {n : Nat} (h : n < 1000000) : nI n = 0 ↔ n = 0 := nI_eq (b := 0) (by omega) (by decide)
theorem fg_c {m : Nat} (old : Gs) (hm : m < 10 ^ 6) : tn (figN m old 6 0) = m / 100000 := by
  rw [fg_0, show tn (nI (m / 100000 % 10)) = m / 100000 % 10 from nI_clamp (by omega)]
  omega
theorem nI_sub_le {v k : Nat} {M : Int32} (hv : v < 10000) (hk : k < 100) (h : nI v - nI k ≤ M) (hM : M.toInt ≤ 60) : v < 200 := by
  have := Int32.le_iff_toInt_le.mp h
  rw [pk_sub_toInt (by omega) (by omega)] at this
  omega
theorem nI_le_M {v : Nat} {M : Int32} (hv : v < 10000) (h : nI v ≤ M) : (v : Int) ≤ M.toInt := by
  have := Int32.le_iff_toInt_le.mp h
  rw [nI_toInt (by omega)] at this
  exact this

theorem rcm_2 (g : Gs) {m : Nat} (old : Gs) (hI : Inv g) : R_suc g (figN m old 6) 2 = b01 (cSteer g (nI (m / 10000 % 10)) ((nI (m % 10000)) - 6)) ∧ F_suc g (figN m old 6) 2 = (if cSteer g (nI (m / 10000 % 10)) ((nI (m % 10000)) - 6) then pB g (nI (m / 10000 % 10)) 1 ((nI (m % 10000)) - 6) else g) := by
  show b01 (cS2 g (figN m old 6)) = _ ∧ (if cS2 g (figN m old 6) then _ else g) = _
  unfold cS2
  rw [fg_1, pr_2, pr_4]
  by_cases hv : m % 10000 < 100
  · rw [show m % 10000 / 100 = 0 by omega, show m % 100 = m % 10000 by omega]
    have e0 : nI 0 = (0 : Int32) := rfl
    by_cases hc : cSteer g (nI (m / 10000 % 10)) ((nI (m % 10000)) - 6)
    · rw [b01_t ⟨e0, hc⟩, b01_t hc, if_pos ⟨e0, hc⟩, if_pos hc]
      exact ⟨rfl, rfl⟩
    · rw [b01_f (fun z => hc z.2), b01_f hc, if_neg (fun z => hc z.2), if_neg hc]
      exact ⟨rfl, rfl⟩
  · have h0 : ¬ nI (m % 10000 / 100) = 0 := fun z => by
      have := (nIz_0 (by omega)).mp z
      omega
    have hc : ¬ (cSteer g (nI (m / 10000 % 10)) ((nI (m % 10000)) - 6)) := fun z => by
      have q := nI_sub_le (v := m % 10000) (k := 6) (by omega) (by decide) z.2.2 (by decide)
      have q2 := Int32.le_iff_toInt_le.mp z.2.2
      rw [show (6 : Int32) = nI 6 from rfl, pk_sub_toInt (by omega) (by decide), nI_toInt (by decide)] at q2
      omega
    rw [b01_f (fun z => h0 z.1), b01_f hc, if_neg (fun z => h0 z.1), if_neg hc]
    exact ⟨rfl, rfl⟩
theorem rcm_3 (g : Gs) {m : Nat} (old : Gs) (hI : Inv g) : R_suc g (figN m old 6) 3 = b01 (cTalk g (nI (m / 10000 % 10)) (nI (m % 10000))) ∧ F_suc g (figN m old 6) 3 = (if cTalk g (nI (m / 10000 % 10)) (nI (m % 10000)) then pB g (nI (m / 10000 % 10)) 3 (nI (m % 10000)) else g) := by
  show b01 (cS3 g (figN m old 6)) = _ ∧ (if cS3 g (figN m old 6) then _ else g) = _
  unfold cS3
  rw [fg_1, pr_2, pr_4]
  by_cases hv : m % 10000 < 100
  · rw [show m % 10000 / 100 = 0 by omega, show m % 100 = m % 10000 by omega]
    have e0 : nI 0 = (0 : Int32) := rfl
    by_cases hc : cTalk g (nI (m / 10000 % 10)) (nI (m % 10000))
    · rw [b01_t ⟨e0, hc⟩, b01_t hc, if_pos ⟨e0, hc⟩, if_pos hc]
      exact ⟨rfl, rfl⟩
    · rw [b01_f (fun z => hc z.2), b01_f hc, if_neg (fun z => hc z.2), if_neg hc]
      exact ⟨rfl, rfl⟩
  · have h0 : ¬ nI (m % 10000 / 100) = 0 := fun z => by
      have := (nIz_0 (by omega)).mp z
      omega
    have hc : ¬ (cTalk g (nI (m / 10000 % 10)) (nI (m % 10000))) := fun z => by
      have q := nI_le_M (by omega) z.2.1.2
      have e : (99 : Int32).toInt = 99 := rfl
      omega
    rw [b01_f (fun z => h0 z.1), b01_f hc, if_neg (fun z => h0 z.1), if_neg hc]
    exact ⟨rfl, rfl⟩
theorem rcm_5 (g : Gs) {m : Nat} (old : Gs) (hI : Inv g) : R_suc g (figN m old 6) 5 = b01 (cLean g (nI (m / 10000 % 10)) ((nI (m % 10000)) - 30)) ∧ F_suc g (figN m old 6) 5 = (if cLean g (nI (m / 10000 % 10)) ((nI (m % 10000)) - 30) then F_lean g (nI (m / 10000 % 10)) ((nI (m % 10000)) - 30) else g) := by
  show b01 (cS5 g (figN m old 6)) = _ ∧ (if cS5 g (figN m old 6) then _ else g) = _
  unfold cS5
  rw [fg_1, pr_2, pr_4]
  by_cases hv : m % 10000 < 100
  · rw [show m % 10000 / 100 = 0 by omega, show m % 100 = m % 10000 by omega]
    have e0 : nI 0 = (0 : Int32) := rfl
    by_cases hc : cLean g (nI (m / 10000 % 10)) ((nI (m % 10000)) - 30)
    · rw [b01_t ⟨e0, hc⟩, b01_t hc, if_pos ⟨e0, hc⟩, if_pos hc]
      exact ⟨rfl, rfl⟩
    · rw [b01_f (fun z => hc z.2), b01_f hc, if_neg (fun z => hc z.2), if_neg hc]
      exact ⟨rfl, rfl⟩
  · have h0 : ¬ nI (m % 10000 / 100) = 0 := fun z => by
      have := (nIz_0 (by omega)).mp z
      omega
    have hc : ¬ (cLean g (nI (m / 10000 % 10)) ((nI (m % 10000)) - 30)) := fun z => by
      have q2 := Int32.le_iff_toInt_le.mp z.2.2
      rw [show (30 : Int32) = nI 30 from rfl, pk_sub_toInt (by omega) (by decide), nI_toInt (by decide)] at q2
      omega
    rw [b01_f (fun z => h0 z.1), b01_f hc, if_neg (fun z => h0 z.1), if_neg hc]
    exact ⟨rfl, rfl⟩
theorem rcm_1 (g : Gs) {m : Nat} (old : Gs) (hI : Inv g) : R_suc g (figN m old 6) 1 = b01 ((nI (m / 10000 % 10)) = 0 ∧ inn (nI (m % 10000)) 1 60) ∧ F_suc g (figN m old 6) 1 = (if (nI (m / 10000 % 10)) = 0 ∧ inn (nI (m % 10000)) 1 60 then F_ticks g (m % 10000) else g) := by
  show b01 (cS1 g (figN m old 6)) = _ ∧ (if cS1 g (figN m old 6) then F_ticks g (tn (pr (figN m old 6) 4)) else g) = _
  unfold cS1
  rw [fg_1, pr_2, pr_4]
  by_cases hv : m % 10000 < 100
  · rw [show m % 10000 / 100 = 0 by omega, show m % 100 = m % 10000 by omega, show tn (nI (m % 10000)) = m % 10000 from nI_clamp (by omega)]
    have e0 : nI 0 = (0 : Int32) := rfl
    by_cases hc : (nI (m / 10000 % 10)) = 0 ∧ inn (nI (m % 10000)) 1 60
    · rw [b01_t ⟨hc.1, e0, hc.2⟩, b01_t hc, if_pos ⟨hc.1, e0, hc.2⟩, if_pos hc]
      exact ⟨rfl, rfl⟩
    · rw [b01_f (fun z => hc ⟨z.1, z.2.2⟩), b01_f hc, if_neg (fun z => hc ⟨z.1, z.2.2⟩), if_neg hc]
      exact ⟨rfl, rfl⟩
  · have h0 : ¬ nI (m % 10000 / 100) = 0 := fun z => by
      have := (nIz_0 (by omega)).mp z
      omega
    have hc : ¬ ((nI (m / 10000 % 10)) = 0 ∧ inn (nI (m % 10000)) 1 60) := fun z => by
      have q := nI_le_M (by omega) z.2.2
      have e : (60 : Int32).toInt = 60 := rfl
      omega
    rw [b01_f (fun z => h0 z.2.1), b01_f hc, if_neg (fun z => h0 z.2.1), if_neg hc]
    exact ⟨rfl, rfl⟩
theorem most_le (a : Int32) : (F_most a).toInt ≤ 300 := by
  unfold F_most
  split
  · decide
  · split
    · decide
    · split <;> decide
theorem rcm_4 (g : Gs) {m : Nat} (old : Gs) (hI : Inv g) : R_suc g (figN m old 6) 4 = b01 (cSet (nI (m / 10000 % 10)) (nI (m % 10000))) ∧ F_suc g (figN m old 6) 4 = (if cSet (nI (m / 10000 % 10)) (nI (m % 10000)) then upd g (tn (nI (m / 10000 % 10))) (nI (m % 10000)) else g) := by
  show b01 (cS4 g (figN m old 6)) = _ ∧ (if cS4 g (figN m old 6) then upd g (tn ((figN m old 6) 1)) (100 * (figN m old 6) 3 + pr (figN m old 6) 4) else g) = _
  unfold cS4
  rw [fg_1, fg_2, pr_3]
  by_cases hv : m % 10000 < 1000
  · rw [show m / 1000 % 10 = 0 by omega, show m % 1000 = m % 10000 by omega]
    have e0 : nI 0 = (0 : Int32) := rfl
    by_cases hc : cSet (nI (m / 10000 % 10)) (nI (m % 10000))
    · rw [b01_t ⟨e0, hc⟩, b01_t hc, if_pos ⟨e0, hc⟩, if_pos hc]
      exact ⟨rfl, rfl⟩
    · rw [b01_f (fun z => hc z.2), b01_f hc, if_neg (fun z => hc z.2), if_neg hc]
      exact ⟨rfl, rfl⟩
  · have h0 : ¬ nI (m / 1000 % 10) = 0 := fun z => by
      have := (nIz_0 (by omega)).mp z
      omega
    have hc : ¬ cSet (nI (m / 10000 % 10)) (nI (m % 10000)) := fun z => by
      have q := nI_le_M (by omega) z.2.2
      have := most_le (nI (m / 10000 % 10))
      omega
    rw [b01_f (fun z => h0 z.1), b01_f hc, if_neg (fun z => h0 z.1), if_neg hc]
    exact ⟨rfl, rfl⟩
theorem rcm_6 (g : Gs) {m : Nat} (old : Gs) (hI : Inv g) : R_suc g (figN m old 6) 6 = b01 (inn (nI (m / 10000 % 10)) 0 (g 5 - 1) ∧ inn (nI (m % 10000)) 0 (g 4 - 1) ∧ gB g (nI (m / 10000 % 10)) 2 = (nI (m % 10000)) + 1) ∧ F_suc g (figN m old 6) 6 = g := by
  refine ⟨?_, rfl⟩
  show b01 (cS6 g (figN m old 6)) = _
  unfold cS6
  rw [fg_1, pr_2, fg_4, fg_5]
  by_cases hv : m % 10000 < 10
  · rw [show m % 10000 / 100 = 0 by omega, show m / 10 % 10 = 0 by omega, show m % 10 = m % 10000 by omega]
    have e0 : nI 0 = (0 : Int32) := rfl
    exact b01_iff ⟨fun z => z.2.2, fun z => ⟨e0, e0, z⟩⟩
  · have hc : ¬ (inn (nI (m / 10000 % 10)) 0 (g 5 - 1) ∧ inn (nI (m % 10000)) 0 (g 4 - 1) ∧ gB g (nI (m / 10000 % 10)) 2 = (nI (m % 10000)) + 1) := fun z => by
      obtain ⟨n, h1, h2⟩ := in_L hI.hc4 z.2.1
      have h3 := hI.c4.1
      have := (nI_eq (by omega) (by omega)).mp h2
      omega
    rw [b01_f hc, b01_f (fun z => ?_)]
    have h1 := (nIz_0 (by omega)).mp z.1
    have h2 := (nIz_0 (by omega)).mp z.2.1
    omega
theorem rcm_7 (g : Gs) {m : Nat} (old : Gs) (hI : Inv g) : R_suc g (figN m old 6) 7 = b01 (inn (nI (m / 10000 % 10)) 0 (g 5 - 1) ∧ gB g (nI (m / 10000 % 10)) 0 = (nI (m % 10000))) ∧ F_suc g (figN m old 6) 7 = g := by
  refine ⟨?_, rfl⟩
  show b01 (cS7 g (figN m old 6)) = _
  unfold cS7
  rw [fg_1, fg_2, pr_3]
  by_cases hv : m % 10000 < 1000
  · rw [show m / 1000 % 10 = 0 by omega, show m % 1000 = m % 10000 by omega]
    have e0 : nI 0 = (0 : Int32) := rfl
    exact b01_iff ⟨fun z => z.2, fun z => ⟨e0, z⟩⟩
  · have hc : ¬ (inn (nI (m / 10000 % 10)) 0 (g 5 - 1) ∧ gB g (nI (m / 10000 % 10)) 0 = (nI (m % 10000))) := fun z => by
      obtain ⟨n, h1, h2⟩ := in_B hI.hc5 z.1
      have h3 := hI.bp h1
      rw [h2] at z
      rw [z.2] at h3
      have := h3.2
      rw [nI_toInt (by omega)] at this
      omega
    rw [b01_f hc, b01_f (fun z => ?_)]
    have h1 := (nIz_0 (by omega)).mp z.1
    omega
theorem rcm_8 (g : Gs) {m : Nat} (old : Gs) (hI : Inv g) : R_suc g (figN m old 6) 8 = b01 (m % 10000 < 100 ∧ F_tells g (nI (m / 10000 % 10)) ≤ (nI (m % 10000))) ∧ F_suc g (figN m old 6) 8 = g := by
  refine ⟨?_, rfl⟩
  show b01 (cS8 g (figN m old 6)) = _
  unfold cS8
  rw [fg_1, pr_2, pr_4]
  by_cases hv : m % 10000 < 100
  · rw [show m % 10000 / 100 = 0 by omega, show m % 100 = m % 10000 by omega]
    have e0 : nI 0 = (0 : Int32) := rfl
    exact b01_iff ⟨fun z => ⟨hv, z.2⟩, fun z => ⟨e0, z.2⟩⟩
  · rw [b01_f (fun z : _ ∧ _ => hv z.1), b01_f (fun z => ?_)]
    have h1 := (nIz_0 (by omega)).mp z.1
    omega
theorem rcm_9 (g : Gs) {m : Nat} (old : Gs) (hI : Inv g) : R_suc g (figN m old 6) 9 = b01 (m % 10000 < 10 ∧ inn (nI (m / 10000 % 10)) 0 (g 4 - 1) ∧ (nI (m % 10000)) ≤ F_serves g (nI (m / 10000 % 10))) ∧ F_suc g (figN m old 6) 9 = g := by
  refine ⟨?_, rfl⟩
  show b01 (cS9 g (figN m old 6)) = _
  unfold cS9
  rw [fg_1, pr_2, fg_4, fg_5]
  by_cases hv : m % 10000 < 10
  · rw [show m % 10000 / 100 = 0 by omega, show m / 10 % 10 = 0 by omega, show m % 10 = m % 10000 by omega]
    have e0 : nI 0 = (0 : Int32) := rfl
    exact b01_iff ⟨fun z => ⟨hv, z.2.2⟩, fun z => ⟨e0, e0, z.2⟩⟩
  · rw [b01_f (fun z : _ ∧ _ ∧ _ => hv z.1), b01_f (fun z => ?_)]
    have h1 := (nIz_0 (by omega)).mp z.1
    have h2 := (nIz_0 (by omega)).mp z.2.1
    omega
/-! the range of a number that is read -/
theorem num_rng {tx : Gs} {lo hi : Int32} {d : Nat} {c : Gs} (hd : 1 ≤ d) (hw : ¬ (F_num tx lo hi d c).2 10 = 0) : (F_num tx lo hi d c).1 ≤ hi ∧ lo < (F_num tx lo hi d c).1 + 1 := by
  obtain ⟨e, rfl⟩ : ∃ e, d = e + 1 := ⟨d - 1, by omega⟩
  have hw' : ¬ (F_nst tx lo hi (dv (e + 1) e) (F_numN tx lo hi (e + 1) c e)).2 10 = 0 := hw
  rw [nst_10] at hw'
  have hp := b01n.mp hw'
  have hv : dv (e + 1) e = 1 := by
    rw [dv, if_pos (by omega), show e + 1 - 1 - e = 0 by omega]
    rfl
  rw [hv] at hp
  have e1 : (F_num tx lo hi (e + 1) c).1 = (F_numN tx lo hi (e + 1) c e).1 + 1 * (F_sign (F_numN tx lo hi (e + 1) c e).2 tx - 48) := by
    show (F_numN tx lo hi (e + 1) c e).1 + dv (e + 1) e * (F_sign (F_numN tx lo hi (e + 1) c e).2 tx - 48) = _
    rw [hv]
  rw [e1]
  exact ⟨hp.2.2.1, hp.2.2.2⟩
