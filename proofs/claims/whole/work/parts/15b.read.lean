/-! the reference: reading the whole text, load -/
def F_rc (tx c : Gs) : Gs := upd (upd c 10 (b01 (cCmd (F_sign c tx)))) 9 (c 9 + b01 (cCmd (F_sign c tx)))
def F_rstep (tx : Gs) (q : Gs × Gs) : Gs × Gs :=
  if cCmd (F_sign q.1 tx) then (upd (F_rd tx (F_sign q.1 tx) (F_rc tx q.1)) 12 (F_rc tx q.1 12 + b01 (R_carries tx (F_sign q.1 tx) (F_rc tx q.1) q.2 = -1)), G_carries tx (F_sign q.1 tx) (F_rc tx q.1) q.2)
  else (F_rc tx q.1, q.2)
def F_rds (tx : Gs) (q : Gs × Gs) : Nat → Gs × Gs
  | 0 => q
  | i + 1 => F_rstep tx (F_rds tx q i)
abbrev P_rg (q : Gs × Gs) : Prop := ¬ q.1 10 = 0 ∧ q.1 9 < q.1 8
def F_rp (tx : Gs) (q : Gs × Gs) (i : Nat) : Bool := decide (¬ P_rg (F_rds tx q i))
def F_rN (tx : Gs) (q : Gs × Gs) : Nat := fa_first (F_rp tx q) 121
def F_ra (c : Gs) (d : Int32) : Gs := upd (upd (upd c 9 0) 12 0) 11 d
def F_r0 (tx c : Gs) (d : Int32) : Gs := upd (upd (F_ra c d) 10 (b01 (F_sign (F_ra c d) tx = 67))) 9 (F_ra c d 9 + b01 (F_sign (F_ra c d) tx = 67))
def F_reads (tx c g : Gs) (d : Int32) : Gs × Gs := F_rds tx (F_r0 tx c d, g) (F_rN tx (F_r0 tx c d, g))
theorem nst_un {tx : Gs} {lo hi v : Int32} {q : Int32 × Gs} {j : Nat} (h : j ≠ 9 ∧ j ≠ 10) : (F_nst tx lo hi v q).2 j = q.2 j := by
  show upd (upd q.2 10 _) 9 _ j = _
  rw [pk_un h.1, pk_un h.2]
theorem numN_un {tx : Gs} {lo hi : Int32} {d : Nat} {c : Gs} {j : Nat} (h : j ≠ 9 ∧ j ≠ 10) : ∀ i, (F_numN tx lo hi d c i).2 j = c j
  | 0 => rfl
  | i + 1 => (nst_un h).trans (numN_un h i)
theorem nms_un {tx : Gs} {a : Int32} {c : Gs} {j : Nat} (h : j ≠ 9 ∧ j ≠ 10) : ∀ i, (F_nms tx a c i).2 j = c j
  | 0 => rfl
  | i + 1 => (numN_un h _).trans (nms_un h i)
theorem rd_un {tx : Gs} {a : Int32} {c : Gs} {j : Nat} (h : j ≠ 9 ∧ j ≠ 10) : F_rd tx a c j = c j := nms_un h _
/-- the place of reading never falls -/
theorem nst_9 (tx : Gs) (lo hi v : Int32) (q : Int32 × Gs) : (F_nst tx lo hi v q).2 9 = q.2 9 + b01 (P_num tx lo hi v q) := by
  show upd (upd q.2 10 (b01 (P_num tx lo hi v q))) 9 (q.2 9 + b01 (P_num tx lo hi v q)) 9 = _
  exact pk_us
theorem rc_9 (tx c : Gs) : F_rc tx c 9 = c 9 + b01 (cCmd (F_sign c tx)) := pk_us
theorem rc_10 (tx c : Gs) : F_rc tx c 10 = b01 (cCmd (F_sign c tx)) := (pk_un (by decide)).trans pk_us
theorem rc_un (tx c : Gs) {j : Nat} (h : j ≠ 9 ∧ j ≠ 10) : F_rc tx c j = c j := (pk_un h.1).trans (pk_un h.2)
theorem nst_up {tx : Gs} {lo hi v : Int32} {q : Int32 × Gs} (h : TI q.2) : tn (q.2 9) ≤ tn ((F_nst tx lo hi v q).2 9) := by
  obtain ⟨a, n, h1, h2, h3, h4⟩ := h
  rw [nst_9, h1]
  unfold b01
  split
  · rw [nI_1]
    show (nI a).toNatClampNeg ≤ (nI (a + 1)).toNatClampNeg
    rw [nI_clamp (by omega), nI_clamp (by omega)]
    omega
  · rw [Int32.add_zero]
    exact Nat.le_refl _
theorem numN_up {tx : Gs} {lo hi : Int32} {d : Nat} {c : Gs} (h : TI c) : ∀ i, tn (c 9) ≤ tn ((F_numN tx lo hi d c i).2 9)
  | 0 => Nat.le_refl _
  | i + 1 => Nat.le_trans (numN_up h i) (nst_up (TI.numN h i))
theorem nms_up {tx : Gs} {a : Int32} {c : Gs} (h : TI c) : ∀ i, tn (c 9) ≤ tn ((F_nms tx a c i).2 9)
  | 0 => Nat.le_refl _
  | i + 1 => Nat.le_trans (nms_up h i) (numN_up (TI.nms h i) _)
theorem TI.rc {tx c : Gs} (h : TI c) (hl : c 9 < c 8) : TI (F_rc tx c) := by
  obtain ⟨a, n, h1, h2, h3, h4⟩ := h
  have hl' : a < n := (nI_ltI (by omega) (by omega)).mp (by rw [h1, h2] at hl; exact hl)
  unfold F_rc
  by_cases hp : cCmd (F_sign c tx)
  · exact ⟨a + 1, n, by rw [pk_us, b01_t hp, h1, nI_1], by rw [pk_un (by decide), pk_un (by decide), h2], by omega, h4⟩
  · exact ⟨a, n, by rw [pk_us, b01_f hp, h1, Int32.add_zero], by rw [pk_un (by decide), pk_un (by decide), h2], h3, h4⟩
theorem TI_upd {c : Gs} {j : Nat} {x : Int32} (h : TI c) (hj : j ≠ 9 ∧ j ≠ 8) : TI (upd c j x) := by
  obtain ⟨a, n, h1, h2, h3, h4⟩ := h
  exact ⟨a, n, by rw [pk_un (Ne.symm hj.1), h1], by rw [pk_un (Ne.symm hj.2), h2], h3, h4⟩
theorem TI.rd {tx c : Gs} {a : Int32} (h : TI c) : TI (F_rd tx a c) := TI.nms h _
theorem TI.rstep {tx : Gs} {q : Gs × Gs} (h : TI q.1) (hl : q.1 9 < q.1 8) : TI (F_rstep tx q).1 := by
  unfold F_rstep
  split
  · exact (TI.rc h hl).rd |> fun z => TI_upd z (by decide)
  · exact TI.rc h hl
theorem rstep_up {tx : Gs} {q : Gs × Gs} (h : TI q.1) (hl : q.1 9 < q.1 8) (hw : ¬ (F_rstep tx q).1 10 = 0) : tn (q.1 9) + 1 ≤ tn ((F_rstep tx q).1 9) := by
  unfold F_rstep at hw ⊢
  split at hw
  · rename_i hc
    rw [if_pos hc]
    show tn (q.1 9) + 1 ≤ tn (upd (F_rd tx (F_sign q.1 tx) (F_rc tx q.1)) 12 (F_rc tx q.1 12 + b01 (R_carries tx (F_sign q.1 tx) (F_rc tx q.1) q.2 = -1)) 9)
    rw [pk_un (by decide)]
    refine Nat.le_trans ?_ (nms_up (TI.rc h hl) _)
    obtain ⟨a, n, h1, h2, h3, h4⟩ := h
    rw [rc_9, b01_t hc, h1, nI_1]
    show (nI a).toNatClampNeg + 1 ≤ (nI (a + 1)).toNatClampNeg
    rw [nI_clamp (by omega), nI_clamp (by omega)]
    omega
  · rename_i hc
    refine absurd ?_ hw
    exact (rc_10 tx q.1).trans (b01_f hc)
theorem rds_TI {tx : Gs} {q : Gs × Gs} (h : TI q.1) : ∀ i, (∀ j, j < i → P_rg (F_rds tx q j)) → TI (F_rds tx q i).1
  | 0, _ => h
  | i + 1, hj => TI.rstep (rds_TI h i (fun j hj' => hj j (by omega))) (hj i (by omega)).2
theorem rds_up {tx : Gs} {q : Gs × Gs} (h : TI q.1) : ∀ i, (∀ j, j < i → P_rg (F_rds tx q j)) → ¬ (F_rds tx q i).1 10 = 0 → i ≤ tn ((F_rds tx q i).1 9)
  | 0, _, _ => Nat.zero_le _
  | i + 1, hj, hw => by
    have hi := hj i (by omega)
    have hI := rds_TI h i (fun j hj' => hj j (by omega))
    have h1 := rds_up h i (fun j hj' => hj j (by omega)) hi.1
    have h2 := rstep_up (tx := tx) hI hi.2 hw
    exact Nat.le_trans (Nat.succ_le_succ h1) h2
theorem rN_go {tx : Gs} {q : Gs × Gs} {i : Nat} (h : i < F_rN tx q) : P_rg (F_rds tx q i) := Classical.not_not.mp (of_decide_eq_false (fa_first_no (F_rp tx q) 121 i h))
theorem rN_no {tx : Gs} {q : Gs × Gs} (h : TI q.1) : ¬ P_rg (F_rds tx q (F_rN tx q)) := by
  rcases first_dec (F_rp tx q) 121 with e | ⟨-, e⟩
  · intro hp
    have e' : F_rN tx q = 121 := e
    have h1 := rds_up h (F_rN tx q) (fun j hj => rN_go hj) hp.1
    obtain ⟨a, n, h2, h3, h4, h5⟩ := rds_TI (tx := tx) h (F_rN tx q) (fun j hj => rN_go hj)
    rw [h2, e'] at h1
    rw [show tn (nI a) = a from nI_clamp (by omega)] at h1
    omega
  · unfold F_rN
    exact of_decide_eq_true e
theorem Inv_obG {g : Gs} (h : Inv g) (a : Int32) (v : Nat → Int32) : Inv (F_obG g a v) := by
  unfold F_obG
  repeat' split
  · rename_i hc; exact Inv_addLight h hc
  · exact h
  · rename_i hc; exact Inv_addBoat h hc
  · exact h
  · rename_i hc; exact Inv_talk h hc
  · exact h
  · rename_i hc; exact Inv_steer h hc
  · exact h
  · rename_i hc; exact Inv_set h hc
  · exact h
  · exact (Inv_ticks h _).1
  · exact h
theorem Inv_carries {tx c g : Gs} {a : Int32} (h : Inv g) : Inv (G_carries tx a c g) := by
  unfold G_carries
  split
  · exact Inv_obG h _ _
  · exact h
theorem Inv_rds {tx : Gs} {q : Gs × Gs} (h : Inv q.2) : ∀ i, Inv (F_rds tx q i).2
  | 0 => h
  | i + 1 => by
    show Inv (F_rstep tx (F_rds tx q i)).2
    unfold F_rstep
    split
    · exact Inv_carries (Inv_rds h i)
    · exact Inv_rds h i
theorem rstep_un {tx : Gs} {q : Gs × Gs} {j : Nat} (h : j ≠ 9 ∧ j ≠ 10 ∧ j ≠ 12) : (F_rstep tx q).1 j = q.1 j := by
  unfold F_rstep
  split
  · exact (pk_un h.2.2).trans ((rd_un ⟨h.1, h.2.1⟩).trans (rc_un _ _ ⟨h.1, h.2.1⟩))
  · exact rc_un _ _ ⟨h.1, h.2.1⟩
theorem rds_un {tx : Gs} {q : Gs × Gs} {j : Nat} (h : j ≠ 9 ∧ j ≠ 10 ∧ j ≠ 12) : ∀ i, (F_rds tx q i).1 j = q.1 j
  | 0 => rfl
  | i + 1 => (rstep_un h).trans (rds_un h i)
theorem reads_un {tx c g : Gs} {d : Int32} {j : Nat} (h : j < 9 ∨ 12 < j) : (F_reads tx c g d).1 j = c j := by
  unfold F_reads
  rw [rds_un (by omega)]
  show F_r0 tx c d j = c j
  unfold F_r0
  rw [pk_un (by omega), pk_un (by omega)]
  unfold F_ra
  rw [pk_un (by omega), pk_un (by omega), pk_un (by omega)]
theorem r0_11 (tx c : Gs) (d : Int32) : F_r0 tx c d 11 = d := by
  unfold F_r0 F_ra
  rw [pk_un (by decide), pk_un (by decide), pk_us]
theorem rds_idle {tx : Gs} {q : Gs × Gs} (h : q.1 11 = 0) : ∀ i, (F_rds tx q i).2 = q.2
  | 0 => rfl
  | i + 1 => by
    show (F_rstep tx (F_rds tx q i)).2 = _
    unfold F_rstep
    split
    · show G_carries _ _ _ _ = _
      unfold G_carries
      rw [if_neg, rds_idle h i]
      rintro ⟨-, z⟩
      refine z ?_
      rw [rd_un (by decide), rc_un _ _ (by decide), rds_un (by decide), h]
    · exact rds_idle h i
theorem reads_idle (tx c g : Gs) : (F_reads tx c g 0).2 = g := rds_idle (r0_11 tx c 0) _
theorem TI_ra {c : Gs} {n : Nat} (hn : n ≤ 120) (en : c 8 = nI n) (d : Int32) : TI (F_ra c d) := by
  refine ⟨0, n, ?_, ?_, by omega, hn⟩
  · unfold F_ra; rw [pk_un (by decide), pk_un (by decide), pk_us]; rfl
  · unfold F_ra; rw [pk_un (by decide), pk_un (by decide), pk_un (by decide), en]
theorem TI_r0 {tx c : Gs} {n : Nat} (hn : n ≤ 120) (en : c 8 = nI n) (d : Int32) : TI (F_r0 tx c d) := by
  have e9 : F_ra c d 9 = 0 := by unfold F_ra; rw [pk_un (by decide), pk_un (by decide), pk_us]
  have e8 : F_ra c d 8 = nI n := by unfold F_ra; rw [pk_un (by decide), pk_un (by decide), pk_un (by decide), en]
  unfold F_r0
  by_cases hp : F_sign (F_ra c d) tx = 67
  · refine ⟨1, n, ?_, ?_, ?_, hn⟩
    · rw [pk_us, b01_t hp, e9]; rfl
    · rw [pk_un (by decide), pk_un (by decide), e8]
    · unfold F_sign at hp
      rw [e9, e8] at hp
      split at hp
      · rename_i hl
        exact (nI_ltI (a := 0) (by omega) (by omega)).mp hl
      · exact absurd hp (by decide)
  · refine ⟨0, n, ?_, ?_, by omega, hn⟩
    · rw [pk_us, b01_f hp, e9]; rfl
    · rw [pk_un (by decide), pk_un (by decide), e8]
theorem upr2 (sg : Sg) {a b : Nat} (c g X Y : Gs) (h : b ≠ a) : upr (upr (upr (upr sg a c) b g) a X) b Y = upr (upr sg a X) b Y := by
  rw [upr_comm _ _ _ h, upr_upr, upr_upr]
theorem ups_in (sg : Sg) {a b : Nat} (X Y : Gs) (j : Nat) (v : Int32) (h : a ≠ b) : ups (upr (upr sg a X) b Y) a j v = upr (upr sg a (upd X j v)) b Y := by
  rw [ups_upr _ _ _ _ h, ups, upr_at, upr_upr]
theorem rds_no {tx : Gs} {q : Gs × Gs} {i : Nat} (h : ¬ cCmd (F_sign (F_rds tx q i).1 tx)) : F_rds tx q (i + 1) = (F_rc tx (F_rds tx q i).1, (F_rds tx q i).2) := by
  show F_rstep tx _ = _
  rw [F_rstep, if_neg h]
theorem rds_yes {tx : Gs} {q : Gs × Gs} {i : Nat} {a : Int32} (ea : a = F_sign (F_rds tx q i).1 tx) (h : cCmd a) {x : Int32} (hx : x = b01 (R_carries tx a (F_rc tx (F_rds tx q i).1) (F_rds tx q i).2 = -1)) : F_rds tx q (i + 1) = (upd (F_rd tx a (F_rc tx (F_rds tx q i).1)) 12 (F_rc tx (F_rds tx q i).1 12 + x), G_carries tx a (F_rc tx (F_rds tx q i).1) (F_rds tx q i).2) := by
  subst ea hx
  show F_rstep tx _ = _
  rw [F_rstep, if_pos h]
theorem rds_all (tx c g : Gs) (d : Int32) {n : Nat} (hn : n ≤ 120) (en : c 8 = nI n) (hI : Inv g) : ∃ (S : Nat → Gs × Gs) (N : Nat), S 0 = (F_r0 tx c d, g) ∧ F_reads tx c g d = S N ∧ ¬ P_rg (S N) ∧ (∀ i, i < N → P_rg (S i)) ∧ (∀ i, i ≤ N → TI (S i).1) ∧ (∀ i, Inv (S i).2) ∧ (∀ i, ¬ cCmd (F_sign (S i).1 tx) → S (i + 1) = (F_rc tx (S i).1, (S i).2)) ∧
    (∀ i a x, a = F_sign (S i).1 tx → cCmd a → x = b01 (R_carries tx a (F_rc tx (S i).1) (S i).2 = -1) → S (i + 1) = (upd (F_rd tx a (F_rc tx (S i).1)) 12 (F_rc tx (S i).1 12 + x), G_carries tx a (F_rc tx (S i).1) (S i).2)) := by
  have h0 : TI (F_r0 tx c d, g).1 := TI_r0 hn en d
  refine ⟨F_rds tx (F_r0 tx c d, g), F_rN tx (F_r0 tx c d, g), rfl, rfl, rN_no h0, fun i hi => rN_go hi, fun i hi => rds_TI h0 i (fun j hj => rN_go (by omega)), fun i => Inv_rds hI i, fun i h => rds_no h, fun i a x h1 h2 h3 => rds_yes h1 h2 h3⟩
theorem nar01 {d : Int32} (h : d = 0 ∨ d = 1) : narrow (gty 6 11) (.int d) = .int d ∧ fits (gty 6 11) (.int d) = true := by
  rcases h with rfl | rfl <;> exact ⟨rfl, rfl⟩
def F_err (c : Gs) : Int32 := if c 10 = 0 then c 9 else -1
def F_chk (sg : Sg) (mo : Nat) : Gs := (F_reads (sg (mo + 6)) (upd (sg mo) 0 0) (sg (mo + 1)) 0).1
def F_ld (sg : Sg) (mo : Nat) : Gs × Gs := F_reads (sg (mo + 6)) (upd (F_chk sg mo) 4 0) (F_begins (sg (mo + 1))) 1
def P_load (sg : Sg) (mo : Nat) (x : Int32) (g' : Sg) : Prop :=
  (F_chk sg mo 10 = 0 → x = 0 ∧ g' = upr sg mo (upd (F_chk sg mo) 0 1)) ∧
  (¬ F_chk sg mo 10 = 0 → x = (F_ld sg mo).1 12 ∧ g' = upr (upr (upr sg (mo + 5) (upd (upd (sg (mo + 5)) 0 0) 1 0)) mo (F_ld sg mo).1) (mo + 1) (F_ld sg mo).2)
theorem Inv_begins (g : Gs) : Inv (F_begins g) := by
  have hz : ∀ i, 4 ≤ i → i < 140 → F_begins g i = 0 := fun i h1 h2 => by
    unfold F_begins
    rw [pk_un (by omega), pk_un (by omega), pk_un (by omega), pk_un (by omega)]
    exact if_pos h2
  have e0 : F_begins g 0 = 10 := by unfold F_begins; rw [pk_un (by decide), pk_un (by decide), pk_un (by decide), pk_us]
  have e1 : F_begins g 1 = 3 := by unfold F_begins; rw [pk_un (by decide), pk_un (by decide), pk_us]
  have e2 : F_begins g 2 = 60 := by unfold F_begins; rw [pk_un (by decide), pk_us]
  have e3 : F_begins g 3 = 12 := by unfold F_begins; rw [pk_us]
  have e4 : F_begins g 4 = 0 := hz 4 (by decide) (by decide)
  have e5 : F_begins g 5 = 0 := hz 5 (by decide) (by decide)
  have t0 : tn (0 : Int32) = 0 := rfl
  unfold Inv
  rw [e0, e1, e2, e3, e4, e5, t0]
  refine ⟨⟨⟨by decide, by decide⟩, ⟨by decide, by decide⟩, ⟨by decide, by decide⟩, ⟨by decide, by decide⟩⟩, ⟨⟨by decide, by decide⟩, ⟨by decide, by decide⟩⟩, fun n hn => by omega, fun n hn => by omega, fun n hn => by omega, fun n _ hn => ⟨hz _ (by omega) (by omega), hz _ (by omega) (by omega)⟩, fun n _ hn j h1 h2 => hz _ (by omega) (by omega)⟩
