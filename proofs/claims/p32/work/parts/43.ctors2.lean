/-! constructors: text, memory, reference -/
def TB (w : Wd) (t : Nat) : Prop := wK w t = (4, 0) ∧ wK w (t + 1) = (11, 120) ∧ wK w (t + 2) = (10, 6)
theorem TB.ext {w w' : Wd} {n t : Nat} (h : TB w t) (E : Ext w w' n) (ht : t + 3 ≤ wN w) : TB w' t := ⟨(E.k (by omega)).trans h.1, (E.k (by omega)).trans h.2.1, (E.k (by omega)).trans h.2.2⟩
theorem TB.wr {w : Wd} {t : Nat} (h : TB w t) (ht : t + 3 ≤ wN w) : ∀ i, i < 3 → WrAt w (t + i) := by
  intro i hi
  by_cases z : i = 0
  · subst z
    refine WrAt.obj h.1 (by decide) (fun j q e => ?_)
    rcases rf4_in e with ⟨-, rfl⟩ | ⟨-, rfl⟩
    · exact okr_of (by decide) (by omega) h.2.1
    · exact okr_of (by decide) (by omega) h.2.2
  by_cases z1 : i = 1
  · subst z1
    exact WrAt.leaf h.2.1 ⟨fun z => absurd z (by decide), by decide, by decide⟩
  obtain rfl : i = 2 := by omega
  exact WrAt.leaf h.2.2 ⟨fun z => absurd z (by decide), by decide, by decide⟩
set_option maxHeartbeats 8000000 in
set_option maxRecDepth 100000 in
/-- a text -/
theorem cn_text {l : Launch} {w0 : Wd} {sg : Sg} {a t : Nat} (hW0 : Wr w0) (hc : wN w0 = t) (hc2 : t + 3 < 1000000) : MN l mtX4_init (wpush w0 a (54, 0)) [vR (some (54, 0, t))] sg (fun w' sg' => Ext w0 w' 3 ∧ Wr w' ∧ TB w' t ∧ wA w' t = a ∧ (∀ k, k ≤ t → sg' k = sg k)) := by
  refine MN_of [some (vR (some (54, 0, t)))] rfl (Nat.le_of_ble_eq_true rfl) (by decide +kernel) rfl ?_
  intro p_ e_ s_ m_ args_ below_ meth_ c_ hC hin hB hO
  have hC0 := Cx_back (by omega) hC
  have hB0 : wB w0 ≤ s_.heap.size := hB
  have E1 : Ext w0 (wpush w0 a (54, 0)) 1 := Ext.push (by omega) a (54, 0)
  have W1 : Wr (wpush w0 a (54, 0)) := hW0.push (by omega) a ⟨fun z => absurd z (by decide), by decide⟩
  have K1 : wK (wpush w0 a (54, 0)) t = (54, 0) := pK_n hc.symm
  have A1 : wA (wpush w0 a (54, 0)) t = a := if_pos hc.symm
  generalize wpush w0 a (54, 0) = w1 at hC hB hO E1 W1 K1 A1 ⊢
  have n1 : wN w1 = t + 1 := by have := E1.n; omega
  refine V_aload_n hC kX4_init_0 rfl ?_
  refine V_objI hC loX4 oi_ kX4_init_1 ⟨(Nat.le_of_ble_eq_true rfl), (Nat.le_of_ble_eq_true rfl)⟩ ?_
  refine V_aload_n hC kX4_init_4 rfl ?_
  refine V_bipush hC 120 kX4_init_5 (by decide) ?_
  refine V_newI hC W1 hB (by omega) 11 120 (Or.inl (Or.inr ⟨rfl, rfl⟩)) (by decide) rfl (by decide) kX4_init_7 ⟨(Nat.le_of_ble_eq_true rfl), (Nat.le_of_ble_eq_true rfl)⟩ (fun a2 => ?_)
  rw [n1]
  have E2 : Ext w0 (wpush w1 a2 (11, 120)) 2 := E1.psh (by omega) a2 _
  have W2 : Wr (wpush w1 a2 (11, 120)) := W1.push (by omega) a2 ⟨fun z => absurd z (by decide), by decide⟩
  have K2 : wK (wpush w1 a2 (11, 120)) t = (54, 0) := (pK_o (by omega)).trans K1
  have K2a : wK (wpush w1 a2 (11, 120)) (t + 1) = (11, 120) := pK_n n1.symm
  have A2 : wA (wpush w1 a2 (11, 120)) t = a := (if_neg (by omega)).trans A1
  generalize wpush w1 a2 (11, 120) = w2 at E2 W2 K2 K2a A2 ⊢
  have n2 : wN w2 = t + 2 := by have := E2.n; omega
  refine V_putRF (Cx_ext hC0 E2) hin 4 0 lgX4_11 kX4_init_9 (by decide) (by decide) rfl ⟨rfl, rfl⟩ (fun _ => ⟨rfl, rfl⟩) ?_
  have E3 : Ext w0 (wsetR w2 t 0 (some (11, 120, t + 1))) 2 := E2.setR (by omega) 0 _
  have W3 : Wr (wsetR w2 t 0 (some (11, 120, t + 1))) := W2.setR (okr_of (by decide) (by omega) K2a)
  have K3 : wK (wsetR w2 t 0 (some (11, 120, t + 1))) t = (54, 0) := K2
  have K3a : wK (wsetR w2 t 0 (some (11, 120, t + 1))) (t + 1) = (11, 120) := K2a
  have A3 : wA (wsetR w2 t 0 (some (11, 120, t + 1))) t = a := A2
  have R3 : wR (wsetR w2 t 0 (some (11, 120, t + 1))) t 0 = some (11, 120, t + 1) := wsetR_at _ _ _ _
  have n3 : wN (wsetR w2 t 0 (some (11, 120, t + 1))) = t + 2 := n2
  generalize wsetR w2 t 0 (some (11, 120, t + 1)) = w3 at E3 W3 K3 K3a A3 R3 n3 ⊢
  have hC3 := Cx_ext hC0 E3
  refine V_aload_n hC3 kX4_init_12 rfl ?_
  refine V_bipush hC3 6 kX4_init_13 (by decide) ?_
  refine V_newI hC3 W3 (by rw [E3.b]; exact hB0) (by omega) 10 6 (Or.inl (Or.inl ⟨rfl, rfl⟩)) (by decide) rfl (by decide) kX4_init_15 ⟨(Nat.le_of_ble_eq_true rfl), (Nat.le_of_ble_eq_true rfl)⟩ (fun a4 => ?_)
  rw [n3]
  have E4 : Ext w0 (wpush w3 a4 (10, 6)) 3 := E3.psh (by omega) a4 _
  refine V_putRF (Cx_ext hC0 E4) hin 4 1 lgX4_15 kX4_init_17 (by decide) (by decide) rfl ⟨rfl, rfl⟩ (fun _ => ⟨rfl, rfl⟩) ?_
  have E5 : Ext w0 (wsetR (wpush w3 a4 (10, 6)) t 1 (some (10, 6, t + 2))) 3 := E4.setR (by omega) 1 _
  have K5 : wK (wsetR (wpush w3 a4 (10, 6)) t 1 (some (10, 6, t + 2))) t = (54, 0) := (pK_o (a := a4) (q := (10, 6)) (by omega)).trans K3
  have K5a : wK (wsetR (wpush w3 a4 (10, 6)) t 1 (some (10, 6, t + 2))) (t + 1) = (11, 120) := (pK_o (a := a4) (q := (10, 6)) (by omega)).trans K3a
  have K5b : wK (wsetR (wpush w3 a4 (10, 6)) t 1 (some (10, 6, t + 2))) (t + 2) = (10, 6) := pK_n (a := a4) n3.symm
  have A5 : wA (wsetR (wpush w3 a4 (10, 6)) t 1 (some (10, 6, t + 2))) t = a := (show wA (wpush w3 a4 (10, 6)) t = wA w3 t from if_neg (by omega)).trans A3
  have R5 : wR (wsetR (wpush w3 a4 (10, 6)) t 1 (some (10, 6, t + 2))) t 0 = some (11, 120, t + 1) := sR_r (Or.inr (by decide)) (pR_r (by omega) R3)
  have R5b : wR (wsetR (wpush w3 a4 (10, 6)) t 1 (some (10, 6, t + 2))) t 1 = some (10, 6, t + 2) := wsetR_at _ _ _ _
  have n5 : wN (wsetR (wpush w3 a4 (10, 6)) t 1 (some (10, 6, t + 2))) = t + 3 := congrArg (· + 1) n3
  generalize wsetR (wpush w3 a4 (10, 6)) t 1 (some (10, 6, t + 2)) = v at E5 K5 K5a K5b A5 R5 R5b n5 ⊢
  obtain ⟨K, hK⟩ : ∃ K : Nat → Nat × Nat, K = fun k => if k = t then (4, 0) else wK v k := ⟨_, rfl⟩
  have Ko : ∀ k, k ≠ t → K k = wK v k := fun k hk => by rw [hK]; exact if_neg hk
  have K0 : K t = (4, 0) := by rw [hK]; exact if_pos rfl
  have E6 : Ext w0 (wkind v K) 3 := E5.kind (fun k hk => Ko k (by omega))
  have B6 : TB (wkind v K) t := ⟨K0, (Ko _ (by omega)).trans K5a, (Ko _ (by omega)).trans K5b⟩
  have W6 : Wr (wkind v K) := hW0.blk E6 (by rw [hc]; exact B6.wr (Nat.le_of_eq n5.symm))
  refine V_re (w' := wkind v K) (loc' := [none]) (st' := []) (fun H hP => Wp_re (w := v) (w' := wkind v K) rfl rfl rfl (fun _ _ => rfl) (fun k hk => ?_) hP) rfl trivial trivial ?_
  · by_cases z : k = t
    · subst z
      refine eE_obj (ci := 4) K5 K0 (by decide) (fun j q e => ?_)
      rcases rf4_in e with ⟨rfl, rfl⟩ | ⟨rfl, rfl⟩
      · exact ⟨_, _, R5⟩
      · exact ⟨_, _, R5b⟩
    · exact eE_same (Ko k z)
  · refine V_vretN (Cx_ext hC0 E6) (by rw [E6.b, E1.b]) rfl kX4_init_20 ⟨(Nat.le_of_ble_eq_true rfl), (Nat.le_of_ble_eq_true rfl)⟩ ?_
    exact ⟨E6, W6, B6, A5, fun k hk => (upr_ne _ _ (by omega)).trans (upr_ne _ _ (by omega))⟩
/-! the reference's object -/
def AK (j : Nat) : Nat × Nat := match j with
  | 0 => (10, 140)
  | 1 => (10, 140)
  | 2 => (10, 1960)
  | 3 => (10, 280)
  | 4 => (12, 2)
  | 5 => (10, 120)
  | _ => (10, 6)
def AF (j : Nat) : Nat := match j with
  | 0 => 1
  | 1 => 2
  | 2 => 3
  | 3 => 5
  | 4 => 6
  | 5 => 7
  | _ => 13
theorem AF_ne : ∀ i, i < 6 → ∀ j, j < i → AF j ≠ AF i := by decide
def SM (w0 : Wd) (a mo i : Nat) (w : Wd) : Prop := Ext w0 w (1 + i) ∧ Wr w ∧ wK w mo = (56, 0) ∧ wA w mo = a ∧ wN w = mo + 1 + i ∧ ∀ j, j < i → wK w (mo + 1 + j) = AK j ∧ wR w mo (AF j) = some ((AK j).1, (AK j).2, mo + 1 + j)
theorem SM.step {w0 w : Wd} {a mo i a2 kd n : Nat} (h : SM w0 a mo i w) (hmo : wN w0 = mo) (hi : i < 6) (hk : AK i = (kd, n)) (hN : mo < 900000) : SM w0 a mo (i + 1) (wsetR (wpush w a2 (kd, n)) mo (AF i) (some (kd, n, mo + 1 + i))) := by
  obtain ⟨E, W, K, A, nN, h⟩ := h
  have hkd : kd < 13 ∧ 10 ≤ kd := by
    have : ∀ i, i < 6 → (AK i).1 < 13 ∧ 10 ≤ (AK i).1 := by decide
    have h2 := this i hi
    rw [hk] at h2
    exact h2
  have E2 : Ext w0 (wpush w a2 (kd, n)) (1 + (i + 1)) := E.psh (by omega) a2 _
  refine ⟨E2.setR (by omega) _ _, (W.push (by omega) a2 ⟨fun z => by omega, by omega⟩).setR (okr_of (by omega) (show mo + 1 + i < wN w + 1 by omega) (pK_n nN.symm)), (pK_o (a := a2) (q := (kd, n)) (by omega)).trans K, (show wA (wpush w a2 (kd, n)) mo = wA w mo from if_neg (by omega)).trans A, congrArg (· + 1) nN, fun j hj => ?_⟩
  rcases Nat.lt_or_ge j i with z | z
  · exact ⟨(pK_o (a := a2) (q := (kd, n)) (by omega)).trans (h j z).1, sR_r (Or.inr (AF_ne i hi j z)) (pR_r (by omega) (h j z).2)⟩
  · obtain rfl : j = i := by omega
    rw [hk]
    exact ⟨pK_n (a := a2) nN.symm, wsetR_at _ _ _ _⟩
