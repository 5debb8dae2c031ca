/-! the law's body from its entry -/
section START
variable {p : Program} {l : Launch} {e : Env} {s : State} {m : MethodId} {below : List Frame} {meth : Method} {c : Code} {L : Nat} {xs : Nat → Int32}
set_option maxHeartbeats 8000000 in
set_option maxRecDepth 100000 in
theorem law_start {b : Nat} {w0 : Wd} (hN : wN w0 = 0) (hW0 : Wr w0) (hw : LC l p s m #[Value.ref b] meth c L xs w0) (hB : wB w0 = s.heap.size) : V p l e (mRm mtL_law) s m #[Value.ref b] below meth c mtL_law w0 (lw_Z below #[Value.ref b] s) 0 0 0 [some (vR (some (21, 0, 2000000))), none, none, none, none, none, none] [] (fun _ _ => 0) := by
  obtain ⟨hC0, hX0, -, hBs, hXs, hbl, hL, hl0⟩ := hw
  have hB0 : wB w0 ≤ s.heap.size := Nat.le_of_eq hB
  -- the boats
  refine V_new hC0 hW0 hB0 (by omega) 5 55 (Or.inl rfl) (by decide) lkL_8 ni5 kL_law_0 ⟨(Nat.le_of_ble_eq_true rfl), (Nat.le_of_ble_eq_true rfl)⟩ (fun a0 => ?_)
  rw [hN]
  have E1 : Ext w0 (wpush w0 a0 (55, 0)) 1 := Ext.push (by omega) a0 _
  have hC1 := Cx_ext hC0 E1
  refine V_dup hC1 kL_law_3 rfl ?_
  refine V_invI [some (vR (some (21, 0, 2000000))), none, none, none, none, none, none] [vR (some (5, 0, 0))] hC1 (by rw [E1.b]; exact hB0) (cn_boats (a := a0) (x := 0) hW0 hN (by decide)) miX5_init rfl rfl lmL_97 kL_law_4 rfl rfl (Nat.le_of_ble_eq_true rfl) ⟨(Nat.le_of_ble_eq_true rfl), (Nat.le_of_ble_eq_true rfl)⟩ ⟨(Nat.le_of_ble_eq_true rfl), (Nat.le_of_ble_eq_true rfl)⟩ (fun w2 g2 h => ?_) (fun w2 g2 h => ?_)
  · obtain ⟨F, X2, K2, A2, -⟩ := h
    exact ⟨F.b, ⟨Vm.r ((F.2.2.2.2.1 _ (Or.inr (by decide))).trans (E1.2.2.2.2.1 _ (Or.inr (by decide))).symm) (fun _ => okr_21 _), trivial⟩, ⟨Vm.r (A2.trans (pA_n hN.symm).symm) (fun _ => okr_of (by decide) (by have := F.n; omega) K2), trivial⟩⟩
  obtain ⟨F, X2, K2, A2, -, S1, S2, S3, S4, S5, S6⟩ := h
  have n2 : wN w2 = 331 := by have := F.n; omega
  have hC2 := Cx_ext hC0 F
  refine V_astore_n hC2 [some (vR (some (21, 0, 2000000))), some (vR (some (5, 0, 0))), none, none, none, none, none] kL_law_7 rfl (Nat.le_of_ble_eq_true rfl) ?_
  -- the reference
  refine V_new hC2 X2 (by rw [F.b]; exact hB0) (by omega) 6 56 (Or.inl rfl) (by decide) lkL_98 ni6 kL_law_8 ⟨(Nat.le_of_ble_eq_true rfl), (Nat.le_of_ble_eq_true rfl)⟩ (fun a3 => ?_)
  rw [n2]
  have E3 : Ext w0 (wpush w2 a3 (56, 0)) 332 := F.psh (by omega) a3 _
  have hC3 := Cx_ext hC0 E3
  refine V_dup hC3 kL_law_11 rfl ?_
  refine V_invI [some (vR (some (21, 0, 2000000))), some (vR (some (5, 0, 0))), none, none, none, none, none] [vR (some (6, 0, 331))] hC3 (by rw [E3.b]; exact hB0) (cn_model (a := a3) (mo := 331) X2 n2 (by decide) (fun j => by rw [upr_at])) miX6_init rfl rfl lmL_100 kL_law_12 rfl rfl (Nat.le_of_ble_eq_true rfl) ⟨(Nat.le_of_ble_eq_true rfl), (Nat.le_of_ble_eq_true rfl)⟩ ⟨(Nat.le_of_ble_eq_true rfl), (Nat.le_of_ble_eq_true rfl)⟩ (fun w4 g4 h => ?_) (fun w4 g4 h => ?_)
  · obtain ⟨G, X4, K4, A4, -⟩ := h
    have h5 : okr w4 (5, 0, 0) := okr_of (by decide) (by have := G.n; omega) ((G.k (by omega)).trans K2)
    exact ⟨G.b, ⟨Vm.r ((G.2.2.2.2.1 _ (Or.inr (by decide))).trans ((Ext.push (w := w2) (by omega) a3 (56, 0)).2.2.2.2.1 _ (Or.inr (by decide))).symm) (fun _ => okr_21 _), Vm.r ((G.a (by omega)).trans (pA_o (by omega)).symm) (fun _ => h5), trivial⟩, ⟨Vm.r (A4.trans (pA_n n2.symm).symm) (fun _ => okr_of (by decide) (by have := G.n; omega) K4), trivial⟩⟩
  obtain ⟨G, X4, K4, A4, T1, T2', T3, T4⟩ := h
  have n4 : wN w4 = 339 := by have := G.n; omega
  have E4 : Ext w0 w4 339 := F.tr G
  have hC4 := Cx_ext hC0 E4
  refine V_astore_n hC4 [some (vR (some (21, 0, 2000000))), some (vR (some (5, 0, 0))), some (vR (some (6, 0, 331))), none, none, none, none] kL_law_15 rfl (Nat.le_of_ble_eq_true rfl) ?_
  refine V_iconst hC4 (1) kL_law_16 (by decide) ?_
  refine V_newL hC4 X4 (by rw [E4.b]; exact hB0) (by omega) 1 (by decide) rfl (by decide) kL_law_17 ⟨(Nat.le_of_ble_eq_true rfl), (Nat.le_of_ble_eq_true rfl)⟩ (fun a5 => ?_)
  rw [n4]
  have E5 : Ext w0 (wpush w4 a5 (13, 1)) 340 := E4.psh (by omega) a5 _
  have W5 : Wr (wpush w4 a5 (13, 1)) := X4.push (by omega) a5 ⟨fun z => absurd z (by decide), by decide⟩
  have hC5 := Cx_ext hC0 E5
  refine V_astore_n hC5 [some (vR (some (21, 0, 2000000))), some (vR (some (5, 0, 0))), some (vR (some (6, 0, 331))), some (vR (some (13, 1, 339))), none, none, none] kL_law_19 rfl (Nat.le_of_ble_eq_true rfl) ?_
  refine V_iconst hC5 (0) kL_law_20 (by decide) ?_
  refine V_istore hC5 (lloc (nI (7 * 0)) none none) kL_law_21 rfl (Nat.le_of_ble_eq_true rfl) ?_
  have hLC : LC l p s m #[Value.ref b] meth c L xs (wpush w4 a5 (13, 1)) := by
    have eA : wA (wpush w4 a5 (13, 1)) 2000000 = wA w0 2000000 := E5.2.2.2.2.1 _ (Or.inr (by decide))
    refine ⟨hC5, WX_wF E5.f hX0, W5, by rw [E5.b]; exact hBs, ?_, ?_, hL, hl0⟩
    · rw [eA]
      exact hXs
    · rw [eA]
      exact hbl
  have f : ∀ k, k < 331 → upr g4 339 (fun _ => 0) k = g2 k := fun k hk => (upr_ne _ _ (by omega)).trans ((T1 k hk).trans (upr_ne _ _ (by omega)))
  have fm : upr g4 339 (fun _ => 0) 331 = g4 331 := upr_ne _ _ (by decide)
  have f1 : upr g4 339 (fun _ => 0) (331 + 1) = F_begins (fun _ => 0) := (upr_ne _ _ (by decide)).trans T3
  have f5 : ∀ j, upr g4 339 (fun _ => 0) (331 + 5) j = 0 := fun j => by
    rw [upr_ne _ _ (by decide)]
    exact T4 j
  generalize upr g4 339 (fun _ => 0) = g5 at f fm f1 f5 ⊢
  have qK : ∀ j, slK g5 331 j = false := fun j => by
    unfold slK
    rw [f5 j]
    rfl
  have hT : T2 0 331 0 0 7260 g5 := by
    refine T2.mk ?_ ?_ (S3.fr (fun k h1 h2 => f k (by omega))) ?_ ⟨?_, by decide, fun i hi => absurd hi (Nat.not_lt_zero _), fun i hi => absurd hi (Nat.not_lt_zero _)⟩ (by rw [fm]; exact T2' 8) (by decide) (by rw [fm]; exact T2' 4) ?_ (fun i hi => absurd hi (Nat.not_lt_zero _)) (fun j hj hk => by rw [qK j] at hk; cases hk)
    · rw [f1]
      exact S2.fr (Inv_begins _).cn (fun k h1 h2 => f k (by omega))
    · rw [f1]
      exact Inv_begins _
    · refine ⟨0, by decide, Nat.zero_le _, ?_, ?_, fun i hi => absurd hi (Nat.not_lt_zero _), fun j hj => (S5 j hj).fr (fun k h1 h2 => f k (by omega)), fun j hj => (S6 j hj).fr (fun k h1 h2 => f k (by omega)), fun i hi => ?_, fun j hj hk => by rw [qK j] at hk; cases hk⟩
      · rw [f _ (by decide)]
        exact S4 2
      · rw [f _ (by decide)]
        exact S4 3
      · rw [f _ (by decide), S4 4, bt_0 i hi, qK i, Bool.and_false]
    · rw [f _ (by decide)]
      exact S1
    · rw [f1]
      exact (OB.begins _).le (by decide)
  exact V_wd ⟨(Nat.le_of_ble_eq_true rfl), (Nat.le_of_ble_eq_true rfl)⟩ (law_loop 512 0 _ g5 0 0 rfl hLC hT)
end START
/-- from the entry, for every script of at most 3584 ints, the law comes to its end with true -/
theorem whole_start {p : Program} {e : Env} {s : State} {m : MethodId} {below : List Frame} {meth : Method} {c : Code} (l : Launch) (hflags : l.flags = flags0) {b L : Nat} {xs : Nat → Int32} (hL : L ≤ 3584) (C0 : lw_At p s m meth c b L xs) : W p l e room_1 s m #[Value.ref b] below meth c s.heap [] 0 0 (lw_Z below #[Value.ref b] s) (entryFrame m ([Value.ref b] : List Value).toArray 7) := by
  obtain ⟨hx, hb, hr, hml, hown, hts, hX, hbl, hlocks, hgv⟩ := id C0
  obtain ⟨w0, hN, hB, hb2, hW, hWX⟩ := ws_world hts hgv
  have hl0 : l.stackTraces = false := by
    unfold Launch.stackTraces
    rw [hflags]
    decide +kernel
  have hC : Cx p (mRm mtL_law) s m #[Value.ref b] meth c mtL_law w0 := ⟨hx, hb, hml, hown, fun q hq => hts q (List.mem_filter.mp hq).1, hlocks, hr, rfl, hW⟩
  have hWr : Wr w0 := fun k kd len hk => by omega
  have hLC : LC l p s m #[Value.ref b] meth c L xs w0 := ⟨hC, hWX, hWr, Nat.le_of_eq hB.symm, by rw [hb2]; exact hX, by rw [hb2]; exact hbl, hL, hl0⟩
  have hV := law_start (e := e) (below := below) hN hWr hLC hB
  have hnil : wws w0 (fun _ _ => 0) = [] := by unfold wws; rw [show wN w0 = 0 from hN]; rfl
  have hP : Wp w0 (fun _ _ => 0) s.heap := by
    unfold Wp
    rw [hnil]
    exact ⟨fun k q h => by simp at h, fun i j p q h => by simp at h, fun k q h => by simp at h⟩
  have e1 : ([Value.ref b] : List Value) = [vR (some (21, 0, 2000000))].map (den w0) := by
    show [Value.ref b] = [Value.ref (wA w0 2000000)]
    rw [hb2]
  have hLk := Lk.start (w := w0) (av := [vR (some (21, 0, 2000000))]) (nL := 7) (Nat.le_of_ble_eq_true rfl) (fun v hv => by rw [List.mem_singleton.mp hv]; exact okr_21 w0)
  rw [← e1] at hLk
  rw [lg_entry_eq]
  exact hV s.heap [] _ hP va_S.rf hLk (fun _ h => absurd h List.not_mem_nil)
