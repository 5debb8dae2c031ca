/-! the law from its entry -/
theorem dark_n {g : Gs} (h4 : g 4 = 0) : ∀ n, F_dark g n = nI n
  | 0 => rfl
  | n + 1 => by
    rw [F_dark, dark_n h4 n, h4, show tn 0 = 0 by decide, if_pos (show F_lit g (nI n) 0 = 0 from rfl)]
    exact nI_add n 1
theorem best_m1 {g : Gs} (h4 : g 4 = 0) (q : Int32) : F_best g q = -1 := by
  unfold F_best
  rw [h4, show tn 0 = 0 by decide]
  rfl
theorem border_m1 {g : Gs} (h4 : g 4 = 0) (k : Int32) : R_border g k = -1 := by
  unfold R_border
  refine if_neg (fun h => ?_)
  have := fa_first_yes (F_bdp g k) 199 h
  unfold F_bdp F_bd at this
  rw [best_m1 h4, best_m1 h4, b01_f (not_not_intro rfl)] at this
  simp at this
theorem miX5_init : MkI mtX5_init 0 := ⟨List.mem_of_getElem? (i := 32) (by decide +kernel), by decide +kernel, by decide +kernel, ⟨by decide +kernel, by decide +kernel, by decide +kernel⟩⟩
theorem ni5 : Cond.instantiable (gC 5) (nf 5) ∈ lw_tbl ∧ Cond.initialized (gC 5) ∈ lw_tbl := ⟨by decide +kernel, by decide +kernel⟩
theorem lkL_13 : Cond.classLink RL 13 RX5 ∈ lw_tbl := by decide +kernel
theorem lmL_59 : LkM RL 59 mtX5_init := Or.inl (by decide +kernel)
theorem mkX5_save : MkV mtX5_save 1 := ⟨List.mem_of_getElem? (i := 591) (by decide +kernel), by decide +kernel, by decide +kernel, by decide +kernel, ⟨by decide +kernel, by decide +kernel, by decide +kernel⟩⟩
theorem lxL_60 : Cond.methodLink RL 60 (mY mtX5_save) ∈ lw_tbl := by decide +kernel
theorem lmL_63 : LkM RL 63 mtX5_dark := Or.inl (by decide +kernel)
theorem mkX5_dark : MkV mtX5_dark 0 := ⟨List.mem_of_getElem? (i := 416) (by decide +kernel), by decide +kernel, by decide +kernel, by decide +kernel, ⟨by decide +kernel, by decide +kernel, by decide +kernel⟩⟩
theorem mkX5_border : MkV mtX5_border 1 := ⟨List.mem_of_getElem? (i := 425) (by decide +kernel), by decide +kernel, by decide +kernel, by decide +kernel, ⟨by decide +kernel, by decide +kernel, by decide +kernel⟩⟩
theorem lxL_66 : Cond.methodLink RL 66 (mY mtX5_border) ∈ lw_tbl := by decide +kernel
theorem mkX5_bestAt : MkV mtX5_bestAt 2 := ⟨List.mem_of_getElem? (i := 326) (by decide +kernel), by decide +kernel, by decide +kernel, by decide +kernel, ⟨by decide +kernel, by decide +kernel, by decide +kernel⟩⟩
theorem lxL_69 : Cond.methodLink RL 69 (mY mtX5_bestAt) ∈ lw_tbl := by decide +kernel
section START
variable {p : Program} {l : Launch} {e : Env} {s : State} {m : MethodId} {below : List Frame} {meth : Method} {c : Code}
set_option maxHeartbeats 8000000 in
set_option maxRecDepth 100000 in
theorem law_made {b : Nat} {w : Wd} {sg : Sg} {gb : Gs} {G0 : Nat → Gs} (hgb : gb = F_begins (fun _ => 0)) (h : LC l p s m #[Value.ref b] meth c w) (hR : Rel sg (0 + 4) gb) (hm : MRel sg (0 + 40) 0 G0 (fun _ => false) (fun _ => gb)) (hBt : Bt sg (0 + 22)) : V p l e (mRm mtL_law) s m #[Value.ref b] below meth c mtL_law w (lw_Z below #[Value.ref b] s) (331) (3234) 8 [some (vR (some (21, 0, 2000000))), some (vR (some (5, 0, 0))), none, none, none, none, none, none, none, none] [] sg := by
  obtain ⟨hC, hX, hWr, hBs, hl0⟩ := id h
  have hJ : J (120 * 0) gb := by rw [hgb]; exact J.begins _
  have hI := hJ.1
  have z4 : gb 4 = 0 := by rw [hgb]; exact begins_0 _ (by decide) (by decide)
  have z6 : gb 6 = 0 := by rw [hgb]; exact begins_0 _ (by decide) (by decide)
  refine V_aload_n hC kL_law_8 rfl ?_
  refine V_iconst hC (0) kL_law_9 (by decide) ?_
  refine V_cV0 hC hX (cf_save hWr hl0 0 hR hI hm) (fun _ _ h => h.1) ((if_pos (by decide))) mkX5_save lxL_60 kL_law_10 (Nat.le_of_ble_eq_true rfl) rfl rfl rfl (Nat.le_of_ble_eq_true rfl) ⟨(Nat.le_of_ble_eq_true rfl), (Nat.le_of_ble_eq_true rfl)⟩ ⟨rfl, rfl⟩ ⟨(by show _ ≤ 600074; omega), (by show _ ≤ 7301550; omega)⟩ (fun x10 g10 h10 => ?_)
  obtain ⟨e10, hP⟩ := h10
  have hT2 : Tm g10 gb 0 G0 (fun i => if i = tn 0 then true else false) (fun i => if i = tn 0 then gb else gb) := ⟨hP.2.1, hP.1, hBt.fr (fun k h1 h2 => hP.2.2 k (Or.inr (by omega)) (Or.inl (by omega))), if_pos (by decide), (if_pos (by decide)).trans hgb⟩
  have hR1 := hP.2.1
  refine V_if_ne hC 46 kL_law_13 (by decide) (fun h13 => absurd h13 (not_not_intro (e10.trans z6))) (fun h13 => ?_)
  refine V_aload_n hC kL_law_16 rfl ?_
  refine V_cV_fI hC (cl_dark hWr hR1 hI) mkX5_dark lmL_63 kL_law_17 (Nat.le_of_ble_eq_true rfl) rfl rfl rfl (Nat.le_of_ble_eq_true rfl) ⟨(Nat.le_of_ble_eq_true rfl), (Nat.le_of_ble_eq_true rfl)⟩ ⟨rfl, rfl⟩ ⟨(by show _ ≤ 600074; omega), (by show _ ≤ 7301550; omega)⟩ ?_
  refine V_sipush hC (200) kL_law_20 (by decide) ?_
  refine V_icmp_ne hC 46 kL_law_23 (by decide) (fun h23 => absurd h23 (not_not_intro (dark_n z4 200))) (fun h23 => ?_)
  refine V_aload_n hC kL_law_26 rfl ?_
  refine V_iconst hC (0) kL_law_27 (by decide) ?_
  refine V_cVf hC hX (cf_border hWr hl0 0 hR1 hI) (fun _ _ h => h.1) ((if_neg (by decide))) mkX5_border lxL_66 kL_law_28 (Nat.le_of_ble_eq_true rfl) rfl rfl rfl (Nat.le_of_ble_eq_true rfl) ⟨(Nat.le_of_ble_eq_true rfl), (Nat.le_of_ble_eq_true rfl)⟩ ⟨rfl, rfl⟩ ⟨(by show _ ≤ 600074; omega), (by show _ ≤ 7301550; omega)⟩ ?_
  refine V_iconst hC (-1) kL_law_31 (by decide) ?_
  refine V_icmp_ne hC 46 kL_law_32 (by decide) (fun h32 => absurd h32 (not_not_intro (border_m1 z4 0))) (fun h32 => ?_)
  refine V_aload_n hC kL_law_35 rfl ?_
  refine V_bipush hC (7) kL_law_36 (by decide) ?_
  refine V_iconst hC (0) kL_law_38 (by decide) ?_
  refine V_cVf hC hX (cf_bestAt hWr hl0 7 0 hR1 hI) (fun _ _ h => h.1) (((if_pos (by decide)).trans (if_pos (by decide)))) mkX5_bestAt lxL_69 kL_law_39 (Nat.le_of_ble_eq_true rfl) rfl rfl rfl (Nat.le_of_ble_eq_true rfl) ⟨(Nat.le_of_ble_eq_true rfl), (Nat.le_of_ble_eq_true rfl)⟩ ⟨rfl, rfl⟩ ⟨(by show _ ≤ 600074; omega), (by show _ ≤ 7301550; omega)⟩ ?_
  refine V_iconst hC (-1) kL_law_42 (by decide) ?_
  refine V_icmp_eq hC 48 kL_law_43 (by decide) (fun h43 => ?_) (fun h43 => absurd h43 (not_not_intro ((if_pos rfl).trans (best_m1 z4 7))))
  refine V_iconst hC (0) kL_law_48 (by decide) ?_
  refine V_istore_n hC [some _, some _, some _, none, none, none, none, none, none, none] kL_law_49 rfl (Nat.le_of_ble_eq_true rfl) ?_
  exact V_wd ⟨by omega, by omega⟩ (law_loop h 36 0 _ _ _ _ rfl hT2 hJ)
set_option maxHeartbeats 8000000 in
set_option maxRecDepth 100000 in
theorem law_start {b : Nat} {w0 : Wd} (hN : wN w0 = 0) (hW0 : Wr w0) (hw : LC l p s m #[Value.ref b] meth c w0) (hB : wB w0 = s.heap.size) : V p l e (mRm mtL_law) s m #[Value.ref b] below meth c mtL_law w0 (lw_Z below #[Value.ref b] s) 0 0 0 [some (vR (some (21, 0, 2000000))), none, none, none, none, none, none, none, none, none] [] (fun _ _ => 0) := by
  obtain ⟨hC0, hX0, -, hBs, hl0⟩ := hw
  have hB0 : wB w0 ≤ s.heap.size := Nat.le_of_eq hB
  refine V_new hC0 hW0 hB0 (by omega) 5 55 (Or.inl rfl) (by decide) lkL_13 ni5 kL_law_0 ⟨(Nat.le_of_ble_eq_true rfl), (Nat.le_of_ble_eq_true rfl)⟩ (fun a0 => ?_)
  rw [hN]
  have E1 : Ext w0 (wpush w0 a0 (55, 0)) 1 := Ext.push (by omega) a0 _
  have hC1 := Cx_ext hC0 E1
  refine V_dup hC1 kL_law_3 rfl ?_
  refine V_invI [some (vR (some (21, 0, 2000000))), none, none, none, none, none, none, none, none, none] [vR (some (5, 0, 0))] hC1 (by rw [E1.b]; exact hB0) (cn_boats (a := a0) (x := 0) hW0 hN (by decide)) miX5_init rfl rfl lmL_59 kL_law_4 rfl rfl (Nat.le_of_ble_eq_true rfl) ⟨(Nat.le_of_ble_eq_true rfl), (Nat.le_of_ble_eq_true rfl)⟩ ⟨(Nat.le_of_ble_eq_true rfl), (Nat.le_of_ble_eq_true rfl)⟩ (fun w2 g2 h => ?_) (fun w2 g2 h => ?_)
  · obtain ⟨F, X2, K2, A2, -⟩ := h
    exact ⟨F.b, ⟨Vm.r ((F.2.2.2.2.1 _ (Or.inr (by decide))).trans (E1.2.2.2.2.1 _ (Or.inr (by decide))).symm) (fun _ => okr_21 _), trivial⟩, ⟨Vm.r (A2.trans (pA_n hN.symm).symm) (fun _ => okr_of (by decide) (by have := F.n; omega) K2), trivial⟩⟩
  obtain ⟨F, X2, K2, A2, -, S1, S2, S3, S4, S5, S6⟩ := h
  have n2 : wN w2 = 331 := by have := F.n; omega
  have hC2 := Cx_ext hC0 F
  refine V_astore_n hC2 [some (vR (some (21, 0, 2000000))), some (vR (some (5, 0, 0))), none, none, none, none, none, none, none, none] kL_law_7 rfl (Nat.le_of_ble_eq_true rfl) ?_
  have hLC : LC l p s m #[Value.ref b] meth c w2 := ⟨hC2, WX_wF F.b (F.2.2.2.2.1 _ (Or.inr (by decide))) hX0, X2, by rw [F.b]; exact hBs, hl0⟩
  refine V_wd (k := 331) (n := 3234) ⟨(Nat.le_of_ble_eq_true rfl), (Nat.le_of_ble_eq_true rfl)⟩ (law_made (G0 := fun _ => F_begins (fun _ => 0)) rfl hLC S2 ?_ S3)
  refine ⟨0, by decide, Nat.zero_le _, S4 2, S4 3, fun i hi => absurd hi (Nat.not_lt_zero _), S5, S6, fun i hi => ?_, fun j hj hk => Bool.noConfusion hk⟩
  rw [S4 4, bt_0 i hi, Bool.and_false]
end START
/-- from the entry, for every script of at most 260 ints, the law comes to its end with true -/
theorem whole_start {p : Program} {e : Env} {s : State} {m : MethodId} {below : List Frame} {meth : Method} {c : Code} (l : Launch) (hflags : l.flags = flags0) {b L : Nat} {xs : Nat → Int32} (hL : L ≤ 260) (C0 : lw_At p s m meth c b L xs) : W p l e room_1 s m #[Value.ref b] below meth c s.heap [] 0 0 (lw_Z below #[Value.ref b] s) (entryFrame m ([Value.ref b] : List Value).toArray 10) := by
  obtain ⟨hx, hb, hr, hml, hown, hts, hX, hbl, hlocks, hgv⟩ := id C0
  obtain ⟨w0, hN, hB, hb2, hW, hWX⟩ := ws_world hL hX hbl hts hgv
  have hl0 : l.stackTraces = false := by
    unfold Launch.stackTraces
    rw [hflags]
    decide +kernel
  have hC : Cx p (mRm mtL_law) s m #[Value.ref b] meth c mtL_law w0 := ⟨hx, hb, hml, hown, fun q hq => hts q (List.mem_filter.mp hq).1, hlocks, hr, rfl, hW⟩
  have hWr : Wr w0 := fun k kd len hk => by omega
  have hLC : LC l p s m #[Value.ref b] meth c w0 := ⟨hC, hWX, hWr, Nat.le_of_eq hB.symm, hl0⟩
  have hV := law_start (e := e) (below := below) hN hWr hLC hB
  have hnil : wws w0 (fun _ _ => 0) = [] := by unfold wws; rw [show wN w0 = 0 from hN]; rfl
  have hP : Wp w0 (fun _ _ => 0) s.heap := by
    unfold Wp
    rw [hnil]
    exact ⟨fun k q h => by simp at h, fun i j p q h => by simp at h, fun k q h => by simp at h⟩
  have e1 : ([Value.ref b] : List Value) = [vR (some (21, 0, 2000000))].map (den w0) := by
    show [Value.ref b] = [Value.ref (wA w0 2000000)]
    rw [hb2]
  have hLk := Lk.start (w := w0) (av := [vR (some (21, 0, 2000000))]) (nL := 10) (Nat.le_of_ble_eq_true rfl) (fun v hv => by rw [List.mem_singleton.mp hv]; exact okr_21 w0)
  rw [← e1] at hLk
  rw [lg_entry_eq]
  exact hV s.heap [] _ hP va_S.rf hLk (fun _ h => absurd h List.not_mem_nil)
