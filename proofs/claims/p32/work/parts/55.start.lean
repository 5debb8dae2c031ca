/-! the law's start: the world before anything is made -/
def gFL : List Cond := flatC (Jvm.Cond.and given_1 narrow_1)
theorem st_arr : ∀ i, i < 3 → Cond.arrayOf (.static (scls i) (snam i) "[I") .int ∈ gFL := by decide +kernel
theorem st_len : ∀ i, i < 3 → Cond.eq (.length (.static (scls i) (snam i) "[I")) (.int (Int32.ofNat (slen i))) ∈ gFL := by decide +kernel
theorem st_el : ∀ i, i < 3 → ∀ j, j < slen i → Cond.eq (.elem (.static (scls i) (snam i) "[I") (.int (Int32.ofNat j))) (.int (srow i j)) ∈ gFL := by decide +kernel
theorem st_lay : ∀ i, i < 3 → Cond.laysStatic (scls i) (snam i) "[I" ∈ lw_tbl ∧ Cond.initialized (scls i) ∈ lw_tbl := by decide +kernel
theorem st_small : ∀ i, i < 3 → slen i < 2 ^ 31 := by decide
theorem st_tx : ∀ q ∈ sTX, Cond.exactly (.string "LanternBoats" q.1) "java/lang/String" ∈ gFL ∧ Cond.stringRef "LanternBoats" q.1 q.2 ∈ lw_tbl := by decide +kernel
theorem st_xw : ∀ q ∈ xWd, q ∈ lw_tbl := by decide +kernel
theorem st_t1 : Cond.laysStatic Bundle.tN "UNASSIGNED_STACK" Bundle.steD ∈ lw_tbl ∧ Cond.laysStatic Bundle.tN "SUPPRESSED_SENTINEL" Bundle.listD ∈ lw_tbl ∧ Cond.initialized Bundle.tN ∈ lw_tbl := ⟨by decide +kernel, by decide +kernel, by decide +kernel⟩
theorem st_t2 : Cond.isRef (.static Bundle.tN "UNASSIGNED_STACK" Bundle.steD) ∈ gFL ∧ Cond.isRef (.static Bundle.tN "SUPPRESSED_SENTINEL" Bundle.listD) ∈ gFL := ⟨by decide +kernel, by decide +kernel⟩
theorem st_nest : ∀ q ∈ gNTB, q.onTables = true := by
  intro q hq
  have h := (List.mem_filter.mp hq).2
  cases q <;> first | (cases h; done) | rfl
def aty (k : Nat) : FieldType := match k with
  | 0 => .int
  | 1 => .char
  | 2 => .int
  | 3 => .int
  | 4 => .object "LanternBoats$Light"
  | 5 => .object "LanternBoats$Boat"
  | _ => .object "LanternBoats$Coast"
theorem ar_prim {args : Array Value} {s : State} {ty : FieldType} (h : (Cond.arrayClass ty).before args s = true) (hra : ∀ cA, va_RA s cA ty = (s.vm.findClass ("[" ++ ty.toString) = some cA)) : ∃ cA, ArrOfT s cA ty ∧ va_RA s cA ty := by
  obtain ⟨c, k, comp, h1, h2, h3⟩ := Cond.arrayClass_spec h
  exact ⟨c, fun n z => ⟨fun k h => (by cases h), k, h2, comp, h3⟩, by rw [hra]; exact h1⟩
theorem ar_obj {args : Array Value} {s : State} {C : String} (h : (Cond.arrayOver (.object C)).before args s = true) : ∃ cA, ArrOfT s cA (.object C) ∧ va_RA s cA (.object C) := by
  obtain ⟨comp, c, k, h1, h2, h3, h4, h5⟩ := Cond.arrayOver_spec h
  exact ⟨c, fun n z => ⟨fun k h => (by cases h), k, h3, comp, h4⟩, k, comp, h3, h4, h1, h5⟩
theorem ar_all {args : Array Value} {s : State} (hts : ∀ q ∈ lw_tbl, q.before args s = true) : ∀ k, ∃ cA, k < 7 → ArrOfT s cA (aty k) ∧ va_RA s cA (aty k) := by
  have h0 := ar_prim (hts (.arrayClass .int) (by decide +kernel)) (fun _ => rfl)
  have h1 := ar_prim (hts (.arrayClass .char) (by decide +kernel)) (fun _ => rfl)
  have h2 := ar_prim (hts (.arrayClass .int) (by decide +kernel)) (fun _ => rfl)
  have h3 := ar_prim (hts (.arrayClass .int) (by decide +kernel)) (fun _ => rfl)
  have h4 := ar_obj (hts (.arrayOver (.object "LanternBoats$Light")) (by decide +kernel))
  have h5 := ar_obj (hts (.arrayOver (.object "LanternBoats$Boat")) (by decide +kernel))
  have h6 := ar_obj (hts (.arrayOver (.object "LanternBoats$Coast")) (by decide +kernel))
  intro k
  match k with
  | 0 => exact h0.elim fun a h => ⟨a, fun _ => h⟩
  | 1 => exact h1.elim fun a h => ⟨a, fun _ => h⟩
  | 2 => exact h2.elim fun a h => ⟨a, fun _ => h⟩
  | 3 => exact h3.elim fun a h => ⟨a, fun _ => h⟩
  | 4 => exact h4.elim fun a h => ⟨a, fun _ => h⟩
  | 5 => exact h5.elim fun a h => ⟨a, fun _ => h⟩
  | k + 6 => exact h6.elim fun a h => ⟨a, fun _ => h⟩
theorem inst_ok : ∀ ci, ci < 6 → Cond.instantiable (gC ci) (nf ci) ∈ lw_tbl := by decide +kernel
set_option maxHeartbeats 4000000 in
set_option maxRecDepth 100000 in
theorem ws_world {b L : Nat} {s : State} {xs : Nat → Int32} (hL : L ≤ 260) (hXX : va_X b L xs s s.heap) (hbl : b < s.heap.size) (hts : ∀ q ∈ lw_tbl, q.before #[Value.ref b] s = true) (hgv : (Jvm.Cond.and given_1 narrow_1).before #[Value.ref b] s = true) : ∃ w0 : Wd, wN w0 = 0 ∧ wB w0 = s.heap.size ∧ wA w0 2000000 = b ∧ Ws w0 s ∧ WX w0 s := by
  have hfl : ∀ q ∈ gFL, q.before #[Value.ref b] s = true := flat_of_before _ hgv
  have hA : ∀ a : Nat, a < s.heap.size → ¬ s.heap.size ≤ a := fun a h => Nat.not_le.mpr h
  have hcl : ∀ ci, ∃ q : ClassId × (Nat → Nat), ci < 6 → u_Kn s (gC ci) (gT ci) (nf ci) q.1 q.2 := fun ci => by
    by_cases h : ci < 6
    · obtain ⟨cC, iS, hK⟩ := u_known (ws := lw_tbl) (s := s) (args := #[Value.ref b]) (C := gC ci) (T := gT ci) (N := nf ci) (n := nf ci) hts (fun q hq => (List.mem_filter.mp (u_in_g h q hq)).1) (hts _ (inst_ok ci h))
      exact ⟨(cC, iS), fun _ => hK⟩
    · obtain ⟨cC, iS, hK⟩ := u_known (ws := lw_tbl) (s := s) (args := #[Value.ref b]) (C := gC 0) (T := gT 0) (N := nf 0) (n := nf 0) hts (fun q hq => (List.mem_filter.mp (u_in_g (by decide) q hq)).1) (hts _ (inst_ok 0 (by decide)))
      exact ⟨(cC, iS), fun z => absurd z h⟩
  obtain ⟨dD, hdD⟩ := Classical.skolem.mp hcl
  obtain ⟨cA, hcA⟩ := Classical.skolem.mp (ar_all hts)
  have hst : ∀ i, ∃ t : Nat, i < 3 → (Term.static (scls i) (snam i) "[I").eval #[Value.ref b] s none [] s = some (.ref t) ∧ va_T .int t (slen i) (fun j => .int (srow i j)) (fun q => s.heap.size ≤ q) s s.heap := fun i => by
    by_cases h : i < 3
    · obtain ⟨t, h1, h2⟩ := va_Tof (f := fun j => .int (srow i j)) (A := fun q => s.heap.size ≤ q) (st_small i h) (hfl _ (st_arr i h)) (va_eqt (hfl _ (st_len i h))) (fun j hj => va_eqt (hfl _ (st_el i h j hj))) hA
      exact ⟨t, fun _ => ⟨h1, h2⟩⟩
    · exact ⟨0, fun z => absurd z h⟩
  obtain ⟨aS, haS⟩ := Classical.skolem.mp hst
  refine ⟨((fun ci => (dD ci).1, fun ci => (dD ci).2), (fun kd => cA (kd - 10)), (fun k => if k = 2000000 then b else aS (k - 1000000)), s.heap.size, 0, (fun _ => (0, 0)), (fun _ _ => none), (fun _ _ => 0)), rfl, rfl, (show (if (2000000 : Nat) = 2000000 then b else aS (2000000 - 1000000)) = b from if_pos rfl), ⟨⟨fun k q hq => ?_, fun k q hq => ?_⟩, fun q hq => ?_, ⟨?_, ?_, ?_⟩, fun i hi => ?_⟩, ⟨?_, ?_, fun q hq => ?_⟩, fun q hq => ?_, ?_⟩
  · have hk : k < 6 := by
      have h1 : k < gcl.length := (List.getElem?_eq_some_iff.mp hq).1
      simpa [gcl] using h1
    rw [gcl_at hk] at hq
    cases hq
    exact hdD k hk
  · match k, hq with
    | 0, hq => cases hq; exact hcA 0 (by decide)
    | 1, hq => cases hq; exact hcA 1 (by decide)
    | 2, hq => cases hq; exact hcA 2 (by decide)
    | 3, hq => cases hq; exact hcA 3 (by decide)
    | 4, hq => cases hq; exact hcA 4 (by decide)
    | 5, hq => cases hq; exact hcA 5 (by decide)
    | 6, hq => cases hq; exact hcA 6 (by decide)
    | k + 7, hq => simp [wty] at hq
  · exact va_Nw.of (st_nest q hq) (hts q (List.mem_filter.mp hq).1)
  · exact va_AO.of (hts (.arrayOver (.object "LanternBoats$Light")) (by decide +kernel))
  · exact va_AO.of (hts (.arrayOver (.object "LanternBoats$Boat")) (by decide +kernel))
  · exact va_AO.of (hts (.arrayOver (.object "LanternBoats$Coast")) (by decide +kernel))
  · obtain ⟨h1, h2⟩ := haS i hi
    have e : (if 1000000 + i = 2000000 then b else aS (1000000 + i - 1000000)) = aS i := by
      rw [if_neg (by omega), Nat.add_sub_cancel_left]
    show va_Z (scls i) (snam i) "[I" (.ref (if 1000000 + i = 2000000 then b else aS (1000000 + i - 1000000))) _ s s.heap ∧ va_T .int (if 1000000 + i = 2000000 then b else aS (1000000 + i - 1000000)) _ _ _ s s.heap
    rw [e]
    exact ⟨va_Zref (hts _ (st_lay i hi).1) (hts _ (st_lay i hi).2) h1 hA, h2⟩
  · exact vx_Zqof (hts _ st_t1.1) (hts _ st_t1.2.2) (hfl _ st_t2.1) hA
  · exact vx_Zqof (hts _ st_t1.2.1) (hts _ st_t1.2.2) (hfl _ st_t2.2) hA
  · obtain ⟨a, cc, cell, k, h1, -⟩ := Cond.exactly_spec (hfl _ (st_tx q hq).1)
    exact ⟨a, vk_R.of (hts _ (st_tx q hq).2) h1⟩
  · exact xWd_go hq (Vm.Alike.refl s.vm) (hts q (st_xw q hq))
  · exact ⟨L, xs, by omega, (by show va_X (if (2000000 : Nat) = 2000000 then b else aS (2000000 - 1000000)) L xs s s.heap; rw [if_pos rfl]; exact hXX), (by show (if (2000000 : Nat) = 2000000 then b else aS (2000000 - 1000000)) < _; rw [if_pos rfl]; exact hbl), (by show (if (2000000 : Nat) = 2000000 then b else aS (2000000 - 1000000)) < s.heap.size; rw [if_pos rfl]; exact hbl)⟩
theorem WX_wF {w w0 : Wd} {U : State} (e : wB w = wB w0) (e2 : wA w 2000000 = wA w0 2000000) (h : WX w0 U) : WX w U := by
  have e1 : wF w = wF w0 := by funext q; show (wB w ≤ q) = (wB w0 ≤ q); rw [e]
  unfold WX WX0 Sc at h ⊢
  rw [e1, e, e2]
  exact h
theorem okr_21 (w : Wd) : okr w (21, 0, 2000000) := by
  unfold okr
  rw [if_neg (show ¬ (21 : Nat) = 20 by decide), if_pos (show (21 : Nat) = 21 from rfl)]
theorem bt_0 (i : Nat) (hi : i < 32) : bt 0 i = false := by
  have h := bt_nI 0 i hi
  rw [nI_0] at h
  rw [h]
  exact Nat.zero_testBit i
