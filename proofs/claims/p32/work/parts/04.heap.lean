/-! the heap's rows; calls; returns -/
def LkF (own : String) (idx ci j : Nat) : Prop := Cond.fieldLink own idx (gT ci j).1 (gT ci j).2.1 (gT ci j).2.2.1 ∈ lw_tbl ∨ Cond.fieldLinkNest own idx (gT ci j).1 (gT ci j).2.1 (gT ci j).2.2.1 "LanternBoats" ∈ lw_tbl
theorem u_in_g {ci : Nat} (h : ci < 6) : ∀ q ∈ u_ws (gC ci) (gT ci) (nf ci), q ∈ gTBL := by
  have key : ∀ ci, ci < 6 → ∀ j, j < nf ci → u_lay (gC ci) (gT ci) j ∈ lw_tbl := by decide +kernel
  intro q hq
  obtain ⟨j, hj, rfl⟩ := List.mem_map.mp hq
  refine mem_gTBL (key ci h j (List.mem_range.mp hj)) ?_
  unfold u_lay
  split <;> rfl
theorem gty_ok {ci : Nat} (h : ci < 6) : ∀ k, k < nf ci → parseFieldDescriptor (gT ci k).2.2.1 = some (gty ci k) := by
  match ci, h with
  | 0, _ => exact tyX0_ok
  | 1, _ => exact tyX1_ok
  | 2, _ => exact tyX2_ok
  | 3, _ => exact tyX3_ok
  | 4, _ => exact tyX4_ok
  | 5, _ => exact tyX5_ok
theorem gnm_ok {ci : Nat} (h : ci < 6) : ∀ a, a < nf ci → ∀ b, b < nf ci → a ≠ b → (gT ci a).2.1 ≠ (gT ci b).2.1 := by
  match ci, h with
  | 0, _ => exact nmX0
  | 1, _ => exact nmX1
  | 2, _ => exact nmX2
  | 3, _ => exact nmX3
  | 4, _ => exact nmX4
  | 5, _ => exact nmX5
theorem okr_in {w : Wd} {kd len k : Nat} (h : okr w (kd, len, k)) (hne : kd ≠ 20 ∧ kd ≠ 21) : k < wN w ∧ wK w k = (kd, len) := by
  unfold okr at h
  rw [if_neg hne.1, if_neg hne.2] at h
  exact h
theorem fields_at {w : Wd} {sg : Sg} {ci k j : Nat} (hj : j < nf ci) : ((List.range (nf ci)).map (fV w sg ci k))[j]? = some (fV w sg ci k j) := by
  simp [hj]
/-- the tables keep what an object of a whole kind refers to: told of each world -/
def Wr (w : Wd) : Prop := ∀ (k kd len : Nat), k < wN w → wK w k = (kd, len) → (kd < 6 → ∀ j q, rf kd k j = some q → okr w q) ∧ (14 ≤ kd → kd < 17 → ∀ j q, j < len → ae kd k j = some q → okr w q) ∧ (50 ≤ kd → ∀ j q, wR w k j = some q → okr w q)
section FLAT2
variable {p : Program} {l : Launch} {e : Env} {R : Room} {s : State} {m : MethodId} {args : Array Value} {below : List Frame} {meth : Method} {c : Code} {Q : State → Prop} {t : Mt} {w : Wd} {cs sl pc nx : Nat} {loc : List (Option VV)} {st : List VV} {sg : Sg}
theorem V_getI (hC : Cx p R s m args meth c t w) {idx : Nat} (ci j : Nat) {len k : Nat} (hlk : LkF (mY t).cls idx ci j) (hd : Dk t pc (.getfield idx) 3 nx) (hci : ci < 6) (hj : j < nf ci) (hr : rf ci k j = none) (kk : V p l e R s m args below meth c t w Q cs sl nx loc (vI (sg k j) :: st) sg) : V p l e R s m args below meth c t w Q cs sl pc loc (vR (some (ci, len, k)) :: st) sg := by
  intro H locs ls hP hS hL hO
  obtain ⟨hd, rfl⟩ := hd
  obtain ⟨hx, hb, hml, hown, hts, -, -, -, hW⟩ := hC
  obtain ⟨hk, hK⟩ := okr_in (ok0 hO) (by omega)
  have hv : ((List.range (nf ci)).map (fV w sg ci k))[j]? = some (.int (sg k j)) := by rw [fields_at hj]; simp [fV, hr]
  rcases hlk with h | h
  · exact va_get hx hb hts (u_in_g hci) hown hW.1 hP.1 k (by rw [wws_at hk, cE_obj hK hci]) (gcl_at hci) j hj (hts _ (mem_gTBL h rfl)) (fun _ h => h) hv hd (kk H locs ls hP hS hL (okc trivial (ok1 hO)))
  · exact va_getN hx hb hts (u_in_g hci) hown hW.1 hP.1 k (by rw [wws_at hk, cE_obj hK hci]) (gcl_at hci) j hj (va_Nw.use rfl (hW.2.1 _ (List.mem_filter.mpr ⟨h, rfl⟩))) (fun _ h => h) hv hd (kk H locs ls hP hS hL (okc trivial (ok1 hO)))
theorem V_getR (hC : Cx p R s m args meth c t w) (hWr : Wr w) {idx : Nat} (ci j : Nat) {len k : Nat} {q : Nat × Nat × Nat} (hlk : LkF (mY t).cls idx ci j) (hd : Dk t pc (.getfield idx) 3 nx) (hci : ci < 6) (hj : j < nf ci) (hr : rf ci k j = some q) (kk : V p l e R s m args below meth c t w Q cs sl nx loc (vR (some q) :: st) sg) : V p l e R s m args below meth c t w Q cs sl pc loc (vR (some (ci, len, k)) :: st) sg := by
  intro H locs ls hP hS hL hO
  obtain ⟨hd, rfl⟩ := hd
  obtain ⟨hx, hb, hml, hown, hts, -, -, -, hW⟩ := hC
  obtain ⟨hk, hK⟩ := okr_in (ok0 hO) (by omega)
  have hv : ((List.range (nf ci)).map (fV w sg ci k))[j]? = some (.ref (wA w q.2.2)) := by rw [fields_at hj]; simp [fV, hr]
  have hq : okv w (vR (some q)) := (hWr k ci len hk hK).1 hci j q hr
  rcases hlk with h | h
  · exact va_get hx hb hts (u_in_g hci) hown hW.1 hP.1 k (by rw [wws_at hk, cE_obj hK hci]) (gcl_at hci) j hj (hts _ (mem_gTBL h rfl)) (fun _ h => h) hv hd (kk H locs ls hP hS hL (okc hq (ok1 hO)))
  · exact va_getN hx hb hts (u_in_g hci) hown hW.1 hP.1 k (by rw [wws_at hk, cE_obj hK hci]) (gcl_at hci) j hj (va_Nw.use rfl (hW.2.1 _ (List.mem_filter.mpr ⟨h, rfl⟩))) (fun _ h => h) hv hd (kk H locs ls hP hS hL (okc hq (ok1 hO)))
theorem V_putI (hC : Cx p R s m args meth c t w) {idx : Nat} (ci j : Nat) {len k : Nat} {x : Int32} (hlk : LkF (mY t).cls idx ci j) (hd : Dk t pc (.putfield idx) 3 nx) (hci : ci < 6) (hj : j < nf ci) (hr : rf ci k j = none) (hfin : (gT ci j).2.2.2 = false) (hn : narrow (gty ci j) (.int x) = .int x ∧ fits (gty ci j) (.int x) = true) (kk : V p l e R s m args below meth c t w Q cs sl nx loc st (ups sg k j x)) : V p l e R s m args below meth c t w Q cs sl pc loc (vI x :: vR (some (ci, len, k)) :: st) sg := by
  intro H locs ls hP hS hL hO
  obtain ⟨hd, rfl⟩ := hd
  obtain ⟨hx, hb, hml, hown, hts, -, -, -, hW⟩ := hC
  obtain ⟨hk, hK⟩ := okr_in (ok0 (ok1 hO)) (by omega)
  have he := cE_put (x := x) (sg := sg) hK hci hr
  have hset := wws_set (sg := sg) (sg' := ups sg k j x) hk he (fun k' h => ups_ne sg j x h)
  have kf : ∀ (H1 : Heap) (locs1 : List Loc), va_P (wD w) gcl ((wws w sg).set k (wA w k, .inr (ci, ((List.range (nf ci)).map (fV w sg ci k)).set j (.int x)))) H1 → va_D (wF w) ((wws w sg).set k (wA w k, .inr (ci, ((List.range (nf ci)).map (fV w sg ci k)).set j (.int x)))) → va_S (wF w) s.heap H1 locs1 → W p l e R s m args below meth c H1 locs1 cs sl Q (F0 m (pc + 3) ls (st.map (den w))) := by
    intro H1 locs1 h1 h2 h3
    rw [hset] at h1 h2
    exact kk H1 locs1 ls ⟨h1, h2⟩ h3 hL (ok1 (ok1 hO))
  rcases hlk with h | h
  · exact va_put hx hb hts (u_in_g hci) (gty ci) (gty_ok hci) (gnm_ok hci) hown hW.1 hP.1 hP.2 hS k (by rw [wws_at hk, cE_obj hK hci]) (gcl_at hci) j hj (hts _ (mem_gTBL h rfl)) (fun _ h => h) hfin (gty_ok hci j hj) hn.1 hn.2 (by simp [hj]) hd kf
  · exact va_putN hx hb hts (u_in_g hci) (gty ci) (gty_ok hci) (gnm_ok hci) hown hW.1 hP.1 hP.2 hS k (by rw [wws_at hk, cE_obj hK hci]) (gcl_at hci) j hj (va_Nw.use rfl (hW.2.1 _ (List.mem_filter.mpr ⟨h, rfl⟩))) (fun _ h => h) hfin (gty_ok hci j hj) hn.1 hn.2 (by simp [hj]) hd kf
/-! rows of ints -/
theorem V_iald (hC : Cx p R s m args meth c t w) {len k : Nat} {x : Int32} (j : Nat) (hj : x.toNatClampNeg = j) (hd : Dk t pc .iaload 1 nx) (hin : vp_in x len) (kk : V p l e R s m args below meth c t w Q cs sl nx loc (vI (sg k j) :: st) sg) : V p l e R s m args below meth c t w Q cs sl pc loc (vI x :: vR (some (10, len, k)) :: st) sg := by
  subst hj
  intro H locs ls hP hS hL hO
  obtain ⟨hd, rfl⟩ := hd
  obtain ⟨hx, hb, hml, hown, hts, -, -, -, hW⟩ := hC
  obtain ⟨hk, hK⟩ := okr_in (ok0 (ok1 hO)) (by omega)
  exact va_iald hx hb hW.1 hP.1 k 0 (by rw [wws_at hk, cE_row hK (by omega) (by omega)]) rfl hin hd (kk H locs ls hP hS hL (okc trivial (ok1 (ok1 hO))))
theorem V_cald (hC : Cx p R s m args meth c t w) {len k : Nat} {x : Int32} (j : Nat) (hj : x.toNatClampNeg = j) (hd : Dk t pc .caload 1 nx) (hin : vp_in x len) (kk : V p l e R s m args below meth c t w Q cs sl nx loc (vI (sg k j) :: st) sg) : V p l e R s m args below meth c t w Q cs sl pc loc (vI x :: vR (some (11, len, k)) :: st) sg := by
  subst hj
  intro H locs ls hP hS hL hO
  obtain ⟨hd, rfl⟩ := hd
  obtain ⟨hx, hb, hml, hown, hts, -, -, -, hW⟩ := hC
  obtain ⟨hk, hK⟩ := okr_in (ok0 (ok1 hO)) (by omega)
  exact va_cald hx hb hW.1 hP.1 k 1 (by rw [wws_at hk, cE_row hK (by omega) (by omega)]) rfl hin hd (kk H locs ls hP hS hL (okc trivial (ok1 (ok1 hO))))
theorem cE_rowput {w : Wd} {sg : Sg} {k kd len j : Nat} {x : Int32} (hK : wK w k = (kd, len)) (h1 : 10 ≤ kd) (h2 : kd < 13) : cE w (ups sg k j x) k = .inl (wC w kd, (len, .inl (upd (sg k) j x))) := by
  rw [cE_row hK h1 h2, ups_at]
theorem V_iast (hC : Cx p R s m args meth c t w) {len k : Nat} {x y : Int32} (j : Nat) (hj : x.toNatClampNeg = j) (hd : Dk t pc .iastore 1 nx) (hin : vp_in x len) (kk : V p l e R s m args below meth c t w Q cs sl nx loc st (ups sg k j y)) : V p l e R s m args below meth c t w Q cs sl pc loc (vI y :: vI x :: vR (some (10, len, k)) :: st) sg := by
  subst hj
  intro H locs ls hP hS hL hO
  obtain ⟨hd, rfl⟩ := hd
  obtain ⟨hx, hb, hml, hown, hts, -, -, -, hW⟩ := hC
  obtain ⟨hk, hK⟩ := okr_in (ok0 (ok1 (ok1 hO))) (by omega)
  have hset := wws_set (sg := sg) (sg' := ups sg k x.toNatClampNeg y) hk (cE_rowput hK (by omega) (by omega)) (fun k' h => ups_ne sg _ y h)
  refine va_iast hx hb hW.1 hP.1 hP.2 hS k 0 (by rw [wws_at hk, cE_row hK (by omega) (by omega)]) rfl hin hd (fun H1 locs1 h1 h2 h3 => ?_)
  rw [hset] at h1 h2
  exact kk H1 locs1 ls ⟨h1, h2⟩ h3 hL (ok1 (ok1 (ok1 hO)))
theorem V_cast (hC : Cx p R s m args meth c t w) {len k : Nat} {x y : Int32} (j : Nat) (hj : x.toNatClampNeg = j) (hd : Dk t pc .castore 1 nx) (hin : vp_in x len) (hy : vp_nar .char y = y) (kk : V p l e R s m args below meth c t w Q cs sl nx loc st (ups sg k j y)) : V p l e R s m args below meth c t w Q cs sl pc loc (vI y :: vI x :: vR (some (11, len, k)) :: st) sg := by
  subst hj
  intro H locs ls hP hS hL hO
  obtain ⟨hd, rfl⟩ := hd
  obtain ⟨hx, hb, hml, hown, hts, -, -, -, hW⟩ := hC
  obtain ⟨hk, hK⟩ := okr_in (ok0 (ok1 (ok1 hO))) (by omega)
  have hset := wws_set (sg := sg) (sg' := ups sg k x.toNatClampNeg y) hk (cE_rowput hK (by omega) (by omega)) (fun k' h => ups_ne sg _ y h)
  refine va_cast hx hb hW.1 hP.1 hP.2 hS k 1 (by rw [wws_at hk, cE_row hK (by omega) (by omega)]) rfl hin hd (fun H1 locs1 h1 h2 h3 => ?_)
  rw [hy, hset] at h1 h2
  exact kk H1 locs1 ls ⟨h1, h2⟩ h3 hL (ok1 (ok1 (ok1 hO)))
theorem V_aald (hC : Cx p R s m args meth c t w) (hWr : Wr w) {kd len k : Nat} {x : Int32} {q : Nat × Nat × Nat} (hd : Dk t pc .aaload 1 nx) (hkd : 14 ≤ kd ∧ kd < 17) (hin : vp_in x len) (hq : ae kd k x.toNatClampNeg = some q) (kk : V p l e R s m args below meth c t w Q cs sl nx loc (vR (some q) :: st) sg) : V p l e R s m args below meth c t w Q cs sl pc loc (vI x :: vR (some (kd, len, k)) :: st) sg := by
  intro H locs ls hP hS hL hO
  obtain ⟨hd, rfl⟩ := hd
  obtain ⟨hx, hb, hml, hown, hts, -, -, -, hW⟩ := hC
  obtain ⟨hk, hK⟩ := okr_in (ok0 (ok1 hO)) (by omega)
  have hlt : x.toNatClampNeg < len := Nat.not_le.mp fun q => hin (Or.inr q)
  have ho : okv w (vR (some q)) := (hWr k kd len hk hK).2.1 hkd.1 hkd.2 _ _ hlt hq
  have h := kk H locs ls hP hS hL (okc ho (ok1 (ok1 hO)))
  have he : (wws w sg)[k]? = some (wA w k, .inl (wC w kd, (len, .inr (.inr (.inr (.inr (fun j => (ae kd k j).map (fun q => wA w q.2.2)))))))) := by rw [wws_at hk, cE_rowQ hK (by omega) (by omega)]
  have hv : va_rf ((fun j => (ae kd k j).map (fun q => wA w q.2.2)) x.toNatClampNeg) = den w (vR (some q)) := by
    show va_rf ((ae kd k x.toNatClampNeg).map (fun q => wA w q.2.2)) = _
    rw [hq]; rfl
  obtain ⟨h1, h2⟩ := hkd
  rcases (show kd = 14 ∨ kd = 15 ∨ kd = 16 by omega) with rfl | rfl | rfl
  · exact va_aldq hx hb hW.1 hP.1 k 4 he rfl hin hd (by rw [hv]; exact h)
  · exact va_aldq hx hb hW.1 hP.1 k 5 he rfl hin hd (by rw [hv]; exact h)
  · exact va_aldq hx hb hW.1 hP.1 k 6 he rfl hin hd (by rw [hv]; exact h)
theorem V_alen (hC : Cx p R s m args meth c t w) {kd len k : Nat} (v : Int32) (hd : Dk t pc .arraylength 1 nx) (hkd : 10 ≤ kd ∧ kd < 17) (hv : Int32.ofNat len = v) (kk : V p l e R s m args below meth c t w Q cs sl nx loc (vI v :: st) sg) : V p l e R s m args below meth c t w Q cs sl pc loc (vR (some (kd, len, k)) :: st) sg := by
  intro H locs ls hP hS hL hO
  obtain ⟨hd, rfl⟩ := hd
  obtain ⟨hx, hb, hml, hown, hts, -, -, -, hW⟩ := hC
  obtain ⟨hk, hK⟩ := okr_in (ok0 hO) (by omega)
  have h := kk H locs ls hP hS hL (okc trivial (ok1 hO))
  obtain ⟨h1, h2⟩ := hkd
  rcases (show kd = 10 ∨ kd = 11 ∨ kd = 12 ∨ kd = 13 ∨ kd = 14 ∨ kd = 15 ∨ kd = 16 by omega) with rfl | rfl | rfl | rfl | rfl | rfl | rfl
  · exact va_alen hx hb hW.1 hP.1 k 0 (x := (len, _)) (by rw [wws_at hk, cE_row hK (by omega) (by omega)]) rfl hv hd h
  · exact va_alen hx hb hW.1 hP.1 k 1 (x := (len, _)) (by rw [wws_at hk, cE_row hK (by omega) (by omega)]) rfl hv hd h
  · exact va_alen hx hb hW.1 hP.1 k 2 (x := (len, _)) (by rw [wws_at hk, cE_row hK (by omega) (by omega)]) rfl hv hd h
  · exact va_alen hx hb hW.1 hP.1 k 3 (x := (len, _)) (by rw [wws_at hk, cE_rowL hK]) rfl hv hd h
  · exact va_alen hx hb hW.1 hP.1 k 4 (x := (len, _)) (by rw [wws_at hk, cE_rowQ hK (by omega) (by omega)]) rfl hv hd h
  · exact va_alen hx hb hW.1 hP.1 k 5 (x := (len, _)) (by rw [wws_at hk, cE_rowQ hK (by omega) (by omega)]) rfl hv hd h
  · exact va_alen hx hb hW.1 hP.1 k 6 (x := (len, _)) (by rw [wws_at hk, cE_rowQ hK (by omega) (by omega)]) rfl hv hd h
/-! the static rows -/
theorem okr_st {w : Wd} {len k : Nat} (h : okr w (20, len, k)) : ∃ i, i < 3 ∧ k = 1000000 + i ∧ len = slen i := by
  unfold okr at h
  rw [if_pos rfl] at h
  exact h
theorem V_gets (hC : Cx p R s m args meth c t w) {idx : Nat} (i : Nat) (hlk : Cond.fieldLink (mY t).cls idx (scls i) (snam i) "[I" ∈ lw_tbl) (hd : Dk t pc (.getstatic idx) 3 nx) (hi : i < 3) (kk : V p l e R s m args below meth c t w Q cs sl nx loc (vR (some (20, slen i, 1000000 + i)) :: st) sg) : V p l e R s m args below meth c t w Q cs sl pc loc st sg := by
  intro H locs ls hP hS hL hO
  obtain ⟨hd, rfl⟩ := hd
  obtain ⟨hx, hb, hml, hown, hts, -, -, -, hW⟩ := hC
  exact va_gets hx hb (hW.2.2.2 i hi).1 hS hown (hts _ (mem_gTBL hlk rfl)) (fun _ h => h) hd (kk H locs ls hP hS hL (okc (by unfold okv okr; simp only; exact ⟨i, hi, rfl, rfl⟩) hO))
theorem V_sald (hC : Cx p R s m args meth c t w) {len k : Nat} {x : Int32} (j : Nat) (hj : x.toNatClampNeg = j) (hd : Dk t pc .iaload 1 nx) (hin : vp_in x len) (kk : V p l e R s m args below meth c t w Q cs sl nx loc (vI (srow (k - 1000000) j) :: st) sg) : V p l e R s m args below meth c t w Q cs sl pc loc (vI x :: vR (some (20, len, k)) :: st) sg := by
  subst hj
  intro H locs ls hP hS hL hO
  obtain ⟨hd, rfl⟩ := hd
  obtain ⟨hx, hb, hml, hown, hts, -, -, -, hW⟩ := hC
  obtain ⟨i, hi, rfl, rfl⟩ := okr_st (ok0 (ok1 hO))
  have h := kk H locs ls hP hS hL (okc trivial (ok1 (ok1 hO)))
  rw [Nat.add_sub_cancel_left] at h
  exact va_ti hx hb (hW.2.2.2 i hi).2 hS hin rfl hd h
theorem V_slen (hC : Cx p R s m args meth c t w) {len k : Nat} (v : Int32) (hd : Dk t pc .arraylength 1 nx) (hv : Int32.ofNat len = v) (kk : V p l e R s m args below meth c t w Q cs sl nx loc (vI v :: st) sg) : V p l e R s m args below meth c t w Q cs sl pc loc (vR (some (20, len, k)) :: st) sg := by
  intro H locs ls hP hS hL hO
  obtain ⟨hd, rfl⟩ := hd
  obtain ⟨hx, hb, hml, hown, hts, -, -, -, hW⟩ := hC
  obtain ⟨i, hi, rfl, rfl⟩ := okr_st (ok0 hO)
  exact va_tlen hx hb (hW.2.2.2 i hi).2 hS hv hd (kk H locs ls hP hS hL (okc trivial (ok1 hO)))
/-! switches -/
theorem V_lookup (hC : Cx p R s m args meth c t w) {dflt : Int} {ps : Array (Int × Int)} {len : Nat} {x : Int32} (off : Int) (tgt : Nat) (hd : Dk t pc (.lookupswitch dflt ps) len nx) (hp : (ps.toList.zip (ps.toList.drop 1)).all (fun (a, next) => a.1 < next.1) = true) (ho : Op.lookupswitch.offset ps.toList dflt x.toInt = off) (ht : (pc : Int) + off = (tgt : Int)) (k : V p l e R s m args below meth c t w Q cs sl tgt loc st sg) : V p l e R s m args below meth c t w Q cs sl pc loc (vI x :: st) sg := by
  intro H locs ls hP hS hL hO
  exact lv_lookup hC.1 hC.2.1 hd.1 hp ho ht (k H locs ls hP hS hL (ok1 hO))
theorem V_tabOut (hC : Cx p R s m args meth c t w) {dflt lo hi : Int} {offs : Array Int} {len : Nat} {x : Int32} (tgt : Nat) (hd : Dk t pc (.tableswitch dflt lo hi offs) len nx) (h : x.toInt < lo ∨ hi < x.toInt) (ht : (pc : Int) + dflt = (tgt : Int)) (k : V p l e R s m args below meth c t w Q cs sl tgt loc st sg) : V p l e R s m args below meth c t w Q cs sl pc loc (vI x :: st) sg := by
  intro H locs ls hP hS hL hO
  exact lv_tableOut hC.1 hC.2.1 hd.1 h ht (k H locs ls hP hS hL (ok1 hO))
theorem V_tabIn (hC : Cx p R s m args meth c t w) {dflt lo hi : Int} {offs : Array Int} {len : Nat} {x : Int32} (off : Int) (tgt : Nat) (hd : Dk t pc (.tableswitch dflt lo hi offs) len nx) (h1 : ¬ x.toInt < lo) (h2 : ¬ hi < x.toInt) (ho : offs[(x.toInt - lo).toNat]? = some off) (ht : (pc : Int) + off = (tgt : Int)) (k : V p l e R s m args below meth c t w Q cs sl tgt loc st sg) : V p l e R s m args below meth c t w Q cs sl pc loc (vI x :: st) sg := by
  intro H locs ls hP hS hL hO
  exact lv_tableIn hC.1 hC.2.1 hd.1 h1 h2 ho ht (k H locs ls hP hS hL (ok1 hO))
end FLAT2
/-! contracts: a call of t with av in sg comes back with (r, sg') of which post tells -/
def Qm (w w' : Wd) (post : Option VV → Sg → Prop) : Array Value → State → Outcome → State → Prop := fun _ st o u =>
  (∃ (r : Option VV) (sg' : Sg), o = .returned (r.map (den w')) ∧ (∀ v, r = some v → okv w' v) ∧ post r sg' ∧ Wp w' sg' u.heap) ∧ va_F (wF w) st u
def Pm (w : Wd) (av : List VV) (sg : Sg) : Array Value → State → Prop := va_Pc (av.map (den w)) (fun U => Ws w U ∧ Wp w sg U.heap ∧ ∀ v ∈ av, okv w v)
def M (l : Launch) (t : Mt) (w : Wd) (av : List VV) (sg : Sg) (post : Option VV → Sg → Prop) : Prop :=
  Met l (mY t) (mWs t) (mRm t) (Pm w av sg) (Qm w w post) (mC t) (mS t) (wF w)
/-- an int comes back -/
def rI (f : Int32 → Sg → Prop) : Option VV → Sg → Prop := fun r g => ∃ x, r = some (vI x) ∧ f x g
def rL (f : Int64 → Sg → Prop) : Option VV → Sg → Prop := fun r g => ∃ x, r = some (vL x) ∧ f x g
def rR (f : Option (Nat × Nat × Nat) → Sg → Prop) : Option VV → Sg → Prop := fun r g => ∃ x, r = some (vR x) ∧ f x g
def rV (f : Sg → Prop) : Option VV → Sg → Prop := fun r g => r = none ∧ f g
theorem Pm_blind {w : Wd} {av : List VV} {sg : Sg} : FrameBlind (Pm w av sg) := fun _ _ _ _ h => ⟨h.1, h.2.1.calling, h.2.2⟩
/-- the facts of a method that is called: its place among the words, and its arguments -/
def MkV (t : Mt) (n : Nat) : Prop := mCd t ∈ lw_tbl ∧ Cond.instanceMethod (mY t) ∈ lw_tbl ∧ Cond.selects (mY t).cls (mY t) (mY t) ∈ lw_tbl ∧ Cond.initialized (mY t).cls ∈ lw_tbl ∧ ((mY t).cls ≠ "java/lang/invoke/MethodHandle" ∧ (mY t).cls ≠ "java/lang/invoke/VarHandle" ∧ (parseMethodDescriptor (mY t).desc).map (fun d => d.parameters.length) = some n)
def MkS (t : Mt) (n : Nat) : Prop := mCd t ∈ lw_tbl ∧ Cond.static (mY t) ∈ lw_tbl ∧ Cond.initialized (mY t).cls ∈ lw_tbl ∧ ((mY t).cls ≠ "java/lang/invoke/MethodHandle" ∧ (mY t).cls ≠ "java/lang/invoke/VarHandle" ∧ (parseMethodDescriptor (mY t).desc).map (fun d => d.parameters.length) = some n)
def LkM (own : String) (idx : Nat) (t : Mt) : Prop := Cond.methodLink own idx (mY t) ∈ lw_tbl ∨ Cond.methodLinkNest own idx (mY t) "LanternBoats" ∈ lw_tbl
theorem mWs_good {t t' : Mt} (h : mCd t' ∈ lw_tbl) : GoodIn gTBL (mWs t') := by
  intro q hq
  rcases List.mem_cons.mp hq with rfl | hq
  · exact ⟨mem_gTBL h rfl, Or.inl rfl⟩
  · exact ⟨hq, good_of_word (List.mem_filter.mp hq).2⟩
def fI (x : Int32) (G : Sg) : Option VV → Sg → Prop := fun r g => r = some (vI x) ∧ g = G
def fL (x : Int64) (G : Sg) : Option VV → Sg → Prop := fun r g => r = some (vL x) ∧ g = G
def fR (x : Option (Nat × Nat × Nat)) (G : Sg) : Option VV → Sg → Prop := fun r g => r = some (vR x) ∧ g = G
def fV0 (G : Sg) : Option VV → Sg → Prop := fun r g => r = none ∧ g = G
section FLAT3
variable {p : Program} {l : Launch} {e : Env} {R : Room} {s : State} {m : MethodId} {args : Array Value} {below : List Frame} {meth : Method} {c : Code} {Q : State → Prop} {t : Mt} {w : Wd} {cs sl pc nx : Nat} {loc : List (Option VV)} {st : List VV} {sg : Sg}
theorem lg_len (w : Wd) : ∀ av : List VV, (lg_sl (av.map (den w))).length = (av.map catV).sum
  | [] => rfl
  | v :: av => by
    rw [List.map_cons, List.map_cons, List.sum_cons, ← lg_len w av]
    rcases v with x | x | _ | q <;> simp [lg_sl, den, catV, Value.category] <;> omega
theorem Lk.start {av : List VV} {nL : Nat} (hlen : (av.map catV).sum ≤ nL) (ho : ∀ v ∈ av, okv w v) : Lk w nL ((lg_sl (av.map (den w)) ++ List.replicate (nL - (lg_sl (av.map (den w))).length) Slot.unset).toArray) (largs av nL) := by
  have hl := lv_entry (av.map (den w)) (n := nL) (by rw [lg_len]; exact hlen)
  refine ⟨hl.1, hl.2.1, fun i v hi => ?_⟩
  obtain ⟨h1, h2⟩ := largs_at (w := w) (i0 := 0) hi
  rw [Nat.zero_add] at h1
  exact ⟨hl.2.2 _ h1, ho v h2⟩
theorem M_of {av : List VV} {post : Option VV → Sg → Prop} (loc : List (Option VV)) (hl : largs av (mL t) = loc) (hlen : (av.map catV).sum ≤ mL t) (hy : plainName (mY t).cls = true)
    (body : ∀ p e s m args below meth c, Cx p (mRm t) s m args meth c t w → (∀ v ∈ av, okv w v) → V p l e (mRm t) s m args below meth c t w (MQ below (Qm w w post) args s (mC t) (mS t) (wF w)) 0 0 0 loc [] sg) : M l t w av sg post := by
  subst hl
  refine Met.ofW (cc := mB t) (maxL := mL t) (ret := mT t) hy rfl ?_
  intro p e s m args below meth c s₁ B hml hv
  obtain ⟨rfl, hW, hP, ho⟩ := hv
  have hts := atoms_spec (ws := mWs t) B.pre
  have hC : Cx p (mRm t) s m (av.map (den w)).toArray meth c t w := ⟨B.exec, B.bytes, hml, findClass_of_methodNamed B.named, fun q hq => hts q (List.mem_cons_of_mem _ hq), B.notSynchronized, B.returns, rfl, hW⟩
  rw [lg_entry_eq]
  exact body p e s m _ below meth c hC ho s.heap [] _ hP va_S.rf (Lk.start hlen ho) (fun _ h => absurd h List.not_mem_nil)
/-! returns -/
theorem V_ireti {post : Option VV → Sg → Prop} (hC : Cx p R s m args meth c t w) (hT : mT t = some .int) {x : Int32} (hd : Dk t pc .ireturn 1 nx) (hp : post (some (vI x)) sg) : V p l e R s m args below meth c t w (MQ below (Qm w w post) args s (mC t) (mS t) (wF w)) (mC t) (mS t) pc loc [vI x] sg := by
  intro H locs ls hP hS hL hO
  obtain ⟨hd, rfl⟩ := hd
  obtain ⟨hx, hb, hml, hown, hts, hlk, hr, -, hW⟩ := hC
  exact W.iret hx hb (hr.trans hT) (fun u hu hw => ⟨⟨some (vI x), sg, rfl, fun v h => by cases h; trivial, hp, by rw [hu]; exact hP⟩, hS.F hu⟩) hS.2.2 hd hlk
theorem V_iretz {post : Option VV → Sg → Prop} (hC : Cx p R s m args meth c t w) (hT : mT t = some .boolean) {x : Int32} (hd : Dk t pc .ireturn 1 nx) (hz : x = 0 ∨ x = 1) (hp : post (some (vI x)) sg) : V p l e R s m args below meth c t w (MQ below (Qm w w post) args s (mC t) (mS t) (wF w)) (mC t) (mS t) pc loc [vI x] sg := by
  intro H locs ls hP hS hL hO
  obtain ⟨hd, rfl⟩ := hd
  obtain ⟨hx, hb, hml, hown, hts, hlk, hr, -, hW⟩ := hC
  exact W.zret hx hb (hr.trans hT) (by rcases hz with rfl | rfl <;> rfl) (fun u hu hw => ⟨⟨some (vI x), sg, rfl, fun v h => by cases h; trivial, hp, by rw [hu]; exact hP⟩, hS.F hu⟩) hS.2.2 hd hlk
theorem V_lret {post : Option VV → Sg → Prop} (hC : Cx p R s m args meth c t w) (hT : mT t = some .long) {x : Int64} (hd : Dk t pc .lreturn 1 nx) (hp : post (some (vL x)) sg) : V p l e R s m args below meth c t w (MQ below (Qm w w post) args s (mC t) (mS t) (wF w)) (mC t) (mS t) pc loc [vL x] sg := by
  intro H locs ls hP hS hL hO
  obtain ⟨hd, rfl⟩ := hd
  obtain ⟨hx, hb, hml, hown, hts, hlk, hr, -, hW⟩ := hC
  exact W.lret hx hb (hr.trans hT) (fun u hu hw => ⟨⟨some (vL x), sg, rfl, fun v h => by cases h; trivial, hp, by rw [hu]; exact hP⟩, hS.F hu⟩) hS.2.2 hd hlk
theorem V_aret {post : Option VV → Sg → Prop} (hC : Cx p R s m args meth c t w) {rt : FieldType} (hT : mT t = some rt) (hrt : (∃ n, rt = .object n) ∨ ∃ t, rt = .array t) {r : Option (Nat × Nat × Nat)} (hd : Dk t pc .areturn 1 nx) (hp : post (some (vR r)) sg) : V p l e R s m args below meth c t w (MQ below (Qm w w post) args s (mC t) (mS t) (wF w)) (mC t) (mS t) pc loc [vR r] sg := by
  intro H locs ls hP hS hL hO
  obtain ⟨hd, rfl⟩ := hd
  obtain ⟨hx, hb, hml, hown, hts, hlk, hr, -, hW⟩ := hC
  exact W.aret hx hb (hr.trans hT) hrt (by cases r with | none => exact Or.inl rfl | some q => exact Or.inr ⟨_, rfl⟩) (fun u hu hw => ⟨⟨some (vR r), sg, rfl, fun v h => by cases h; exact ok0 hO, hp, by rw [hu]; exact hP⟩, hS.F hu⟩) hS.2.2 hd hlk
theorem V_vret {post : Option VV → Sg → Prop} (hC : Cx p R s m args meth c t w) (hT : mT t = none) (hd : Dk t pc .return_ 1 nx) (hp : post none sg) : V p l e R s m args below meth c t w (MQ below (Qm w w post) args s (mC t) (mS t) (wF w)) (mC t) (mS t) pc loc [] sg := by
  intro H locs ls hP hS hL hO
  obtain ⟨hd, rfl⟩ := hd
  obtain ⟨hx, hb, hml, hown, hts, hlk, hr, -, hW⟩ := hC
  exact W.vret hx hb (hr.trans hT) (fun u hu hw => ⟨⟨none, sg, rfl, (fun v h => by cases h), hp, by rw [hu]; exact hP⟩, hS.F hu⟩) hS.2.2 hd hlk
/-! calls -/
/-- behind a call: the callee's world w', its answer, its memory -/
theorem W_ofRun {w' : Wd} {mc ms : Nat} {H : Heap} {locs : List Loc} {ls : Array Slot} {st0 rest : List Value} {a : Array Value} {post : Option VV → Sg → Prop} (hr : va_Run p l e R s m args below meth c H locs cs sl mc ms (F0 m pc ls st0) rest (Qm w w' post a) (wF w)) (hS : va_S (wF w) s.heap H locs)
    (kk : ∀ (r : Option VV) (sg' : Sg) (H1 : Heap) (locs1 : List Loc), (∀ v, r = some v → okv w' v) → post r sg' → Wp w' sg' H1 → va_S (wF w) s.heap H1 locs1 → W p l e R s m args below meth c H1 locs1 (cs + mc) (sl + ms) Q (F0 m (pc + 3) ls ((r.map (den w')).toList ++ rest))) : W p l e R s m args below meth c H locs cs sl Q (F0 m pc ls st0) := by
  intro T hT X
  obtain ⟨v, st₀, u, T', L, h0, X', hL, e1, e2, ⟨⟨r, sg', hv, ho, hp, hW⟩, hz, hk⟩, hst⟩ := hr T hT X
  cases hv
  rw [h0] at hz hk
  rw [← e1] at hW hz hk
  obtain ⟨t2, a1, b1⟩ := kk r sg' T'.heap (locs ++ L) ho hp hW
    ⟨Nat.le_trans hS.1 hz, fun q h1 h2 => by rw [hk q (Nat.lt_of_lt_of_le h1 hS.1) h2]; exact hS.2.1 q h1 h2, fun q hq => by
      rcases List.mem_append.mp hq with h | h
      · exact hS.2.2 q h
      · exact hL q h⟩ T' rfl X'
  exact ⟨t2, hst t2 a1, b1⟩
theorem Wp_recv {H : Heap} {ci len k : Nat} (hW : Ws w s) (hP : Wp w sg H) (hci : ci < 6) (ho : okr w (ci, len, k)) : ∃ cell : Cell, H[wA w k]? = some cell ∧ cell.vm.isStatics = false ∧ s.vm.findClass (gC ci) = some cell.cls := by
  obtain ⟨hk, hK⟩ := okr_in ho (by omega)
  exact va_recv hW.1 hP.1 (gcl_at hci) (by rw [wws_at hk, cE_obj hK hci])
theorem rest_room {rest : List VV} {pc0 : Nat} {ls : Array Slot} {st0 : List Value} (h : (rest.map catV).sum ≤ 8) : 2 * (F0 m pc0 ls st0).monitorRoom + ((rest.map (den w)).map fun v => v.category).sum ≤ 8 := lv_room (by rw [catV_sum]; exact h)
theorem V_invV {t' : Mt} {n : Nat} {idx : Nat} {ci len k : Nat} {av rest : List VV} {post : Option VV → Sg → Prop} (hC : Cx p R s m args meth c t w) (hM : M l t' w (vR (some (ci, len, k)) :: av) sg post) (hmk : MkV t' n) (hlk : LkM (mY t).cls idx t') (hd : Dk t pc (.invokevirtual idx) 3 nx) (hci : ci < 6) (hcls : gC ci = (mY t').cls) (hn : av.length = n) (hst : st = av.reverse ++ vR (some (ci, len, k)) :: rest) (hroom : (rest.map catV).sum ≤ 8) (hR : mF t' + 1 ≤ mF t ∧ 8 + (mL t' + 11) + mO t' ≤ mO t) (hcell : cs + mC t' ≤ mC t ∧ sl + mS t' ≤ mS t)
    (kk : ∀ r sg', post r sg' → V p l e R s m args below meth c t w Q (cs + mC t') (sl + mS t') nx loc (r.toList ++ rest) sg') : V p l e R s m args below meth c t w Q cs sl pc loc st sg := by
  intro H locs ls hP hS hL hO
  obtain ⟨hd, rfl⟩ := hd
  obtain ⟨hx, hb, hml, hown, hts, hlks, hr, rfl, hW⟩ := hC
  obtain ⟨hc1, hc2, hc3, hc4, hc5⟩ := hmk
  subst hst
  have hor : ∀ v ∈ vR (some (ci, len, k)) :: av, okv w v := by
    intro v hv
    rcases List.mem_cons.mp hv with rfl | hv
    · exact hO _ (by simp)
    · exact hO _ (by simp [hv])
  have hrest : ∀ v ∈ rest, okv w v := fun v hv => hO v (by simp [hv])
  have hstk : ((av.reverse ++ vR (some (ci, len, k)) :: rest).map (den w)) = (av.map (den w)).reverse ++ .ref (wA w k) :: rest.map (den w) := by simp [den]
  have hpre : PreV s H (mY t').cls (wA w k) (Pm w (vR (some (ci, len, k)) :: av) sg) (av.map (den w)) := by
    refine ⟨Pm_blind, ?_, fun U hU hWU => ⟨rfl, hW.go hWU hU hS, by rw [hU]; exact hP, hor⟩⟩
    rw [← hcls]
    exact Wp_recv hW hP hci (hor _ List.mem_cons_self)
  have hsel : (Cond.selects (mY t').cls (mY t') (mY t')).before args s = true := hts _ (mem_gTBL hc3 rfl)
  have hins : (Cond.instanceMethod (mY t')).before args s = true := hts _ (mem_gTBL hc2 rfl)
  have hlen : (av.map (den w)).length = n := by rw [List.length_map]; exact hn
  have hrun : va_Run p l e (mRm t) s m args below meth c H locs cs sl (mC t') (mS t') (F0 m pc ls ((av.reverse ++ vR (some (ci, len, k)) :: rest).map (den w))) (rest.map (den w)) (Qm w w post (Value.ref (wA w k) :: av.map (den w)).toArray) (wF w) := by
    rcases hlk with h | h
    · exact va_runV ⟨hx, hb, hml, hown, hts⟩ hM ⟨callB_of n hts (mWs_good (t := t) hc1) rfl rfl rfl (hts _ (mem_gTBL hc4 rfl)) (hts _ (mem_gTBL h rfl)) hc5 hR, hins, hsel⟩ hpre rfl hlen hL.1 hstk (rest_room hroom) hd hcell
    · exact va_runVN ⟨hx, hb, hml, hown, hts⟩ hM ⟨va_cnB n hts (mWs_good (t := t) hc1) rfl rfl rfl (hW.2.1 _ (List.mem_filter.mpr ⟨h, rfl⟩)) (hts _ (mem_gTBL hc4 rfl)) hc5 hR, hins, hsel⟩ hpre rfl hlen hL.1 hstk (rest_room hroom) hd hcell
  refine W_ofRun hrun hS (fun r sg' H1 locs1 ho hp hP1 hS1 => ?_)
  have h := kk r sg' hp H1 locs1 ls hP1 hS1 hL (by
    intro v hv
    rcases List.mem_append.mp hv with hv | hv
    · exact ho v (by simpa using hv)
    · exact hrest v hv)
  rw [List.map_append] at h
  cases r <;> exact h
theorem V_invS {t' : Mt} {n : Nat} {idx : Nat} {av rest : List VV} {post : Option VV → Sg → Prop} (hC : Cx p R s m args meth c t w) (hM : M l t' w av sg post) (hmk : MkS t' n) (hlk : LkM (mY t).cls idx t') (hd : Dk t pc (.invokestatic idx) 3 nx) (hn : av.length = n) (hst : st = av.reverse ++ rest) (hroom : (rest.map catV).sum ≤ 8) (hR : mF t' + 1 ≤ mF t ∧ 8 + (mL t' + 11) + mO t' ≤ mO t) (hcell : cs + mC t' ≤ mC t ∧ sl + mS t' ≤ mS t)
    (kk : ∀ r sg', post r sg' → V p l e R s m args below meth c t w Q (cs + mC t') (sl + mS t') nx loc (r.toList ++ rest) sg') : V p l e R s m args below meth c t w Q cs sl pc loc st sg := by
  intro H locs ls hP hS hL hO
  obtain ⟨hd, rfl⟩ := hd
  obtain ⟨hx, hb, hml, hown, hts, hlks, hr, rfl, hW⟩ := hC
  obtain ⟨hc1, hc2, hc4, hc5⟩ := hmk
  subst hst
  have hor : ∀ v ∈ av, okv w v := fun v hv => hO v (by simp [hv])
  have hrest : ∀ v ∈ rest, okv w v := fun v hv => hO v (by simp [hv])
  have hstk : ((av.reverse ++ rest).map (den w)) = (av.map (den w)).reverse ++ rest.map (den w) := by simp
  have hpre : PreS s H (Pm w av sg) (av.map (den w)) := ⟨Pm_blind, fun U hU hWU => ⟨rfl, hW.go hWU hU hS, by rw [hU]; exact hP, hor⟩⟩
  have hstt : (Cond.static (mY t')).before args s = true := hts _ (mem_gTBL hc2 rfl)
  have hlen : (av.map (den w)).length = n := by rw [List.length_map]; exact hn
  have hrun : va_Run p l e (mRm t) s m args below meth c H locs cs sl (mC t') (mS t') (F0 m pc ls ((av.reverse ++ rest).map (den w))) (rest.map (den w)) (Qm w w post (av.map (den w)).toArray) (wF w) := by
    rcases hlk with h | h
    · exact va_runS ⟨hx, hb, hml, hown, hts⟩ hM ⟨callB_of n hts (mWs_good (t := t) hc1) rfl rfl rfl (hts _ (mem_gTBL hc4 rfl)) (hts _ (mem_gTBL h rfl)) hc5 hR, hstt⟩ hpre rfl hlen hL.1 hstk (rest_room hroom) hd hcell
    · exact va_runSN ⟨hx, hb, hml, hown, hts⟩ hM ⟨va_cnB n hts (mWs_good (t := t) hc1) rfl rfl rfl (hW.2.1 _ (List.mem_filter.mpr ⟨h, rfl⟩)) (hts _ (mem_gTBL hc4 rfl)) hc5 hR, hstt, trivial⟩ hpre rfl hlen hL.1 hstk (rest_room hroom) hd hcell
  refine W_ofRun hrun hS (fun r sg' H1 locs1 ho hp hP1 hS1 => ?_)
  have h := kk r sg' hp H1 locs1 ls hP1 hS1 hL (by
    intro v hv
    rcases List.mem_append.mp hv with hv | hv
    · exact ho v (by simpa using hv)
    · exact hrest v hv)
  rw [List.map_append] at h
  cases r <;> exact h
/-! contracts that tell the answer and the memory: an int, a long, a reference, nothing -/
theorem V_cV_fI {t' : Mt} {n : Nat} {idx : Nat} {ci len k : Nat} {av rest : List VV} {x : Int32} {G : Sg} (hC : Cx p R s m args meth c t w) (hM : M l t' w (vR (some (ci, len, k)) :: av) sg (fI x G)) (hmk : MkV t' n) (hlk : LkM (mY t).cls idx t') (hd : Dk t pc (.invokevirtual idx) 3 nx) (hci : ci < 6) (hcls : gC ci = (mY t').cls) (hn : av.length = n) (hst : st = av.reverse ++ vR (some (ci, len, k)) :: rest) (hroom : (rest.map catV).sum ≤ 8) (hR : mF t' + 1 ≤ mF t ∧ 8 + (mL t' + 11) + mO t' ≤ mO t) (hz : mC t' = 0 ∧ mS t' = 0) (hcell : cs ≤ mC t ∧ sl ≤ mS t) (kk : V p l e R s m args below meth c t w Q cs sl nx loc (vI x :: rest) G) : V p l e R s m args below meth c t w Q cs sl pc loc st sg := V_invV hC hM hmk hlk hd hci hcls hn hst hroom hR (by rw [hz.1, hz.2]; exact hcell) (fun r sg' h => by rw [hz.1, hz.2]; obtain ⟨rfl, rfl⟩ := h; exact kk)
theorem V_cV_fL {t' : Mt} {n : Nat} {idx : Nat} {ci len k : Nat} {av rest : List VV} {x : Int64} {G : Sg} (hC : Cx p R s m args meth c t w) (hM : M l t' w (vR (some (ci, len, k)) :: av) sg (fL x G)) (hmk : MkV t' n) (hlk : LkM (mY t).cls idx t') (hd : Dk t pc (.invokevirtual idx) 3 nx) (hci : ci < 6) (hcls : gC ci = (mY t').cls) (hn : av.length = n) (hst : st = av.reverse ++ vR (some (ci, len, k)) :: rest) (hroom : (rest.map catV).sum ≤ 8) (hR : mF t' + 1 ≤ mF t ∧ 8 + (mL t' + 11) + mO t' ≤ mO t) (hz : mC t' = 0 ∧ mS t' = 0) (hcell : cs ≤ mC t ∧ sl ≤ mS t) (kk : V p l e R s m args below meth c t w Q cs sl nx loc (vL x :: rest) G) : V p l e R s m args below meth c t w Q cs sl pc loc st sg := V_invV hC hM hmk hlk hd hci hcls hn hst hroom hR (by rw [hz.1, hz.2]; exact hcell) (fun r sg' h => by rw [hz.1, hz.2]; obtain ⟨rfl, rfl⟩ := h; exact kk)
theorem V_cV_fR {t' : Mt} {n : Nat} {idx : Nat} {ci len k : Nat} {av rest : List VV} {x : Option (Nat × Nat × Nat)} {G : Sg} (hC : Cx p R s m args meth c t w) (hM : M l t' w (vR (some (ci, len, k)) :: av) sg (fR x G)) (hmk : MkV t' n) (hlk : LkM (mY t).cls idx t') (hd : Dk t pc (.invokevirtual idx) 3 nx) (hci : ci < 6) (hcls : gC ci = (mY t').cls) (hn : av.length = n) (hst : st = av.reverse ++ vR (some (ci, len, k)) :: rest) (hroom : (rest.map catV).sum ≤ 8) (hR : mF t' + 1 ≤ mF t ∧ 8 + (mL t' + 11) + mO t' ≤ mO t) (hz : mC t' = 0 ∧ mS t' = 0) (hcell : cs ≤ mC t ∧ sl ≤ mS t) (kk : V p l e R s m args below meth c t w Q cs sl nx loc (vR x :: rest) G) : V p l e R s m args below meth c t w Q cs sl pc loc st sg := V_invV hC hM hmk hlk hd hci hcls hn hst hroom hR (by rw [hz.1, hz.2]; exact hcell) (fun r sg' h => by rw [hz.1, hz.2]; obtain ⟨rfl, rfl⟩ := h; exact kk)
theorem V_cV_fV {t' : Mt} {n : Nat} {idx : Nat} {ci len k : Nat} {av rest : List VV} {G : Sg} (hC : Cx p R s m args meth c t w) (hM : M l t' w (vR (some (ci, len, k)) :: av) sg (fV0 G)) (hmk : MkV t' n) (hlk : LkM (mY t).cls idx t') (hd : Dk t pc (.invokevirtual idx) 3 nx) (hci : ci < 6) (hcls : gC ci = (mY t').cls) (hn : av.length = n) (hst : st = av.reverse ++ vR (some (ci, len, k)) :: rest) (hroom : (rest.map catV).sum ≤ 8) (hR : mF t' + 1 ≤ mF t ∧ 8 + (mL t' + 11) + mO t' ≤ mO t) (hz : mC t' = 0 ∧ mS t' = 0) (hcell : cs ≤ mC t ∧ sl ≤ mS t) (kk : V p l e R s m args below meth c t w Q cs sl nx loc rest G) : V p l e R s m args below meth c t w Q cs sl pc loc st sg := V_invV hC hM hmk hlk hd hci hcls hn hst hroom hR (by rw [hz.1, hz.2]; exact hcell) (fun r sg' h => by rw [hz.1, hz.2]; obtain ⟨rfl, rfl⟩ := h; exact kk)
theorem V_cV_rI {t' : Mt} {n : Nat} {idx : Nat} {ci len k : Nat} {av rest : List VV} {f : Int32 → Sg → Prop} (hC : Cx p R s m args meth c t w) (hM : M l t' w (vR (some (ci, len, k)) :: av) sg (rI f)) (hmk : MkV t' n) (hlk : LkM (mY t).cls idx t') (hd : Dk t pc (.invokevirtual idx) 3 nx) (hci : ci < 6) (hcls : gC ci = (mY t').cls) (hn : av.length = n) (hst : st = av.reverse ++ vR (some (ci, len, k)) :: rest) (hroom : (rest.map catV).sum ≤ 8) (hR : mF t' + 1 ≤ mF t ∧ 8 + (mL t' + 11) + mO t' ≤ mO t) (hz : mC t' = 0 ∧ mS t' = 0) (hcell : cs ≤ mC t ∧ sl ≤ mS t) (kk : ∀ x sg', f x sg' → V p l e R s m args below meth c t w Q cs sl nx loc (vI x :: rest) sg') : V p l e R s m args below meth c t w Q cs sl pc loc st sg := V_invV hC hM hmk hlk hd hci hcls hn hst hroom hR (by rw [hz.1, hz.2]; exact hcell) (fun r sg' h => by rw [hz.1, hz.2]; obtain ⟨x, rfl, h2⟩ := h; exact kk x sg' h2)
theorem V_cV_rR {t' : Mt} {n : Nat} {idx : Nat} {ci len k : Nat} {av rest : List VV} {f : Option (Nat × Nat × Nat) → Sg → Prop} (hC : Cx p R s m args meth c t w) (hM : M l t' w (vR (some (ci, len, k)) :: av) sg (rR f)) (hmk : MkV t' n) (hlk : LkM (mY t).cls idx t') (hd : Dk t pc (.invokevirtual idx) 3 nx) (hci : ci < 6) (hcls : gC ci = (mY t').cls) (hn : av.length = n) (hst : st = av.reverse ++ vR (some (ci, len, k)) :: rest) (hroom : (rest.map catV).sum ≤ 8) (hR : mF t' + 1 ≤ mF t ∧ 8 + (mL t' + 11) + mO t' ≤ mO t) (hz : mC t' = 0 ∧ mS t' = 0) (hcell : cs ≤ mC t ∧ sl ≤ mS t) (kk : ∀ x sg', f x sg' → V p l e R s m args below meth c t w Q cs sl nx loc (vR x :: rest) sg') : V p l e R s m args below meth c t w Q cs sl pc loc st sg := V_invV hC hM hmk hlk hd hci hcls hn hst hroom hR (by rw [hz.1, hz.2]; exact hcell) (fun r sg' h => by rw [hz.1, hz.2]; obtain ⟨x, rfl, h2⟩ := h; exact kk x sg' h2)
theorem V_cV_rV {t' : Mt} {n : Nat} {idx : Nat} {ci len k : Nat} {av rest : List VV} {f : Sg → Prop} (hC : Cx p R s m args meth c t w) (hM : M l t' w (vR (some (ci, len, k)) :: av) sg (rV f)) (hmk : MkV t' n) (hlk : LkM (mY t).cls idx t') (hd : Dk t pc (.invokevirtual idx) 3 nx) (hci : ci < 6) (hcls : gC ci = (mY t').cls) (hn : av.length = n) (hst : st = av.reverse ++ vR (some (ci, len, k)) :: rest) (hroom : (rest.map catV).sum ≤ 8) (hR : mF t' + 1 ≤ mF t ∧ 8 + (mL t' + 11) + mO t' ≤ mO t) (hz : mC t' = 0 ∧ mS t' = 0) (hcell : cs ≤ mC t ∧ sl ≤ mS t) (kk : ∀ sg', f sg' → V p l e R s m args below meth c t w Q cs sl nx loc rest sg') : V p l e R s m args below meth c t w Q cs sl pc loc st sg := V_invV hC hM hmk hlk hd hci hcls hn hst hroom hR (by rw [hz.1, hz.2]; exact hcell) (fun r sg' h => by rw [hz.1, hz.2]; obtain ⟨rfl, h2⟩ := h; exact kk sg' h2)
theorem V_cS_fI {t' : Mt} {n : Nat} {idx : Nat} {av rest : List VV} {x : Int32} {G : Sg} (hC : Cx p R s m args meth c t w) (hM : M l t' w av sg (fI x G)) (hmk : MkS t' n) (hlk : LkM (mY t).cls idx t') (hd : Dk t pc (.invokestatic idx) 3 nx) (hn : av.length = n) (hst : st = av.reverse ++ rest) (hroom : (rest.map catV).sum ≤ 8) (hR : mF t' + 1 ≤ mF t ∧ 8 + (mL t' + 11) + mO t' ≤ mO t) (hz : mC t' = 0 ∧ mS t' = 0) (hcell : cs ≤ mC t ∧ sl ≤ mS t) (kk : V p l e R s m args below meth c t w Q cs sl nx loc (vI x :: rest) G) : V p l e R s m args below meth c t w Q cs sl pc loc st sg := V_invS hC hM hmk hlk hd hn hst hroom hR (by rw [hz.1, hz.2]; exact hcell) (fun r sg' h => by rw [hz.1, hz.2]; obtain ⟨rfl, rfl⟩ := h; exact kk)
theorem V_cS_fL {t' : Mt} {n : Nat} {idx : Nat} {av rest : List VV} {x : Int64} {G : Sg} (hC : Cx p R s m args meth c t w) (hM : M l t' w av sg (fL x G)) (hmk : MkS t' n) (hlk : LkM (mY t).cls idx t') (hd : Dk t pc (.invokestatic idx) 3 nx) (hn : av.length = n) (hst : st = av.reverse ++ rest) (hroom : (rest.map catV).sum ≤ 8) (hR : mF t' + 1 ≤ mF t ∧ 8 + (mL t' + 11) + mO t' ≤ mO t) (hz : mC t' = 0 ∧ mS t' = 0) (hcell : cs ≤ mC t ∧ sl ≤ mS t) (kk : V p l e R s m args below meth c t w Q cs sl nx loc (vL x :: rest) G) : V p l e R s m args below meth c t w Q cs sl pc loc st sg := V_invS hC hM hmk hlk hd hn hst hroom hR (by rw [hz.1, hz.2]; exact hcell) (fun r sg' h => by rw [hz.1, hz.2]; obtain ⟨rfl, rfl⟩ := h; exact kk)
theorem V_cS_fR {t' : Mt} {n : Nat} {idx : Nat} {av rest : List VV} {x : Option (Nat × Nat × Nat)} {G : Sg} (hC : Cx p R s m args meth c t w) (hM : M l t' w av sg (fR x G)) (hmk : MkS t' n) (hlk : LkM (mY t).cls idx t') (hd : Dk t pc (.invokestatic idx) 3 nx) (hn : av.length = n) (hst : st = av.reverse ++ rest) (hroom : (rest.map catV).sum ≤ 8) (hR : mF t' + 1 ≤ mF t ∧ 8 + (mL t' + 11) + mO t' ≤ mO t) (hz : mC t' = 0 ∧ mS t' = 0) (hcell : cs ≤ mC t ∧ sl ≤ mS t) (kk : V p l e R s m args below meth c t w Q cs sl nx loc (vR x :: rest) G) : V p l e R s m args below meth c t w Q cs sl pc loc st sg := V_invS hC hM hmk hlk hd hn hst hroom hR (by rw [hz.1, hz.2]; exact hcell) (fun r sg' h => by rw [hz.1, hz.2]; obtain ⟨rfl, rfl⟩ := h; exact kk)
theorem V_cS_fV {t' : Mt} {n : Nat} {idx : Nat} {av rest : List VV} {G : Sg} (hC : Cx p R s m args meth c t w) (hM : M l t' w av sg (fV0 G)) (hmk : MkS t' n) (hlk : LkM (mY t).cls idx t') (hd : Dk t pc (.invokestatic idx) 3 nx) (hn : av.length = n) (hst : st = av.reverse ++ rest) (hroom : (rest.map catV).sum ≤ 8) (hR : mF t' + 1 ≤ mF t ∧ 8 + (mL t' + 11) + mO t' ≤ mO t) (hz : mC t' = 0 ∧ mS t' = 0) (hcell : cs ≤ mC t ∧ sl ≤ mS t) (kk : V p l e R s m args below meth c t w Q cs sl nx loc rest G) : V p l e R s m args below meth c t w Q cs sl pc loc st sg := V_invS hC hM hmk hlk hd hn hst hroom hR (by rw [hz.1, hz.2]; exact hcell) (fun r sg' h => by rw [hz.1, hz.2]; obtain ⟨rfl, rfl⟩ := h; exact kk)
theorem V_cS_rI {t' : Mt} {n : Nat} {idx : Nat} {av rest : List VV} {f : Int32 → Sg → Prop} (hC : Cx p R s m args meth c t w) (hM : M l t' w av sg (rI f)) (hmk : MkS t' n) (hlk : LkM (mY t).cls idx t') (hd : Dk t pc (.invokestatic idx) 3 nx) (hn : av.length = n) (hst : st = av.reverse ++ rest) (hroom : (rest.map catV).sum ≤ 8) (hR : mF t' + 1 ≤ mF t ∧ 8 + (mL t' + 11) + mO t' ≤ mO t) (hz : mC t' = 0 ∧ mS t' = 0) (hcell : cs ≤ mC t ∧ sl ≤ mS t) (kk : ∀ x sg', f x sg' → V p l e R s m args below meth c t w Q cs sl nx loc (vI x :: rest) sg') : V p l e R s m args below meth c t w Q cs sl pc loc st sg := V_invS hC hM hmk hlk hd hn hst hroom hR (by rw [hz.1, hz.2]; exact hcell) (fun r sg' h => by rw [hz.1, hz.2]; obtain ⟨x, rfl, h2⟩ := h; exact kk x sg' h2)
theorem V_cS_rR {t' : Mt} {n : Nat} {idx : Nat} {av rest : List VV} {f : Option (Nat × Nat × Nat) → Sg → Prop} (hC : Cx p R s m args meth c t w) (hM : M l t' w av sg (rR f)) (hmk : MkS t' n) (hlk : LkM (mY t).cls idx t') (hd : Dk t pc (.invokestatic idx) 3 nx) (hn : av.length = n) (hst : st = av.reverse ++ rest) (hroom : (rest.map catV).sum ≤ 8) (hR : mF t' + 1 ≤ mF t ∧ 8 + (mL t' + 11) + mO t' ≤ mO t) (hz : mC t' = 0 ∧ mS t' = 0) (hcell : cs ≤ mC t ∧ sl ≤ mS t) (kk : ∀ x sg', f x sg' → V p l e R s m args below meth c t w Q cs sl nx loc (vR x :: rest) sg') : V p l e R s m args below meth c t w Q cs sl pc loc st sg := V_invS hC hM hmk hlk hd hn hst hroom hR (by rw [hz.1, hz.2]; exact hcell) (fun r sg' h => by rw [hz.1, hz.2]; obtain ⟨x, rfl, h2⟩ := h; exact kk x sg' h2)
theorem V_cS_rV {t' : Mt} {n : Nat} {idx : Nat} {av rest : List VV} {f : Sg → Prop} (hC : Cx p R s m args meth c t w) (hM : M l t' w av sg (rV f)) (hmk : MkS t' n) (hlk : LkM (mY t).cls idx t') (hd : Dk t pc (.invokestatic idx) 3 nx) (hn : av.length = n) (hst : st = av.reverse ++ rest) (hroom : (rest.map catV).sum ≤ 8) (hR : mF t' + 1 ≤ mF t ∧ 8 + (mL t' + 11) + mO t' ≤ mO t) (hz : mC t' = 0 ∧ mS t' = 0) (hcell : cs ≤ mC t ∧ sl ≤ mS t) (kk : ∀ sg', f sg' → V p l e R s m args below meth c t w Q cs sl nx loc rest sg') : V p l e R s m args below meth c t w Q cs sl pc loc st sg := V_invS hC hM hmk hlk hd hn hst hroom hR (by rw [hz.1, hz.2]; exact hcell) (fun r sg' h => by rw [hz.1, hz.2]; obtain ⟨rfl, h2⟩ := h; exact kk sg' h2)
/-! loops, joins -/
theorem V_eq {loc' : List (Option VV)} {sg' : Sg} (hl : loc' = loc) (hs : sg' = sg) (k : V p l e R s m args below meth c t w Q cs sl pc loc st sg) : V p l e R s m args below meth c t w Q cs sl pc loc' st sg' := by subst hl hs; exact k
theorem V_eqS {st' : List VV} {sg' : Sg} (hl : st' = st) (hs : sg' = sg) (k : V p l e R s m args below meth c t w Q cs sl pc loc st sg) : V p l e R s m args below meth c t w Q cs sl pc loc st' sg' := by subst hl hs; exact k
theorem V_loop (N : Nat) (locF : Nat → List (Option VV)) (sgF : Nat → Sg) (h0 : loc = locF 0) (hs : sg = sgF 0) (hx : V p l e R s m args below meth c t w Q cs sl pc (locF N) st (sgF N)) (hstep : ∀ i, i < N → V p l e R s m args below meth c t w Q cs sl pc (locF (i + 1)) st (sgF (i + 1)) → V p l e R s m args below meth c t w Q cs sl pc (locF i) st (sgF i)) : V p l e R s m args below meth c t w Q cs sl pc loc st sg := by
  subst h0 hs
  have key : ∀ k, k ≤ N → V p l e R s m args below meth c t w Q cs sl pc (locF (N - k)) st (sgF (N - k)) := by
    intro k
    induction k with
    | zero => intro _; exact hx
    | succ k ih =>
      intro hk
      have h := ih (by omega)
      have e : N - k = (N - (k + 1)) + 1 := by omega
      rw [e] at h
      exact hstep _ (by omega) h
  have h := key N (Nat.le_refl N)
  rw [Nat.sub_self] at h
  exact h
theorem V_loopR {α : Type} (N : Nat) (I : Nat → α → Prop) (locF : Nat → α → List (Option VV)) (sgF : Nat → α → Sg) (a0 : α) (h0 : loc = locF 0 a0) (hs : sg = sgF 0 a0) (hI : I 0 a0) (hx : ∀ a, I N a → V p l e R s m args below meth c t w Q cs sl pc (locF N a) st (sgF N a)) (hstep : ∀ i a, i < N → I i a → (∀ a', I (i + 1) a' → V p l e R s m args below meth c t w Q cs sl pc (locF (i + 1) a') st (sgF (i + 1) a')) → V p l e R s m args below meth c t w Q cs sl pc (locF i a) st (sgF i a)) : V p l e R s m args below meth c t w Q cs sl pc loc st sg := by
  subst h0 hs
  have key : ∀ k, k ≤ N → ∀ a, I (N - k) a → V p l e R s m args below meth c t w Q cs sl pc (locF (N - k) a) st (sgF (N - k) a) := by
    intro k
    induction k with
    | zero => intro _ a ha; exact hx a ha
    | succ k ih =>
      intro hk a ha
      have h := ih (by omega)
      have e : N - k = (N - (k + 1)) + 1 := by omega
      rw [e] at h
      exact hstep _ a (by omega) ha h
  have h := key N (Nat.le_refl N)
  rw [Nat.sub_self] at h
  exact h a0 hI
/-- two ways that meet at J with one int more on the stack -/
theorem V_join (J : Nat) (x : Int32) (k : V p l e R s m args below meth c t w Q cs sl J loc (vI x :: st) sg) (body : (∀ y, y = x → V p l e R s m args below meth c t w Q cs sl J loc (vI y :: st) sg) → V p l e R s m args below meth c t w Q cs sl pc loc st sg) : V p l e R s m args below meth c t w Q cs sl pc loc st sg := body (fun y h => by subst h; exact k)
theorem V_canon (G : Sg) (h : sg = G) (k : V p l e R s m args below meth c t w Q cs sl pc loc st G) : V p l e R s m args below meth c t w Q cs sl pc loc st sg := by subst h; exact k
/-- a local is forgotten -/
theorem V_drop (i : Nat) (loc' : List (Option VV)) (h : loc.set i none = loc') (k : V p l e R s m args below meth c t w Q cs sl pc loc' st sg) : V p l e R s m args below meth c t w Q cs sl pc loc st sg := by
  subst h
  intro H locs ls hP hS hL hO
  refine k H locs ls hP hS ⟨hL.1, hL.2.1, fun j v hj => hL.2.2 j v ?_⟩ hO
  by_cases hij : i = j
  · subst hij
    rw [List.getElem?_set] at hj
    split at hj
    · split at hj <;> simp at hj
    · exact hj
  · rw [List.getElem?_set_ne hij] at hj
    exact hj
theorem V_joinS (J : Nat) (G : Sg) (k : V p l e R s m args below meth c t w Q cs sl J loc st G) (body : (∀ sg', sg' = G → V p l e R s m args below meth c t w Q cs sl J loc st sg') → V p l e R s m args below meth c t w Q cs sl pc loc st sg) : V p l e R s m args below meth c t w Q cs sl pc loc st sg := body (fun y h => by subst h; exact k)
end FLAT3

