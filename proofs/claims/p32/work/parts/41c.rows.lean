/-! rows of constructors: fields, rows of references, calls, the end -/
theorem cE_raw {w : Wd} {sg : Sg} {k ci len : Nat} (hK : wK w k = (50 + ci, len)) (hci : ci < 6) : cE w sg k = .inr (ci, (List.range (nf ci)).map (fW w sg ci k)) := by
  unfold cE
  rw [hK, if_neg (by show ¬ 50 + ci < 6; omega), if_neg (by show ¬ 50 + ci < 13; omega), if_neg (by show ¬ 50 + ci = 13; omega), if_neg (by show ¬ 50 + ci < 20; omega), if_pos (by show 50 + ci < 57; omega)]
  show Sum.inr (50 + ci - 50, _) = _
  rw [Nat.add_sub_cancel_left]
theorem cE_rawQ {w : Wd} {sg : Sg} {k kd len : Nat} (hK : wK w k = (50 + kd, len)) (h1 : 14 ≤ kd) : cE w sg k = .inl (wC w kd, (len, .inr (.inr (.inr (.inr (fun j => (wR w k j).map (fun q => wA w q.2.2))))))) := by
  unfold cE
  rw [hK, if_neg (by show ¬ 50 + kd < 6; omega), if_neg (by show ¬ 50 + kd < 13; omega), if_neg (by show ¬ 50 + kd = 13; omega), if_neg (by show ¬ 50 + kd < 20; omega), if_neg (by show ¬ 50 + kd < 57; omega)]
  show Sum.inl (wC w (50 + kd - 50), _) = _
  rw [Nat.add_sub_cancel_left]
theorem wsetR_at (w : Wd) (k j : Nat) (r : Option (Nat × Nat × Nat)) : wR (wsetR w k j r) k j = r := if_pos ⟨rfl, rfl⟩
theorem wsetR_ne (w : Wd) {k j k' j' : Nat} (r : Option (Nat × Nat × Nat)) (h : k' ≠ k ∨ j' ≠ j) : wR (wsetR w k j r) k' j' = wR w k' j' := if_neg (fun z => by rcases h with h | h; exact h z.1; exact h z.2)
theorem cE_setR {w : Wd} {sg : Sg} {k j k' : Nat} {r : Option (Nat × Nat × Nat)} (h : k' ≠ k) : cE (wsetR w k j r) sg k' = cE w sg k' := by
  have e : wR (wsetR w k j r) k' = wR w k' := by funext j'; exact wsetR_ne w r (Or.inl h)
  have e2 : ∀ kd, fW (wsetR w k j r) sg kd k' = fW w sg kd k' := fun kd => by
    funext j'
    unfold fW
    rw [e]
    rfl
  unfold cE
  simp only [e, e2]
  rfl
theorem wws_setR {w : Wd} {sg : Sg} {k j : Nat} {r : Option (Nat × Nat × Nat)} (hk : k < wN w) {E : va_E} (hE : cE (wsetR w k j r) sg k = E) : (wws w sg).set k (wA w k, E) = wws (wsetR w k j r) sg := by
  apply List.ext_getElem?
  intro i
  by_cases hi : i < wN w
  · by_cases hik : i = k
    · subst hik
      rw [List.getElem?_set_self (by simp [wws, hk]), wws_at (w := wsetR w i j r) hi, hE]
      rfl
    · rw [List.getElem?_set_ne (Ne.symm hik), wws_at hi, wws_at (w := wsetR w k j r) hi, cE_setR hik]
      rfl
  · rw [List.getElem?_eq_none (by simp [wws]; omega), List.getElem?_eq_none (by rw [wws_len]; show wN w ≤ i; omega)]
theorem Wr.setR {w : Wd} {k j : Nat} {q : Nat × Nat × Nat} (h : Wr w) (hq : okr w q) : Wr (wsetR w k j (some q)) := by
  intro k' kd len hk hK
  obtain ⟨h1, h2, h3⟩ := h k' kd len hk hK
  refine ⟨h1, h2, fun h5 j' q' e => ?_⟩
  by_cases z : k' = k ∧ j' = j
  · obtain ⟨rfl, rfl⟩ := z
    rw [wsetR_at] at e
    cases e
    exact hq
  · rw [wsetR_ne w _ (by omega)] at e
    exact h3 h5 j' q' e
/-- a cell more without references -/
theorem Wr.push {w : Wd} (h : Wr w) (hN : wN w < 1000000) (a : Nat) {kd len : Nat} (hr : (kd < 6 → ∀ j, rf kd (wN w) j = none) ∧ ¬ (14 ≤ kd ∧ kd < 17)) : Wr (wpush w a (kd, len)) := by
  have he := Ext.push hN a (kd, len)
  intro k' kd' len' hk hK
  rcases Nat.lt_or_ge k' (wN w) with hk2 | hk2
  · have hK2 : wK w k' = (kd', len') := (he.2.2.2.2.2 k' hk2).1.symm.trans hK
    obtain ⟨h1, h2, h3⟩ := h k' kd' len' hk2 hK2
    refine ⟨fun z j q e => he.ro (h1 z j q e), fun z1 z2 j q hj e => he.ro (h2 z1 z2 j q hj e), fun z j q e => he.ro (h3 z j q ?_)⟩
    rw [← (he.2.2.2.2.2 k' hk2).2.1]
    exact e
  · obtain rfl : k' = wN w := by have : k' < wN w + 1 := hk; omega
    have e0 : (kd, len) = (kd', len') := (if_pos rfl).symm.trans hK
    cases e0
    refine ⟨fun z j q e => ?_, fun z1 z2 => absurd ⟨z1, z2⟩ hr.2, fun z j q e => ?_⟩
    · rw [hr.1 z j] at e
      cases e
    · have e2 : wR (wpush w a (kd, len)) (wN w) = fun _ => none := if_pos rfl
      rw [e2] at e
      cases e
section FLATMM
variable {p : Program} {l : Launch} {e : Env} {R : Room} {s : State} {m : MethodId} {args : Array Value} {below : List Frame} {meth : Method} {c : Code} {Q : State → Prop} {t : Mt} {w : Wd} {cs sl pc nx : Nat} {loc : List (Option VV)} {st : List VV} {sg : Sg}
theorem okv_setR {k j : Nat} {r : Option (Nat × Nat × Nat)} {v : VV} (h : okv w v) : okv (wsetR w k j r) v := h
/-- a final reference is put -/
theorem V_putRF (hC : Cx p R s m args meth c t w) (hin2 : meth.name = "<init>") {idx : Nat} (ci j : Nat) {len k : Nat} {q q0 : Nat × Nat × Nat} (hlk : Cond.fieldLink (mY t).cls idx (gT ci j).1 (gT ci j).2.1 (gT ci j).2.2.1 ∈ lw_tbl) (hd : Dk t pc (.putfield idx) 3 nx) (hci : ci < 6) (hj : j < nf ci) (hr : rf ci k j = some q0) (hfin : (gT ci j).2.2.2 = true ∧ (gT ci j).1 = (mY t).cls) (hn : ∀ a, narrow (gty ci j) (.ref a) = .ref a ∧ fits (gty ci j) (.ref a) = true)
    (kk : V p l e R s m args below meth c t (wsetR w k j (some q)) Q cs sl nx loc st sg) : V p l e R s m args below meth c t w Q cs sl pc loc (vR (some q) :: vR (some (50 + ci, len, k)) :: st) sg := by
  intro H locs ls hP hS hL hO
  obtain ⟨hd, rfl⟩ := hd
  obtain ⟨hx, hb, hml, hown, hts, -, -, -, hW⟩ := hC
  obtain ⟨hk, hK⟩ := okr_in (ok0 (ok1 hO)) (by omega)
  have he : cE (wsetR w k j (some q)) sg k = .inr (ci, ((List.range (nf ci)).map (fW w sg ci k)).set j (.ref (wA w q.2.2))) := by
    rw [cE_raw (w := wsetR w k j (some q)) hK hci]
    congr 2
    refine (range_set (fW w sg ci k) (fW (wsetR w k j (some q)) sg ci k) (.ref (wA w q.2.2)) ?_ ?_).symm
    · unfold fW
      rw [hr, wsetR_at]
      rfl
    · intro i hi
      unfold fW
      rw [wsetR_ne w _ (Or.inr hi)]
      rfl
  have hset := wws_setR (sg := sg) hk he
  refine va_putF hx hb hts (u_in_g hci) (gty ci) (gty_ok hci) (gnm_ok hci) hown hW.1 hP.1 hP.2 hS k (by rw [wws_at hk, cE_raw hK hci]) (gcl_at hci) j hj (hts _ (mem_gTBL hlk rfl)) (fun _ h => h) hfin.1 hin2 hfin.2 (gty_ok hci j hj) (hn (wA w q.2.2)).1 (hn (wA w q.2.2)).2 (by simp [hj]) hd (fun H1 locs1 h1 h2 h3 => ?_)
  have h1' : va_P (wD w) gcl (wws (wsetR w k j (some q)) sg) H1 := by rw [← hset]; exact h1
  have h2' : va_D (wF w) (wws (wsetR w k j (some q)) sg) := by rw [← hset]; exact h2
  exact kk H1 locs1 ls ⟨h1', h2'⟩ h3 hL (ok1 (ok1 hO))
/-- a final int is put -/
theorem V_putIF (hC : Cx p R s m args meth c t w) (hin2 : meth.name = "<init>") {idx : Nat} (ci j : Nat) {len k : Nat} {x : Int32} (hlk : Cond.fieldLink (mY t).cls idx (gT ci j).1 (gT ci j).2.1 (gT ci j).2.2.1 ∈ lw_tbl) (hd : Dk t pc (.putfield idx) 3 nx) (hci : ci < 6) (hj : j < nf ci) (hr : rf ci k j = none) (hfin : (gT ci j).2.2.2 = true ∧ (gT ci j).1 = (mY t).cls) (hn : narrow (gty ci j) (.int x) = .int x ∧ fits (gty ci j) (.int x) = true) (kk : V p l e R s m args below meth c t w Q cs sl nx loc st (ups sg k j x)) : V p l e R s m args below meth c t w Q cs sl pc loc (vI x :: vR (some (ci, len, k)) :: st) sg := by
  intro H locs ls hP hS hL hO
  obtain ⟨hd, rfl⟩ := hd
  obtain ⟨hx, hb, hml, hown, hts, -, -, -, hW⟩ := hC
  obtain ⟨hk, hK⟩ := okr_in (ok0 (ok1 hO)) (by omega)
  have he := cE_put (x := x) (sg := sg) hK hci hr
  have hset := wws_set (sg := sg) (sg' := ups sg k j x) hk he (fun k' h => ups_ne sg j x h)
  refine va_putF hx hb hts (u_in_g hci) (gty ci) (gty_ok hci) (gnm_ok hci) hown hW.1 hP.1 hP.2 hS k (by rw [wws_at hk, cE_obj hK hci]) (gcl_at hci) j hj (hts _ (mem_gTBL hlk rfl)) (fun _ h => h) hfin.1 hin2 hfin.2 (gty_ok hci j hj) hn.1 hn.2 (by simp [hj]) hd (fun H1 locs1 h1 h2 h3 => ?_)
  have h1' : va_P (wD w) gcl (wws w (ups sg k j x)) H1 := by rw [← hset]; exact h1
  have h2' : va_D (wF w) (wws w (ups sg k j x)) := by rw [← hset]; exact h2
  exact kk H1 locs1 ls ⟨h1', h2'⟩ h3 hL (ok1 (ok1 hO))
/-- a reference of an object that is being made is read -/
theorem V_getRw (hC : Cx p R s m args meth c t w) {idx : Nat} (ci j : Nat) {len k : Nat} {q q0 : Nat × Nat × Nat} (hlk : Cond.fieldLink (mY t).cls idx (gT ci j).1 (gT ci j).2.1 (gT ci j).2.2.1 ∈ lw_tbl) (hd : Dk t pc (.getfield idx) 3 nx) (hci : ci < 6) (hj : j < nf ci) (hr : rf ci k j = some q0) (hq : wR w k j = some q) (ho : okr w q) (kk : V p l e R s m args below meth c t w Q cs sl nx loc (vR (some q) :: st) sg) : V p l e R s m args below meth c t w Q cs sl pc loc (vR (some (50 + ci, len, k)) :: st) sg := by
  intro H locs ls hP hS hL hO
  obtain ⟨hd, rfl⟩ := hd
  obtain ⟨hx, hb, hml, hown, hts, -, -, -, hW⟩ := hC
  obtain ⟨hk, hK⟩ := okr_in (ok0 hO) (by omega)
  have hv : ((List.range (nf ci)).map (fW w sg ci k))[j]? = some (.ref (wA w q.2.2)) := by
    rw [List.getElem?_map, List.getElem?_range hj]
    refine congrArg some ?_
    unfold fW
    rw [hr, hq]
    rfl
  exact va_get hx hb hts (u_in_g hci) hown hW.1 hP.1 k (by rw [wws_at hk, cE_raw hK hci]) (gcl_at hci) j hj (hts _ (mem_gTBL hlk rfl)) (fun _ h => h) hv hd (kk H locs ls hP hS hL (okc ho (ok1 hO)))
theorem V_alenw (hC : Cx p R s m args meth c t w) {kd len k : Nat} (v : Int32) (hd : Dk t pc .arraylength 1 nx) (hkd : 14 ≤ kd ∧ kd < 17) (hv : Int32.ofNat len = v) (kk : V p l e R s m args below meth c t w Q cs sl nx loc (vI v :: st) sg) : V p l e R s m args below meth c t w Q cs sl pc loc (vR (some (50 + kd, len, k)) :: st) sg := by
  intro H locs ls hP hS hL hO
  obtain ⟨hd, rfl⟩ := hd
  obtain ⟨hx, hb, hml, hown, hts, -, -, -, hW⟩ := hC
  obtain ⟨hk, hK⟩ := okr_in (ok0 hO) (by omega)
  exact va_alen hx hb hW.1 hP.1 k (kd - 10) (x := (len, _)) (by rw [wws_at hk, cE_rawQ hK hkd.1]) (wty_q w hkd) hv hd (kk H locs ls hP hS hL (okc trivial (ok1 hO)))
/-- an object is put into a row that is being made -/
theorem V_aastw (hC : Cx p R s m args meth c t w) {kd len k ci k2 n2 : Nat} {x : Int32} (j : Nat) (hj : x.toNatClampNeg = j) (hd : Dk t pc .aastore 1 nx) (hkd : 14 ≤ kd ∧ kd < 17) (hci : ci < 6) (hcl : gC ci = qcl kd) (hin : vp_in x len)
    (kk : V p l e R s m args below meth c t (wsetR w k j (some (ci, n2, k2))) Q cs sl nx loc st sg) : V p l e R s m args below meth c t w Q cs sl pc loc (vR (some (ci, n2, k2)) :: vI x :: vR (some (50 + kd, len, k)) :: st) sg := by
  subst hj
  intro H locs ls hP hS hL hO
  obtain ⟨hd, rfl⟩ := hd
  obtain ⟨hx, hb, hml, hown, hts, -, -, -, hW⟩ := hC
  obtain ⟨hk, hK⟩ := okr_in (ok0 (ok1 (ok1 hO))) (by omega)
  obtain ⟨hk2, hK2⟩ := okr_in (ok0 hO) (by omega)
  have he : cE (wsetR w k x.toNatClampNeg (some (ci, n2, k2))) sg k = .inl (wC w kd, (len, .inr (.inr (.inr (.inr (va_up (fun j => (wR w k j).map (fun q => wA w q.2.2)) x.toNatClampNeg (some (wA w k2)))))))) := by
    rw [cE_rawQ (w := wsetR w k x.toNatClampNeg (some (ci, n2, k2))) hK hkd.1]
    have e : (fun j => (wR (wsetR w k x.toNatClampNeg (some (ci, n2, k2))) k j).map (fun q => wA (wsetR w k x.toNatClampNeg (some (ci, n2, k2))) q.2.2)) = va_up (fun j => (wR w k j).map (fun q => wA w q.2.2)) x.toNatClampNeg (some (wA w k2)) := by
      funext j
      unfold va_up
      by_cases hj : j = x.toNatClampNeg
      · subst hj
        rw [if_pos rfl, wsetR_at]
        rfl
      · rw [if_neg hj, wsetR_ne w _ (Or.inr hj)]
        rfl
    rw [e]
    rfl
  have hset := wws_setR (sg := sg) hk he
  refine va_astq hx hb hW.1 hP.1 hP.2 hS k (kd - 10) k2 ci (by rw [wws_at hk, cE_rawQ hK hkd.1]) (r := (gC ci, gT ci, nf ci)) (by rw [wty_q w hkd, hcl]) (by rw [wws_at hk2, cE_obj hK2 hci]) (gcl_at hci) hin hd (fun H1 locs1 h1 h2 h3 => ?_)
  have h1' : va_P (wD w) gcl (wws (wsetR w k x.toNatClampNeg (some (ci, n2, k2))) sg) H1 := by rw [← hset]; exact h1
  have h2' : va_D (wF w) (wws (wsetR w k x.toNatClampNeg (some (ci, n2, k2))) sg) := by rw [← hset]; exact h2
  exact kk H1 locs1 ls ⟨h1', h2'⟩ h3 hL (ok1 (ok1 (ok1 hO)))
/-- a constructor is called -/
theorem V_invI {t' : Mt} {n : Nat} {idx : Nat} {kd len k : Nat} {av rest : List VV} {post : Wd → Sg → Prop} (loc' : List (Option VV)) (rest' : List VV) (hC : Cx p R s m args meth c t w) (hB : wB w ≤ s.heap.size) (hM : MN l t' w (vR (some (kd, len, k)) :: av) sg post) (hmk : MkI t' n) (hy : (mY t').name = "<init>") (hT : mT t' = none) (hlk : LkM (mY t).cls idx t') (hd : Dk t pc (.invokespecial idx) 3 nx) (hn : av.length = n) (hst : st = av.reverse ++ vR (some (kd, len, k)) :: rest) (hroom : (rest.map catV).sum ≤ 8) (hR : mF t' + 1 ≤ mF t ∧ 8 + (mL t' + 11) + mO t' ≤ mO t) (hcell : cs + mC t' ≤ mC t ∧ sl + mS t' ≤ mS t)
    (hpost : ∀ w' sg', post w' sg' → wB w' = wB w ∧ LO w w' loc loc' ∧ LR w w' rest rest')
    (kk : ∀ w' sg', post w' sg' → V p l e R s m args below meth c t w' Q (cs + mC t') (sl + mS t') nx loc' rest' sg') : V p l e R s m args below meth c t w Q cs sl pc loc st sg := by
  intro H locs ls hP hS hL hO
  obtain ⟨hd, rfl⟩ := hd
  obtain ⟨hx, hb, hml, hown, hts, hlks, hr, rfl, hW⟩ := hC
  obtain ⟨hc1, hc2, hc4, hc5⟩ := hmk
  subst hst
  have hor : ∀ v ∈ vR (some (kd, len, k)) :: av, okv w v := by
    intro v hv
    rcases List.mem_cons.mp hv with rfl | hv
    · exact hO _ (by simp)
    · exact hO _ (by simp [hv])
  have hrest : ∀ v ∈ rest, okv w v := fun v hv => hO v (by simp [hv])
  have hstk : ((av.reverse ++ vR (some (kd, len, k)) :: rest).map (den w)) = (av.map (den w)).reverse ++ .ref (wA w k) :: rest.map (den w) := by simp [den]
  have hpre : PreS s H (PmN w (vR (some (kd, len, k)) :: av) sg) (.ref (wA w k) :: av.map (den w)) := ⟨PmN_blind, fun U hU hWU => ⟨rfl, by rw [hU]; exact Nat.le_trans hB hS.1, hW.go hWU hU hS, by rw [hU]; exact hP, hor⟩⟩
  have hins : (Cond.instanceMethod (mY t')).before args s = true := hts _ (mem_gTBL hc2 rfl)
  have hlen : (av.map (den w)).length = n := by rw [List.length_map]; exact hn
  have hws : mWs t' = Cond.code (mY t') (mB t') (mL t') none :: gTBL := by unfold mWs mCd; rw [hT]
  have hrun : va_Run p l e (mRm t) s m args below meth c H locs cs sl (mC t') (mS t') (F0 m pc ls ((av.reverse ++ vR (some (kd, len, k)) :: rest).map (den w))) (rest.map (den w)) (QN w post (Value.ref (wA w k) :: av.map (den w)).toArray) (wF w) := by
    rcases hlk with h | h
    · exact va_runI ⟨hx, hb, hml, hown, hts⟩ hM ⟨callB_of n hts (mWs_good (t := t) hc1) hws rfl rfl (hts _ (mem_gTBL hc4 rfl)) (hts _ (mem_gTBL h rfl)) hc5 hR, hy, hins⟩ hpre rfl hlen hL.1 hstk (rest_room hroom) hd hcell
    · exact va_runIN ⟨hx, hb, hml, hown, hts⟩ hM ⟨va_cnB n hts (mWs_good (t := t) hc1) hws rfl rfl (hW.2.1 _ (List.mem_filter.mpr ⟨h, rfl⟩)) (hts _ (mem_gTBL hc4 rfl)) hc5 hR, hy, hins⟩ hpre rfl hlen hL.1 hstk (rest_room hroom) hd hcell
  intro T hT X
  obtain ⟨v, st₀, u, T', L, h0, X', hLo, e1, e2, ⟨⟨w', sg', hv, hp, hWp⟩, hz, hkp⟩, hst⟩ := hrun T hT X
  cases hv
  rw [h0] at hz hkp
  rw [← e1] at hWp hz hkp
  obtain ⟨p1, p2, p3⟩ := hpost w' sg' hp
  obtain ⟨r1, r2⟩ := p3.use hrest
  have ef : wF w' = wF w := by funext q; show (wB w' ≤ q) = (wB w ≤ q); rw [p1]
  have h9 := kk w' sg' hp T'.heap (locs ++ L) ls hWp (by
    rw [ef]
    exact ⟨Nat.le_trans hS.1 hz, fun q h1 h2 => by rw [hkp q (Nat.lt_of_lt_of_le h1 hS.1) h2]; exact hS.2.1 q h1 h2, fun q hq => by
      rcases List.mem_append.mp hq with h | h
      · exact hS.2.2 q h
      · exact hLo q h⟩) (p2.lk hL) r2
  rw [r1] at h9
  obtain ⟨t2, a1, b1⟩ := h9 T' rfl X'
  exact ⟨t2, hst t2 a1, b1⟩
theorem V_vretN {w0 : Wd} {post : Wd → Sg → Prop} (hC : Cx p R s m args meth c t w) (hw : wB w = wB w0) (hT : mT t = none) (hd : Dk t pc .return_ 1 nx) (hcell : cs ≤ mC t ∧ sl ≤ mS t) (hp : post w sg) : V p l e R s m args below meth c t w (MQ below (QN w0 post) args s (mC t) (mS t) (wF w0)) cs sl pc loc [] sg := by
  refine V_wd hcell ?_
  intro H locs ls hP hS hL hO
  obtain ⟨hd, rfl⟩ := hd
  obtain ⟨hx, hb, hml, hown, hts, hlk, hr, -, hW⟩ := hC
  have e : wF w0 = wF w := by funext q; show (wB w0 ≤ q) = (wB w ≤ q); rw [hw]
  have hS' : va_S (wF w0) s.heap H locs := by rw [e]; exact hS
  exact W.vret hx hb (hr.trans hT) (fun u hu hw => ⟨⟨w, sg, rfl, hp, by rw [hu]; exact hP⟩, hS'.F hu⟩) hS'.2.2 hd hlk
theorem MN_of {av : List VV} {post : Wd → Sg → Prop} (loc : List (Option VV)) (hl : largs av (mL t) = loc) (hlen : (av.map catV).sum ≤ mL t) (hy : plainName (mY t).cls = true) (hy1 : (mY t).name = "<init>")
    (body : ∀ p e s m args below meth c, Cx p (mRm t) s m args meth c t w → meth.name = "<init>" → wB w ≤ s.heap.size → (∀ v ∈ av, okv w v) → V p l e (mRm t) s m args below meth c t w (MQ below (QN w post) args s (mC t) (mS t) (wF w)) 0 0 0 loc [] sg) : MN l t w av sg post := by
  subst hl
  refine Met.ofW (cc := mB t) (maxL := mL t) (ret := mT t) hy rfl ?_
  intro p e s m args below meth c s₁ B hml hv
  obtain ⟨rfl, hB, hW, hP, ho⟩ := hv
  have hts := atoms_spec (ws := mWs t) B.pre
  have hC : Cx p (mRm t) s m (av.map (den w)).toArray meth c t w := ⟨B.exec, B.bytes, hml, findClass_of_methodNamed B.named, fun q hq => hts q (List.mem_cons_of_mem _ hq), B.notSynchronized, B.returns, rfl, hW⟩
  rw [lg_entry_eq]
  exact body p e s m _ below meth c hC ((name_of_methodNamed B.named B.method).1.trans hy1) hB ho s.heap [] _ hP va_S.rf (Lk.start hlen ho) (fun _ h => absurd h List.not_mem_nil)
/-- a loop in which the world goes on -/
theorem V_loopW (N : Nat) (I : Nat → Wd → Sg → Prop) (cF sF : Nat → Nat) (locF : Nat → List (Option VV)) (h0 : loc = locF 0) (hc : cs = cF 0 ∧ sl = sF 0) (hI : I 0 w sg)
    (hx : ∀ w' sg', I N w' sg' → V p l e R s m args below meth c t w' Q (cF N) (sF N) pc (locF N) st sg')
    (hstep : ∀ i w' sg', i < N → I i w' sg' → (∀ w2 sg2, I (i + 1) w2 sg2 → V p l e R s m args below meth c t w2 Q (cF (i + 1)) (sF (i + 1)) pc (locF (i + 1)) st sg2) → V p l e R s m args below meth c t w' Q (cF i) (sF i) pc (locF i) st sg') : V p l e R s m args below meth c t w Q cs sl pc loc st sg := by
  subst h0
  obtain ⟨rfl, rfl⟩ := hc
  have key : ∀ k, k ≤ N → ∀ w' sg', I (N - k) w' sg' → V p l e R s m args below meth c t w' Q (cF (N - k)) (sF (N - k)) pc (locF (N - k)) st sg' := by
    intro k
    induction k with
    | zero => intro _ w' sg' h; exact hx w' sg' h
    | succ k ih =>
      intro hk w' sg' h
      have h2 := ih (by omega)
      have e : N - k = (N - (k + 1)) + 1 := by omega
      rw [e] at h2
      exact hstep _ w' sg' (by omega) h h2
  have h := key N (Nat.le_refl N)
  rw [Nat.sub_self] at h
  exact h w sg hI
end FLATMM

