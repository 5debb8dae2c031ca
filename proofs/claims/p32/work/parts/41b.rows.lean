/-! rows of constructors -/
def QN (w : Wd) (post : Wd → Sg → Prop) : Array Value → State → Outcome → State → Prop := fun _ st o u => (∃ (w' : Wd) (sg' : Sg), o = .returned none ∧ post w' sg' ∧ Wp w' sg' u.heap) ∧ va_F (wF w) st u
def PmN (w : Wd) (av : List VV) (sg : Sg) : Array Value → State → Prop := va_Pc (av.map (den w)) (fun U => wB w ≤ U.heap.size ∧ Ws w U ∧ Wp w sg U.heap ∧ ∀ v ∈ av, okv w v)
/-- a constructor's contract: the world behind it is another one -/
def MN (l : Launch) (t : Mt) (w : Wd) (av : List VV) (sg : Sg) (post : Wd → Sg → Prop) : Prop :=
  Met l (mY t) (mWs t) (mRm t) (PmN w av sg) (QN w post) (mC t) (mS t) (wF w)
theorem PmN_blind {w : Wd} {av : List VV} {sg : Sg} : FrameBlind (PmN w av sg) := fun _ _ _ _ h => ⟨h.1, h.2.1, h.2.2.1.calling, h.2.2.2⟩
def MkI (t : Mt) (n : Nat) : Prop := mCd t ∈ lw_tbl ∧ Cond.instanceMethod (mY t) ∈ lw_tbl ∧ Cond.initialized (mY t).cls ∈ lw_tbl ∧ ((mY t).cls ≠ "java/lang/invoke/MethodHandle" ∧ (mY t).cls ≠ "java/lang/invoke/VarHandle" ∧ (parseMethodDescriptor (mY t).desc).map (fun d => d.parameters.length) = some n)
theorem dflt_ok : ∀ ci, ci < 6 → ∀ j, j < nf ci → defaultValue (gty ci j) = if (rf ci 0 j).isSome then .null else .int 0 := by decide +kernel
theorem rf_some (ci k j : Nat) : (rf ci k j).isSome = (rf ci 0 j).isSome := by unfold rf; split <;> rfl
def nwF (ci : Nat) : List Value := (List.range (nf ci)).map (fun j => if (rf ci 0 j).isSome then .null else .int 0)
theorem nwF_at {ci j : Nat} (hj : j < nf ci) : vp_V (nwF ci) j = if (rf ci 0 j).isSome then .null else .int 0 := by
  simp [vp_V, nwF, hj]
theorem wty_at (w : Wd) : (wty w)[0]? = some (wC w 10, .int) ∧ (wty w)[1]? = some (wC w 11, .char) ∧ (wty w)[2]? = some (wC w 12, .int) ∧ (wty w)[3]? = some (wC w 13, .int) ∧ (wty w)[4]? = some (wC w 14, .object "LanternBoats$Light") ∧ (wty w)[5]? = some (wC w 15, .object "LanternBoats$Boat") ∧ (wty w)[6]? = some (wC w 16, .object "LanternBoats$Coast") := ⟨rfl, rfl, rfl, rfl, rfl, rfl, rfl⟩
section FLATM
variable {p : Program} {l : Launch} {e : Env} {R : Room} {s : State} {m : MethodId} {args : Array Value} {below : List Frame} {meth : Method} {c : Code} {Q : State → Prop} {t : Mt} {w : Wd} {cs sl pc nx : Nat} {loc : List (Option VV)} {st : List VV} {sg : Sg}
theorem Cx_ext {w' : Wd} {n : Nat} (hC : Cx p R s m args meth c t w) (h : Ext w w' n) : Cx p R s m args meth c t w' := ⟨hC.1, hC.2.1, hC.2.2.1, hC.2.2.2.1, hC.2.2.2.2.1, hC.2.2.2.2.2.1, hC.2.2.2.2.2.2.1, hC.2.2.2.2.2.2.2.1, h.ws hC.2.2.2.2.2.2.2.2⟩
theorem Cx_of {w' : Wd} (hC : Cx p R s m args meth c t w) (e1 : wD w' = wD w) (e2 : wC w' = wC w) (e3 : wB w' = wB w) (e4 : ∀ k, 1000000 ≤ k → wA w' k = wA w k) : Cx p R s m args meth c t w' := ⟨hC.1, hC.2.1, hC.2.2.1, hC.2.2.2.1, hC.2.2.2.2.1, hC.2.2.2.2.2.1, hC.2.2.2.2.2.2.1, hC.2.2.2.2.2.2.2.1, Ws_of hC.2.2.2.2.2.2.2.2 e1 e2 e3 (fun i _ => e4 _ (by omega))⟩
/-- the world is told in another way -/
theorem V_re {w' : Wd} {loc' : List (Option VV)} {st' : List VV} (h : ∀ H, Wp w sg H → Wp w' sg H) (hB : wB w' = wB w) (hl : LO w w' loc loc') (hs : LR w w' st st') (k : V p l e R s m args below meth c t w' Q cs sl pc loc' st' sg) : V p l e R s m args below meth c t w Q cs sl pc loc st sg := by
  intro H locs ls hP hS hL hO
  obtain ⟨h1, h2⟩ := hs.use hO
  have e : wF w' = wF w := by funext q; show (wB w' ≤ q) = (wB w ≤ q); rw [hB]
  have h9 := k H locs ls (h H hP) (by rw [e]; exact hS) (hl.lk hL) h2
  rw [h1] at h9
  exact h9
/-- one cell more -/
theorem V_grow {w' : Wd} {sg' : Sg} {H : Heap} {locs : List Loc} {ls : Array Slot} {q : Nat} {en : va_E} {kd len : Nat} (hWr : Wr w) (hext : Ext w w' 1) (hK : wK w' (wN w) = (kd, len)) (hkd : kd ≠ 20 ∧ kd ≠ 21) (hs : ∀ k, k < wN w → sg' k = sg k) (ha : wA w' (wN w) = q) (he : eE en (cE w' sg' (wN w))) (hP : va_P (wD w) gcl (wws w sg ++ [(q, en)]) H) (hD : va_D (wF w) (wws w sg ++ [(q, en)])) (hS : va_S (wF w) s.heap H locs) (hL : Lk w (mL t) ls loc) (hO : ∀ v ∈ st, okv w v)
    (kk : V p l e R s m args below meth c t w' Q cs sl pc loc (vR (some (kd, len, wN w)) :: st) sg') : W p l e R s m args below meth c H locs cs sl Q (F0 m pc ls (.ref q :: st.map (den w))) := by
  have h9 := kk H locs ls (Wp_grow hext hWr hs ha he hP hD) (by rw [hext.f]; exact hS) (hext.lk hL) (okc (okr_of hkd (by rw [hext.2.2.2.1]; omega) hK) (fun v hv => hext.vo (hO v hv)))
  rw [List.map_cons, hext.md hO] at h9
  have e1 : den w' (vR (some (kd, len, wN w))) = .ref q := congrArg Value.ref ha
  rw [e1] at h9
  exact h9
theorem V_new {idx : Nat} (hC : Cx p R s m args meth c t w) (hWr : Wr w) (hB : wB w ≤ s.heap.size) (hN : wN w < 1000000) (ci kd : Nat) (hkd : kd = 50 + ci ∨ (kd = ci ∧ ∀ j, (rf ci (wN w) j) = none)) (hci : ci < 6) (hlk : Cond.classLink (mY t).cls idx (gC ci) ∈ lw_tbl) (hin : Cond.instantiable (gC ci) (nf ci) ∈ lw_tbl ∧ Cond.initialized (gC ci) ∈ lw_tbl) (hd : Dk t pc (.new idx) 3 nx) (hcell : cs + 1 ≤ mC t ∧ sl + nf ci ≤ mS t)
    (kk : ∀ a, V p l e R s m args below meth c t (wpush w a (kd, 0)) Q (cs + 1) (sl + nf ci) nx loc (vR (some (kd, 0, wN w)) :: st) (upr sg (wN w) (fun _ => 0))) : V p l e R s m args below meth c t w Q cs sl pc loc st sg := by
  intro H locs ls hP hS hL hO
  obtain ⟨hd, rfl⟩ := hd
  obtain ⟨hx, hb, hml, hown, hts, hlks, hr, rfl, hW⟩ := hC
  refine va_new (ci := ci) (fs := nwF ci) hx hb hts (u_in_g hci) (gty ci) (gty_ok hci) hown (hts _ (mem_gTBL hlk rfl)) (hts _ (mem_gTBL hin.1 rfl)) (hts _ (mem_gTBL hin.2 rfl)) hW.1 hP.1 hP.2 hS (fun q hq => Nat.le_trans hB hq) (gcl_at hci) (fun j hj => (dflt_ok ci hci j hj).trans (nwF_at hj).symm) hcell.1 hcell.2 hd (fun q H1 h1 h2 h3 => ?_)
  refine V_grow hWr (Ext.push hN q (kd, 0)) (if_pos rfl) (by rcases hkd with h | ⟨h, -⟩ <;> omega) (fun k hk => upr_ne _ _ (Nat.ne_of_lt hk)) (if_pos rfl) (Or.inl ?_) h1 h2 h3 hL hO (kk q)
  have hKn : wK (wpush w q (kd, 0)) (wN w) = (kd, 0) := if_pos rfl
  rcases hkd with rfl | ⟨rfl, hrf⟩
  · unfold cE
    rw [hKn, if_neg (by show ¬ 50 + ci < 6; omega), if_neg (by show ¬ 50 + ci < 13; omega), if_neg (by show ¬ 50 + ci = 13; omega), if_neg (by show ¬ 50 + ci < 20; omega), if_pos (by show 50 + ci < 57; omega)]
    show Sum.inr (ci, nwF ci) = Sum.inr (50 + ci - 50, (List.range (nf (50 + ci - 50))).map (fW (wpush w q (50 + ci, 0)) (upr sg (wN w) fun _ => 0) (50 + ci - 50) (wN w)))
    rw [Nat.add_sub_cancel_left]
    refine congrArg (fun z => Sum.inr (ci, z)) (map_rg (fun j _ => ?_))
    rw [← rf_some ci (wN w) j]
    unfold fW
    have e : wR (wpush w q (50 + ci, 0)) (wN w) = fun _ => none := if_pos rfl
    rw [e, upr_at]
    cases rf ci (wN w) j <;> rfl
  · rw [cE_obj hKn hci]
    refine congrArg (fun z => Sum.inr (kd, z)) (map_rg (fun j _ => ?_))
    rw [← rf_some kd (wN w) j]
    unfold fV
    rw [hrf j]
    show Value.int 0 = Value.int (upr sg (wN w) (fun _ => 0) (wN w) j)
    rw [upr_at]
theorem V_newI (hC : Cx p R s m args meth c t w) (hWr : Wr w) (hB : wB w ≤ s.heap.size) (hN : wN w < 1000000) {at' : ArrayType} {n : Int32} (kd N' : Nat) (hkd : (kd = 10 ∧ at' = .int ∨ kd = 11 ∧ at' = .char) ∨ False) (hn : ¬ n < 0) (hN' : n.toNatClampNeg = N') (hbytes : N' ≤ 100000) (hd : Dk t pc (.newarray at') 2 nx) (hcell : cs + 1 ≤ mC t ∧ sl + N' ≤ mS t)
    (kk : ∀ a, V p l e R s m args below meth c t (wpush w a (kd, N')) Q (cs + 1) (sl + N') nx loc (vR (some (kd, N', wN w)) :: st) (upr sg (wN w) (fun _ => 0))) : V p l e R s m args below meth c t w Q cs sl pc loc (vI n :: st) sg := by
  intro H locs ls hP hS hL hO
  obtain ⟨hd, rfl⟩ := hd
  obtain ⟨hx, hb, hml, hown, hts, hlks, hr, rfl, hW⟩ := hC
  have key : ∀ (ty : FieldType) (i : Nat), (wty w)[i]? = some (wC w kd, ty) → newarray.typeOf at' = ty → Cond.arrayClass ty ∈ lw_tbl → defaultValue ty = .int 0 → N' * componentBytes ty ≤ 536870912 → (∀ U cA, va_RA U cA ty = (U.vm.findClass ("[" ++ ty.toString) = some cA)) → 10 ≤ kd ∧ kd < 13 → W p l e (mRm t) s m args below meth c H locs cs sl Q (F0 m pc ls (.int n :: st.map (den w))) := by
    intro ty i hi hty hac hdf hby hra hkr
    subst hty
    refine va_newa (atype := at') (a0 := (N', .inl (fun _ => 0))) hx hb (hts _ (mem_gTBL hac rfl)) rfl hW.1 hP.1 hP.2 hS (fun q hq => Nat.le_trans hB hq) (fun cA => by rw [vp_cell_i, hdf]) hn hN' hby hcell.1 hcell.2 hd (fun q cA H1 h0 h1 h2 h3 => ?_)
    have eC : wC w kd = cA := by
      have z1 := (hW.1.2 i _ hi).2
      have z2 := (h0.2 (wty w).length (cA, _) (by rw [List.getElem?_append_right (Nat.le_refl _), Nat.sub_self]; rfl)).2
      rw [hra] at z1 z2
      exact Option.some.inj (z1.symm.trans z2)
    refine V_grow hWr (Ext.push hN q (kd, N')) (if_pos rfl) (by omega) (fun k hk => upr_ne _ _ (Nat.ne_of_lt hk)) (if_pos rfl) (Or.inl ?_) h1 h2 h3 hL (ok1 hO) (kk q)
    rw [cE_row (w := wpush w q (kd, N')) (k := wN w) (kd := kd) (len := N') (if_pos rfl) hkr.1 hkr.2, upr_at]
    show Sum.inl (cA, N', Sum.inl fun _ => 0) = Sum.inl (wC w kd, N', Sum.inl fun _ => 0)
    rw [eC]
  rcases hkd with (⟨rfl, rfl⟩ | ⟨rfl, rfl⟩) | hf
  · exact key .int 0 rfl rfl (by decide +kernel) rfl (by show N' * 4 ≤ _; omega) (fun _ _ => rfl) (by omega)
  · exact key .char 1 rfl rfl (by decide +kernel) rfl (by show N' * 2 ≤ _; omega) (fun _ _ => rfl) (by omega)
  · exact hf.elim
/-- the class of a row of references -/
def qcl (kd : Nat) : String := if kd = 14 then "LanternBoats$Light" else if kd = 15 then "LanternBoats$Boat" else "LanternBoats$Coast"
theorem wty_q (w : Wd) {kd : Nat} (h : 14 ≤ kd ∧ kd < 17) : (wty w)[kd - 10]? = some (wC w kd, .object (qcl kd)) := by
  obtain ⟨h1, h2⟩ := h
  rcases (show kd = 14 ∨ kd = 15 ∨ kd = 16 by omega) with rfl | rfl | rfl <;> rfl
theorem V_newQ {idx : Nat} (hC : Cx p R s m args meth c t w) (hWr : Wr w) (hB : wB w ≤ s.heap.size) (hN : wN w < 1000000) {n : Int32} (kd N' : Nat) (hkd : 14 ≤ kd ∧ kd < 17) (hlk : Cond.classLink (mY t).cls idx (qcl kd) ∈ lw_tbl) (hn : ¬ n < 0) (hN' : n.toNatClampNeg = N') (hbytes : N' ≤ 100000) (hd : Dk t pc (.anewarray idx) 3 nx) (hcell : cs + 1 ≤ mC t ∧ sl + N' ≤ mS t)
    (kk : ∀ a, V p l e R s m args below meth c t (wpush w a (50 + kd, N')) Q (cs + 1) (sl + N') nx loc (vR (some (50 + kd, N', wN w)) :: st) (upr sg (wN w) (fun _ => 0))) : V p l e R s m args below meth c t w Q cs sl pc loc (vI n :: st) sg := by
  intro H locs ls hP hS hL hO
  obtain ⟨hd, rfl⟩ := hd
  obtain ⟨hx, hb, hml, hown, hts, hlks, hr, rfl, hW⟩ := hC
  have hov : va_AO (qcl kd) s := by
    obtain ⟨-, -, ⟨o1, o2, o3⟩, -⟩ := hW
    obtain ⟨h1, h2⟩ := hkd
    rcases (show kd = 14 ∨ kd = 15 ∨ kd = 16 by omega) with rfl | rfl | rfl
    · exact o1
    · exact o2
    · exact o3
  refine va_newq hx hb hown (hts _ (mem_gTBL hlk rfl)) hov hW.1 hP.1 hP.2 hS (fun q hq => Nat.le_trans hB hq) hn hN' (by omega) hcell.1 hcell.2 hd (fun q cA H1 h0 h1 h2 h3 => ?_)
  have eC : wC w kd = cA := by
    obtain ⟨-, -, -, -, -, z1⟩ := (hW.1.2 _ _ (wty_q w hkd)).2
    obtain ⟨-, -, -, -, -, z2⟩ := (h0.2 (wty w).length (cA, .object (qcl kd)) (by rw [List.getElem?_append_right (Nat.le_refl _), Nat.sub_self]; rfl)).2
    exact Option.some.inj (z1.symm.trans z2)
  refine V_grow hWr (Ext.push hN q (50 + kd, N')) (if_pos rfl) (by omega) (fun k hk => upr_ne _ _ (Nat.ne_of_lt hk)) (if_pos rfl) (Or.inl ?_) h1 h2 h3 hL (ok1 hO) (kk q)
  have hKn : wK (wpush w q (50 + kd, N')) (wN w) = (50 + kd, N') := if_pos rfl
  have e : wR (wpush w q (50 + kd, N')) (wN w) = fun _ => none := if_pos rfl
  unfold cE
  rw [hKn, e, if_neg (by show ¬ 50 + kd < 6; omega), if_neg (by show ¬ 50 + kd < 13; omega), if_neg (by show ¬ 50 + kd = 13; omega), if_neg (by show ¬ 50 + kd < 20; omega), if_neg (by show ¬ 50 + kd < 57; omega)]
  show Sum.inl (cA, N', _) = Sum.inl (wC w (50 + kd - 50), N', _)
  rw [Nat.add_sub_cancel_left, eC]
  rfl
theorem V_objI {idx : Nat} (hC : Cx p R s m args meth c t w) {r : Nat × Nat × Nat} (hlk : Cond.methodLink (mY t).cls idx Lib.objectInit ∈ lw_tbl) (hin : Cond.instanceMethod Lib.objectInit ∈ lw_tbl ∧ Cond.code Lib.objectInit ⟨#[0xb1]⟩ 1 none ∈ lw_tbl) (hd : Dk t pc (.invokespecial idx) 3 nx) (hroom : 1 ≤ mF t ∧ (st.map catV).sum + 12 ≤ mO t) (k : V p l e R s m args below meth c t w Q cs sl nx loc st sg) : V p l e R s m args below meth c t w Q cs sl pc loc (vR (some r) :: st) sg := by
  intro H locs ls hP hS hL hO
  obtain ⟨hd, rfl⟩ := hd
  obtain ⟨hx, hb, hml, hown, hts, hlks, hr, rfl, hW⟩ := hC
  refine W.objInit hx hb hown (hts _ (mem_gTBL hlk rfl)) (hts _ (mem_gTBL hin.1 rfl)) (hts _ (mem_gTBL hin.2 rfl)) rfl (by rw [hml]; exact hL.1) rfl hd hroom.1 ?_ (k H locs ls hP hS hL (ok1 hO))
  show 2 * 0 + ((st.map (den w)).map fun v => v.category).sum + 12 ≤ mO t
  rw [catV_sum]
  omega
end FLATM

