/-! cells of the world, read and written -/
theorem wws_at {w : Wd} {sg : Sg} {k : Nat} (hk : k < wN w) : (wws w sg)[k]? = some (wA w k, cE w sg k) := by
  simp [wws, hk]
theorem cE_obj {w : Wd} {sg : Sg} {k ci len : Nat} (hK : wK w k = (ci, len)) (hci : ci < 6) : cE w sg k = .inr (ci, (List.range (nf ci)).map (fV w sg ci k)) := by
  simp [cE, hK, hci]
theorem cE_row {w : Wd} {sg : Sg} {k kd len : Nat} (hK : wK w k = (kd, len)) (h1 : 10 ≤ kd) (h2 : kd < 13) : cE w sg k = .inl (wC w kd, (len, .inl (sg k))) := by
  unfold cE
  rw [hK, if_neg (by show ¬ kd < 6; omega), if_pos h2]
theorem cE_rowL {w : Wd} {sg : Sg} {k len : Nat} (hK : wK w k = (13, len)) : cE w sg k = .inl (wC w 13, (len, .inr (.inl (wL w k)))) := by
  simp [cE, hK]
theorem cE_rowQ {w : Wd} {sg : Sg} {k kd len : Nat} (hK : wK w k = (kd, len)) (h1 : 14 ≤ kd) (h2 : kd < 20) : cE w sg k = .inl (wC w kd, (len, .inr (.inr (.inr (.inr (fun j => (ae kd k j).map (fun q => wA w q.2.2))))))) := by
  unfold cE
  rw [hK, if_neg (by show ¬ kd < 6; omega), if_neg (by show ¬ kd < 13; omega), if_neg (by show ¬ kd = 13; omega), if_pos h2]
theorem gcl_at {ci : Nat} (h : ci < 6) : gcl[ci]? = some (gC ci, gT ci, nf ci) := by
  simp [gcl, h]
/-- a cell's ints replaced; one int of one cell put -/
def upr (sg : Sg) (k : Nat) (r : Nat → Int32) : Sg := fun k' => if k' = k then r else sg k'
def ups (sg : Sg) (k j : Nat) (x : Int32) : Sg := upr sg k (upd (sg k) j x)
theorem upr_at (sg : Sg) (k : Nat) (r : Nat → Int32) : upr sg k r k = r := if_pos rfl
theorem upr_ne (sg : Sg) {k k' : Nat} (r : Nat → Int32) (h : k' ≠ k) : upr sg k r k' = sg k' := if_neg h
theorem upr_upr (sg : Sg) (k : Nat) (r r' : Nat → Int32) : upr (upr sg k r) k r' = upr sg k r' := by
  funext k'
  by_cases h : k' = k <;> simp [upr, h]
theorem upr_self (sg : Sg) (k : Nat) : upr sg k (sg k) = sg := by
  funext k'
  by_cases h : k' = k <;> simp [upr, h]
theorem upr_comm (sg : Sg) {k k' : Nat} (r r' : Nat → Int32) (h : k ≠ k') : upr (upr sg k r) k' r' = upr (upr sg k' r') k r := by
  funext i
  by_cases h1 : i = k <;> by_cases h2 : i = k' <;> simp [upr, h1, h2]
  · exact absurd (h1.symm.trans h2) h
  · intro h3; exact absurd h3 h
  · intro h3; exact absurd h3.symm h
theorem ups_at (sg : Sg) (k j : Nat) (x : Int32) : ups sg k j x k = upd (sg k) j x := upr_at _ _ _
theorem ups_ne (sg : Sg) {k k' : Nat} (j : Nat) (x : Int32) (h : k' ≠ k) : ups sg k j x k' = sg k' := upr_ne _ _ h
theorem cE_ne {w : Wd} {sg sg' : Sg} {k : Nat} (h : sg' k = sg k) : cE w sg' k = cE w sg k := by
  unfold cE
  have e1 : ∀ kd, fV w sg' kd k = fV w sg kd k := fun kd => by funext j; simp [fV, h]
  have e2 : ∀ kd, fW w sg' kd k = fW w sg kd k := fun kd => by funext j; simp [fW, h]
  simp only [h, e1, e2]
/-- the world's list, one cell of it put -/
theorem wws_set {w : Wd} {sg sg' : Sg} {k : Nat} (hk : k < wN w) {E : va_E} (hE : cE w sg' k = E) (hne : ∀ k', k' ≠ k → sg' k' = sg k') : (wws w sg).set k (wA w k, E) = wws w sg' := by
  apply List.ext_getElem?
  intro i
  by_cases hi : i < wN w
  · by_cases hik : i = k
    · subst hik
      rw [List.getElem?_set_self (by simp [wws, hk]), wws_at hi, hE]
    · rw [List.getElem?_set_ne (Ne.symm hik), wws_at hi, wws_at hi, cE_ne (hne i hik)]
  · rw [List.getElem?_eq_none (by simp [wws]; omega), List.getElem?_eq_none (by simp [wws]; omega)]
theorem range_set {α : Type} {n j : Nat} (f g : Nat → α) (v : α) (h1 : g j = v) (h2 : ∀ i, i ≠ j → g i = f i) : ((List.range n).map f).set j v = (List.range n).map g := by
  apply List.ext_getElem?
  intro i
  by_cases hi : i < n
  · by_cases hij : i = j
    · subst hij
      rw [List.getElem?_set_self (by simp [hi])]
      simp [hi, h1]
    · rw [List.getElem?_set_ne (Ne.symm hij)]
      simp [hi, h2 i hij]
  · rw [List.getElem?_eq_none (by simp; omega), List.getElem?_eq_none (by simp; omega)]
theorem cE_put {w : Wd} {sg : Sg} {k ci len j : Nat} {x : Int32} (hK : wK w k = (ci, len)) (hci : ci < 6) (hr : rf ci k j = none) : cE w (ups sg k j x) k = .inr (ci, ((List.range (nf ci)).map (fV w sg ci k)).set j (.int x)) := by
  rw [cE_obj hK hci]
  congr 2
  refine (range_set (fV w sg ci k) (fV w (ups sg k j x) ci k) (.int x) ?_ ?_).symm
  · simp [fV, hr, ups_at, upd]
  · intro i hi
    unfold fV
    split
    · rfl
    · simp [ups_at, upd, hi]
section FLAT
variable {p : Program} {l : Launch} {e : Env} {R : Room} {s : State} {m : MethodId} {args : Array Value} {below : List Frame} {meth : Method} {c : Code} {Q : State → Prop} {t : Mt} {w : Wd} {cs sl pc nx : Nat} {loc : List (Option VV)} {st : List VV} {sg : Sg}
/-- what holds all through a method's body -/
def Cx (p : Program) (R : Room) (s : State) (m : MethodId) (args : Array Value) (meth : Method) (c : Code) (t : Mt) (w : Wd) : Prop :=
  p.tables.exec = Jvm.exec ∧ c.code = mB t ∧ c.maxLocals = mL t ∧ s.vm.findClass (mY t).cls = some m.cls ∧ (∀ q ∈ gTBL, q.before args s = true) ∧ meth.locks = false ∧ meth.sig.returnType = mT t ∧ R = mRm t ∧ Ws w s
/-- from here, in every heap that holds the memory, the method comes to an end with Q -/
def V (p : Program) (l : Launch) (e : Env) (R : Room) (s : State) (m : MethodId) (args : Array Value) (below : List Frame) (meth : Method) (c : Code) (t : Mt) (w : Wd) (Q : State → Prop) (cs sl pc : Nat) (loc : List (Option VV)) (st : List VV) (sg : Sg) : Prop :=
  ∀ (H : Heap) (locs : List Loc) (ls : Array Slot), Wp w sg H → va_S (wF w) s.heap H locs → Lk w (mL t) ls loc → (∀ v ∈ st, okv w v) → W p l e R s m args below meth c H locs cs sl Q (F0 m pc ls (st.map (den w)))
theorem okc {v : VV} {st : List VV} (h1 : okv w v) (h2 : ∀ v ∈ st, okv w v) : ∀ u ∈ v :: st, okv w u := List.forall_mem_cons.mpr ⟨h1, h2⟩
theorem ok1 {v : VV} {st : List VV} (h : ∀ u ∈ v :: st, okv w u) : ∀ u ∈ st, okv w u := (List.forall_mem_cons.mp h).2
theorem ok0 {v : VV} {st : List VV} (h : ∀ u ∈ v :: st, okv w u) : okv w v := (List.forall_mem_cons.mp h).1
/-! constants -/
theorem V_iconst (hC : Cx p R s m args meth c t w) {n : Int} (v : Int32) (hd : Dk t pc (.iconst n) 1 nx) (hv : Int32.ofInt n = v) (k : V p l e R s m args below meth c t w Q cs sl nx loc (vI v :: st) sg) : V p l e R s m args below meth c t w Q cs sl pc loc st sg := by
  intro H locs ls hP hS hL hO
  obtain ⟨hd, rfl⟩ := hd
  exact lv_iconst hC.1 hC.2.1 hd hv (k H locs ls hP hS hL (okc trivial hO))
theorem V_bipush (hC : Cx p R s m args meth c t w) {n : Int} (v : Int32) (hd : Dk t pc (.bipush n) 2 nx) (hv : (Int8.ofInt n).toInt32 = v) (k : V p l e R s m args below meth c t w Q cs sl nx loc (vI v :: st) sg) : V p l e R s m args below meth c t w Q cs sl pc loc st sg := by
  intro H locs ls hP hS hL hO
  obtain ⟨hd, rfl⟩ := hd
  exact lv_bipush hC.1 hC.2.1 hd hv (k H locs ls hP hS hL (okc trivial hO))
theorem V_sipush (hC : Cx p R s m args meth c t w) {n : Int} (v : Int32) (hd : Dk t pc (.sipush n) 3 nx) (hv : (Int16.ofInt n).toInt32 = v) (k : V p l e R s m args below meth c t w Q cs sl nx loc (vI v :: st) sg) : V p l e R s m args below meth c t w Q cs sl pc loc st sg := by
  intro H locs ls hP hS hL hO
  obtain ⟨hd, rfl⟩ := hd
  exact lv_sipush hC.1 hC.2.1 hd hv (k H locs ls hP hS hL (okc trivial hO))
theorem V_lconst (hC : Cx p R s m args meth c t w) {n : Fin 2} (v : Int64) (hd : Dk t pc (.lconst n) 1 nx) (hv : Int64.ofNat (n : Nat) = v) (k : V p l e R s m args below meth c t w Q cs sl nx loc (vL v :: st) sg) : V p l e R s m args below meth c t w Q cs sl pc loc st sg := by
  intro H locs ls hP hS hL hO
  obtain ⟨hd, rfl⟩ := hd
  exact lv_lconst hC.1 hC.2.1 hd hv (k H locs ls hP hS hL (okc trivial hO))
theorem V_null (hC : Cx p R s m args meth c t w) (hd : Dk t pc .aconst_null 1 nx) (k : V p l e R s m args below meth c t w Q cs sl nx loc (vR none :: st) sg) : V p l e R s m args below meth c t w Q cs sl pc loc st sg := by
  intro H locs ls hP hS hL hO
  obtain ⟨hd, rfl⟩ := hd
  exact lv_null hC.1 hC.2.1 hd (k H locs ls hP hS hL (okc trivial hO))
theorem mem_gTBL {q : Cond} (h : q ∈ lw_tbl) (g : goodWord q = true) : q ∈ gTBL := List.mem_filter.mpr ⟨h, g⟩
theorem V_ldc (hC : Cx p R s m args meth c t w) {i : Nat} {v : Int32} (hw : Cond.constant (mY t).cls i v ∈ lw_tbl) (hd : Dk t pc (.ldc i) 2 nx) (k : V p l e R s m args below meth c t w Q cs sl nx loc (vI v :: st) sg) : V p l e R s m args below meth c t w Q cs sl pc loc st sg := by
  intro H locs ls hP hS hL hO
  obtain ⟨hd, rfl⟩ := hd
  exact lv_ldc hC.1 hC.2.1 hC.2.2.2.1 (hC.2.2.2.2.1 _ (mem_gTBL hw rfl)) hd (k H locs ls hP hS hL (okc trivial hO))
theorem V_ldcw (hC : Cx p R s m args meth c t w) {i : Nat} {v : Int32} (hw : Cond.constant (mY t).cls i v ∈ lw_tbl) (hd : Dk t pc (.ldc_w i) 3 nx) (k : V p l e R s m args below meth c t w Q cs sl nx loc (vI v :: st) sg) : V p l e R s m args below meth c t w Q cs sl pc loc st sg := by
  intro H locs ls hP hS hL hO
  obtain ⟨hd, rfl⟩ := hd
  exact lv_ldcw hC.1 hC.2.1 hC.2.2.2.1 (hC.2.2.2.2.1 _ (mem_gTBL hw rfl)) hd (k H locs ls hP hS hL (okc trivial hO))
theorem V_ldc2 (hC : Cx p R s m args meth c t w) {i : Nat} {v : Int64} (hw : Cond.constantLong (mY t).cls i v ∈ lw_tbl) (hd : Dk t pc (.ldc2_w i) 3 nx) (k : V p l e R s m args below meth c t w Q cs sl nx loc (vL v :: st) sg) : V p l e R s m args below meth c t w Q cs sl pc loc st sg := by
  intro H locs ls hP hS hL hO
  obtain ⟨hd, rfl⟩ := hd
  exact lv_ldc2 hC.1 hC.2.1 hC.2.2.2.1 (hC.2.2.2.2.1 _ (mem_gTBL hw rfl)) hd (k H locs ls hP hS hL (okc trivial hO))
/-! locals -/
theorem V_iload_n (hC : Cx p R s m args meth c t w) {i : Fin 4} {x : Int32} (hd : Dk t pc (.iload_n i) 1 nx) (hl : loc[(i : Nat)]? = some (some (vI x))) (k : V p l e R s m args below meth c t w Q cs sl nx loc (vI x :: st) sg) : V p l e R s m args below meth c t w Q cs sl pc loc st sg := by
  intro H locs ls hP hS hL hO
  obtain ⟨hd, rfl⟩ := hd
  exact lv_iload_n hC.1 hC.2.1 hd rfl (hL.2.2 _ _ hl).1 (k H locs ls hP hS hL (okc trivial hO))
theorem V_iload (hC : Cx p R s m args meth c t w) {i : Nat} {x : Int32} (hd : Dk t pc (.iload i) 2 nx) (hl : loc[i]? = some (some (vI x))) (k : V p l e R s m args below meth c t w Q cs sl nx loc (vI x :: st) sg) : V p l e R s m args below meth c t w Q cs sl pc loc st sg := by
  intro H locs ls hP hS hL hO
  obtain ⟨hd, rfl⟩ := hd
  exact lv_iload hC.1 hC.2.1 hd (hL.2.2 _ _ hl).1 (k H locs ls hP hS hL (okc trivial hO))
theorem V_lload_n (hC : Cx p R s m args meth c t w) {i : Fin 4} {x : Int64} (hd : Dk t pc (.lload_n i) 1 nx) (hl : loc[(i : Nat)]? = some (some (vL x))) (k : V p l e R s m args below meth c t w Q cs sl nx loc (vL x :: st) sg) : V p l e R s m args below meth c t w Q cs sl pc loc st sg := by
  intro H locs ls hP hS hL hO
  obtain ⟨hd, rfl⟩ := hd
  exact lv_lload_n hC.1 hC.2.1 hd rfl (hL.2.2 _ _ hl).1 (k H locs ls hP hS hL (okc trivial hO))
theorem V_lload (hC : Cx p R s m args meth c t w) {i : Nat} {x : Int64} (hd : Dk t pc (.lload i) 2 nx) (hl : loc[i]? = some (some (vL x))) (k : V p l e R s m args below meth c t w Q cs sl nx loc (vL x :: st) sg) : V p l e R s m args below meth c t w Q cs sl pc loc st sg := by
  intro H locs ls hP hS hL hO
  obtain ⟨hd, rfl⟩ := hd
  exact lv_lload hC.1 hC.2.1 hd (hL.2.2 _ _ hl).1 (k H locs ls hP hS hL (okc trivial hO))
theorem V_aload_n (hC : Cx p R s m args meth c t w) {i : Fin 4} {r : Option (Nat × Nat × Nat)} (hd : Dk t pc (.aload_n i) 1 nx) (hl : loc[(i : Nat)]? = some (some (vR r))) (k : V p l e R s m args below meth c t w Q cs sl nx loc (vR r :: st) sg) : V p l e R s m args below meth c t w Q cs sl pc loc st sg := by
  intro H locs ls hP hS hL hO
  obtain ⟨hd, rfl⟩ := hd
  have h := hL.2.2 _ _ hl
  have k' := k H locs ls hP hS hL (okc h.2 hO)
  cases r with
  | none => exact lv_aload_nN hC.1 hC.2.1 hd rfl h.1 k'
  | some q => exact lv_aload_n hC.1 hC.2.1 hd rfl h.1 k'
theorem V_aload (hC : Cx p R s m args meth c t w) {i : Nat} {r : Option (Nat × Nat × Nat)} (hd : Dk t pc (.aload i) 2 nx) (hl : loc[i]? = some (some (vR r))) (k : V p l e R s m args below meth c t w Q cs sl nx loc (vR r :: st) sg) : V p l e R s m args below meth c t w Q cs sl pc loc st sg := by
  intro H locs ls hP hS hL hO
  obtain ⟨hd, rfl⟩ := hd
  have h := hL.2.2 _ _ hl
  have k' := k H locs ls hP hS hL (okc h.2 hO)
  cases r with
  | none => exact lv_aloadN hC.1 hC.2.1 hd h.1 k'
  | some q => exact lv_aload hC.1 hC.2.1 hd h.1 k'
theorem V_istore_n (hC : Cx p R s m args meth c t w) {i : Fin 4} {x : Int32} (loc' : List (Option VV)) (hd : Dk t pc (.istore_n i) 1 nx) (hl : lput1 loc i (vI x) = loc') (hn : (i : Nat) < mL t) (k : V p l e R s m args below meth c t w Q cs sl nx loc' st sg) : V p l e R s m args below meth c t w Q cs sl pc loc (vI x :: st) sg := by
  intro H locs ls hP hS hL hO
  obtain ⟨hd, rfl⟩ := hd
  exact lv_istore_n hC.1 hC.2.1 hd rfl hL.has hn rfl (fun ls' h' => k H locs ls' hP hS (hl ▸ hL.put1 trivial h') (ok1 hO))
theorem V_istore (hC : Cx p R s m args meth c t w) {i : Nat} {x : Int32} (loc' : List (Option VV)) (hd : Dk t pc (.istore i) 2 nx) (hl : lput1 loc i (vI x) = loc') (hn : i < mL t) (k : V p l e R s m args below meth c t w Q cs sl nx loc' st sg) : V p l e R s m args below meth c t w Q cs sl pc loc (vI x :: st) sg := by
  intro H locs ls hP hS hL hO
  obtain ⟨hd, rfl⟩ := hd
  exact lv_istore hC.1 hC.2.1 hd hL.has hn rfl (fun ls' h' => k H locs ls' hP hS (hl ▸ hL.put1 trivial h') (ok1 hO))
theorem V_lstore_n (hC : Cx p R s m args meth c t w) {i : Fin 4} {x : Int64} (loc' : List (Option VV)) (hd : Dk t pc (.lstore_n i) 1 nx) (hl : lput2 loc i (vL x) = loc') (hn : (i : Nat) + 1 < mL t) (k : V p l e R s m args below meth c t w Q cs sl nx loc' st sg) : V p l e R s m args below meth c t w Q cs sl pc loc (vL x :: st) sg := by
  intro H locs ls hP hS hL hO
  obtain ⟨hd, rfl⟩ := hd
  exact lv_lstore_n hC.1 hC.2.1 hd rfl hL.has hn rfl (fun ls' h' => k H locs ls' hP hS (hl ▸ hL.put2 trivial h') (ok1 hO))
theorem V_lstore (hC : Cx p R s m args meth c t w) {i : Nat} {x : Int64} (loc' : List (Option VV)) (hd : Dk t pc (.lstore i) 2 nx) (hl : lput2 loc i (vL x) = loc') (hn : i + 1 < mL t) (k : V p l e R s m args below meth c t w Q cs sl nx loc' st sg) : V p l e R s m args below meth c t w Q cs sl pc loc (vL x :: st) sg := by
  intro H locs ls hP hS hL hO
  obtain ⟨hd, rfl⟩ := hd
  exact lv_lstore hC.1 hC.2.1 hd hL.has hn rfl (fun ls' h' => k H locs ls' hP hS (hl ▸ hL.put2 trivial h') (ok1 hO))
theorem V_astore_n (hC : Cx p R s m args meth c t w) {i : Fin 4} {r : Option (Nat × Nat × Nat)} (loc' : List (Option VV)) (hd : Dk t pc (.astore_n i) 1 nx) (hl : lput1 loc i (vR r) = loc') (hn : (i : Nat) < mL t) (k : V p l e R s m args below meth c t w Q cs sl nx loc' st sg) : V p l e R s m args below meth c t w Q cs sl pc loc (vR r :: st) sg := by
  intro H locs ls hP hS hL hO
  obtain ⟨hd, rfl⟩ := hd
  have ho := ok0 hO
  subst hl
  cases r with
  | none => exact lv_astore_nN hC.1 hC.2.1 hd rfl hL.has hn rfl (fun ls' h' => k H locs ls' hP hS (hL.put1 (v := vR none) trivial h') (ok1 hO))
  | some q => exact lv_astore_n hC.1 hC.2.1 hd rfl hL.has hn rfl (fun ls' h' => k H locs ls' hP hS (hL.put1 (v := vR (some q)) ho h') (ok1 hO))
theorem V_astore (hC : Cx p R s m args meth c t w) {i : Nat} {r : Option (Nat × Nat × Nat)} (loc' : List (Option VV)) (hd : Dk t pc (.astore i) 2 nx) (hl : lput1 loc i (vR r) = loc') (hn : i < mL t) (k : V p l e R s m args below meth c t w Q cs sl nx loc' st sg) : V p l e R s m args below meth c t w Q cs sl pc loc (vR r :: st) sg := by
  intro H locs ls hP hS hL hO
  obtain ⟨hd, rfl⟩ := hd
  have ho := ok0 hO
  subst hl
  cases r with
  | none => exact lv_astoreN hC.1 hC.2.1 hd hL.has hn rfl (fun ls' h' => k H locs ls' hP hS (hL.put1 (v := vR none) trivial h') (ok1 hO))
  | some q => exact lv_astore hC.1 hC.2.1 hd hL.has hn rfl (fun ls' h' => k H locs ls' hP hS (hL.put1 (v := vR (some q)) ho h') (ok1 hO))
theorem V_iinc (hC : Cx p R s m args meth c t w) {i : Nat} {n : Int} {x : Int32} (v : Int32) (loc' : List (Option VV)) (hd : Dk t pc (.iinc i n) 3 nx) (hx : loc[i]? = some (some (vI x))) (hv : x + Int32.ofInt n = v) (hl : lput1 loc i (vI v) = loc') (hn : i < mL t) (k : V p l e R s m args below meth c t w Q cs sl nx loc' st sg) : V p l e R s m args below meth c t w Q cs sl pc loc st sg := by
  intro H locs ls hP hS hL hO
  obtain ⟨hd, rfl⟩ := hd
  obtain ⟨k0, hk0⟩ := List.getElem?_of_mem (ents_mem (w := w) (loc := loc) (i0 := 0) (j := i) (x := .int x) |>.mpr ⟨vI x, Nat.zero_le _, hx, rfl⟩)
  exact lv_iinc hC.1 hC.2.1 hd hL.has hk0 hv hn rfl (fun ls' h' => k H locs ls' hP hS (hl ▸ hL.put1 (v := vI v) trivial h') hO)
/-- a value gets a name -/
theorem V_nameI {x : Int32} (k : ∀ y : Int32, y = x → V p l e R s m args below meth c t w Q cs sl pc loc (vI y :: st) sg) : V p l e R s m args below meth c t w Q cs sl pc loc (vI x :: st) sg := k x rfl
theorem V_nameL {x : Int64} (k : ∀ y : Int64, y = x → V p l e R s m args below meth c t w Q cs sl pc loc (vL y :: st) sg) : V p l e R s m args below meth c t w Q cs sl pc loc (vL x :: st) sg := k x rfl
theorem V_nameR {x : Option (Nat × Nat × Nat)} (k : ∀ y, y = x → V p l e R s m args below meth c t w Q cs sl pc loc (vR y :: st) sg) : V p l e R s m args below meth c t w Q cs sl pc loc (vR x :: st) sg := k x rfl
theorem V_nameS (k : ∀ sg', sg' = sg → V p l e R s m args below meth c t w Q cs sl pc loc st sg') : V p l e R s m args below meth c t w Q cs sl pc loc st sg := k sg rfl
theorem V_iadd (hC : Cx p R s m args meth c t w) {x y : Int32} (hd : Dk t pc .iadd 1 nx) (k : V p l e R s m args below meth c t w Q cs sl nx loc (vI (x + y) :: st) sg) : V p l e R s m args below meth c t w Q cs sl pc loc (vI y :: vI x :: st) sg := by
  intro H locs ls hP hS hL hO
  obtain ⟨hd, rfl⟩ := hd
  exact lv_iadd hC.1 hC.2.1 hd (k H locs ls hP hS hL (okc trivial (fun v hv => hO v (by simp [hv]))))
theorem V_isub (hC : Cx p R s m args meth c t w) {x y : Int32} (hd : Dk t pc .isub 1 nx) (k : V p l e R s m args below meth c t w Q cs sl nx loc (vI (x - y) :: st) sg) : V p l e R s m args below meth c t w Q cs sl pc loc (vI y :: vI x :: st) sg := by
  intro H locs ls hP hS hL hO
  obtain ⟨hd, rfl⟩ := hd
  exact lv_isub hC.1 hC.2.1 hd (k H locs ls hP hS hL (okc trivial (fun v hv => hO v (by simp [hv]))))
theorem V_imul (hC : Cx p R s m args meth c t w) {x y : Int32} (hd : Dk t pc .imul 1 nx) (k : V p l e R s m args below meth c t w Q cs sl nx loc (vI (x * y) :: st) sg) : V p l e R s m args below meth c t w Q cs sl pc loc (vI y :: vI x :: st) sg := by
  intro H locs ls hP hS hL hO
  obtain ⟨hd, rfl⟩ := hd
  exact lv_imul hC.1 hC.2.1 hd (k H locs ls hP hS hL (okc trivial (fun v hv => hO v (by simp [hv]))))
theorem V_iand (hC : Cx p R s m args meth c t w) {x y : Int32} (hd : Dk t pc .iand 1 nx) (k : V p l e R s m args below meth c t w Q cs sl nx loc (vI (x &&& y) :: st) sg) : V p l e R s m args below meth c t w Q cs sl pc loc (vI y :: vI x :: st) sg := by
  intro H locs ls hP hS hL hO
  obtain ⟨hd, rfl⟩ := hd
  exact lv_iand hC.1 hC.2.1 hd (k H locs ls hP hS hL (okc trivial (fun v hv => hO v (by simp [hv]))))
theorem V_ior (hC : Cx p R s m args meth c t w) {x y : Int32} (hd : Dk t pc .ior 1 nx) (k : V p l e R s m args below meth c t w Q cs sl nx loc (vI (x ||| y) :: st) sg) : V p l e R s m args below meth c t w Q cs sl pc loc (vI y :: vI x :: st) sg := by
  intro H locs ls hP hS hL hO
  obtain ⟨hd, rfl⟩ := hd
  exact lv_ior hC.1 hC.2.1 hd (k H locs ls hP hS hL (okc trivial (fun v hv => hO v (by simp [hv]))))
theorem V_ixor (hC : Cx p R s m args meth c t w) {x y : Int32} (hd : Dk t pc .ixor 1 nx) (k : V p l e R s m args below meth c t w Q cs sl nx loc (vI (x ^^^ y) :: st) sg) : V p l e R s m args below meth c t w Q cs sl pc loc (vI y :: vI x :: st) sg := by
  intro H locs ls hP hS hL hO
  obtain ⟨hd, rfl⟩ := hd
  exact lv_ixor hC.1 hC.2.1 hd (k H locs ls hP hS hL (okc trivial (fun v hv => hO v (by simp [hv]))))
theorem V_idiv (hC : Cx p R s m args meth c t w) {x y : Int32} (hd : Dk t pc .idiv 1 nx) (hne : ¬ y = 0) (k : V p l e R s m args below meth c t w Q cs sl nx loc (vI (x / y) :: st) sg) : V p l e R s m args below meth c t w Q cs sl pc loc (vI y :: vI x :: st) sg := by
  intro H locs ls hP hS hL hO
  obtain ⟨hd, rfl⟩ := hd
  exact lv_idiv hC.1 hC.2.1 hd hne (k H locs ls hP hS hL (okc trivial (fun v hv => hO v (by simp [hv]))))
theorem V_irem (hC : Cx p R s m args meth c t w) {x y : Int32} (hd : Dk t pc .irem 1 nx) (hne : ¬ y = 0) (k : V p l e R s m args below meth c t w Q cs sl nx loc (vI (x - x / y * y) :: st) sg) : V p l e R s m args below meth c t w Q cs sl pc loc (vI y :: vI x :: st) sg := by
  intro H locs ls hP hS hL hO
  obtain ⟨hd, rfl⟩ := hd
  exact lv_irem hC.1 hC.2.1 hd hne (k H locs ls hP hS hL (okc trivial (fun v hv => hO v (by simp [hv]))))
theorem V_ishl (hC : Cx p R s m args meth c t w) {x y : Int32} (hd : Dk t pc .ishl 1 nx) (k : V p l e R s m args below meth c t w Q cs sl nx loc (vI (x <<< (y &&& 31)) :: st) sg) : V p l e R s m args below meth c t w Q cs sl pc loc (vI y :: vI x :: st) sg := by
  intro H locs ls hP hS hL hO
  obtain ⟨hd, rfl⟩ := hd
  exact lv_ishl hC.1 hC.2.1 hd (k H locs ls hP hS hL (okc trivial (fun v hv => hO v (by simp [hv]))))
theorem V_ishr (hC : Cx p R s m args meth c t w) {x y : Int32} (hd : Dk t pc .ishr 1 nx) (k : V p l e R s m args below meth c t w Q cs sl nx loc (vI (x >>> (y &&& 31)) :: st) sg) : V p l e R s m args below meth c t w Q cs sl pc loc (vI y :: vI x :: st) sg := by
  intro H locs ls hP hS hL hO
  obtain ⟨hd, rfl⟩ := hd
  exact lv_ishr hC.1 hC.2.1 hd (k H locs ls hP hS hL (okc trivial (fun v hv => hO v (by simp [hv]))))
theorem V_iushr (hC : Cx p R s m args meth c t w) {x y : Int32} (hd : Dk t pc .iushr 1 nx) (k : V p l e R s m args below meth c t w Q cs sl nx loc (vI ((x.toUInt32 >>> (y.toUInt32 &&& Int32.toUInt32 31)).toInt32) :: st) sg) : V p l e R s m args below meth c t w Q cs sl pc loc (vI y :: vI x :: st) sg := by
  intro H locs ls hP hS hL hO
  obtain ⟨hd, rfl⟩ := hd
  exact lv_iushr hC.1 hC.2.1 hd rfl (k H locs ls hP hS hL (okc trivial (fun v hv => hO v (by simp [hv]))))
theorem V_ineg (hC : Cx p R s m args meth c t w) {x : Int32} (hd : Dk t pc .ineg 1 nx) (k : V p l e R s m args below meth c t w Q cs sl nx loc (vI (-x) :: st) sg) : V p l e R s m args below meth c t w Q cs sl pc loc (vI x :: st) sg := by
  intro H locs ls hP hS hL hO
  obtain ⟨hd, rfl⟩ := hd
  exact lv_ineg hC.1 hC.2.1 hd (k H locs ls hP hS hL (okc trivial (fun v hv => hO v (by simp [hv]))))
theorem V_ladd (hC : Cx p R s m args meth c t w) {x y : Int64} (hd : Dk t pc .ladd 1 nx) (k : V p l e R s m args below meth c t w Q cs sl nx loc (vL (x + y) :: st) sg) : V p l e R s m args below meth c t w Q cs sl pc loc (vL y :: vL x :: st) sg := by
  intro H locs ls hP hS hL hO
  obtain ⟨hd, rfl⟩ := hd
  exact lv_ladd hC.1 hC.2.1 hd (k H locs ls hP hS hL (okc trivial (fun v hv => hO v (by simp [hv]))))
theorem V_lsub (hC : Cx p R s m args meth c t w) {x y : Int64} (hd : Dk t pc .lsub 1 nx) (k : V p l e R s m args below meth c t w Q cs sl nx loc (vL (x - y) :: st) sg) : V p l e R s m args below meth c t w Q cs sl pc loc (vL y :: vL x :: st) sg := by
  intro H locs ls hP hS hL hO
  obtain ⟨hd, rfl⟩ := hd
  exact lv_lsub hC.1 hC.2.1 hd (k H locs ls hP hS hL (okc trivial (fun v hv => hO v (by simp [hv]))))
theorem V_lmul (hC : Cx p R s m args meth c t w) {x y : Int64} (hd : Dk t pc .lmul 1 nx) (k : V p l e R s m args below meth c t w Q cs sl nx loc (vL (x * y) :: st) sg) : V p l e R s m args below meth c t w Q cs sl pc loc (vL y :: vL x :: st) sg := by
  intro H locs ls hP hS hL hO
  obtain ⟨hd, rfl⟩ := hd
  exact lv_lmul hC.1 hC.2.1 hd (k H locs ls hP hS hL (okc trivial (fun v hv => hO v (by simp [hv]))))
theorem V_land (hC : Cx p R s m args meth c t w) {x y : Int64} (hd : Dk t pc .land 1 nx) (k : V p l e R s m args below meth c t w Q cs sl nx loc (vL (x &&& y) :: st) sg) : V p l e R s m args below meth c t w Q cs sl pc loc (vL y :: vL x :: st) sg := by
  intro H locs ls hP hS hL hO
  obtain ⟨hd, rfl⟩ := hd
  exact lv_land hC.1 hC.2.1 hd (k H locs ls hP hS hL (okc trivial (fun v hv => hO v (by simp [hv]))))
theorem V_lor (hC : Cx p R s m args meth c t w) {x y : Int64} (hd : Dk t pc .lor 1 nx) (k : V p l e R s m args below meth c t w Q cs sl nx loc (vL (x ||| y) :: st) sg) : V p l e R s m args below meth c t w Q cs sl pc loc (vL y :: vL x :: st) sg := by
  intro H locs ls hP hS hL hO
  obtain ⟨hd, rfl⟩ := hd
  exact lv_lor hC.1 hC.2.1 hd (k H locs ls hP hS hL (okc trivial (fun v hv => hO v (by simp [hv]))))
theorem V_lxor (hC : Cx p R s m args meth c t w) {x y : Int64} (hd : Dk t pc .lxor 1 nx) (k : V p l e R s m args below meth c t w Q cs sl nx loc (vL (x ^^^ y) :: st) sg) : V p l e R s m args below meth c t w Q cs sl pc loc (vL y :: vL x :: st) sg := by
  intro H locs ls hP hS hL hO
  obtain ⟨hd, rfl⟩ := hd
  exact lv_lxor hC.1 hC.2.1 hd (k H locs ls hP hS hL (okc trivial (fun v hv => hO v (by simp [hv]))))
theorem V_ldiv (hC : Cx p R s m args meth c t w) {x y : Int64} (hd : Dk t pc .ldiv 1 nx) (hne : ¬ y = 0) (k : V p l e R s m args below meth c t w Q cs sl nx loc (vL (x / y) :: st) sg) : V p l e R s m args below meth c t w Q cs sl pc loc (vL y :: vL x :: st) sg := by
  intro H locs ls hP hS hL hO
  obtain ⟨hd, rfl⟩ := hd
  exact lv_ldiv hC.1 hC.2.1 hd hne (k H locs ls hP hS hL (okc trivial (fun v hv => hO v (by simp [hv]))))
theorem V_lrem (hC : Cx p R s m args meth c t w) {x y : Int64} (hd : Dk t pc .lrem 1 nx) (hne : ¬ y = 0) (k : V p l e R s m args below meth c t w Q cs sl nx loc (vL (x - x / y * y) :: st) sg) : V p l e R s m args below meth c t w Q cs sl pc loc (vL y :: vL x :: st) sg := by
  intro H locs ls hP hS hL hO
  obtain ⟨hd, rfl⟩ := hd
  exact lv_lrem hC.1 hC.2.1 hd hne (k H locs ls hP hS hL (okc trivial (fun v hv => hO v (by simp [hv]))))
theorem V_lshl (hC : Cx p R s m args meth c t w) {x : Int64} {y : Int32} (hd : Dk t pc .lshl 1 nx) (k : V p l e R s m args below meth c t w Q cs sl nx loc (vL (x <<< (y.toInt64 &&& 63)) :: st) sg) : V p l e R s m args below meth c t w Q cs sl pc loc (vI y :: vL x :: st) sg := by
  intro H locs ls hP hS hL hO
  obtain ⟨hd, rfl⟩ := hd
  exact lv_lshl hC.1 hC.2.1 hd rfl (k H locs ls hP hS hL (okc trivial (fun v hv => hO v (by simp [hv]))))
theorem V_lushr (hC : Cx p R s m args meth c t w) {x : Int64} {y : Int32} (hd : Dk t pc .lushr 1 nx) (k : V p l e R s m args below meth c t w Q cs sl nx loc (vL ((x.toUInt64 >>> (y.toInt64.toUInt64 &&& Int64.toUInt64 63)).toInt64) :: st) sg) : V p l e R s m args below meth c t w Q cs sl pc loc (vI y :: vL x :: st) sg := by
  intro H locs ls hP hS hL hO
  obtain ⟨hd, rfl⟩ := hd
  exact lv_lushr hC.1 hC.2.1 hd rfl (k H locs ls hP hS hL (okc trivial (fun v hv => hO v (by simp [hv]))))
theorem V_lcmp (hC : Cx p R s m args meth c t w) {x y : Int64} (hd : Dk t pc .lcmp 1 nx) (k : V p l e R s m args below meth c t w Q cs sl nx loc (vI (lg_cmp x y) :: st) sg) : V p l e R s m args below meth c t w Q cs sl pc loc (vL y :: vL x :: st) sg := by
  intro H locs ls hP hS hL hO
  obtain ⟨hd, rfl⟩ := hd
  exact W.lcmp hC.1 hC.2.1 hd (k H locs ls hP hS hL (okc trivial (fun v hv => hO v (by simp [hv]))))
theorem V_i2l (hC : Cx p R s m args meth c t w) {x : Int32} (hd : Dk t pc .i2l 1 nx) (k : V p l e R s m args below meth c t w Q cs sl nx loc (vL (x.toInt64) :: st) sg) : V p l e R s m args below meth c t w Q cs sl pc loc (vI x :: st) sg := by
  intro H locs ls hP hS hL hO
  obtain ⟨hd, rfl⟩ := hd
  exact lv_i2l hC.1 hC.2.1 hd rfl (k H locs ls hP hS hL (okc trivial (fun v hv => hO v (by simp [hv]))))
theorem V_l2i (hC : Cx p R s m args meth c t w) {x : Int64} (hd : Dk t pc .l2i 1 nx) (k : V p l e R s m args below meth c t w Q cs sl nx loc (vI (x.toInt32) :: st) sg) : V p l e R s m args below meth c t w Q cs sl pc loc (vL x :: st) sg := by
  intro H locs ls hP hS hL hO
  obtain ⟨hd, rfl⟩ := hd
  exact lv_l2i hC.1 hC.2.1 hd rfl (k H locs ls hP hS hL (okc trivial (fun v hv => hO v (by simp [hv]))))
theorem V_i2c (hC : Cx p R s m args meth c t w) {x : Int32} (hd : Dk t pc .i2c 1 nx) (k : V p l e R s m args below meth c t w Q cs sl nx loc (vI ((x.toUInt32 % 65536).toInt32) :: st) sg) : V p l e R s m args below meth c t w Q cs sl pc loc (vI x :: st) sg := by
  intro H locs ls hP hS hL hO
  obtain ⟨hd, rfl⟩ := hd
  exact lv_i2c hC.1 hC.2.1 hd rfl (k H locs ls hP hS hL (okc trivial (fun v hv => hO v (by simp [hv]))))
theorem V_dup (hC : Cx p R s m args meth c t w) {v : VV} (hd : Dk t pc .dup 1 nx) (hv : catV v = 1) (k : V p l e R s m args below meth c t w Q cs sl nx loc (v :: v :: st) sg) : V p l e R s m args below meth c t w Q cs sl pc loc (v :: st) sg := by
  intro H locs ls hP hS hL hO
  obtain ⟨hd, rfl⟩ := hd
  exact lv_dup hC.1 hC.2.1 hd (by rw [catV_den]; exact hv) (k H locs ls hP hS hL (okc (ok0 hO) hO))
theorem V_pop (hC : Cx p R s m args meth c t w) {v : VV} (hd : Dk t pc .pop 1 nx) (hv : catV v = 1) (k : V p l e R s m args below meth c t w Q cs sl nx loc st sg) : V p l e R s m args below meth c t w Q cs sl pc loc (v :: st) sg := by
  intro H locs ls hP hS hL hO
  obtain ⟨hd, rfl⟩ := hd
  exact lv_pop hC.1 hC.2.1 hd (by rw [catV_den]; exact hv) (k H locs ls hP hS hL (ok1 hO))
theorem V_dup2 (hC : Cx p R s m args meth c t w) {v u : VV} (hd : Dk t pc .dup2 1 nx) (hv : catV v = 1) (hu : catV u = 1) (k : V p l e R s m args below meth c t w Q cs sl nx loc (v :: u :: v :: u :: st) sg) : V p l e R s m args below meth c t w Q cs sl pc loc (v :: u :: st) sg := by
  intro H locs ls hP hS hL hO
  obtain ⟨hd, rfl⟩ := hd
  exact lv_dup2_11 hC.1 hC.2.1 hd (by rw [catV_den]; exact hv) (by rw [catV_den]; exact hu) (k H locs ls hP hS hL (okc (ok0 hO) (okc (ok0 (ok1 hO)) hO)))
theorem V_dup2L (hC : Cx p R s m args meth c t w) {v : VV} (hd : Dk t pc .dup2 1 nx) (hv : catV v = 2) (k : V p l e R s m args below meth c t w Q cs sl nx loc (v :: v :: st) sg) : V p l e R s m args below meth c t w Q cs sl pc loc (v :: st) sg := by
  intro H locs ls hP hS hL hO
  obtain ⟨hd, rfl⟩ := hd
  exact lv_dup2_2 hC.1 hC.2.1 hd (by rw [catV_den]; exact hv) (k H locs ls hP hS hL (okc (ok0 hO) hO))
theorem V_goto (hC : Cx p R s m args meth c t w) {off : Int} (tgt : Nat) (hd : Dk t pc (.goto off) 3 nx) (ht : (pc : Int) + off = (tgt : Int)) (k : V p l e R s m args below meth c t w Q cs sl tgt loc st sg) : V p l e R s m args below meth c t w Q cs sl pc loc st sg := by
  intro H locs ls hP hS hL hO
  exact lv_goto hC.1 hC.2.1 hd.1 ht (k H locs ls hP hS hL hO)
theorem V_ifnull (hC : Cx p R s m args meth c t w) {off : Int} (tgt : Nat) (hd : Dk t pc (.ifnull off) 3 nx) (ht : (pc : Int) + off = (tgt : Int)) {r : Option (Nat × Nat × Nat)} (kt : r = none → V p l e R s m args below meth c t w Q cs sl tgt loc st sg) (kf : ∀ q, r = some q → V p l e R s m args below meth c t w Q cs sl nx loc st sg) : V p l e R s m args below meth c t w Q cs sl pc loc (vR r :: st) sg := by
  intro H locs ls hP hS hL hO
  obtain ⟨hd, rfl⟩ := hd
  cases r with
  | none => exact lv_ifnullN hC.1 hC.2.1 hd ht (kt rfl H locs ls hP hS hL (ok1 hO))
  | some q => exact lv_ifnull hC.1 hC.2.1 hd (kf q rfl H locs ls hP hS hL (ok1 hO))
theorem V_ifnonnull (hC : Cx p R s m args meth c t w) {off : Int} (tgt : Nat) (hd : Dk t pc (.ifnonnull off) 3 nx) (ht : (pc : Int) + off = (tgt : Int)) {r : Option (Nat × Nat × Nat)} (kt : ∀ q, r = some q → V p l e R s m args below meth c t w Q cs sl tgt loc st sg) (kf : r = none → V p l e R s m args below meth c t w Q cs sl nx loc st sg) : V p l e R s m args below meth c t w Q cs sl pc loc (vR r :: st) sg := by
  intro H locs ls hP hS hL hO
  obtain ⟨hd, rfl⟩ := hd
  cases r with
  | none => exact lv_ifnonnullN hC.1 hC.2.1 hd (kf rfl H locs ls hP hS hL (ok1 hO))
  | some q => exact lv_ifnonnull hC.1 hC.2.1 hd ht (kt q rfl H locs ls hP hS hL (ok1 hO))
theorem V_if_eq (hC : Cx p R s m args meth c t w) {off : Int} (tgt : Nat) {x : Int32} (hd : Dk t pc (.ifCond .eq off) 3 nx) (ht : (pc : Int) + off = (tgt : Int)) (kt : x = 0 → V p l e R s m args below meth c t w Q cs sl tgt loc st sg) (kf : ¬ x = 0 → V p l e R s m args below meth c t w Q cs sl nx loc st sg) : V p l e R s m args below meth c t w Q cs sl pc loc (vI x :: st) sg := by
  intro H locs ls hP hS hL hO
  obtain ⟨hd, rfl⟩ := hd
  exact lv_if_eq hC.1 hC.2.1 hd ht (fun h => kt h H locs ls hP hS hL (ok1 hO)) (fun h => kf h H locs ls hP hS hL (ok1 hO))
theorem V_icmp_eq (hC : Cx p R s m args meth c t w) {off : Int} (tgt : Nat) {x y : Int32} (hd : Dk t pc (.if_icmp .eq off) 3 nx) (ht : (pc : Int) + off = (tgt : Int)) (kt : x = y → V p l e R s m args below meth c t w Q cs sl tgt loc st sg) (kf : ¬ x = y → V p l e R s m args below meth c t w Q cs sl nx loc st sg) : V p l e R s m args below meth c t w Q cs sl pc loc (vI y :: vI x :: st) sg := by
  intro H locs ls hP hS hL hO
  obtain ⟨hd, rfl⟩ := hd
  exact lv_icmp_eq hC.1 hC.2.1 hd ht (fun h => kt h H locs ls hP hS hL (ok1 (ok1 hO))) (fun h => kf h H locs ls hP hS hL (ok1 (ok1 hO)))
theorem V_if_ne (hC : Cx p R s m args meth c t w) {off : Int} (tgt : Nat) {x : Int32} (hd : Dk t pc (.ifCond .ne off) 3 nx) (ht : (pc : Int) + off = (tgt : Int)) (kt : ¬ x = 0 → V p l e R s m args below meth c t w Q cs sl tgt loc st sg) (kf : x = 0 → V p l e R s m args below meth c t w Q cs sl nx loc st sg) : V p l e R s m args below meth c t w Q cs sl pc loc (vI x :: st) sg := by
  intro H locs ls hP hS hL hO
  obtain ⟨hd, rfl⟩ := hd
  exact lv_if_ne hC.1 hC.2.1 hd ht (fun h => kt h H locs ls hP hS hL (ok1 hO)) (fun h => kf h H locs ls hP hS hL (ok1 hO))
theorem V_icmp_ne (hC : Cx p R s m args meth c t w) {off : Int} (tgt : Nat) {x y : Int32} (hd : Dk t pc (.if_icmp .ne off) 3 nx) (ht : (pc : Int) + off = (tgt : Int)) (kt : ¬ x = y → V p l e R s m args below meth c t w Q cs sl tgt loc st sg) (kf : x = y → V p l e R s m args below meth c t w Q cs sl nx loc st sg) : V p l e R s m args below meth c t w Q cs sl pc loc (vI y :: vI x :: st) sg := by
  intro H locs ls hP hS hL hO
  obtain ⟨hd, rfl⟩ := hd
  exact lv_icmp_ne hC.1 hC.2.1 hd ht (fun h => kt h H locs ls hP hS hL (ok1 (ok1 hO))) (fun h => kf h H locs ls hP hS hL (ok1 (ok1 hO)))
theorem V_if_lt (hC : Cx p R s m args meth c t w) {off : Int} (tgt : Nat) {x : Int32} (hd : Dk t pc (.ifCond .lt off) 3 nx) (ht : (pc : Int) + off = (tgt : Int)) (kt : x < 0 → V p l e R s m args below meth c t w Q cs sl tgt loc st sg) (kf : ¬ x < 0 → V p l e R s m args below meth c t w Q cs sl nx loc st sg) : V p l e R s m args below meth c t w Q cs sl pc loc (vI x :: st) sg := by
  intro H locs ls hP hS hL hO
  obtain ⟨hd, rfl⟩ := hd
  exact lv_if_lt hC.1 hC.2.1 hd ht (fun h => kt h H locs ls hP hS hL (ok1 hO)) (fun h => kf h H locs ls hP hS hL (ok1 hO))
theorem V_icmp_lt (hC : Cx p R s m args meth c t w) {off : Int} (tgt : Nat) {x y : Int32} (hd : Dk t pc (.if_icmp .lt off) 3 nx) (ht : (pc : Int) + off = (tgt : Int)) (kt : x < y → V p l e R s m args below meth c t w Q cs sl tgt loc st sg) (kf : ¬ x < y → V p l e R s m args below meth c t w Q cs sl nx loc st sg) : V p l e R s m args below meth c t w Q cs sl pc loc (vI y :: vI x :: st) sg := by
  intro H locs ls hP hS hL hO
  obtain ⟨hd, rfl⟩ := hd
  exact lv_icmp_lt hC.1 hC.2.1 hd ht (fun h => kt h H locs ls hP hS hL (ok1 (ok1 hO))) (fun h => kf h H locs ls hP hS hL (ok1 (ok1 hO)))
theorem V_if_ge (hC : Cx p R s m args meth c t w) {off : Int} (tgt : Nat) {x : Int32} (hd : Dk t pc (.ifCond .ge off) 3 nx) (ht : (pc : Int) + off = (tgt : Int)) (kt : 0 ≤ x → V p l e R s m args below meth c t w Q cs sl tgt loc st sg) (kf : ¬ 0 ≤ x → V p l e R s m args below meth c t w Q cs sl nx loc st sg) : V p l e R s m args below meth c t w Q cs sl pc loc (vI x :: st) sg := by
  intro H locs ls hP hS hL hO
  obtain ⟨hd, rfl⟩ := hd
  exact lv_if_ge hC.1 hC.2.1 hd ht (fun h => kt h H locs ls hP hS hL (ok1 hO)) (fun h => kf h H locs ls hP hS hL (ok1 hO))
theorem V_icmp_ge (hC : Cx p R s m args meth c t w) {off : Int} (tgt : Nat) {x y : Int32} (hd : Dk t pc (.if_icmp .ge off) 3 nx) (ht : (pc : Int) + off = (tgt : Int)) (kt : y ≤ x → V p l e R s m args below meth c t w Q cs sl tgt loc st sg) (kf : ¬ y ≤ x → V p l e R s m args below meth c t w Q cs sl nx loc st sg) : V p l e R s m args below meth c t w Q cs sl pc loc (vI y :: vI x :: st) sg := by
  intro H locs ls hP hS hL hO
  obtain ⟨hd, rfl⟩ := hd
  exact lv_icmp_ge hC.1 hC.2.1 hd ht (fun h => kt h H locs ls hP hS hL (ok1 (ok1 hO))) (fun h => kf h H locs ls hP hS hL (ok1 (ok1 hO)))
theorem V_if_gt (hC : Cx p R s m args meth c t w) {off : Int} (tgt : Nat) {x : Int32} (hd : Dk t pc (.ifCond .gt off) 3 nx) (ht : (pc : Int) + off = (tgt : Int)) (kt : 0 < x → V p l e R s m args below meth c t w Q cs sl tgt loc st sg) (kf : ¬ 0 < x → V p l e R s m args below meth c t w Q cs sl nx loc st sg) : V p l e R s m args below meth c t w Q cs sl pc loc (vI x :: st) sg := by
  intro H locs ls hP hS hL hO
  obtain ⟨hd, rfl⟩ := hd
  exact lv_if_gt hC.1 hC.2.1 hd ht (fun h => kt h H locs ls hP hS hL (ok1 hO)) (fun h => kf h H locs ls hP hS hL (ok1 hO))
theorem V_icmp_gt (hC : Cx p R s m args meth c t w) {off : Int} (tgt : Nat) {x y : Int32} (hd : Dk t pc (.if_icmp .gt off) 3 nx) (ht : (pc : Int) + off = (tgt : Int)) (kt : y < x → V p l e R s m args below meth c t w Q cs sl tgt loc st sg) (kf : ¬ y < x → V p l e R s m args below meth c t w Q cs sl nx loc st sg) : V p l e R s m args below meth c t w Q cs sl pc loc (vI y :: vI x :: st) sg := by
  intro H locs ls hP hS hL hO
  obtain ⟨hd, rfl⟩ := hd
  exact lv_icmp_gt hC.1 hC.2.1 hd ht (fun h => kt h H locs ls hP hS hL (ok1 (ok1 hO))) (fun h => kf h H locs ls hP hS hL (ok1 (ok1 hO)))
theorem V_if_le (hC : Cx p R s m args meth c t w) {off : Int} (tgt : Nat) {x : Int32} (hd : Dk t pc (.ifCond .le off) 3 nx) (ht : (pc : Int) + off = (tgt : Int)) (kt : x ≤ 0 → V p l e R s m args below meth c t w Q cs sl tgt loc st sg) (kf : ¬ x ≤ 0 → V p l e R s m args below meth c t w Q cs sl nx loc st sg) : V p l e R s m args below meth c t w Q cs sl pc loc (vI x :: st) sg := by
  intro H locs ls hP hS hL hO
  obtain ⟨hd, rfl⟩ := hd
  exact lv_if_le hC.1 hC.2.1 hd ht (fun h => kt h H locs ls hP hS hL (ok1 hO)) (fun h => kf h H locs ls hP hS hL (ok1 hO))
theorem V_icmp_le (hC : Cx p R s m args meth c t w) {off : Int} (tgt : Nat) {x y : Int32} (hd : Dk t pc (.if_icmp .le off) 3 nx) (ht : (pc : Int) + off = (tgt : Int)) (kt : x ≤ y → V p l e R s m args below meth c t w Q cs sl tgt loc st sg) (kf : ¬ x ≤ y → V p l e R s m args below meth c t w Q cs sl nx loc st sg) : V p l e R s m args below meth c t w Q cs sl pc loc (vI y :: vI x :: st) sg := by
  intro H locs ls hP hS hL hO
  obtain ⟨hd, rfl⟩ := hd
  exact lv_icmp_le hC.1 hC.2.1 hd ht (fun h => kt h H locs ls hP hS hL (ok1 (ok1 hO))) (fun h => kf h H locs ls hP hS hL (ok1 (ok1 hO)))
end FLAT

