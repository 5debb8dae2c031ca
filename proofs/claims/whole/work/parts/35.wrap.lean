/-! the law's wrappers: a long written, a table of handlers -/
abbrev rowOf (q : Nat × Nat × Nat × Nat) : ExceptionTableEntry := ⟨q.1, q.2.1, q.2.2.1, q.2.2.2⟩
def setL (w : Wd) (k j : Nat) (y : Int64) : Wd := (w.1, w.2.1, w.2.2.1, w.2.2.2.1, w.2.2.2.2.1, w.2.2.2.2.2.1, w.2.2.2.2.2.2.1, fun k' j' => if k' = k ∧ j' = j then y else w.2.2.2.2.2.2.2 k' j')
theorem wL_ne {w : Wd} {k j k' : Nat} {y : Int64} (h : k' ≠ k) : wL (setL w k j y) k' = wL w k' := by
  funext j'
  exact if_neg (fun z => h z.1)
theorem wL_at {w : Wd} {k j : Nat} {y : Int64} : wL (setL w k j y) k = fun j' => if j' = j then y else wL w k j' := by
  funext j'
  show (if k = k ∧ j' = j then y else wL w k j') = if j' = j then y else wL w k j'
  by_cases h : j' = j
  · rw [if_pos ⟨rfl, h⟩, if_pos h]
  · rw [if_neg (fun z => h z.2), if_neg h]
theorem cE_setL {w : Wd} {sg : Sg} {k j k' : Nat} {y : Int64} (h : k' ≠ k) : cE (setL w k j y) sg k' = cE w sg k' := by
  unfold cE
  rw [wL_ne h]
  rfl
theorem wws_setL {w : Wd} {sg : Sg} {k j len : Nat} {y : Int64} (hk : k < wN w) (hK : wK w k = (13, len)) : (wws w sg).set k (wA w k, .inl (wC w 13, (len, .inr (.inl (fun j' => if j' = j then y else wL w k j'))))) = wws (setL w k j y) sg := by
  apply List.ext_getElem?
  intro i
  by_cases hi : i < wN w
  · by_cases hik : i = k
    · subst hik
      rw [List.getElem?_set_self (by simp [wws, hk]), wws_at (w := setL w i j y) hi, cE_rowL (w := setL w i j y) hK, wL_at]
      rfl
    · rw [List.getElem?_set_ne (Ne.symm hik), wws_at hi, wws_at (w := setL w k j y) hi, cE_setL hik]
      rfl
  · rw [List.getElem?_eq_none (by simp [wws]; omega), List.getElem?_eq_none (by rw [wws, List.length_map, List.length_range]; show wN w ≤ i; omega)]
def QL (w : Wd) (post : Option VV → Wd → Sg → Prop) : Array Value → State → Outcome → State → Prop := fun _ st o u => (∃ (r : Option VV) (w' : Wd) (sg' : Sg), o = .returned (r.map (den w)) ∧ post r w' sg' ∧ Wp w' sg' u.heap) ∧ va_F (wF w) st u
def MT (l : Launch) (t : Mt) (hh : List (Nat × Nat × Nat × Nat)) (w : Wd) (av : List VV) (sg : Sg) (post : Option VV → Wd → Sg → Prop) : Prop :=
  Met l (mY t) (Cond.codeWith (mY t) (mB t) (mL t) (mT t) hh :: gTBL) (mRm t) (PmX w av sg) (QL w post) (mC t) (mS t) (wF w)
def CT (s : State) (c : Code) (w : Wd) (hh : List (Nat × Nat × Nat × Nat)) : Prop := WX w s ∧ c.exceptionTable.toList = tableOf hh
section FLATT
variable {p : Program} {l : Launch} {e : Env} {R : Room} {s : State} {m : MethodId} {args : Array Value} {below : List Frame} {meth : Method} {c : Code} {Q : State → Prop} {t : Mt} {w : Wd} {cs sl pc nx : Nat} {loc : List (Option VV)} {st : List VV} {sg : Sg} {hh : List (Nat × Nat × Nat × Nat)}
theorem V_last (hC : Cx p R s m args meth c t w) {len k : Nat} {x : Int32} {y : Int64} (j : Nat) (hj : x.toNatClampNeg = j) (hd : Dk t pc .lastore 1 nx) (hin : vp_in x len) (kk : V p l e R s m args below meth c t (setL w k j y) Q cs sl nx loc st sg) : V p l e R s m args below meth c t w Q cs sl pc loc (vL y :: vI x :: vR (some (13, len, k)) :: st) sg := by
  subst hj
  intro H locs ls hP hS hL hO
  obtain ⟨hd, rfl⟩ := hd
  obtain ⟨hx, hb, hml, hown, hts, -, -, -, hW⟩ := hC
  obtain ⟨hk, hK⟩ := okr_in (ok0 (ok1 (ok1 hO))) (by omega)
  refine va_last hx hb hW.1 hP.1 hP.2 hS k 3 (by rw [wws_at hk, cE_rowL hK]) rfl hin hd (fun H1 locs1 h1 h2 h3 => ?_)
  have hset := wws_setL (sg := sg) (j := x.toNatClampNeg) (y := y) hk hK
  have h1' : va_P (wD w) gcl (wws (setL w k x.toNatClampNeg y) sg) H1 := hset ▸ h1
  have h2' : va_D (wF w) (wws (setL w k x.toNatClampNeg y) sg) := hset ▸ h2
  exact kk H1 locs1 ls ⟨h1', h2'⟩ h3 hL (ok1 (ok1 (ok1 hO)))
theorem MT_of {av : List VV} {post : Option VV → Wd → Sg → Prop} (loc : List (Option VV)) (hl : largs av (mL t) = loc) (hlen : (av.map catV).sum ≤ mL t) (hy : plainName (mY t).cls = true)
    (body : ∀ p e s m args below meth c, Cx p (mRm t) s m args meth c t w → CT s c w hh → (∀ v ∈ av, okv w v) → V p l e (mRm t) s m args below meth c t w (MQ below (QL w post) args s (mC t) (mS t) (wF w)) 0 0 0 loc [] sg) : MT l t hh w av sg post := by
  subst hl
  refine va_MetW (hh := hh) (cc := mB t) (maxL := mL t) (ret := mT t) hy rfl ?_
  intro p e s m args below meth c s₁ B hml hv
  obtain ⟨rfl, ⟨hW, hP, ho⟩, hWX⟩ := hv
  have hts := atoms_spec (ws := Cond.codeWith (mY t) (mB t) (mL t) (mT t) hh :: gTBL) B.pre
  have hC : Cx p (mRm t) s m (av.map (den w)).toArray meth c t w := ⟨B.exec, B.bytes, hml, findClass_of_methodNamed B.named, fun q hq => hts q (List.mem_cons_of_mem _ hq), B.notSynchronized, B.returns, rfl, hW⟩
  rw [lg_entry_eq]
  exact body p e s m _ below meth c hC ⟨hWX, vx_table (x := mY t) B (hts _ List.mem_cons_self)⟩ ho s.heap [] _ hP va_S.rf (Lk.start hlen ho) (fun _ h => absurd h List.not_mem_nil)
theorem V_iretL {w0 : Wd} {post : Option VV → Wd → Sg → Prop} (hC : Cx p R s m args meth c t w) (hw : wB w = wB w0) (hT : mT t = some .int) {x : Int32} (hd : Dk t pc .ireturn 1 nx) (hcell : cs ≤ mC t ∧ sl ≤ mS t) (hp : post (some (vI x)) w sg) : V p l e R s m args below meth c t w (MQ below (QL w0 post) args s (mC t) (mS t) (wF w0)) cs sl pc loc [vI x] sg := by
  refine V_wd hcell ?_
  intro H locs ls hP hS hL hO
  obtain ⟨hd, rfl⟩ := hd
  obtain ⟨hx, hb, hml, hown, hts, hlk, hr, -, hW⟩ := hC
  have hS' : va_S (wF w0) s.heap H locs := by
    have e : wF w0 = wF w := by funext q; show (wB w0 ≤ q) = (wB w ≤ q); rw [hw]
    rw [e]; exact hS
  exact W.iret hx hb (hr.trans hT) (fun u hu hw => ⟨⟨some (vI x), w, sg, rfl, hp, by rw [hu]; exact hP⟩, hS'.F hu⟩) hS'.2.2 hd hlk
theorem VX_catn {i : Fin 4} {E : String} {hp : Nat} (hC : Cx p R s m args meth c t w) (hX : CT s c w hh) (pre suf : List (Nat × Nat × Nat × Nat)) (x : Nat × Nat × Nat × Nat) (hsplit : hh = pre ++ x :: suf) (hE : E ∈ xCl) (hpass : ∀ z ∈ pre, ¬ z.2.2.2 = 0 ∧ ∃ nm : String, nm ∈ xCl ∧ Cond.classLink (mY t).cls z.2.2.2 nm ∈ lw_tbl ∧ E ≠ nm) (hx : x.1 ≤ pc ∧ pc < x.2.1) (h0 : ¬ x.2.2.2 = 0) (hlink : Cond.classLink (mY t).cls x.2.2.2 E ∈ lw_tbl) (hhp : x.2.2.1 = hp) (hd : Dk t hp (.astore_n i) 1 nx) (hn : (i : Nat) < mL t) (k : V p l e R s m args below meth c t w Q cs sl nx [] [] sg) : VX p l e R s m args below meth c t w Q cs sl pc loc st sg E := by
  intro H locs ls q ce hP hS hL hO hce hcv hcl
  obtain ⟨hd, rfl⟩ := hd
  obtain ⟨hx0, hb, hml, hown, hts, hlk, hr, hR, hW⟩ := hC
  obtain ⟨⟨-, hw1, hw2⟩, htab⟩ := hX
  subst hhp
  have hcast : (Cond.castable E E).before args s = true := xWd_go (List.mem_append_left _ (List.mem_map.mpr ⟨E, hE, rfl⟩)) (Vm.Alike.refl s.vm) (hw1 _ (List.mem_append_left _ (List.mem_map.mpr ⟨E, hE, rfl⟩)))
  refine vx_catch (own := (mY t).cls) (name := E) (E := E) (ce := ce) (q := q) hown (tableOf pre) (rowOf x) (tableOf suf) (by rw [htab, hsplit]; simp [tableOf, rowOf]) (fun z hz => ?_) ?_ h0 (hts _ (mem_gTBL hlink rfl)) hcast hce hcv hcl ?_
  · obtain ⟨z', hz', rfl⟩ := List.mem_map.mp hz
    obtain ⟨g0, nm, g1, g2, g3⟩ := hpass z' hz'
    exact Or.inr ⟨g0, nm, hts _ (mem_gTBL g2 rfl), hw2 E hE nm g1 g3⟩
  · simp [covers, rowOf, hx.1, hx.2]
  · exact lv_astore_n hx0 hb hd rfl hL.has hn rfl (fun ls' h' => k H locs ls' hP hS ⟨h'.1, h'.2.1, fun i v h => by simp at h⟩ (fun _ h => absurd h List.not_mem_nil))
theorem VX_cat {i : Nat} {E : String} {hp : Nat} (hC : Cx p R s m args meth c t w) (hX : CT s c w hh) (pre suf : List (Nat × Nat × Nat × Nat)) (x : Nat × Nat × Nat × Nat) (hsplit : hh = pre ++ x :: suf) (hE : E ∈ xCl) (hpass : ∀ z ∈ pre, ¬ z.2.2.2 = 0 ∧ ∃ nm : String, nm ∈ xCl ∧ Cond.classLink (mY t).cls z.2.2.2 nm ∈ lw_tbl ∧ E ≠ nm) (hx : x.1 ≤ pc ∧ pc < x.2.1) (h0 : ¬ x.2.2.2 = 0) (hlink : Cond.classLink (mY t).cls x.2.2.2 E ∈ lw_tbl) (hhp : x.2.2.1 = hp) (hd : Dk t hp (.astore i) 2 nx) (hn : (i : Nat) < mL t) (k : V p l e R s m args below meth c t w Q cs sl nx [] [] sg) : VX p l e R s m args below meth c t w Q cs sl pc loc st sg E := by
  intro H locs ls q ce hP hS hL hO hce hcv hcl
  obtain ⟨hd, rfl⟩ := hd
  obtain ⟨hx0, hb, hml, hown, hts, hlk, hr, hR, hW⟩ := hC
  obtain ⟨⟨-, hw1, hw2⟩, htab⟩ := hX
  subst hhp
  have hcast : (Cond.castable E E).before args s = true := xWd_go (List.mem_append_left _ (List.mem_map.mpr ⟨E, hE, rfl⟩)) (Vm.Alike.refl s.vm) (hw1 _ (List.mem_append_left _ (List.mem_map.mpr ⟨E, hE, rfl⟩)))
  refine vx_catch (own := (mY t).cls) (name := E) (E := E) (ce := ce) (q := q) hown (tableOf pre) (rowOf x) (tableOf suf) (by rw [htab, hsplit]; simp [tableOf, rowOf]) (fun z hz => ?_) ?_ h0 (hts _ (mem_gTBL hlink rfl)) hcast hce hcv hcl ?_
  · obtain ⟨z', hz', rfl⟩ := List.mem_map.mp hz
    obtain ⟨g0, nm, g1, g2, g3⟩ := hpass z' hz'
    exact Or.inr ⟨g0, nm, hts _ (mem_gTBL g2 rfl), hw2 E hE nm g1 g3⟩
  · simp [covers, rowOf, hx.1, hx.2]
  · exact lv_astore hx0 hb hd hL.has hn rfl (fun ls' h' => k H locs ls' hP hS ⟨h'.1, h'.2.1, fun i v h => by simp at h⟩ (fun _ h => absurd h List.not_mem_nil))
end FLATT
