/-! methods that return or throw: the string constants, the throwable's statics, contracts, the rows of throw and call -/
def sTX : List (Nat × String) := [(106, "what is 0 to 9"), (117, "no such lighthouse"), (122, "what is 0 to 8"), (129, "no such boat"), (147, "no such place"), (149, "what is 0 or 1"), (160, "what is 0 to 3"), (212, "no such setting, or not a value of it"), (220, "n is 1 to 60"), (228, "no state is remembered"), (265, "k is negative"), (296, "m is 1 to 60"), (314, "a save slot is 0 or 1"), (323, "nothing has been saved in the slot"), (328, "no such lighthouse, boat or place"), (330, "an argument is out of its range"), (332, "there are too many, or nothing serves the boat")]
def xNm : List String := ["java/lang/RuntimeException", "java/lang/Exception"]
def thC (cls : String) (ik ic : Nat) : Prop := (cls = "java/lang/IllegalArgumentException" ∧ ik = 33 ∧ ic = 37) ∨ (cls = "java/lang/IllegalStateException" ∧ ik = 44 ∧ ic = 48) ∨ (cls = "java/lang/IndexOutOfBoundsException" ∧ ik = 115 ∧ ic = 119)
def thL (cls : String) (ik ic : Nat) : List Cond := Cond.classLink "LanternBoats" ik cls :: Cond.initialized cls :: vx_atS "LanternBoats" ic cls xNm
def xCl : List String := ["java/lang/IllegalArgumentException", "java/lang/IllegalStateException", "java/lang/IndexOutOfBoundsException"]
def xWd : List Cond := xCl.map (fun c => Cond.castable c c) ++ (xNm ++ [Bundle.tN]).map (fun c => Cond.declares (Bundle.initS c))
theorem xWd_face : ∀ q ∈ xWd, (q.faceAtom && q.onTables) = true := by decide +kernel
theorem xWd_go {q : Cond} (hq : q ∈ xWd) {u U : State} {a a' : Array Value} (hA : u.vm.Alike U.vm) (h : q.before a u = true) : q.before a' U = true := by
  have h1 := xWd_face q hq
  rw [Bool.and_eq_true] at h1
  have h2 := Cond.faceAtom_setVm hA q h1.1 h
  rw [Cond.onTables_vm (A' := a') (U' := U) U.vm q h1.2] at h2
  exact h2
def thOk (cls : String) (ik ic : Nat) : Prop := (∀ q ∈ thL cls ik ic, (decide (q ∈ xWd) || decide (q ∈ gTBL)) = true) ∧ Bundle.fit cls = true
theorem thOk1 : thOk "java/lang/IllegalArgumentException" 33 37 := ⟨by decide +kernel, by decide +kernel⟩
theorem thOk2 : thOk "java/lang/IllegalStateException" 44 48 := ⟨by decide +kernel, by decide +kernel⟩
theorem thOk3 : thOk "java/lang/IndexOutOfBoundsException" 115 119 := ⟨by decide +kernel, by decide +kernel⟩
theorem xNm_fit : ∀ n ∈ xNm, Bundle.fit n = true := by decide +kernel
theorem thC_ok {cls : String} {ik ic : Nat} (h : thC cls ik ic) : thOk cls ik ic := by
  rcases h with ⟨rfl, rfl, rfl⟩ | ⟨rfl, rfl, rfl⟩ | ⟨rfl, rfl, rfl⟩
  · exact thOk1
  · exact thOk2
  · exact thOk3
theorem thW {cls : String} {ik ic : Nat} (h : thC cls ik ic) : ∀ q ∈ thL cls ik ic, q ∈ xWd ∨ q ∈ gTBL := fun q hq => by
  have h1 := (thC_ok h).1 q hq
  rw [Bool.or_eq_true] at h1
  exact h1.imp of_decide_eq_true of_decide_eq_true
theorem thC_in {cls : String} {ik ic : Nat} (h : thC cls ik ic) : cls ∈ xCl := by
  rcases h with ⟨rfl, -, -⟩ | ⟨rfl, -, -⟩ | ⟨rfl, -, -⟩ <;> simp [xCl]
def WX0 (w : Wd) (U : State) : Prop := vx_Zq Bundle.tN "UNASSIGNED_STACK" Bundle.steD (wF w) U U.heap ∧ vx_Zq Bundle.tN "SUPPRESSED_SENTINEL" Bundle.listD (wF w) U U.heap ∧ ∀ q ∈ sTX, ∃ sa, vk_R "LanternBoats" q.1 q.2 sa U
/-- the law's script lies where it lay -/
def Sc (w : Wd) (U : State) : Prop := ∃ (L : Nat) (xs : Nat → Int32), L < 2 ^ 31 ∧ va_X (wA w 2000000) L xs U U.heap ∧ wA w 2000000 < U.heap.size ∧ wA w 2000000 < wB w
theorem Sc.go {w : Wd} {s U : State} {H : Heap} {locs : List Loc} (h : Sc w s) (hW : s.WarmedH U.vm) (hH : U.heap = H) (hS : va_S (wF w) s.heap H locs) : Sc w U := by
  obtain ⟨L, xs, h1, h2, h3, h4⟩ := h
  subst hH
  have e := hS.2.1 _ h3 (show ¬ wB w ≤ wA w 2000000 by omega)
  refine ⟨L, xs, h1, (va_X.moved hW.alike h2).kept e, ?_, h4⟩
  rw [Array.getElem?_eq_getElem h3] at e
  exact (Array.getElem?_eq_some_iff.mp e).1
theorem Sc.calling {w : Wd} {U : State} {g : JFrame} {mk : MethodId} {a : Array Value} (h : Sc w U) : Sc w (U.calling g mk a) := by
  obtain ⟨L, xs, h1, h2, h3, h4⟩ := h
  exact ⟨L, xs, h1, va_X.moved (u := U) (U := U.calling g mk a) (Vm.Alike.refl U.vm) h2, h3, h4⟩
def WX (w : Wd) (U : State) : Prop := WX0 w U ∧ (∀ q ∈ xWd, q.before #[] U = true) ∧ Sc w U
theorem WX0.go {w : Wd} {s U : State} {H : Heap} {locs : List Loc} (h : WX0 w s) (hW : s.WarmedH U.vm) (hH : U.heap = H) (hS : va_S (wF w) s.heap H locs) : WX0 w U := by
  obtain ⟨h1, h2, h3⟩ := h
  subst hH
  have hk : ∀ a : Nat, a < s.heap.size → ¬ wF w a → U.heap[a]? = s.heap[a]? := fun a h1 h2 => hS.2.1 a h1 h2
  exact ⟨(vx_Zq.moved hW.alike h1).kept hk, (vx_Zq.moved hW.alike h2).kept hk, fun q hq => (h3 q hq).elim fun sa h => ⟨sa, vk_R.warm hW h⟩⟩
theorem WX0.calling {w : Wd} {U : State} {g : JFrame} {mk : MethodId} {a : Array Value} (h : WX0 w U) : WX0 w (U.calling g mk a) :=
  ⟨vx_Zq.moved (u := U) (U := U.calling g mk a) (Vm.Alike.refl U.vm) h.1, vx_Zq.moved (u := U) (U := U.calling g mk a) (Vm.Alike.refl U.vm) h.2.1, fun q hq => (h.2.2 q hq).elim fun sa h => ⟨sa, vk_R.same (u := U) (U := U.calling g mk a) rfl h⟩⟩
theorem WX.go {w : Wd} {s U : State} {H : Heap} {locs : List Loc} (h : WX w s) (hW : s.WarmedH U.vm) (hH : U.heap = H) (hS : va_S (wF w) s.heap H locs) : WX w U := ⟨h.1.go hW hH hS, fun q hq => xWd_go hq hW.alike (h.2.1 q hq), h.2.2.go hW hH hS⟩
theorem WX.calling {w : Wd} {U : State} {g : JFrame} {mk : MethodId} {a : Array Value} (h : WX w U) : WX w (U.calling g mk a) := ⟨h.1.calling, fun q hq => xWd_go hq (u := U) (U := U.calling g mk a) (Vm.Alike.refl U.vm) (h.2.1 q hq), h.2.2.calling⟩
def XC (w : Wd) (px : String → Sg → Prop) : String → State → State → Prop := fun E st t => (∃ sg', px E sg' ∧ Wp w sg' t.heap) ∧ va_F (wF w) st t
def PmX (w : Wd) (av : List VV) (sg : Sg) : Array Value → State → Prop := va_Pc (av.map (den w)) (fun U => (Ws w U ∧ Wp w sg U.heap ∧ ∀ v ∈ av, okv w v) ∧ WX w U)
theorem PmX_blind {w : Wd} {av : List VV} {sg : Sg} : FrameBlind (PmX w av sg) := fun _ _ _ _ h => ⟨h.1, ⟨h.2.1.1.calling, h.2.1.2⟩, h.2.2.calling⟩
def MX (l : Launch) (t : Mt) (w : Wd) (av : List VV) (sg : Sg) (post : Option VV → Sg → Prop) (px : String → Sg → Prop) : Prop :=
  vx_Met l (mY t) (mWs t) (mRm t) (PmX w av sg) (Qm w w post) (XC w px) (mC t) (mS t) (wF w)
def CX (l : Launch) (s : State) (c : Code) (w : Wd) : Prop := WX w s ∧ (∀ x ∈ c.exceptionTable.toList, False) ∧ l.stackTraces = false
theorem Wp.grown {w : Wd} {sg : Sg} {H H1 : Heap} (h : Wp w sg H) (hk : ∀ q : Nat, q < H.size → H1[q]? = H[q]?) : Wp w sg H1 := ⟨h.1.kept (fun _ _ hq => hk _ (vx_lt h.1 hq)), h.2⟩
/-- from here, with an exception of the class E thrown -/
def VX (p : Program) (l : Launch) (e : Env) (R : Room) (s : State) (m : MethodId) (args : Array Value) (below : List Frame) (meth : Method) (c : Code) (t : Mt) (w : Wd) (Q : State → Prop) (cs sl pc : Nat) (loc : List (Option VV)) (st : List VV) (sg : Sg) (E : String) : Prop :=
  ∀ (H : Heap) (locs : List Loc) (ls : Array Slot) (q : Addr) (ce : Cell), Wp w sg H → va_S (wF w) s.heap H locs → Lk w (mL t) ls loc → (∀ v ∈ st, okv w v) → H[q]? = some ce → ce.vm = .none → s.vm.findClass E = some ce.cls → vx_W p l e R s m args below meth c H locs cs sl Q (F0 m pc ls (st.map (den w))) q
section FLATX
variable {p : Program} {l : Launch} {e : Env} {R : Room} {s : State} {m : MethodId} {args : Array Value} {below : List Frame} {meth : Method} {c : Code} {Q : State → Prop} {t : Mt} {w : Wd} {cs sl pc nx : Nat} {loc : List (Option VV)} {st : List VV} {sg : Sg}
theorem MX_of {av : List VV} {post : Option VV → Sg → Prop} {px : String → Sg → Prop} (hl0 : l.stackTraces = false) (loc : List (Option VV)) (hl : largs av (mL t) = loc) (hlen : (av.map catV).sum ≤ mL t) (hy : plainName (mY t).cls = true)
    (body : ∀ p e s m args below meth c, Cx p (mRm t) s m args meth c t w → CX l s c w → (∀ v ∈ av, okv w v) → V p l e (mRm t) s m args below meth c t w (vx_MQ below (Qm w w post) (XC w px) args s (mC t) (mS t) (wF w)) 0 0 0 loc [] sg) : MX l t w av sg post px := by
  subst hl
  refine vx_ofW (cc := mB t) (maxL := mL t) (ret := mT t) hy rfl ?_
  intro p e s m args below meth c s₁ B hml ht hv
  obtain ⟨rfl, ⟨hW, hP, ho⟩, hWX⟩ := hv
  have hts := atoms_spec (ws := mWs t) B.pre
  have hC : Cx p (mRm t) s m (av.map (den w)).toArray meth c t w := ⟨B.exec, B.bytes, hml, findClass_of_methodNamed B.named, fun q hq => hts q (List.mem_cons_of_mem _ hq), B.notSynchronized, B.returns, rfl, hW⟩
  rw [lg_entry_eq]
  exact body p e s m _ below meth c hC ⟨hWX, ht, hl0⟩ ho s.heap [] _ hP va_S.rf (Lk.start hlen ho) (fun _ h => absurd h List.not_mem_nil)
theorem V_retX {Qc : Array Value → State → Outcome → State → Prop} {Xc : String → State → State → Prop} {mc ms : Nat} {free : Addr → Prop} (k : V p l e R s m args below meth c t w (MQ below Qc args s mc ms free) cs sl pc loc st sg) : V p l e R s m args below meth c t w (vx_MQ below Qc Xc args s mc ms free) cs sl pc loc st sg := fun H locs ls a b cc d => vx_ret (k H locs ls a b cc d)
theorem VX_out {post : Option VV → Sg → Prop} {px : String → Sg → Prop} {E : String} (hC : Cx p R s m args meth c t w) (hX : CX l s c w) (hp : px E sg) (hcell : cs ≤ mC t ∧ sl ≤ mS t) : VX p l e R s m args below meth c t w (vx_MQ below (Qm w w post) (XC w px) args s (mC t) (mS t) (wF w)) cs sl pc loc st sg E := by
  intro H locs ls q ce hP hS hL hO hce hcv hcl
  obtain ⟨hx, hb, hml, hown, hts, hlk, hr, hR, hW⟩ := hC
  exact vx_out (fun x h => (hX.2.1 x h).elim) hlk hce hcv hcl (fun t' ht hA => ⟨⟨sg, hp, by rw [ht]; exact hP⟩, hS.F ht⟩) hS.2.2 hcell.1 hcell.2
theorem V_thS {post : Option VV → Sg → Prop} {px : String → Sg → Prop} (hC : Cx p R s m args meth c t w) (hX : CX l s c w) {ik is ic n1 n2 n3 n4 n5 : Nat} {cls text : String} (hcl : thC cls ik ic) (htx : (is, text) ∈ sTX) (hown : (mY t).cls = "LanternBoats") (hd0 : Dk t pc (.new ik) 3 n1) (hd1 : Dk t n1 .dup 1 n2) (hd2 : Dk t n2 (.ldc is) 2 n3) (hd3 : Dk t n3 (.invokespecial ic) 3 n4) (hd4 : Dk t n4 .athrow 1 n5) (hR : 5 < mF t ∧ (st.map catV).sum + 82 ≤ mO t) (hcell : cs + 1 ≤ mC t ∧ sl + 6 ≤ mS t) (hp : px cls sg) : V p l e R s m args below meth c t w (vx_MQ below (Qm w w post) (XC w px) args s (mC t) (mS t) (wF w)) cs sl pc loc st sg := by
  intro H locs ls hP hS hL hO
  obtain ⟨hd0, rfl⟩ := hd0
  obtain ⟨hd1, rfl⟩ := hd1
  obtain ⟨hd2, rfl⟩ := hd2
  obtain ⟨hd3, rfl⟩ := hd3
  obtain ⟨hd4, rfl⟩ := hd4
  obtain ⟨hx, hb, hml, ho, hts, hlk, hr, rfl, hW⟩ := hC
  obtain ⟨⟨⟨hU, hN, hT⟩, hca, -⟩, hE, hl0⟩ := hX
  obtain ⟨sa, hsa⟩ := hT _ htx
  rw [hown] at ho
  have hq := thW hcl
  have hb4 : ∀ q ∈ thL cls ik ic, q.before args s = true := fun q h => (hq q h).elim (fun z => xWd_go z (Vm.Alike.refl s.vm) (hca q z)) (hts q)
  exact vx_throwS (names := xNm) (ik := ik) (is := is) (ic := ic) (text := text) (sa := sa) (A := wF w) hx hb hl0 ho (thC_ok hcl).2 xNm_fit (hb4 _ List.mem_cons_self) (hb4 _ (List.mem_cons_of_mem _ List.mem_cons_self)) hsa (fun q h => hb4 q (List.mem_cons_of_mem _ (List.mem_cons_of_mem _ h)))
    (fun q h => (hq q h).elim (fun z => by have h1 := xWd_face q z; rw [Bool.and_eq_true] at h1; rw [vx_ot, h1.2, Bool.true_or]) (fun z => by rw [vx_ot, (List.mem_filter.mp z).2, Bool.or_true])) hU hN hS (hL.1.trans hml.symm) hd0 hd1 hd2 hd3 hd4 (fun x h => (hE x h).elim) hR.1 (by
      have h1 := hR.2
      show _ + (13 * (2 + 1) + 43) ≤ mO t
      rw [catV_sum]
      omega) hcell.1 hcell.2 hlk (fun t' hA hz hk => ⟨⟨sg, hp, hP.grown hk⟩, Nat.le_trans hS.1 hz, fun q h1 h2 => by rw [hk q (Nat.lt_of_lt_of_le h1 hS.1)]; exact hS.2.1 q h1 h2⟩) hS.2.2 hcell.1 hcell.2
theorem V_thW {post : Option VV → Sg → Prop} {px : String → Sg → Prop} (hC : Cx p R s m args meth c t w) (hX : CX l s c w) {ik is ic n1 n2 n3 n4 n5 : Nat} {cls text : String} (hcl : thC cls ik ic) (htx : (is, text) ∈ sTX) (hown : (mY t).cls = "LanternBoats") (hd0 : Dk t pc (.new ik) 3 n1) (hd1 : Dk t n1 .dup 1 n2) (hd2 : Dk t n2 (.ldc_w is) 3 n3) (hd3 : Dk t n3 (.invokespecial ic) 3 n4) (hd4 : Dk t n4 .athrow 1 n5) (hR : 5 < mF t ∧ (st.map catV).sum + 82 ≤ mO t) (hcell : cs + 1 ≤ mC t ∧ sl + 6 ≤ mS t) (hp : px cls sg) : V p l e R s m args below meth c t w (vx_MQ below (Qm w w post) (XC w px) args s (mC t) (mS t) (wF w)) cs sl pc loc st sg := by
  intro H locs ls hP hS hL hO
  obtain ⟨hd0, rfl⟩ := hd0
  obtain ⟨hd1, rfl⟩ := hd1
  obtain ⟨hd2, rfl⟩ := hd2
  obtain ⟨hd3, rfl⟩ := hd3
  obtain ⟨hd4, rfl⟩ := hd4
  obtain ⟨hx, hb, hml, ho, hts, hlk, hr, rfl, hW⟩ := hC
  obtain ⟨⟨⟨hU, hN, hT⟩, hca, -⟩, hE, hl0⟩ := hX
  obtain ⟨sa, hsa⟩ := hT _ htx
  rw [hown] at ho
  have hq := thW hcl
  have hb4 : ∀ q ∈ thL cls ik ic, q.before args s = true := fun q h => (hq q h).elim (fun z => xWd_go z (Vm.Alike.refl s.vm) (hca q z)) (hts q)
  exact vx_throwSW (names := xNm) (ik := ik) (is := is) (ic := ic) (text := text) (sa := sa) (A := wF w) hx hb hl0 ho (thC_ok hcl).2 xNm_fit (hb4 _ List.mem_cons_self) (hb4 _ (List.mem_cons_of_mem _ List.mem_cons_self)) hsa (fun q h => hb4 q (List.mem_cons_of_mem _ (List.mem_cons_of_mem _ h)))
    (fun q h => (hq q h).elim (fun z => by have h1 := xWd_face q z; rw [Bool.and_eq_true] at h1; rw [vx_ot, h1.2, Bool.true_or]) (fun z => by rw [vx_ot, (List.mem_filter.mp z).2, Bool.or_true])) hU hN hS (hL.1.trans hml.symm) hd0 hd1 hd2 hd3 hd4 (fun x h => (hE x h).elim) hR.1 (by
      have h1 := hR.2
      show _ + (13 * (2 + 1) + 43) ≤ mO t
      rw [catV_sum]
      omega) hcell.1 hcell.2 hlk (fun t' hA hz hk => ⟨⟨sg, hp, hP.grown hk⟩, Nat.le_trans hS.1 hz, fun q h1 h2 => by rw [hk q (Nat.lt_of_lt_of_le h1 hS.1)]; exact hS.2.1 q h1 h2⟩) hS.2.2 hcell.1 hcell.2
theorem W_ofRunX {mc ms : Nat} {H : Heap} {locs : List Loc} {ls : Array Slot} {st0 rest : List Value} {a : Array Value} {post : Option VV → Sg → Prop} {px : String → Sg → Prop} (hr : vx_Run p l e R s m args below meth c H locs cs sl mc ms (F0 m pc ls st0) rest (Qm w w post a) (XC w px) (wF w)) (hS : va_S (wF w) s.heap H locs)
    (kx : ∀ (E : String) (ce : Cell) (q9 : Addr) (sg' : Sg) (H1 : Heap) (locs1 : List Loc), px E sg' → Wp w sg' H1 → va_S (wF w) s.heap H1 locs1 → H1[q9]? = some ce → ce.vm = .none → s.vm.findClass E = some ce.cls → vx_W p l e R s m args below meth c H1 locs1 (cs + mc) (sl + ms) Q (F0 m pc ls rest) q9)
    (kk : ∀ (r : Option VV) (sg' : Sg) (H1 : Heap) (locs1 : List Loc), (∀ v, r = some v → okv w v) → post r sg' → Wp w sg' H1 → va_S (wF w) s.heap H1 locs1 → W p l e R s m args below meth c H1 locs1 (cs + mc) (sl + ms) Q (F0 m (pc + 3) ls ((r.map (den w)).toList ++ rest))) : W p l e R s m args below meth c H locs cs sl Q (F0 m pc ls st0) := by
  intro T hT X
  rcases hr T hT X with ⟨v, st₀, u, T', L, h0, X', hL, e1, e2, ⟨⟨r, sg', hv, ho, hp, hW⟩, hF⟩, hst⟩ | ⟨q, st₀, u, T', L, E, ce, h0, X', hL, e1, e2, ⟨⟨sg', hp, hW⟩, hF⟩, hce, hcv, hcl, hst⟩
  · cases hv
    obtain ⟨k1, k2, k3⟩ := vx_keep h0 e1 hS (fun _ _ h => h) (fun _ h => h) hL hF
    obtain ⟨t2, a1, b1⟩ := kk r sg' T'.heap (locs ++ L) ho hp (by rw [e1]; exact hW) k3 T' rfl X'
    exact ⟨t2, hst t2 a1, b1⟩
  · obtain ⟨k1, k2, k3⟩ := vx_keep h0 e1 hS (fun _ _ h => h) (fun _ h => h) hL hF
    obtain ⟨t2, a1, b1⟩ := kx E ce q sg' T'.heap (locs ++ L) hp (by rw [e1]; exact hW) k3 (by rw [e1]; exact hce) hcv hcl T' rfl X'
    exact ⟨t2, hst.trans a1, b1⟩
theorem V_invVX {t' : Mt} {n : Nat} {idx : Nat} {ci len k : Nat} {av rest : List VV} {post : Option VV → Sg → Prop} {px : String → Sg → Prop} (hC : Cx p R s m args meth c t w) (hX : WX w s) (hM : MX l t' w (vR (some (ci, len, k)) :: av) sg post px) (hmk : MkV t' n) (hlk : Cond.methodLink (mY t).cls idx (mY t') ∈ lw_tbl) (hd : Dk t pc (.invokevirtual idx) 3 nx) (hci : ci < 6) (hcls : gC ci = (mY t').cls) (hn : av.length = n) (hst : st = av.reverse ++ vR (some (ci, len, k)) :: rest) (hroom : (rest.map catV).sum ≤ 8) (hR : mF t' + 1 ≤ mF t ∧ 8 + (mL t' + 11) + mO t' ≤ mO t) (hcell : cs + mC t' ≤ mC t ∧ sl + mS t' ≤ mS t)
    (kx : ∀ E sg', px E sg' → VX p l e R s m args below meth c t w Q (cs + mC t') (sl + mS t') pc loc rest sg' E)
    (kk : ∀ r sg', post r sg' → V p l e R s m args below meth c t w Q (cs + mC t') (sl + mS t') nx loc (r.toList ++ rest) sg') : V p l e R s m args below meth c t w Q cs sl pc loc st sg := by
  intro H locs ls hP hS hL hO
  obtain ⟨hd, rfl⟩ := hd
  obtain ⟨hx, hb, hml, hown, hts, hlks, hr, rfl, hW⟩ := hC
  obtain ⟨hc1, hc2, hc3, hc4, hc5⟩ := hmk
  subst hst
  have hor : ∀ v ∈ vR (some (ci, len, k)) :: av, okv w v := by
    intro v hv
    rcases List.mem_cons.mp hv with rfl | hv
    · exact hO _ (by simp)
    · exact hO _ (by simp [hv])
  have hrest : ∀ v ∈ rest, okv w v := fun v hv => hO v (by simp [hv])
  have hstk : ((av.reverse ++ vR (some (ci, len, k)) :: rest).map (den w)) = (av.map (den w)).reverse ++ .ref (wA w k) :: rest.map (den w) := by simp [den]
  have hpre : PreV s H (mY t').cls (wA w k) (PmX w (vR (some (ci, len, k)) :: av) sg) (av.map (den w)) := by
    refine ⟨PmX_blind, ?_, fun U hU hWU => ⟨rfl, ⟨hW.go hWU hU hS, by rw [hU]; exact hP, hor⟩, hX.go hWU hU hS⟩⟩
    rw [← hcls]
    exact Wp_recv hW hP hci (hor _ List.mem_cons_self)
  have hsel : (Cond.selects (mY t').cls (mY t') (mY t')).before args s = true := hts _ (mem_gTBL hc3 rfl)
  have hins : (Cond.instanceMethod (mY t')).before args s = true := hts _ (mem_gTBL hc2 rfl)
  have hlen : (av.map (den w)).length = n := by rw [List.length_map]; exact hn
  have hrun : vx_Run p l e (mRm t) s m args below meth c H locs cs sl (mC t') (mS t') (F0 m pc ls ((av.reverse ++ vR (some (ci, len, k)) :: rest).map (den w))) (rest.map (den w)) (Qm w w post (Value.ref (wA w k) :: av.map (den w)).toArray) (XC w px) (wF w) :=
    vx_runV ⟨hx, hb, hml, hown, hts⟩ hM ⟨callB_of n hts (mWs_good (t := t) hc1) rfl rfl rfl (hts _ (mem_gTBL hc4 rfl)) (hts _ (mem_gTBL hlk rfl)) hc5 hR, hins, hsel⟩ hpre rfl hlen hL.1 hstk (rest_room hroom) hd hcell
  refine W_ofRunX hrun hS (fun E ce q9 sg' H1 locs1 hp hP1 hS1 h1 h2 h3 => kx E sg' hp H1 locs1 ls q9 ce hP1 hS1 hL hrest h1 h2 h3) (fun r sg' H1 locs1 ho hp hP1 hS1 => ?_)
  have h := kk r sg' hp H1 locs1 ls hP1 hS1 hL (by
    intro v hv
    rcases List.mem_append.mp hv with hv | hv
    · exact ho v (by simpa using hv)
    · exact hrest v hv)
  rw [List.map_append] at h
  cases r <;> exact h
theorem V_invSX {t' : Mt} {n : Nat} {idx : Nat} {av rest : List VV} {post : Option VV → Sg → Prop} {px : String → Sg → Prop} (hC : Cx p R s m args meth c t w) (hX : WX w s) (hM : MX l t' w av sg post px) (hmk : MkS t' n) (hlk : Cond.methodLink (mY t).cls idx (mY t') ∈ lw_tbl) (hd : Dk t pc (.invokestatic idx) 3 nx) (hn : av.length = n) (hst : st = av.reverse ++ rest) (hroom : (rest.map catV).sum ≤ 8) (hR : mF t' + 1 ≤ mF t ∧ 8 + (mL t' + 11) + mO t' ≤ mO t) (hcell : cs + mC t' ≤ mC t ∧ sl + mS t' ≤ mS t)
    (kx : ∀ E sg', px E sg' → VX p l e R s m args below meth c t w Q (cs + mC t') (sl + mS t') pc loc rest sg' E)
    (kk : ∀ r sg', post r sg' → V p l e R s m args below meth c t w Q (cs + mC t') (sl + mS t') nx loc (r.toList ++ rest) sg') : V p l e R s m args below meth c t w Q cs sl pc loc st sg := by
  intro H locs ls hP hS hL hO
  obtain ⟨hd, rfl⟩ := hd
  obtain ⟨hx, hb, hml, hown, hts, hlks, hr, rfl, hW⟩ := hC
  obtain ⟨hc1, hc2, hc4, hc5⟩ := hmk
  subst hst
  have hor : ∀ v ∈ av, okv w v := fun v hv => hO v (by simp [hv])
  have hrest : ∀ v ∈ rest, okv w v := fun v hv => hO v (by simp [hv])
  have hstk : ((av.reverse ++ rest).map (den w)) = (av.map (den w)).reverse ++ rest.map (den w) := by simp
  have hpre : PreS s H (PmX w av sg) (av.map (den w)) := ⟨PmX_blind, fun U hU hWU => ⟨rfl, ⟨hW.go hWU hU hS, by rw [hU]; exact hP, hor⟩, hX.go hWU hU hS⟩⟩
  have hstt : (Cond.static (mY t')).before args s = true := hts _ (mem_gTBL hc2 rfl)
  have hlen : (av.map (den w)).length = n := by rw [List.length_map]; exact hn
  have hrun : vx_Run p l e (mRm t) s m args below meth c H locs cs sl (mC t') (mS t') (F0 m pc ls ((av.reverse ++ rest).map (den w))) (rest.map (den w)) (Qm w w post (av.map (den w)).toArray) (XC w px) (wF w) :=
    vx_runS ⟨hx, hb, hml, hown, hts⟩ hM ⟨callB_of n hts (mWs_good (t := t) hc1) rfl rfl rfl (hts _ (mem_gTBL hc4 rfl)) (hts _ (mem_gTBL hlk rfl)) hc5 hR, hstt⟩ hpre rfl hlen hL.1 hstk (rest_room hroom) hd hcell
  refine W_ofRunX hrun hS (fun E ce q9 sg' H1 locs1 hp hP1 hS1 h1 h2 h3 => kx E sg' hp H1 locs1 ls q9 ce hP1 hS1 hL hrest h1 h2 h3) (fun r sg' H1 locs1 ho hp hP1 hS1 => ?_)
  have h := kk r sg' hp H1 locs1 ls hP1 hS1 hL (by
    intro v hv
    rcases List.mem_append.mp hv with hv | hv
    · exact ho v (by simpa using hv)
    · exact hrest v hv)
  rw [List.map_append] at h
  cases r <;> exact h
end FLATX

