/-! rows of the law's body -/
theorem okr_scr {w : Wd} {len k : Nat} (h : okr w (21, len, k)) : k = 2000000 := by
  unfold okr at h
  rw [if_neg (show ¬ (21 : Nat) = 20 by decide), if_pos (show (21 : Nat) = 21 from rfl)] at h
  exact h
theorem PW_post {o : Nat} {w w1 : Wd} {K : Int32} {f : Int32 → Sg → Prop} {P : Sg → Prop} {r : Option VV} {g : Sg} (h : PW o w K f P r w1 g) : (∃ x, r = some (vI x)) ∧ (w1 = w ∨ ∃ k j y, w1 = setL w k j y) := by
  rcases h with ⟨-, h1, y, h2, -⟩ | ⟨-, h1, h2, -⟩
  · exact ⟨⟨_, h1⟩, Or.inr ⟨_, _, _, h2⟩⟩
  · exact ⟨⟨_, h1⟩, Or.inl h2⟩
theorem PV_post {o : Nat} {w w1 : Wd} {K : Prop} {f : Int32 → Sg → Prop} {P : Sg → Prop} {r : Option VV} {g : Sg} (h : PV o w K f P r w1 g) : (∃ x, r = some (vI x)) ∧ (w1 = w ∨ ∃ k j y, w1 = setL w k j y) := by
  rcases h with ⟨h1, y, h2, -⟩ | ⟨-, h1, h2, -⟩
  · exact ⟨⟨_, h1⟩, Or.inr ⟨_, _, _, h2⟩⟩
  · exact ⟨⟨_, h1⟩, Or.inl h2⟩
theorem lg_same (y : Int64) : lg_cmp y y = 0 := by
  unfold lg_cmp
  simp
/-- what holds all through the law's body -/
def LC (l : Launch) (p : Program) (s : State) (m : MethodId) (args : Array Value) (meth : Method) (c : Code) (L : Nat) (xs : Nat → Int32) (w : Wd) : Prop :=
  Cx p (mRm mtL_law) s m args meth c mtL_law w ∧ WX w s ∧ Wr w ∧ s.heap.size ≤ wB w ∧ va_X (wA w 2000000) L xs s s.heap ∧ wA w 2000000 < s.heap.size ∧ L ≤ 3584 ∧ l.stackTraces = false
theorem LC.go {l : Launch} {p : Program} {s : State} {m : MethodId} {args : Array Value} {meth : Method} {c : Code} {L o : Nat} {xs : Nat → Int32} {w w1 : Wd} (h : LC l p s m args meth c L xs w) (hw : w1 = w ∨ ∃ y, w1 = setL w o 0 y) : LC l p s m args meth c L xs w1 := by
  rcases hw with rfl | ⟨y, rfl⟩
  · exact h
  · exact h
abbrev lloc (i : Int32) (a b : Option VV) : List (Option VV) := [some (vR (some (21, 0, 2000000))), some (vR (some (5, 0, 0))), some (vR (some (6, 0, 331))), some (vR (some (13, 1, 339))), some (vI i), a, b]
theorem sc_in {i L k : Nat} (h : i + 7 ≤ L) (hL : L ≤ 3584) (hk : k < 7) : vp_in (nI i + nI k) L := by
  rw [nI_add]
  exact vp_in_nI (by omega) (by omega)
section FLATW
variable {p : Program} {l : Launch} {e : Env} {R : Room} {s : State} {m : MethodId} {args : Array Value} {below : List Frame} {meth : Method} {c : Code} {Q : State → Prop} {t : Mt} {w : Wd} {cs sl pc nx : Nat} {loc : List (Option VV)} {st : List VV} {sg : Sg} {L : Nat} {xs : Nat → Int32}
theorem V_xald (h : LC l p s m args meth c L xs w) {x : Int32} {len k : Nat} (hd : Dk mtL_law pc .iaload 1 nx) (hin : vp_in x L) (kk : V p l e (mRm mtL_law) s m args below meth c mtL_law w Q cs sl nx loc (vI (xs x.toNatClampNeg) :: st) sg) : V p l e (mRm mtL_law) s m args below meth c mtL_law w Q cs sl pc loc (vI x :: vR (some (21, len, k)) :: st) sg := by
  intro H locs ls hP hS hL hO
  obtain ⟨hd, rfl⟩ := hd
  obtain ⟨hC, -, -, hB, hX, hbl, -, -⟩ := h
  obtain rfl := okr_scr (ok0 (ok1 hO))
  exact va_sld hC.1 hC.2.1 hX hbl (show ¬ wB w ≤ wA w 2000000 by omega) hS hin hd (kk H locs ls hP hS hL (okc trivial (ok1 (ok1 hO))))
theorem V_xlen (h : LC l p s m args meth c L xs w) {len k : Nat} (hd : Dk mtL_law pc .arraylength 1 nx) (kk : V p l e (mRm mtL_law) s m args below meth c mtL_law w Q cs sl nx loc (vI (nI L) :: st) sg) : V p l e (mRm mtL_law) s m args below meth c mtL_law w Q cs sl pc loc (vR (some (21, len, k)) :: st) sg := by
  intro H locs ls hP hS hL hO
  obtain ⟨hd, rfl⟩ := hd
  obtain ⟨hC, -, -, hB, hX, hbl, -, -⟩ := h
  obtain rfl := okr_scr (ok0 hO)
  exact va_slen hC.1 hC.2.1 hX hbl (show ¬ wB w ≤ wA w 2000000 by omega) hS hd (kk H locs ls hP hS hL (okc trivial (ok1 hO)))
theorem V_lald (hC : Cx p R s m args meth c t w) {len k : Nat} {x : Int32} (j : Nat) (hj : x.toNatClampNeg = j) (hd : Dk t pc .laload 1 nx) (hin : vp_in x len) (kk : V p l e R s m args below meth c t w Q cs sl nx loc (vL (wL w k j) :: st) sg) : V p l e R s m args below meth c t w Q cs sl pc loc (vI x :: vR (some (13, len, k)) :: st) sg := by
  subst hj
  intro H locs ls hP hS hL hO
  obtain ⟨hd, rfl⟩ := hd
  obtain ⟨hx, hb, hml, hown, hts, -, -, -, hW⟩ := hC
  obtain ⟨hk, hK⟩ := okr_in (ok0 (ok1 hO)) (by omega)
  exact va_lald hx hb hW.1 hP.1 k 3 (by rw [wws_at hk, cE_rowL hK]) rfl hin hd (kk H locs ls hP hS hL (okc trivial (ok1 (ok1 hO))))
theorem V_lawret {b : Nat} (hC : Cx p (mRm mtL_law) s m #[Value.ref b] meth c mtL_law w) (hB : s.heap.size ≤ wB w) (hd : Dk mtL_law pc .ireturn 1 nx) (hcell : cs ≤ 601024 ∧ sl ≤ 7293034) : V p l e (mRm mtL_law) s m #[Value.ref b] below meth c mtL_law w (lw_Z below #[Value.ref b] s) cs sl pc loc [vI 1] sg := by
  refine V_wd hcell ?_
  intro H locs ls hP hS hL hO
  obtain ⟨hx, hb, hml, hown, hts, hlk, hr, -, hW⟩ := hC
  exact va_forget (fun q hq => Nat.le_trans hB (hS.2.2 q hq)) (lw_ret hx hb hr hlk hd.1)
/-- the reference's method is called -/
theorem V_cM {t' : Mt} {n idx mo : Nat} {av rest : List VV} {post : Option VV → Sg → Prop} {D : Int32 → Sg → Prop} (hC : Cx p R s m args meth c t w) (hM : M l t' w (vR (some (6, 0, mo)) :: av) sg post) (hmk : MkV t' n) (hlk : LkM (mY t).cls idx t') (hd : Dk t pc (.invokevirtual idx) 3 nx) (hcls : gC 6 = (mY t').cls) (hn : av.length = n) (hst : st = av.reverse ++ vR (some (6, 0, mo)) :: rest) (hroom : (rest.map catV).sum ≤ 8) (hR : mF t' + 1 ≤ mF t ∧ 8 + (mL t' + 11) + mO t' ≤ mO t) (hz : mC t' = 0 ∧ mS t' = 0) (hcell : cs ≤ mC t ∧ sl ≤ mS t) (hpost : ∀ r g, post r g → ∃ b, r = some (vI b) ∧ D b g) (kk : ∀ b g, D b g → V p l e R s m args below meth c t w Q cs sl nx loc (vI b :: rest) g) : V p l e R s m args below meth c t w Q cs sl pc loc st sg := V_invV hC hM hmk hlk hd (by decide) hcls hn hst hroom hR (by rw [hz.1, hz.2]; exact hcell) (fun r sg' h => by
  rw [hz.1, hz.2]
  obtain ⟨b, rfl, hD⟩ := hpost r sg' h
  exact kk b sg' hD)
end FLATW
