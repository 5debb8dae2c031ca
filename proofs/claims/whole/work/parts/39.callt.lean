/-! the law calls a wrapper: the world after it is this one, or this one with a long written -/
def MkT (t : Mt) (hh : List (Nat × Nat × Nat × Nat)) (n : Nat) : Prop := Cond.codeWith (mY t) (mB t) (mL t) (mT t) hh ∈ lw_tbl ∧ Cond.static (mY t) ∈ lw_tbl ∧ Cond.initialized (mY t).cls ∈ lw_tbl ∧ ((mY t).cls ≠ "java/lang/invoke/MethodHandle" ∧ (mY t).cls ≠ "java/lang/invoke/VarHandle" ∧ (parseMethodDescriptor (mY t).desc).map (fun d => d.parameters.length) = some n)
theorem wsS_good {own : String} {idx : Nat} {t : Mt} {hh : List (Nat × Nat × Nat × Nat)} {n : Nat} (h : MkT t hh n) (hlk : Cond.methodLink own idx (mY t) ∈ lw_tbl) : GoodIn gTBL (va_wsS own idx (mY t) (Cond.codeWith (mY t) (mB t) (mL t) (mT t) hh :: gTBL)) := by
  intro q hq
  have h0 : q ∈ gTBL := by
    unfold va_wsS at hq
    simp only [List.mem_append, List.mem_cons, List.not_mem_nil, or_false] at hq
    rcases hq with (rfl | rfl | rfl) | rfl | hq
    all_goals first | exact hq | exact mem_gTBL hlk rfl | exact mem_gTBL h.2.1 rfl | exact mem_gTBL h.2.2.1 rfl | exact mem_gTBL h.1 rfl
  exact ⟨h0, good_of_word (List.mem_filter.mp h0).2⟩
theorem Lk_L {w : Wd} {k j nL : Nat} {y : Int64} {ls : Array Slot} {loc : List (Option VV)} (h : Lk w nL ls loc) : Lk (setL w k j y) nL ls loc := h
theorem okv_L {w : Wd} {k j : Nat} {y : Int64} {v : VV} (h : okv w v) : okv (setL w k j y) v := h
section FLATU
variable {p : Program} {l : Launch} {e : Env} {R : Room} {s : State} {m : MethodId} {args : Array Value} {below : List Frame} {meth : Method} {c : Code} {Q : State → Prop} {t : Mt} {w : Wd} {cs sl pc nx : Nat} {loc : List (Option VV)} {st : List VV} {sg : Sg} {hh : List (Nat × Nat × Nat × Nat)}
theorem V_callT {t' : Mt} {n : Nat} {idx : Nat} {av rest : List VV} {post : Option VV → Wd → Sg → Prop} (hC : Cx p R s m args meth c t w) (hX : WX w s) (hM : MT l t' hh w av sg post) (hmk : MkT t' hh n) (hlk : Cond.methodLink (mY t).cls idx (mY t') ∈ lw_tbl) (hd : Dk t pc (.invokestatic idx) 3 nx) (hn : av.length = n) (hst : st = av.reverse ++ rest) (hroom : (rest.map catV).sum ≤ 8) (hR : mF t' + 1 ≤ mF t ∧ 8 + (mL t' + 11) + mO t' ≤ mO t) (hcell : cs + mC t' ≤ mC t ∧ sl + mS t' ≤ mS t)
    (hpost : ∀ r w' g, post r w' g → (∃ x, r = some (vI x)) ∧ (w' = w ∨ ∃ k j y, w' = setL w k j y))
    (kk : ∀ x w' g, post (some (vI x)) w' g → V p l e R s m args below meth c t w' Q (cs + mC t') (sl + mS t') nx loc (vI x :: rest) g) : V p l e R s m args below meth c t w Q cs sl pc loc st sg := by
  intro H locs ls hP hS hL hO
  obtain ⟨hd, rfl⟩ := hd
  obtain ⟨hx, hb, hml, hown, hts, hlks, hr, rfl, hW⟩ := hC
  subst hst
  have hor : ∀ v ∈ av, okv w v := fun v hv => hO v (by simp [hv])
  have hrest : ∀ v ∈ rest, okv w v := fun v hv => hO v (by simp [hv])
  have hstk : ((av.reverse ++ rest).map (den w)) = (av.map (den w)).reverse ++ rest.map (den w) := by simp
  have hpre : PreS s H (PmX w av sg) (av.map (den w)) := ⟨PmX_blind, fun U hU hWU => ⟨rfl, ⟨hW.go hWU hU hS, by rw [hU]; exact hP, hor⟩, hX.go hWU hU hS⟩⟩
  have hlen : (av.map (den w)).length = n := by rw [List.length_map]; exact hn
  have hrun : va_Run p l e (mRm t) s m args below meth c H locs cs sl (mC t') (mS t') (F0 m pc ls ((av.reverse ++ rest).map (den w))) (rest.map (den w)) (QL w post (av.map (den w)).toArray) (wF w) :=
    vx_runSW (cc := mB t) ⟨hx, hb, hml, hown, hts⟩ hM (vx_cwSW n hts (wsS_good hmk hlk) rfl rfl rfl hmk.2.2.2 hR) hpre rfl hlen hL.1 hstk (rest_room hroom) hd hcell
  intro T hT X
  obtain ⟨v, st₀, u, T', L, h0, X', hLo, e1, e2, ⟨⟨r, w', sg', hv, hp, hWp⟩, hF⟩, hst⟩ := hrun T hT X
  cases hv
  obtain ⟨k1, k2, k3⟩ := vx_keep h0 e1 hS (fun _ _ h => h) (fun _ h => h) hLo hF
  obtain ⟨⟨x, rfl⟩, hw⟩ := hpost _ _ _ hp
  have hgo := kk x w' sg' hp T'.heap (locs ++ L) ls (by rw [e1]; exact hWp)
  have hfin : W p l e (mRm t) s m args below meth c T'.heap (locs ++ L) (cs + mC t') (sl + mS t') Q (F0 m (pc + 3) ls ((((some (vI x) : Option VV).map (den w)).toList) ++ rest.map (den w))) := by
    rcases hw with rfl | ⟨k, j, y, rfl⟩
    · exact hgo k3 hL (okc trivial hrest)
    · exact hgo k3 (Lk_L hL) (okc trivial (fun v hv => okv_L (hrest v hv)))
  obtain ⟨t2, a1, b1⟩ := hfin T' rfl X'
  exact ⟨t2, hst t2 a1, b1⟩
end FLATU
