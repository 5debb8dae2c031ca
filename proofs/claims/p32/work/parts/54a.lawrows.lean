/-! rows of the law's body -/
section FLATD
variable {p : Program} {l : Launch} {e : Env} {R : Room} {s : State} {m : MethodId} {args : Array Value} {below : List Frame} {meth : Method} {c : Code} {Q : State → Prop} {t : Mt} {w : Wd} {cs sl pc nx : Nat} {loc : List (Option VV)} {st : List VV} {sg : Sg}
theorem V_cSh {t' : Mt} {n : Nat} {idx : Nat} {av rest : List VV} {v : VV} {f : Sg → Prop} (C S : Nat) (hC : Cx p R s m args meth c t w) (hX : WX w s) (hM : MX l t' w av sg (fun r g2 => r = some v ∧ f g2) pF) (hmk : MkS t' n) (hlk : Cond.methodLink (mY t).cls idx (mY t') ∈ lw_tbl) (hd : Dk t pc (.invokestatic idx) 3 nx) (hn : av.length = n) (hst : st = av.reverse ++ rest) (hroom : (rest.map catV).sum ≤ 8) (hR : mF t' + 1 ≤ mF t ∧ 8 + (mL t' + 11) + mO t' ≤ mO t) (hz : mC t' = C ∧ mS t' = S) (hcell : cs + C ≤ mC t ∧ sl + S ≤ mS t)
    (kk : ∀ g, f g → V p l e R s m args below meth c t w Q (cs + C) (sl + S) nx loc (v :: rest) g) : V p l e R s m args below meth c t w Q cs sl pc loc st sg :=
  V_cSp C S hC hX hM hmk hlk hd hn hst hroom hR hz hcell (fun r g h => by
    obtain ⟨rfl, hf⟩ := h
    exact kk g hf)
theorem V_cSy {t' : Mt} {n : Nat} {idx : Nat} {av rest : List VV} (C S : Nat) (hC : Cx p R s m args meth c t w) (hX : WX w s) (hM : MX l t' w av sg (fun r g2 => (∃ y, r = some (vI y)) ∧ g2 = sg) pF) (hmk : MkS t' n) (hlk : Cond.methodLink (mY t).cls idx (mY t') ∈ lw_tbl) (hd : Dk t pc (.invokestatic idx) 3 nx) (hn : av.length = n) (hst : st = av.reverse ++ rest) (hroom : (rest.map catV).sum ≤ 8) (hR : mF t' + 1 ≤ mF t ∧ 8 + (mL t' + 11) + mO t' ≤ mO t) (hz : mC t' = C ∧ mS t' = S) (hcell : cs + C ≤ mC t ∧ sl + S ≤ mS t)
    (kk : ∀ y, V p l e R s m args below meth c t w Q (cs + C) (sl + S) nx loc (vI y :: rest) sg) : V p l e R s m args below meth c t w Q cs sl pc loc st sg :=
  V_cSp C S hC hX hM hmk hlk hd hn hst hroom hR hz hcell (fun r g h => by
    obtain ⟨⟨y, rfl⟩, rfl⟩ := h
    exact kk y)
end FLATD
theorem lg_same (y : Int64) : lg_cmp y y = 0 := by
  unfold lg_cmp
  simp
def mtL_law : Mt := (yL_law, cL_law, 10, some .boolean, 11, 394, 600074, 7301550)
/-- what holds all through the law's body -/
def LC (l : Launch) (p : Program) (s : State) (m : MethodId) (args : Array Value) (meth : Method) (c : Code) (w : Wd) : Prop :=
  Cx p (mRm mtL_law) s m args meth c mtL_law w ∧ WX w s ∧ Wr w ∧ s.heap.size ≤ wB w ∧ l.stackTraces = false
/-- the object in the memory -/
def Tm (sg : Sg) (g : Gs) (N : Nat) (G : Nat → Gs) (K : Nat → Bool) (S : Nat → Gs) : Prop := Rel sg (0 + 4) g ∧ MRel sg (0 + 40) N G K S ∧ Bt sg (0 + 22) ∧ K 0 = true ∧ S 0 = F_begins (fun _ => 0)
theorem Tm.pm {sg g2 : Sg} {g g' : Gs} {N N' : Nat} {G G' : Nat → Gs} {K : Nat → Bool} {S : Nat → Gs} (h : Tm sg g N G K S) (hP : PM 0 N' G' K S g' sg g2) : Tm g2 g' N' G' K S :=
  ⟨hP.2.1, hP.1, h.2.2.1.fr (fun k h1 h2 => hP.2.2 k (Or.inr (by omega)) (Or.inl (by omega))), h.2.2.2⟩
theorem gP_top (G : Nat → Gs) (N : Nat) (g : Gs) : gPush G N g (nPush N - 1) = g := by
  unfold gPush nPush Gpush
  by_cases h : N = 14
  · simp [h]
  · simp [h]
theorem nP_pos (N : Nat) : ¬ nPush N = 0 := by
  unfold nPush
  split <;> omega
abbrev lloc (i : Nat) : List (Option VV) := [some (vR (some (21, 0, 2000000))), some (vR (some (5, 0, 0))), some (vI (nI i)), none, none, none, none, none, none, none]
