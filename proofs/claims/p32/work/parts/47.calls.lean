/-! calls that don't throw here; loops that count cells -/
def pF : String → Sg → Prop := fun _ _ => False
section FLATC
variable {p : Program} {l : Launch} {e : Env} {R : Room} {s : State} {m : MethodId} {args : Array Value} {below : List Frame} {meth : Method} {c : Code} {Q : State → Prop} {t : Mt} {w : Wd} {cs sl pc nx : Nat} {loc : List (Option VV)} {st : List VV} {sg : Sg}
theorem V_cV0 {t' : Mt} {n : Nat} {idx : Nat} {ci len k : Nat} {av rest : List VV} {K : Int32} {f : Int32 → Sg → Prop} {px : String → Sg → Prop} (hC : Cx p R s m args meth c t w) (hX : WX w s) (hM : MX l t' w (vR (some (ci, len, k)) :: av) sg (rX K f) px) (hpx : ∀ E g, px E g → ¬ K = 0) (hK : K = 0) (hmk : MkV t' n) (hlk : Cond.methodLink (mY t).cls idx (mY t') ∈ lw_tbl) (hd : Dk t pc (.invokevirtual idx) 3 nx) (hci : ci < 6) (hcls : gC ci = (mY t').cls) (hn : av.length = n) (hst : st = av.reverse ++ vR (some (ci, len, k)) :: rest) (hroom : (rest.map catV).sum ≤ 8) (hR : mF t' + 1 ≤ mF t ∧ 8 + (mL t' + 11) + mO t' ≤ mO t) (hz : mC t' = 1 ∧ mS t' = 6) (hcell : cs + 1 ≤ mC t ∧ sl + 6 ≤ mS t)
    (kk : ∀ x g, f x g → V p l e R s m args below meth c t w Q (cs + 1) (sl + 6) nx loc (vI x :: rest) g) : V p l e R s m args below meth c t w Q cs sl pc loc st sg :=
  V_invVX hC hX hM hmk hlk hd hci hcls hn hst hroom hR (by rw [hz.1, hz.2]; exact hcell) (fun E g h => absurd hK (hpx E g h)) (fun r g h => by
    obtain ⟨x, rfl, -, hf⟩ := h
    rw [hz.1, hz.2]
    exact kk x g hf)
theorem V_cVf {t' : Mt} {n : Nat} {idx : Nat} {ci len k : Nat} {av rest : List VV} {K X : Int32} {px : String → Sg → Prop} (hC : Cx p R s m args meth c t w) (hX : WX w s) (hM : MX l t' w (vR (some (ci, len, k)) :: av) sg (rX K (fun r g2 => r = X ∧ g2 = sg)) px) (hpx : ∀ E g, px E g → ¬ K = 0) (hK : K = 0) (hmk : MkV t' n) (hlk : Cond.methodLink (mY t).cls idx (mY t') ∈ lw_tbl) (hd : Dk t pc (.invokevirtual idx) 3 nx) (hci : ci < 6) (hcls : gC ci = (mY t').cls) (hn : av.length = n) (hst : st = av.reverse ++ vR (some (ci, len, k)) :: rest) (hroom : (rest.map catV).sum ≤ 8) (hR : mF t' + 1 ≤ mF t ∧ 8 + (mL t' + 11) + mO t' ≤ mO t) (hz : mC t' = 1 ∧ mS t' = 6) (hcell : cs + 1 ≤ mC t ∧ sl + 6 ≤ mS t)
    (kk : V p l e R s m args below meth c t w Q (cs + 1) (sl + 6) nx loc (vI X :: rest) sg) : V p l e R s m args below meth c t w Q cs sl pc loc st sg :=
  V_cV0 hC hX hM hpx hK hmk hlk hd hci hcls hn hst hroom hR hz hcell (fun x g h => by
    obtain ⟨rfl, rfl⟩ := h
    exact kk)
/-- a static method that returns -/
theorem V_cSp {t' : Mt} {n : Nat} {idx : Nat} {av rest : List VV} {post : Option VV → Sg → Prop} (C S : Nat) (hC : Cx p R s m args meth c t w) (hX : WX w s) (hM : MX l t' w av sg post pF) (hmk : MkS t' n) (hlk : Cond.methodLink (mY t).cls idx (mY t') ∈ lw_tbl) (hd : Dk t pc (.invokestatic idx) 3 nx) (hn : av.length = n) (hst : st = av.reverse ++ rest) (hroom : (rest.map catV).sum ≤ 8) (hR : mF t' + 1 ≤ mF t ∧ 8 + (mL t' + 11) + mO t' ≤ mO t) (hz : mC t' = C ∧ mS t' = S) (hcell : cs + C ≤ mC t ∧ sl + S ≤ mS t)
    (kk : ∀ r g, post r g → V p l e R s m args below meth c t w Q (cs + C) (sl + S) nx loc (r.toList ++ rest) g) : V p l e R s m args below meth c t w Q cs sl pc loc st sg :=
  V_invSX hC hX hM hmk hlk hd hn hst hroom hR (by rw [hz.1, hz.2]; exact hcell) (fun E g h => h.elim) (fun r g h => by
    rw [hz.1, hz.2]
    exact kk r g h)
theorem V_loopC (N : Nat) (cF sF : Nat → Nat) (locF : Nat → List (Option VV)) (h0 : loc = locF 0) (hc : cs = cF 0 ∧ sl = sF 0) (hx : V p l e R s m args below meth c t w Q (cF N) (sF N) pc (locF N) st sg) (hstep : ∀ i, i < N → V p l e R s m args below meth c t w Q (cF (i + 1)) (sF (i + 1)) pc (locF (i + 1)) st sg → V p l e R s m args below meth c t w Q (cF i) (sF i) pc (locF i) st sg) : V p l e R s m args below meth c t w Q cs sl pc loc st sg := by
  subst h0
  obtain ⟨rfl, rfl⟩ := hc
  have key : ∀ k, k ≤ N → V p l e R s m args below meth c t w Q (cF (N - k)) (sF (N - k)) pc (locF (N - k)) st sg := by
    intro k
    induction k with
    | zero => intro _; exact hx
    | succ k ih =>
      intro hk
      have h := ih (by omega)
      have e : N - k = N - (k + 1) + 1 := by omega
      rw [e] at h
      exact hstep _ (by omega) h
  have h := key N (Nat.le_refl _)
  rw [Nat.sub_self] at h
  exact h
theorem V_lretX {post : Option VV → Sg → Prop} {px : String → Sg → Prop} (hC : Cx p R s m args meth c t w) (hT : mT t = some .long) {x : Int64} (hd : Dk t pc .lreturn 1 nx) (hcell : cs ≤ mC t ∧ sl ≤ mS t) (hp : post (some (vL x)) sg) : V p l e R s m args below meth c t w (vx_MQ below (Qm w w post) (XC w px) args s (mC t) (mS t) (wF w)) cs sl pc loc [vL x] sg := V_wd hcell (V_retX (V_lret hC hT hd hp))
theorem V_iretzX {post : Option VV → Sg → Prop} {px : String → Sg → Prop} (hC : Cx p R s m args meth c t w) (hT : mT t = some .boolean) {x : Int32} (hd : Dk t pc .ireturn 1 nx) (hcell : cs ≤ mC t ∧ sl ≤ mS t) (hz : x = 0 ∨ x = 1) (hp : post (some (vI x)) sg) : V p l e R s m args below meth c t w (vx_MQ below (Qm w w post) (XC w px) args s (mC t) (mS t) (wF w)) cs sl pc loc [vI x] sg := V_wd hcell (V_retX (V_iretz hC hT hd hz hp))
theorem V_joinG (J : Nat) (st' : List VV) (k : V p l e R s m args below meth c t w Q cs sl J loc st' sg) (body : V p l e R s m args below meth c t w Q cs sl J loc st' sg → V p l e R s m args below meth c t w Q cs sl pc loc st sg) : V p l e R s m args below meth c t w Q cs sl pc loc st sg := body k
/-- the script is read: whatever it holds -/
theorem okr_scr {w : Wd} {len k : Nat} (h : okr w (21, len, k)) : k = 2000000 := by
  unfold okr at h
  rw [if_neg (show ¬ (21 : Nat) = 20 by decide), if_pos (show (21 : Nat) = 21 from rfl)] at h
  exact h
theorem V_scr (hC : Cx p R s m args meth c t w) (hX : WX w s) (k : ∀ (L : Nat) (xs : Nat → Int32), L < 2 ^ 31 → (∀ (pc nx : Nat) (len k : Nat) (loc : List (Option VV)) (st : List VV) (cs sl : Nat), Dk t pc .arraylength 1 nx → V p l e R s m args below meth c t w Q cs sl nx loc (vI (nI L) :: st) sg → V p l e R s m args below meth c t w Q cs sl pc loc (vR (some (21, len, k)) :: st) sg) → (∀ (pc nx : Nat) (len k : Nat) (x : Int32) (loc : List (Option VV)) (st : List VV) (cs sl : Nat), Dk t pc .iaload 1 nx → vp_in x L → V p l e R s m args below meth c t w Q cs sl nx loc (vI (xs x.toNatClampNeg) :: st) sg → V p l e R s m args below meth c t w Q cs sl pc loc (vI x :: vR (some (21, len, k)) :: st) sg) → V p l e R s m args below meth c t w Q cs sl pc loc st sg) : V p l e R s m args below meth c t w Q cs sl pc loc st sg := by
  obtain ⟨L, xs, h1, h2, h3, h4⟩ := hX.2.2
  refine k L xs h1 (fun pc nx len k loc st cs sl hd kk => ?_) (fun pc nx len k x loc st cs sl hd hin kk => ?_)
  · intro H locs ls hP hS hL hO
    obtain ⟨hd, rfl⟩ := hd
    obtain rfl := okr_scr (ok0 hO)
    exact va_slen hC.1 hC.2.1 h2 h3 (show ¬ wB w ≤ wA w 2000000 by omega) hS hd (kk H locs ls hP hS hL (okc trivial (ok1 hO)))
  · intro H locs ls hP hS hL hO
    obtain ⟨hd, rfl⟩ := hd
    obtain rfl := okr_scr (ok0 (ok1 hO))
    exact va_sld hC.1 hC.2.1 h2 h3 (show ¬ wB w ≤ wA w 2000000 by omega) hS hin hd (kk H locs ls hP hS hL (okc trivial (ok1 (ok1 hO))))
end FLATC
