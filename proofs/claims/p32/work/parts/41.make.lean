/-! worlds that grow: what constructors need -/
def wpush (w : Wd) (a : Nat) (q : Nat × Nat) : Wd := (wD w, wC w, (fun k => if k = wN w then a else wA w k), wB w, wN w + 1, (fun k => if k = wN w then q else wK w k), (fun k => if k = wN w then (fun _ => none) else wR w k), (fun k => if k = wN w then (fun _ => 0) else wL w k))
def wsetR (w : Wd) (k j : Nat) (r : Option (Nat × Nat × Nat)) : Wd := (wD w, wC w, wA w, wB w, wN w, wK w, (fun k' j' => if k' = k ∧ j' = j then r else wR w k' j'), wL w)
def wkind (w : Wd) (K : Nat → Nat × Nat) : Wd := (wD w, wC w, wA w, wB w, wN w, K, wR w, wL w)
/-- w' is w and n cells more -/
def Ext (w w' : Wd) (n : Nat) : Prop := wD w' = wD w ∧ wC w' = wC w ∧ wB w' = wB w ∧ wN w' = wN w + n ∧ (∀ k, (k < wN w ∨ 1000000 ≤ k) → wA w' k = wA w k) ∧ (∀ k, k < wN w → wK w' k = wK w k ∧ wR w' k = wR w k ∧ wL w' k = wL w k)
theorem Ext.rf (w : Wd) : Ext w w 0 := ⟨rfl, rfl, rfl, rfl, fun _ _ => rfl, fun _ _ => ⟨rfl, rfl, rfl⟩⟩
theorem Ext.tr {a b c : Wd} {n m : Nat} (h : Ext a b n) (h2 : Ext b c m) : Ext a c (n + m) := by
  obtain ⟨a1, a2, a3, a4, a5, a6⟩ := h
  obtain ⟨b1, b2, b3, b4, b5, b6⟩ := h2
  refine ⟨b1.trans a1, b2.trans a2, b3.trans a3, by omega, fun k hk => (b5 k (by omega)).trans (a5 k hk), fun k hk => ?_⟩
  obtain ⟨q1, q2, q3⟩ := a6 k hk
  obtain ⟨r1, r2, r3⟩ := b6 k (by omega)
  exact ⟨r1.trans q1, r2.trans q2, r3.trans q3⟩
theorem wpush_K (w : Wd) (a : Nat) (q : Nat × Nat) (k : Nat) : wK (wpush w a q) k = if k = wN w then q else wK w k := rfl
theorem wpush_R (w : Wd) (a : Nat) (q : Nat × Nat) (k : Nat) : wR (wpush w a q) k = if k = wN w then (fun _ => none) else wR w k := rfl
theorem wpush_L (w : Wd) (a : Nat) (q : Nat × Nat) (k : Nat) : wL (wpush w a q) k = if k = wN w then (fun _ => 0) else wL w k := rfl
theorem Ext.push {w : Wd} (hN : wN w < 1000000) (a : Nat) (q : Nat × Nat) : Ext w (wpush w a q) 1 :=
  ⟨rfl, rfl, rfl, rfl, fun _ hk => if_neg (by omega), fun _ hk => ⟨if_neg (Nat.ne_of_lt hk), if_neg (Nat.ne_of_lt hk), if_neg (Nat.ne_of_lt hk)⟩⟩
theorem Ext.setR {w w' : Wd} {n : Nat} (h : Ext w w' n) {k : Nat} (hk : wN w ≤ k) (j : Nat) (r : Option (Nat × Nat × Nat)) : Ext w (wsetR w' k j r) n := by
  obtain ⟨a1, a2, a3, a4, a5, a6⟩ := h
  refine ⟨a1, a2, a3, a4, a5, fun k' hk' => ⟨(a6 k' hk').1, ?_, (a6 k' hk').2.2⟩⟩
  rw [← (a6 k' hk').2.1]
  funext j'
  exact if_neg (fun z => by omega)
theorem Ext.kind {w w' : Wd} {n : Nat} (h : Ext w w' n) {K : Nat → Nat × Nat} (hk : ∀ k, k < wN w → K k = wK w' k) : Ext w (wkind w' K) n := by
  obtain ⟨a1, a2, a3, a4, a5, a6⟩ := h
  exact ⟨a1, a2, a3, a4, a5, fun k' hk' => ⟨(hk k' hk').trans (a6 k' hk').1, (a6 k' hk').2.1, (a6 k' hk').2.2⟩⟩
theorem okr.lt {w : Wd} {q : Nat × Nat × Nat} (h : okr w q) : q.2.2 < wN w ∨ 1000000 ≤ q.2.2 := by
  unfold okr at h
  split at h
  · obtain ⟨i, -, h2, -⟩ := h
    omega
  · split at h
    · omega
    · exact Or.inl h.1
/-- a reference to a cell of the world -/
theorem okr_of {w : Wd} {kd len k : Nat} (h : kd ≠ 20 ∧ kd ≠ 21) (hk : k < wN w) (hK : wK w k = (kd, len)) : okr w (kd, len, k) := by
  unfold okr
  rw [if_neg h.1, if_neg h.2]
  exact ⟨hk, hK⟩
theorem Ext.ro {w w' : Wd} {n : Nat} (h : Ext w w' n) {q : Nat × Nat × Nat} (ho : okr w q) : okr w' q := by
  obtain ⟨a1, a2, a3, a4, a5, a6⟩ := h
  unfold okr at ho ⊢
  split
  · rename_i e
    rw [if_pos e] at ho
    exact ho
  · rename_i e
    rw [if_neg e] at ho
    split
    · rename_i e2
      rw [if_pos e2] at ho
      exact ho
    · rename_i e2
      rw [if_neg e2] at ho
      exact ⟨by omega, (a6 _ ho.1).1.trans ho.2⟩
theorem Ext.vo {w w' : Wd} {n : Nat} (h : Ext w w' n) {v : VV} (ho : okv w v) : okv w' v := by
  rcases v with x | x | _ | q
  · trivial
  · trivial
  · trivial
  · exact h.ro ho
theorem Ext.de {w w' : Wd} {n : Nat} (h : Ext w w' n) {v : VV} (ho : okv w v) : den w' v = den w v := by
  rcases v with x | x | _ | q
  · rfl
  · rfl
  · rfl
  · exact congrArg Value.ref (h.2.2.2.2.1 _ (okr.lt ho))
theorem Ws_of {w w' : Wd} {U : State} (h : Ws w U) (e1 : wD w' = wD w) (e2 : wC w' = wC w) (e3 : wB w' = wB w) (e4 : ∀ i, i < 3 → wA w' (1000000 + i) = wA w (1000000 + i)) : Ws w' U := by
  obtain ⟨h1, h2, h3, h4⟩ := h
  have e5 : wF w' = wF w := by funext q; show (wB w' ≤ q) = (wB w ≤ q); rw [e3]
  have e6 : wty w' = wty w := by unfold wty; rw [e2]
  refine ⟨by rw [e1, e6]; exact h1, h2, h3, fun i hi => ?_⟩
  rw [e4 i hi, e5]
  exact h4 i hi
theorem Ext.ws {w w' : Wd} {n : Nat} (h : Ext w w' n) {U : State} (hW : Ws w U) : Ws w' U := Ws_of hW h.1 h.2.1 h.2.2.1 (fun i _ => h.2.2.2.2.1 _ (Or.inr (by omega)))
theorem Ext.f {w w' : Wd} {n : Nat} (h : Ext w w' n) : wF w' = wF w := by
  funext q
  show (wB w' ≤ q) = (wB w ≤ q)
  rw [h.2.2.1]
theorem Ext.lk {w w' : Wd} {n nL : Nat} (h : Ext w w' n) {ls : Array Slot} {loc : List (Option VV)} (hL : Lk w nL ls loc) : Lk w' nL ls loc := ⟨hL.1, hL.2.1, fun i v hi => by
  obtain ⟨h1, h2⟩ := hL.2.2 i v hi
  rw [h.de h2]
  exact ⟨h1, h.vo h2⟩⟩
theorem Ext.md {w w' : Wd} {n : Nat} (h : Ext w w' n) {st : List VV} (hO : ∀ v ∈ st, okv w v) : st.map (den w') = st.map (den w) := List.map_congr_left (fun v hv => h.de (hO v hv))
/-! a cell told in two ways -/
theorem vp_cell_qc {cA : ClassId} {n : Nat} {f g : Nat → Option Nat} (h : ∀ j, j < n → f j = g j) : vp_cell cA (n, .inr (.inr (.inr (.inr f)))) = vp_cell cA (n, .inr (.inr (.inr (.inr g)))) := by
  rw [vp_cell_q, vp_cell_q]
  unfold arrV
  congr 1
  exact congrArg (Array.ofFn (n := n)) (funext fun j => congrArg va_rf (h j.val j.isLt))
def eE (e e' : va_E) : Prop := e = e' ∨ ∃ (c : ClassId) (n : Nat) (f g : Nat → Option Nat), e = .inl (c, (n, .inr (.inr (.inr (.inr f))))) ∧ e' = .inl (c, (n, .inr (.inr (.inr (.inr g))))) ∧ ∀ j, j < n → f j = g j
theorem va_at_eE {D : va_G} {cl : List vw_C} {a : Nat} {e e' : va_E} {H : Heap} (h : eE e e') (ha : va_at D cl (a, e) H) : va_at D cl (a, e') H := by
  rcases h with rfl | ⟨c, n, f, g, rfl, rfl, h⟩
  · exact ha
  · show H[a]? = some (vp_cell c (n, _))
    rw [← vp_cell_qc h]
    exact ha
theorem map_rg {n : Nat} {f g : Nat → Value} (h : ∀ j, j < n → f j = g j) : (List.range n).map f = (List.range n).map g := List.map_congr_left (fun j hj => h j (List.mem_range.mp hj))
theorem Ext.cell {w w' : Wd} {n k : Nat} {sg sg' : Sg} (h : Ext w w' n) (hWr : Wr w) (hk : k < wN w) (hs : sg' k = sg k) : eE (cE w sg k) (cE w' sg' k) := by
  obtain ⟨a1, a2, a3, a4, a5, a6⟩ := h
  obtain ⟨q1, q2, q3⟩ := a6 k hk
  have hq := hWr k (wK w k).1 (wK w k).2 hk rfl
  obtain ⟨r1, r2, r3⟩ := hq
  have eA : ∀ q, okr w q → wA w' q.2.2 = wA w q.2.2 := fun q hq => a5 _ (okr.lt hq)
  unfold cE
  rw [q1, a2, q2, q3, hs]
  by_cases c1 : (wK w k).1 < 6
  · rw [if_pos c1, if_pos c1]
    refine Or.inl (congrArg (fun z => Sum.inr ((wK w k).1, z)) (map_rg (fun j _ => ?_)))
    unfold fV
    rw [hs]
    split
    · rename_i q e
      rw [eA q (r1 c1 j q e)]
    · rfl
  rw [if_neg c1, if_neg c1]
  by_cases c2 : (wK w k).1 < 13
  · rw [if_pos c2, if_pos c2]
    exact Or.inl rfl
  rw [if_neg c2, if_neg c2]
  by_cases c3 : (wK w k).1 = 13
  · rw [if_pos c3, if_pos c3]
    exact Or.inl rfl
  rw [if_neg c3, if_neg c3]
  by_cases c4 : (wK w k).1 < 20
  · rw [if_pos c4, if_pos c4]
    refine Or.inr ⟨_, _, _, _, rfl, rfl, fun j hj => ?_⟩
    by_cases c5 : (wK w k).1 < 17
    · cases e : ae (wK w k).1 k j with
      | none => rfl
      | some q => exact congrArg some (eA q (r2 (by omega) c5 j q hj e)).symm
    · have e : ae (wK w k).1 k j = none := by
        unfold ae
        split <;> first | omega | rfl
      rw [e]
      rfl
  rw [if_neg c4, if_neg c4]
  by_cases c6 : (wK w k).1 < 57
  · rw [if_pos c6, if_pos c6]
    refine Or.inl (congrArg (fun z => Sum.inr ((wK w k).1 - 50, z)) (map_rg (fun j _ => ?_)))
    unfold fW
    rw [hs, q2]
    by_cases c7 : 50 ≤ (wK w k).1
    · split
      · cases e : wR w k j with
        | none => rfl
        | some q => exact congrArg Value.ref (eA q (r3 c7 j q e)).symm
      · rfl
    · have e0 : (wK w k).1 - 50 = 0 := by omega
      rw [e0]
      rfl
  rw [if_neg c6, if_neg c6]
  refine Or.inr ⟨_, _, _, _, rfl, rfl, fun j hj => ?_⟩
  cases e : wR w k j with
  | none => rfl
  | some q => exact congrArg some (eA q (r3 (by omega) j q e)).symm
theorem wws_len (w : Wd) (sg : Sg) : (wws w sg).length = wN w := by simp [wws]
theorem wws_lt {w : Wd} {sg : Sg} {k : Nat} {x : Nat × va_E} (h : (wws w sg)[k]? = some x) : k < wN w ∧ x = (wA w k, cE w sg k) := by
  have hk : k < (wws w sg).length := (List.getElem?_eq_some_iff.mp h).1
  rw [wws_len] at hk
  rw [wws_at hk] at h
  exact ⟨hk, (Option.some.inj h).symm⟩
/-- one cell more, and what stands there -/
theorem Wp_grow {w w' : Wd} {sg sg' : Sg} {H : Heap} {q : Nat} {e : va_E} (h : Ext w w' 1) (hWr : Wr w) (hs : ∀ k, k < wN w → sg' k = sg k) (ha : wA w' (wN w) = q) (he : eE e (cE w' sg' (wN w))) (hP : va_P (wD w) gcl (wws w sg ++ [(q, e)]) H) (hD : va_D (wF w) (wws w sg ++ [(q, e)])) : Wp w' sg' H := by
  have hN : wN w' = wN w + 1 := h.2.2.2.1
  have old : ∀ k, k < wN w → (wws w sg ++ [(q, e)])[k]? = some (wA w k, cE w sg k) := fun k hk => by
    rw [List.getElem?_append_left (by rw [wws_len]; exact hk), wws_at hk]
  have new : (wws w sg ++ [(q, e)])[wN w]? = some (q, e) := by
    rw [List.getElem?_append_right (by rw [wws_len]; exact Nat.le_refl _), wws_len, Nat.sub_self]
    rfl
  have adr : ∀ (k : Nat) (x : Nat × va_E), (wws w' sg')[k]? = some x → ∃ y : Nat × va_E, (wws w sg ++ [(q, e)])[k]? = some y ∧ y.1 = x.1 := fun k x hx => by
    obtain ⟨hk, rfl⟩ := wws_lt hx
    rcases Nat.lt_or_ge k (wN w) with hk2 | hk2
    · exact ⟨_, old k hk2, (h.2.2.2.2.1 k (Or.inl hk2)).symm⟩
    · obtain rfl : k = wN w := by omega
      exact ⟨_, new, ha.symm⟩
  refine ⟨fun k x hx => ?_, fun i j x y hx hy hxy => ?_, fun k x hx => ?_⟩
  · obtain ⟨hk, rfl⟩ := wws_lt hx
    rw [h.1]
    rcases Nat.lt_or_ge k (wN w) with hk2 | hk2
    · rw [h.2.2.2.2.1 k (Or.inl hk2)]
      exact va_at_eE (h.cell hWr hk2 (hs k hk2)) (hP k _ (old k hk2))
    · obtain rfl : k = wN w := by omega
      rw [ha]
      exact va_at_eE he (hP _ _ new)
  · obtain ⟨x', h1, h2⟩ := adr i x hx
    obtain ⟨y', h3, h4⟩ := adr j y hy
    exact hD.1 i j x' y' h1 h3 (by rw [h2, h4, hxy])
  · obtain ⟨x', h1, h2⟩ := adr k x hx
    rw [h.f, ← h2]
    exact hD.2 k x' h1
/-- the same cells told in another way -/
theorem Wp_re {w w' : Wd} {sg : Sg} {H : Heap} (e1 : wD w' = wD w) (e3 : wB w' = wB w) (e4 : wN w' = wN w) (e5 : ∀ k, k < wN w → wA w' k = wA w k) (he : ∀ k, k < wN w → eE (cE w sg k) (cE w' sg k)) (h : Wp w sg H) : Wp w' sg H := by
  obtain ⟨hP, hD⟩ := h
  have adr : ∀ (k : Nat) (x : Nat × va_E), (wws w' sg)[k]? = some x → ∃ y : Nat × va_E, (wws w sg)[k]? = some y ∧ y.1 = x.1 := fun k x hx => by
    obtain ⟨hk, rfl⟩ := wws_lt hx
    rw [e4] at hk
    exact ⟨_, wws_at hk, (e5 k hk).symm⟩
  refine ⟨fun k x hx => ?_, fun i j x y hx hy hxy => ?_, fun k x hx => ?_⟩
  · obtain ⟨hk, rfl⟩ := wws_lt hx
    rw [e4] at hk
    rw [e1, e5 k hk]
    exact va_at_eE (he k hk) (hP k _ (wws_at hk))
  · obtain ⟨x', h1, h2⟩ := adr i x hx
    obtain ⟨y', h3, h4⟩ := adr j y hy
    exact hD.1 i j x' y' h1 h3 (by rw [h2, h4, hxy])
  · obtain ⟨x', h1, h2⟩ := adr k x hx
    show wB w' ≤ x.1
    rw [e3, ← h2]
    exact hD.2 k x' h1
/-! values told in another world -/
def Vm (w w' : Wd) (v v' : VV) : Prop := den w' v' = den w v ∧ (okv w v → okv w' v')
def LR (w w' : Wd) : List VV → List VV → Prop
  | [], [] => True
  | v :: a, v' :: b => Vm w w' v v' ∧ LR w w' a b
  | _, _ => False
def LO (w w' : Wd) : List (Option VV) → List (Option VV) → Prop
  | [], [] => True
  | _ :: a, none :: b => LO w w' a b
  | some v :: a, some v' :: b => Vm w w' v v' ∧ LO w w' a b
  | _, _ => False
theorem LR.use {w w' : Wd} : ∀ {a b : List VV}, LR w w' a b → (∀ v ∈ a, okv w v) → b.map (den w') = a.map (den w) ∧ ∀ v ∈ b, okv w' v
  | [], [], _, _ => ⟨rfl, fun _ h => absurd h List.not_mem_nil⟩
  | v :: a, v' :: b, h, hO => by
    obtain ⟨h1, h2⟩ := LR.use h.2 (ok1 hO)
    exact ⟨by rw [List.map_cons, List.map_cons, h1, h.1.1], okc (h.1.2 (ok0 hO)) h2⟩
  | [], _ :: _, h, _ => by exact absurd h id
  | _ :: _, [], h, _ => by exact absurd h id
theorem LO.use {w w' : Wd} : ∀ {a b : List (Option VV)}, LO w w' a b → ∀ (i : Nat) (v' : VV), b[i]? = some (some v') → ∃ v, a[i]? = some (some v) ∧ Vm w w' v v'
  | [], [], _, i, v', h => by simp at h
  | o :: a, none :: b, hl, i, v', h => by
    have hl : LO w w' a b := by cases o <;> exact hl
    cases i with
    | zero => simp at h
    | succ i =>
      rw [List.getElem?_cons_succ] at h ⊢
      exact LO.use hl i v' h
  | some v :: a, some u :: b, hl, i, v', h => by
    cases i with
    | zero =>
      rw [List.getElem?_cons_zero] at h
      cases h
      exact ⟨v, rfl, hl.1⟩
    | succ i =>
      rw [List.getElem?_cons_succ] at h ⊢
      exact LO.use hl.2 i v' h
  | none :: a, some u :: b, hl, i, v', h => by exact absurd hl id
  | [], none :: b, hl, i, v', h => by exact absurd hl id
  | [], some u :: b, hl, i, v', h => by exact absurd hl id
  | some v :: a, [], hl, i, v', h => by exact absurd hl id
  | none :: a, [], hl, i, v', h => by exact absurd hl id
theorem LO.lk {w w' : Wd} {nL : Nat} {ls : Array Slot} {a b : List (Option VV)} (h : LO w w' a b) (hL : Lk w nL ls a) : Lk w' nL ls b := ⟨hL.1, hL.2.1, fun i v' hi => by
  obtain ⟨v, h1, h2, h3⟩ := h.use i v' hi
  obtain ⟨g1, g2⟩ := hL.2.2 i v h1
  rw [h2]
  exact ⟨g1, h3 g2⟩⟩
theorem Vm.i (w w' : Wd) (x : Int32) : Vm w w' (vI x) (vI x) := ⟨rfl, fun _ => trivial⟩
theorem Vm.r {w w' : Wd} {a b a' b' k : Nat} (hA : wA w' k = wA w k) (hk : okr w (a, b, k) → okr w' (a', b', k)) : Vm w w' (vR (some (a, b, k))) (vR (some (a', b', k))) := ⟨congrArg Value.ref hA, hk⟩
theorem Ext.vm {w w' : Wd} {n : Nat} (h : Ext w w' n) {v : VV} (hv : okv w v) : Vm w w' v v := ⟨h.de hv, fun _ => h.vo hv⟩

