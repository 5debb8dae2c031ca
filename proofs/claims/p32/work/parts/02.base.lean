/-! THE FLAT MEMORY: a world w of n cells at the addresses ad 0 .. ad (n-1); K k = (kind, length) of the cell k; its ints are sg k j (Int32), its longs lm k j. Kinds: 0..6 the seven classes' objects (gcl), whole; 10 int row, 11 char row, 12 boolean row, 13 long row, 14, 15, 16 whole rows of Light, Boat, Coast; 20 the nine static rows (cells 1000000 + i, outside); 50 + kind: one that is being made (its references stand in rho). -/
abbrev VV : Type := Int32 ⊕ (Int64 ⊕ Option (Nat × Nat × Nat))
abbrev vI (x : Int32) : VV := .inl x
abbrev vL (x : Int64) : VV := .inr (.inl x)
abbrev vR (r : Option (Nat × Nat × Nat)) : VV := .inr (.inr r)
abbrev Sg : Type := Nat → Nat → Int32
abbrev Wd : Type := va_G × (Nat → ClassId) × (Nat → Nat) × Nat × Nat × (Nat → Nat × Nat) × (Nat → Nat → Option (Nat × Nat × Nat)) × (Nat → Nat → Int64)
abbrev wD (w : Wd) : va_G := w.1
abbrev wC (w : Wd) : Nat → ClassId := w.2.1
abbrev wA (w : Wd) : Nat → Nat := w.2.2.1
abbrev wB (w : Wd) : Nat := w.2.2.2.1
abbrev wN (w : Wd) : Nat := w.2.2.2.2.1
abbrev wK (w : Wd) : Nat → Nat × Nat := w.2.2.2.2.2.1
abbrev wR (w : Wd) : Nat → Nat → Option (Nat × Nat × Nat) := w.2.2.2.2.2.2.1
abbrev wL (w : Wd) : Nat → Nat → Int64 := w.2.2.2.2.2.2.2
abbrev wF (w : Wd) : Nat → Prop := fun q => wB w ≤ q
def slen (i : Nat) : Nat := [4, 4, 4, 18, 6, 6, 6, 3, 3].getD i 0
def srow (i j : Nat) : Int32 := ([[0, 1, 1, 0], [100, 10, 300, 50], [10, 3, 60, 12], [3, 0, 199, 2, 10, 99, 1, 0, 2, 2, 1, 20, 1, 1, 6, 1, 0, 6], [3, 0, 199, 2, 0, 12], [1, 0, 7, 2, 1, 99], [1, 0, 7, 2, 0, 12], [3, 0, 100], [2, 1, 60]] : List (List Int32)).getD i [] |>.getD j 0
def scls (i : Nat) : String := if i < 3 then "LanternBoats" else "LanternBoats$Text"
def snam (i : Nat) : String := ["SETTING_LEAST", "SETTING_MOST", "SETTING_FIRST", "LIGHT_FORM", "BOAT_FORM", "TALK_FORM", "STEER_FORM", "MARGIN_FORM", "TICKS_FORM"].getD i ""
/-- what an object of a whole kind refers to -/
def rf (kd k j : Nat) : Option (Nat × Nat × Nat) := match kd, j with
  | 1, 0 => some (14, 6, k + 1)
  | 1, 1 => some (15, 8, k + 8)
  | 1, 2 => some (10, 4, k + 17)
  | 3, 0 => some (16, 14, k + 1)
  | 3, 1 => some (16, 2, k + 254)
  | 4, 0 => some (11, 120, k + 1)
  | 4, 1 => some (10, 6, k + 2)
  | 5, 0 => some (4, 0, k + 1)
  | 5, 1 => some (1, 0, k + 4)
  | 5, 2 => some (1, 0, k + 22)
  | 5, 3 => some (3, 0, k + 40)
  | 6, 1 => some (10, 140, k + 1)
  | 6, 2 => some (10, 140, k + 2)
  | 6, 3 => some (10, 1960, k + 3)
  | 6, 5 => some (10, 280, k + 4)
  | 6, 6 => some (12, 2, k + 5)
  | 6, 7 => some (10, 120, k + 6)
  | 6, 13 => some (10, 6, k + 7)
  | _, _ => none
/-- the elements of a whole row of references -/
def ae (kd k j : Nat) : Option (Nat × Nat × Nat) := match kd with
  | 14 => some (2, 0, k + 1 + j)
  | 15 => some (0, 0, k + 1 + j)
  | 16 => some (1, 0, k + 1 + 18 * j)
  | _ => none
def nf (ci : Nat) : Nat := match ci with
  | 0 => 11
  | 1 => 11
  | 2 => 9
  | 3 => 5
  | 4 => 5
  | 5 => 4
  | _ => 0
def gC (ci : Nat) : String := match ci with
  | 0 => RX0
  | 1 => RX1
  | 2 => RX2
  | 3 => RX3
  | 4 => RX4
  | _ => RX5
def gT (ci : Nat) : u_T := match ci with
  | 0 => TX0
  | 1 => TX1
  | 2 => TX2
  | 3 => TX3
  | 4 => TX4
  | _ => TX5
def gty (ci : Nat) : Nat → FieldType := match ci with
  | 0 => tyX0
  | 1 => tyX1
  | 2 => tyX2
  | 3 => tyX3
  | 4 => tyX4
  | _ => tyX5
def gcl : List vw_C := (List.range 6).map (fun ci => (gC ci, gT ci, nf ci))
def den (w : Wd) : VV → Value
  | .inl x => .int x
  | .inr (.inl x) => .long x
  | .inr (.inr none) => .null
  | .inr (.inr (some q)) => .ref (wA w q.2.2)
/-- a reference that tells the truth of its cell; kind 21: the law's script, at wA w 2000000 (outside) -/
def okr (w : Wd) (q : Nat × Nat × Nat) : Prop := if q.1 = 20 then ∃ i, i < 3 ∧ q.2.2 = 1000000 + i ∧ q.2.1 = slen i else if q.1 = 21 then q.2.2 = 2000000 else q.2.2 < wN w ∧ wK w q.2.2 = (q.1, q.2.1)
def okv (w : Wd) : VV → Prop
  | .inr (.inr (some q)) => okr w q
  | _ => True
def fV (w : Wd) (sg : Sg) (kd k j : Nat) : Value := match rf kd k j with
  | some q => .ref (wA w q.2.2)
  | none => .int (sg k j)
def fW (w : Wd) (sg : Sg) (kd k j : Nat) : Value := match rf kd k j with
  | some _ => den w (vR (wR w k j))
  | none => .int (sg k j)
def cE (w : Wd) (sg : Sg) (k : Nat) : va_E :=
  if (wK w k).1 < 6 then .inr ((wK w k).1, (List.range (nf (wK w k).1)).map (fV w sg (wK w k).1 k))
  else if (wK w k).1 < 13 then .inl (wC w (wK w k).1, ((wK w k).2, .inl (sg k)))
  else if (wK w k).1 = 13 then .inl (wC w 13, ((wK w k).2, .inr (.inl (wL w k))))
  else if (wK w k).1 < 20 then .inl (wC w (wK w k).1, ((wK w k).2, .inr (.inr (.inr (.inr (fun j => (ae (wK w k).1 k j).map (fun q => wA w q.2.2)))))))
  else if (wK w k).1 < 57 then .inr ((wK w k).1 - 50, (List.range (nf ((wK w k).1 - 50))).map (fW w sg ((wK w k).1 - 50) k))
  else .inl (wC w ((wK w k).1 - 50), ((wK w k).2, .inr (.inr (.inr (.inr (fun j => (wR w k j).map (fun q => wA w q.2.2)))))))
def wws (w : Wd) (sg : Sg) : va_W := (List.range (wN w)).map (fun k => (wA w k, cE w sg k))
def wty (w : Wd) : List (ClassId × FieldType) := [(wC w 10, .int), (wC w 11, .char), (wC w 12, .int), (wC w 13, .int), (wC w 14, .object "LanternBoats$Light"), (wC w 15, .object "LanternBoats$Boat"), (wC w 16, .object "LanternBoats$Coast")]
/-- the memory in the heap -/
def Wp (w : Wd) (sg : Sg) (H : Heap) : Prop := va_P (wD w) gcl (wws w sg) H ∧ va_D (wF w) (wws w sg)
def gTBL : List Cond := lw_tbl.filter goodWord
def isNest : Cond → Bool
  | .fieldLinkNest .. => true
  | .methodLinkNest .. => true
  | _ => false
def gNTB : List Cond := lw_tbl.filter isNest
/-- what the tables say, and the static rows -/
def Ws (w : Wd) (U : State) : Prop := va_K (wD w) gcl (wty w) U ∧ (∀ q ∈ gNTB, va_Nw q U) ∧ (va_AO "LanternBoats$Light" U ∧ va_AO "LanternBoats$Boat" U ∧ va_AO "LanternBoats$Coast" U) ∧
  ∀ i, i < 3 → va_Z (scls i) (snam i) "[I" (.ref (wA w (1000000 + i))) (wF w) U U.heap ∧ va_T .int (wA w (1000000 + i)) (slen i) (fun j => .int (srow i j)) (wF w) U U.heap
theorem va_Nw_warm {q : Cond} (hq : isNest q = true) {s U : State} (hW : s.WarmedH U.vm) (h : va_Nw q s) : va_Nw q U := by
  cases q <;> first | (cases hq; done) | exact va_Nw.warmF hW h | exact va_Nw.warmM hW h
theorem va_Nw_same {q : Cond} (hq : isNest q = true) {s U : State} (hv : s.vm = U.vm) (h : va_Nw q s) : va_Nw q U := by
  cases q <;> first | (cases hq; done) | exact va_Nw.same rfl hv h
theorem Ws.go {w : Wd} {s U : State} {H : Heap} {locs : List Loc} (h : Ws w s) (hW : s.WarmedH U.vm) (hH : U.heap = H) (hS : va_S (wF w) s.heap H locs) : Ws w U := by
  obtain ⟨h1, h2, ⟨h3, h4, h5⟩, h6⟩ := h
  subst hH
  have hk : ∀ a : Nat, a < s.heap.size → ¬ wF w a → U.heap[a]? = s.heap[a]? := fun a h1 h2 => hS.2.1 a h1 h2
  exact ⟨va_K.moved hW.alike h1, fun q hq => va_Nw_warm (List.mem_filter.mp hq).2 hW (h2 q hq), ⟨va_AO.moved hW.alike h3, va_AO.moved hW.alike h4, va_AO.moved hW.alike h5⟩,
    fun i hi => ⟨(va_Z.moved hW.alike (h6 i hi).1).kept hk, (va_T.moved hW.alike (h6 i hi).2).kept hk⟩⟩
theorem Ws.calling {w : Wd} {U : State} {g : JFrame} {mk : MethodId} {a : Array Value} (h : Ws w U) : Ws w (U.calling g mk a) := by
  obtain ⟨h1, h2, ⟨h3, h4, h5⟩, h6⟩ := h
  exact ⟨va_K.moved (u := U) (U := U.calling g mk a) (Vm.Alike.refl U.vm) h1, fun q hq => va_Nw_same (List.mem_filter.mp hq).2 (s := U) (U := U.calling g mk a) rfl (h2 q hq), ⟨va_AO.moved (u := U) (U := U.calling g mk a) (Vm.Alike.refl U.vm) h3, va_AO.moved (u := U) (U := U.calling g mk a) (Vm.Alike.refl U.vm) h4, va_AO.moved (u := U) (U := U.calling g mk a) (Vm.Alike.refl U.vm) h5⟩,
    fun i hi => ⟨va_Z.moved (u := U) (U := U.calling g mk a) (Vm.Alike.refl U.vm) (h6 i hi).1, va_T.moved (u := U) (U := U.calling g mk a) (Vm.Alike.refl U.vm) (h6 i hi).2⟩⟩
/-! a method: its name, bytes, locals, return type, room (frames, words of locals, cells, slots) -/
abbrev Mt : Type := MethodName × ByteArray × Nat × Option FieldType × Nat × Nat × Nat × Nat
abbrev mY (t : Mt) : MethodName := t.1
abbrev mB (t : Mt) : ByteArray := t.2.1
abbrev mL (t : Mt) : Nat := t.2.2.1
abbrev mT (t : Mt) : Option FieldType := t.2.2.2.1
abbrev mF (t : Mt) : Nat := t.2.2.2.2.1
abbrev mO (t : Mt) : Nat := t.2.2.2.2.2.1
abbrev mC (t : Mt) : Nat := t.2.2.2.2.2.2.1
abbrev mS (t : Mt) : Nat := t.2.2.2.2.2.2.2
abbrev mRm (t : Mt) : Room := { frames := mF t, cells := mC t, slots := mS t, locals := mO t }
abbrev mCd (t : Mt) : Cond := .code (mY t) (mB t) (mL t) (mT t)
abbrev mWs (t : Mt) : List Cond := mCd t :: gTBL
def Dk (t : Mt) (pc : Nat) (i : Instr) (len nx : Nat) : Prop := decode (mB t) pc = .ok (i, len) ∧ nx = pc + len
/-! locals -/
def dropL : Option VV → Option VV
  | some (.inr (.inl _)) => none
  | o => o
def lput1 : List (Option VV) → Nat → VV → List (Option VV)
  | [], _, _ => []
  | _ :: t, 0, v => some v :: t
  | o :: t, 1, v => dropL o :: lput1 t 0 v
  | o :: t, i + 2, v => o :: lput1 t (i + 1) v
def lput2 : List (Option VV) → Nat → VV → List (Option VV)
  | [], _, _ => []
  | _ :: t, 0, v => some v :: (match t with | [] => [] | _ :: t' => none :: t')
  | o :: t, 1, v => dropL o :: lput2 t 0 v
  | o :: t, i + 2, v => o :: lput2 t (i + 1) v
def catV : VV → Nat
  | .inr (.inl _) => 2
  | _ => 1
theorem catV_den (w : Wd) (v : VV) : (den w v).category = catV v := by
  rcases v with x | x | _ | q <;> rfl
theorem catV_sum (w : Wd) (st : List VV) : ((st.map (den w)).map fun v => v.category).sum = (st.map catV).sum := by
  rw [List.map_map]
  exact congrArg List.sum (List.map_congr_left fun v _ => catV_den w v)
/-- the locals that are known: a list by places -/
def Lk (w : Wd) (nL : Nat) (ls : Array Slot) (loc : List (Option VV)) : Prop := ls.size = nL ∧ lv_wf ls ∧ ∀ (i : Nat) (v : VV), loc[i]? = some (some v) → ls[i]? = some (.val (den w v)) ∧ okv w v
def ents (w : Wd) : Nat → List (Option VV) → List (Nat × Value)
  | _, [] => []
  | i, none :: t => ents w (i + 1) t
  | i, some v :: t => (i, den w v) :: ents w (i + 1) t
theorem ents_mem {w : Wd} : ∀ {loc : List (Option VV)} {i0 j : Nat} {x : Value}, (j, x) ∈ ents w i0 loc ↔ ∃ v, i0 ≤ j ∧ loc[j - i0]? = some (some v) ∧ x = den w v
  | [], i0, j, x => by simp [ents]
  | none :: t, i0, j, x => by
    rw [ents, ents_mem (loc := t)]
    constructor
    · rintro ⟨v, h1, h2, h3⟩
      exact ⟨v, by omega, by rw [show j - i0 = (j - (i0 + 1)) + 1 by omega, List.getElem?_cons_succ]; exact h2, h3⟩
    · rintro ⟨v, h1, h2, h3⟩
      rcases Nat.eq_or_lt_of_le h1 with h | h
      · subst h; simp at h2
      · exact ⟨v, by omega, by rw [show j - i0 = (j - (i0 + 1)) + 1 by omega, List.getElem?_cons_succ] at h2; exact h2, h3⟩
  | some u :: t, i0, j, x => by
    rw [ents, List.mem_cons, ents_mem (loc := t)]
    constructor
    · rintro (h | ⟨v, h1, h2, h3⟩)
      · cases h; exact ⟨u, Nat.le_refl _, by simp, rfl⟩
      · exact ⟨v, by omega, by rw [show j - i0 = (j - (i0 + 1)) + 1 by omega, List.getElem?_cons_succ]; exact h2, h3⟩
    · rintro ⟨v, h1, h2, h3⟩
      rcases Nat.eq_or_lt_of_le h1 with h | h
      · subst h
        rw [Nat.sub_self, List.getElem?_cons_zero] at h2
        cases h2; cases h3; exact Or.inl rfl
      · exact Or.inr ⟨v, by omega, by rw [show j - i0 = (j - (i0 + 1)) + 1 by omega, List.getElem?_cons_succ] at h2; exact h2, h3⟩
theorem Lk.has {w : Wd} {nL : Nat} {ls : Array Slot} {loc : List (Option VV)} (h : Lk w nL ls loc) : lv_has ls nL (ents w 0 loc) := by
  refine ⟨h.1, h.2.1, ?_⟩
  rintro ⟨j, x⟩ hq
  obtain ⟨v, -, h2, rfl⟩ := ents_mem.mp hq
  exact (h.2.2 j v h2).1
theorem lput1_at : ∀ {loc : List (Option VV)} {i j : Nat} {v u : VV}, (lput1 loc i v)[j]? = some (some u) → (j = i ∧ u = v) ∨ (j ≠ i ∧ loc[j]? = some (some u) ∧ (j + 1 = i → catV u = 1))
  | [], i, j, v, u, h => by simp [lput1] at h
  | o :: t, 0, j, v, u, h => by
    cases j with
    | zero => simp [lput1] at h; exact Or.inl ⟨rfl, h.symm⟩
    | succ j => exact Or.inr ⟨by omega, by simpa [lput1] using h, by omega⟩
  | o :: t, 1, j, v, u, h => by
    cases j with
    | zero =>
      simp only [lput1, List.getElem?_cons_zero, Option.some.injEq] at h
      refine Or.inr ⟨by omega, ?_, fun _ => ?_⟩
      · rcases o with _ | (x | x | r) <;> simp_all [dropL]
      · rcases o with _ | (x | x | r)
        · simp [dropL] at h
        · simp [dropL] at h; subst h; rfl
        · simp [dropL] at h
        · simp [dropL] at h; subst h; rfl
    | succ j =>
      simp only [lput1, List.getElem?_cons_succ] at h
      rcases lput1_at h with ⟨h1, h2⟩ | ⟨h1, h2, h3⟩
      · exact Or.inl ⟨by omega, h2⟩
      · exact Or.inr ⟨by omega, by rw [List.getElem?_cons_succ]; exact h2, fun z => h3 (by omega)⟩
  | o :: t, i + 2, j, v, u, h => by
    cases j with
    | zero => exact Or.inr ⟨by omega, by simpa [lput1] using h, by omega⟩
    | succ j =>
      simp only [lput1, List.getElem?_cons_succ] at h
      rcases lput1_at h with ⟨h1, h2⟩ | ⟨h1, h2, h3⟩
      · exact Or.inl ⟨by omega, h2⟩
      · exact Or.inr ⟨by omega, by rw [List.getElem?_cons_succ]; exact h2, fun z => h3 (by omega)⟩
theorem lput2_at : ∀ {loc : List (Option VV)} {i j : Nat} {v u : VV}, (lput2 loc i v)[j]? = some (some u) → (j = i ∧ u = v) ∨ (j ≠ i ∧ j ≠ i + 1 ∧ loc[j]? = some (some u) ∧ (j + 1 = i → catV u = 1))
  | [], i, j, v, u, h => by simp [lput2] at h
  | o :: t, 0, j, v, u, h => by
    cases j with
    | zero => simp [lput2] at h; exact Or.inl ⟨rfl, h.symm⟩
    | succ j =>
      cases t with
      | nil => simp [lput2] at h
      | cons a t =>
        cases j with
        | zero => simp [lput2] at h
        | succ j => exact Or.inr ⟨by omega, by omega, by simpa [lput2] using h, by omega⟩
  | o :: t, 1, j, v, u, h => by
    cases j with
    | zero =>
      simp only [lput2, List.getElem?_cons_zero, Option.some.injEq] at h
      refine Or.inr ⟨by omega, by omega, ?_, fun _ => ?_⟩
      · rcases o with _ | (x | x | r) <;> simp_all [dropL]
      · rcases o with _ | (x | x | r)
        · simp [dropL] at h
        · simp [dropL] at h; subst h; rfl
        · simp [dropL] at h
        · simp [dropL] at h; subst h; rfl
    | succ j =>
      simp only [lput2, List.getElem?_cons_succ] at h
      rcases lput2_at h with ⟨h1, h2⟩ | ⟨h1, h2, h3, h4⟩
      · exact Or.inl ⟨by omega, h2⟩
      · exact Or.inr ⟨by omega, by omega, by rw [List.getElem?_cons_succ]; exact h3, fun z => h4 (by omega)⟩
  | o :: t, i + 2, j, v, u, h => by
    cases j with
    | zero => exact Or.inr ⟨by omega, by omega, by simpa [lput2] using h, by omega⟩
    | succ j =>
      simp only [lput2, List.getElem?_cons_succ] at h
      rcases lput2_at h with ⟨h1, h2⟩ | ⟨h1, h2, h3, h4⟩
      · exact Or.inl ⟨by omega, h2⟩
      · exact Or.inr ⟨by omega, by omega, by rw [List.getElem?_cons_succ]; exact h3, fun z => h4 (by omega)⟩
theorem Lk.put1 {w : Wd} {nL i : Nat} {ls ls' : Array Slot} {loc : List (Option VV)} {v : VV} (h : Lk w nL ls loc) (hv : okv w v) (h' : lv_has ls' nL ((i, den w v) :: (ents w 0 loc).filter (fun q => !(q.1 == i) && !(q.1 + 1 == i && q.2.category == 2)))) : Lk w nL ls' (lput1 loc i v) := by
  refine ⟨h'.1, h'.2.1, fun j u hj => ?_⟩
  rcases lput1_at hj with ⟨rfl, rfl⟩ | ⟨h1, h2, h3⟩
  · exact ⟨h'.2.2 (j, den w u) List.mem_cons_self, hv⟩
  · refine ⟨h'.2.2 (j, den w u) (List.mem_cons_of_mem _ (List.mem_filter.mpr ⟨ents_mem.mpr ⟨u, Nat.zero_le _, h2, rfl⟩, ?_⟩)), (h.2.2 j u h2).2⟩
    by_cases hji : j + 1 = i
    · have := h3 hji
      simp [catV_den, this]; omega
    · simp [hji, h1]
theorem Lk.put2 {w : Wd} {nL i : Nat} {ls ls' : Array Slot} {loc : List (Option VV)} {v : VV} (h : Lk w nL ls loc) (hv : okv w v) (h' : lv_has ls' nL ((i, den w v) :: (ents w 0 loc).filter (fun q => !(q.1 == i) && (!(q.1 == i + 1) && !(q.1 + 1 == i && q.2.category == 2))))) : Lk w nL ls' (lput2 loc i v) := by
  refine ⟨h'.1, h'.2.1, fun j u hj => ?_⟩
  rcases lput2_at hj with ⟨rfl, rfl⟩ | ⟨h1, h0, h2, h3⟩
  · exact ⟨h'.2.2 (j, den w u) List.mem_cons_self, hv⟩
  · refine ⟨h'.2.2 (j, den w u) (List.mem_cons_of_mem _ (List.mem_filter.mpr ⟨ents_mem.mpr ⟨u, Nat.zero_le _, h2, rfl⟩, ?_⟩)), (h.2.2 j u h2).2⟩
    by_cases hji : j + 1 = i
    · have := h3 hji
      simp [catV_den, this, h0]; omega
    · simp [hji, h1, h0]
/-- the locals at a method's start -/
def largs : List VV → Nat → List (Option VV)
  | [], n => List.replicate n none
  | .inr (.inl x) :: t, n => some (vL x) :: none :: largs t (n - 2)
  | v :: t, n => some v :: largs t (n - 1)
theorem largs_at {w : Wd} : ∀ {av : List VV} {n i0 j : Nat} {v : VV}, (largs av n)[j]? = some (some v) → (i0 + j, den w v) ∈ lv_args i0 (av.map (den w)) ∧ v ∈ av
  | [], n, i0, j, v, h => by
    have := List.mem_of_getElem? h
    simp [largs] at this
  | .inr (.inl x) :: t, n, i0, j, v, h => by
    match j with
    | 0 => simp [largs] at h; subst h; exact ⟨by simp [lv_args], by simp⟩
    | 1 => simp [largs] at h
    | j + 2 =>
      simp only [largs, List.getElem?_cons_succ] at h
      obtain ⟨h1, h2⟩ := largs_at (w := w) (i0 := i0 + 2) h
      refine ⟨?_, List.mem_cons_of_mem _ h2⟩
      rw [List.map_cons, lv_args, if_pos (by rfl)]
      exact List.mem_cons_of_mem _ (by rw [show i0 + (j + 2) = i0 + 2 + j by omega]; exact h1)
  | .inl x :: t, n, i0, j, v, h => by
    match j with
    | 0 => simp [largs] at h; subst h; exact ⟨by simp [lv_args], by simp⟩
    | j + 1 =>
      simp only [largs, List.getElem?_cons_succ] at h
      obtain ⟨h1, h2⟩ := largs_at (w := w) (i0 := i0 + 1) h
      refine ⟨?_, List.mem_cons_of_mem _ h2⟩
      rw [List.map_cons, lv_args, if_neg (by rw [catV_den]; show ¬ (1 : Nat) = 2; decide)]
      exact List.mem_cons_of_mem _ (by rw [show i0 + (j + 1) = i0 + 1 + j by omega]; exact h1)
  | .inr (.inr r) :: t, n, i0, j, v, h => by
    match j with
    | 0 => simp [largs] at h; subst h; exact ⟨by simp [lv_args], by simp⟩
    | j + 1 =>
      simp only [largs, List.getElem?_cons_succ] at h
      obtain ⟨h1, h2⟩ := largs_at (w := w) (i0 := i0 + 1) h
      refine ⟨?_, List.mem_cons_of_mem _ h2⟩
      rw [List.map_cons, lv_args, if_neg (by rw [catV_den]; show ¬ (1 : Nat) = 2; decide)]
      exact List.mem_cons_of_mem _ (by rw [show i0 + (j + 1) = i0 + 1 + j by omega]; exact h1)

